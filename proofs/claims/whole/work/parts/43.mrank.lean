/-! RANKS OF NAMES IN THE REFERENCE (mine; rows laid by the walker) -/
def sdO (k : Nat) : Nat := [2, 3, 4, 6, 7, 8, 9, 10, 11, 12, 13, 14, 15, 16, 17, 18, 19, 20, 21, 22].getD k 0
def sdB (k : Nat) : Nat := [241, 242, 243, 244, 245, 246, 247, 248, 249, 250, 251, 252, 253, 254, 255, 256, 257, 258, 259, 260].getD k 0
theorem sd_0 : am_Str (0 + 141) (sdB 0) (kn_w (sdO 0)) := ⟨by decide +kernel, by decide +kernel, by decide +kernel, by decide +kernel, by decide +kernel, by decide +kernel⟩
theorem sd_1 : am_Str (1 + 141) (sdB 1) (kn_w (sdO 1)) := ⟨by decide +kernel, by decide +kernel, by decide +kernel, by decide +kernel, by decide +kernel, by decide +kernel⟩
theorem sd_2 : am_Str (2 + 141) (sdB 2) (kn_w (sdO 2)) := ⟨by decide +kernel, by decide +kernel, by decide +kernel, by decide +kernel, by decide +kernel, by decide +kernel⟩
theorem sd_3 : am_Str (3 + 141) (sdB 3) (kn_w (sdO 3)) := ⟨by decide +kernel, by decide +kernel, by decide +kernel, by decide +kernel, by decide +kernel, by decide +kernel⟩
theorem sd_4 : am_Str (4 + 141) (sdB 4) (kn_w (sdO 4)) := ⟨by decide +kernel, by decide +kernel, by decide +kernel, by decide +kernel, by decide +kernel, by decide +kernel⟩
theorem sd_5 : am_Str (5 + 141) (sdB 5) (kn_w (sdO 5)) := ⟨by decide +kernel, by decide +kernel, by decide +kernel, by decide +kernel, by decide +kernel, by decide +kernel⟩
theorem sd_6 : am_Str (6 + 141) (sdB 6) (kn_w (sdO 6)) := ⟨by decide +kernel, by decide +kernel, by decide +kernel, by decide +kernel, by decide +kernel, by decide +kernel⟩
theorem sd_7 : am_Str (7 + 141) (sdB 7) (kn_w (sdO 7)) := ⟨by decide +kernel, by decide +kernel, by decide +kernel, by decide +kernel, by decide +kernel, by decide +kernel⟩
theorem sd_8 : am_Str (8 + 141) (sdB 8) (kn_w (sdO 8)) := ⟨by decide +kernel, by decide +kernel, by decide +kernel, by decide +kernel, by decide +kernel, by decide +kernel⟩
theorem sd_9 : am_Str (9 + 141) (sdB 9) (kn_w (sdO 9)) := ⟨by decide +kernel, by decide +kernel, by decide +kernel, by decide +kernel, by decide +kernel, by decide +kernel⟩
theorem sd_10 : am_Str (10 + 141) (sdB 10) (kn_w (sdO 10)) := ⟨by decide +kernel, by decide +kernel, by decide +kernel, by decide +kernel, by decide +kernel, by decide +kernel⟩
theorem sd_11 : am_Str (11 + 141) (sdB 11) (kn_w (sdO 11)) := ⟨by decide +kernel, by decide +kernel, by decide +kernel, by decide +kernel, by decide +kernel, by decide +kernel⟩
theorem sd_12 : am_Str (12 + 141) (sdB 12) (kn_w (sdO 12)) := ⟨by decide +kernel, by decide +kernel, by decide +kernel, by decide +kernel, by decide +kernel, by decide +kernel⟩
theorem sd_13 : am_Str (13 + 141) (sdB 13) (kn_w (sdO 13)) := ⟨by decide +kernel, by decide +kernel, by decide +kernel, by decide +kernel, by decide +kernel, by decide +kernel⟩
theorem sd_14 : am_Str (14 + 141) (sdB 14) (kn_w (sdO 14)) := ⟨by decide +kernel, by decide +kernel, by decide +kernel, by decide +kernel, by decide +kernel, by decide +kernel⟩
theorem sd_15 : am_Str (15 + 141) (sdB 15) (kn_w (sdO 15)) := ⟨by decide +kernel, by decide +kernel, by decide +kernel, by decide +kernel, by decide +kernel, by decide +kernel⟩
theorem sd_16 : am_Str (16 + 141) (sdB 16) (kn_w (sdO 16)) := ⟨by decide +kernel, by decide +kernel, by decide +kernel, by decide +kernel, by decide +kernel, by decide +kernel⟩
theorem sd_17 : am_Str (17 + 141) (sdB 17) (kn_w (sdO 17)) := ⟨by decide +kernel, by decide +kernel, by decide +kernel, by decide +kernel, by decide +kernel, by decide +kernel⟩
theorem sd_18 : am_Str (18 + 141) (sdB 18) (kn_w (sdO 18)) := ⟨by decide +kernel, by decide +kernel, by decide +kernel, by decide +kernel, by decide +kernel, by decide +kernel⟩
theorem sd_19 : am_Str (19 + 141) (sdB 19) (kn_w (sdO 19)) := ⟨by decide +kernel, by decide +kernel, by decide +kernel, by decide +kernel, by decide +kernel, by decide +kernel⟩
theorem sd_S : ∀ k, k < 20 → am_Str (k + 141) (sdB k) (kn_w (sdO k))
  | 0, _ => sd_0
  | 1, _ => sd_1
  | 2, _ => sd_2
  | 3, _ => sd_3
  | 4, _ => sd_4
  | 5, _ => sd_5
  | 6, _ => sd_6
  | 7, _ => sd_7
  | 8, _ => sd_8
  | 9, _ => sd_9
  | 10, _ => sd_10
  | 11, _ => sd_11
  | 12, _ => sd_12
  | 13, _ => sd_13
  | 14, _ => sd_14
  | 15, _ => sd_15
  | 16, _ => sd_16
  | 17, _ => sd_17
  | 18, _ => sd_18
  | 19, _ => sd_19
  | k + 20, h => absurd h (by omega)
theorem sd_rk : ∀ k, k < 20 → rk_tab.getD k 0 = kn_inf (sdO k) := by decide +kernel
theorem sd_lt : ∀ k, k < 20 → 2 ≤ sdO k ∧ sdO k < 26 := by decide +kernel
theorem sd_on : ∀ i, i < 26 → i = 1 ∨ ¬ 0 < kn_inf i ∨ ∃ k, k < 20 ∧ sdO k = i := by decide +kernel
theorem sd_ip : ∀ k, k < 20 → 0 < kn_inf (sdO k) := by decide +kernel
theorem kn_dis : ∀ i, i < 26 → ∀ j, j < i → 2 ≤ i → ¬ kn_w j = kn_w i := by decide +kernel
theorem spv_inj {w w' : List Nat} {l : Nat} {g : Nat → Int32} (hw : ∀ i, i < w.length → w.getD i 0 < 128) (hw' : ∀ i, i < w'.length → w'.getD i 0 < 128) (h : spv w l g = true) (h' : spv w' l g = true) : w = w' := by
  have h := of_decide_eq_true h
  have h' := of_decide_eq_true h'
  apply List.ext_getElem (by omega)
  intro i h1 h2
  have e := (h.2 i h1).trans (h'.2 i h2).symm
  have a1 := hw i h1
  have a2 := hw' i h2
  have e := (nI_eq (by omega) (by omega)).mp e
  rw [List.getD_eq_getElem?_getD, List.getD_eq_getElem?_getD, List.getElem?_eq_getElem h1, List.getElem?_eq_getElem h2] at e
  exact e
theorem spgF_eq {l : Nat} {g : Nat → Int32} {i : Nat} (hi : 2 ≤ i ∧ i < 26) (h : spv (kn_w i) l g = true) : ∀ m j, j + m = 26 → j ≤ i → spgF l g m j = i
  | 0, j, h1, h2 => absurd h1 (by omega)
  | m + 1, j, h1, h2 => by
    rw [spgF]
    by_cases hj : j = i
    · rw [hj, if_pos h]
    · rw [if_neg, spgF_eq hi h m (j + 1) (by omega) (by omega)]
      intro hs
      exact kn_dis i hi.2 j (by omega) hi.1 (spv_inj (kn_lt128 j (by omega)) (kn_lt128 i hi.2) hs h)
theorem spg_eq {l : Nat} {g : Nat → Int32} {i : Nat} (hi : 2 ≤ i ∧ i < 26) (h : spv (kn_w i) l g = true) : spg l g = i := spgF_eq hi h 26 0 rfl (Nat.zero_le _)
theorem spgF_of {l : Nat} {g : Nat → Int32} : ∀ m j, j + m = 26 → (spgF l g m j = 0 ∨ (j ≤ spgF l g m j ∧ spgF l g m j < 26 ∧ spv (kn_w (spgF l g m j)) l g = true ∧ ∀ i, j ≤ i → i < spgF l g m j → ¬ spv (kn_w i) l g = true))
  | 0, _, _ => Or.inl rfl
  | m + 1, j, h => by
    rw [spgF]
    by_cases hs : spv (kn_w j) l g = true
    · rw [if_pos hs]
      exact Or.inr ⟨Nat.le_refl _, by omega, hs, fun i h1 h2 => absurd h1 (by omega)⟩
    · rw [if_neg hs]
      rcases spgF_of m (j + 1) (by omega) with h1 | ⟨h1, h2, h3, h4⟩
      · exact Or.inl h1
      · refine Or.inr ⟨by omega, h2, h3, fun i z1 z2 => ?_⟩
        rcases Nat.lt_or_eq_of_le z1 with z | z
        · exact h4 i z z2
        · rw [← z]
          exact hs
theorem spg_of (l : Nat) (g : Nat → Int32) : spg l g = 0 ∨ (2 ≤ spg l g ∧ spg l g < 26 ∧ spv (kn_w (spg l g)) l g = true) := by
  rcases spgF_of (l := l) (g := g) 26 0 rfl with h | ⟨h1, h2, h3, h4⟩
  · exact Or.inl h
  · by_cases h0 : spg l g = 0
    · exact Or.inl h0
    · refine Or.inr ⟨?_, h2, h3⟩
      by_cases h9 : spg l g = 1
      · exfalso
        have h3 : spv (kn_w (spg l g)) l g = true := h3
        rw [h9] at h3
        exact h4 0 (Nat.le_refl _) (by have : spgF l g 26 0 = 1 := h9; omega) h3
      · omega
def rkN (k : Nat) : Int32 := if 0 < kn_inf k then kn_inf k else -1
def pfN (k : Nat) : Int32 := if 0 < kn_pf k then kn_pf k else -1
set_option maxRecDepth 20000 in
theorem l_MR_spells1 (G : am_G) {d nx : Nat} (hd : 4 ≤ d) {M : am_M} {n : Nat} {at9 be tk op le tp pl vd kn rk : Int32} {nu : Int64} {l : Nat} (hr : M 1225 = some (.inr (12, [.ref 1226, .ref 1227, .ref 1228, .ref 1213, .ref 1220, .ref 1212, .int (nI n), .int at9, .int be, .int tk, .int op, .long nu, .ref 1229, .int (nI l), .ref 1230, .int tp, .int pl, .ref 1231, .int vd, .int kn, .int rk, .ref 1232]))) {g : Nat → Int32} (hw : M 1229 = some (.inl (0, 4096, .inl g))) (hl : l ≤ 4096) {S B : Nat} {w : List Nat} (hS : am_Str S B w) (hlen : l = w.length) : ∀ m i, i + m = l → (∀ j, j < i → nI (w.getD j 0) = g j) → am_V G m_MR_spells d 0 0 (fun r M1 nx1 => r = .inl (some (.int (bi (spv w l g)))) ∧ M1 = M ∧ nx1 = nx) 15 [(2, .int (nI i)), (0, .ref 1225), (1, .ref S)] [] M nx 0 0 := by
  have hl9 := hS.2.2.2.2.1
  intro m
  induction m with
  | zero =>
    intro i him hall
    refine v_iload_n (am_Dk d_MR_spells (k := 9) rfl) rfl ?_
    refine v_aload_n (am_Dk d_MR_spells (k := 10) rfl) rfl ?_
    refine v_get (am_Dk d_MR_spells (k := 11) rfl) f_MR_139 hr rfl ?_
    refine v_icmp_ge (tgt := 45) (am_Dk d_MR_spells (k := 12) rfl) (by decide) (fun c1 => ?_) (fun c1 => ?_)
    · have Nc1 := (nI_leI (a := l) (b := i) (by omega) (by omega)).mp c1
      refine v_iconst (v := 1) (am_Dk d_MR_spells (k := 25) rfl) (by decide) ?_
      exact v_ireturn (am_Dk d_MR_spells (k := 26) rfl) rfl rfl (by omega) (by omega) ⟨by rw [show spv w l g = true from decide_eq_true ⟨hlen.symm, fun j hj => hall j (by omega)⟩]; rfl, rfl, rfl⟩
    · have Nc1 : ¬ l ≤ i := fun z => c1 ((nI_leI (a := l) (b := i) (by omega) (by omega)).mpr z)
      exfalso
      omega
  | succ m ih =>
    intro i him hall
    refine v_iload_n (am_Dk d_MR_spells (k := 9) rfl) rfl ?_
    refine v_aload_n (am_Dk d_MR_spells (k := 10) rfl) rfl ?_
    refine v_get (am_Dk d_MR_spells (k := 11) rfl) f_MR_139 hr rfl ?_
    refine v_icmp_ge (tgt := 45) (am_Dk d_MR_spells (k := 12) rfl) (by decide) (fun c1 => ?_) (fun c1 => ?_)
    · have Nc1 := (nI_leI (a := l) (b := i) (by omega) (by omega)).mp c1
      exfalso
      omega
    · have Nc1 : ¬ l ≤ i := fun z => c1 ((nI_leI (a := l) (b := i) (by omega) (by omega)).mpr z)
      refine v_aload_n (am_Dk d_MR_spells (k := 13) rfl) rfl ?_
      refine v_get (am_Dk d_MR_spells (k := 14) rfl) f_MR_68 hr rfl ?_
      refine v_iload_n (am_Dk d_MR_spells (k := 15) rfl) rfl ?_
      refine v_bald (am_Dk d_MR_spells (k := 16) rfl) hw rfl (vp_in_nI (by omega) (by omega)) ?_
      rw [nI_clamp (n := i) (by omega)]
      refine v_aload_n (am_Dk d_MR_spells (k := 17) rfl) rfl ?_
      refine v_iload_n (am_Dk d_MR_spells (k := 18) rfl) rfl ?_
      refine v_callV (rest := [.int (g (i))]) (As := [.int (nI i)]) (mc' := 0) (ms' := 0) (am_Dk d_MR_spells (k := 19) rfl) c_MR_188 (Or.inr hS.1) (t_jS_charAt G (d := 3) (i := i) (by omega) hS (by omega)) (by omega) (by omega) (by omega) (by simp [Value.category]) rfl (fun v2 M3 n4 h5 => ?_) (fun _ _ _ h5 => ?_)
      rotate_left
      · exact absurd h5.1 (by simp)
      obtain ⟨h5, e6, e7⟩ := h5
      replace e6 := e6.symm
      replace e7 := e7.symm
      subst e6
      subst e7
      cases h5
      show am_V G _ _ _ _ _ 34 [(2, .int (nI i)), (0, .ref 1225), (1, .ref S)] [.int (nI (w.getD i 0)), .int (g (i))] M nx 0 0
      refine v_icmp_eq (tgt := 39) (am_Dk d_MR_spells (k := 20) rfl) (by decide) (fun c8 => ?_) (fun c8 => ?_)
      · have hEq := c8
        refine v_iinc (v := nI (i + 1)) (L1 := [(2, .int (nI (i + 1))), (0, .ref 1225), (1, .ref S)]) (am_Dk d_MR_spells (k := 23) rfl) rfl (nI_1 _) (by decide) rfl ?_
        refine v_goto (tgt := 15) (am_Dk d_MR_spells (k := 24) rfl) (by decide) ?_
        exact ih (i + 1) (by omega) (fun j hj => by
          rcases Nat.lt_succ_iff_lt_or_eq.mp hj with h | h
          · exact hall j h
          · subst h; exact hEq.symm)
      · have hne := c8
        refine v_iconst (v := 0) (am_Dk d_MR_spells (k := 21) rfl) (by decide) ?_
        exact v_ireturn (am_Dk d_MR_spells (k := 22) rfl) rfl rfl (by omega) (by omega) ⟨by rw [show spv w l g = false from decide_eq_false (fun z => hne (z.2 i (by omega)).symm)]; rfl, rfl, rfl⟩
set_option maxRecDepth 20000 in
theorem t_MR_spells (G : am_G) {d nx : Nat} (hd : 4 ≤ d) {M : am_M} {n : Nat} {at9 be tk op le tp pl vd kn rk : Int32} {nu : Int64} {l : Nat} (hr : M 1225 = some (.inr (12, [.ref 1226, .ref 1227, .ref 1228, .ref 1213, .ref 1220, .ref 1212, .int (nI n), .int at9, .int be, .int tk, .int op, .long nu, .ref 1229, .int (nI l), .ref 1230, .int tp, .int pl, .ref 1231, .int vd, .int kn, .int rk, .ref 1232]))) {g : Nat → Int32} (hw : M 1229 = some (.inl (0, 4096, .inl g))) (hl : l ≤ 4096) {S B : Nat} {w : List Nat} (hS : am_Str S B w) : am_Tr G m_MR_spells d 0 0 [.ref 1225, .ref S] M nx (fun r M1 nx1 => r = .inl (some (.int (bi (spv w l g)))) ∧ M1 = M ∧ nx1 = nx) := by
  refine am_TrOf (by decide) (Nat.le_of_ble_eq_true rfl) ?_
  show am_V G _ _ _ _ _ 0 [(0, .ref 1225), (1, .ref S)] [] M nx 0 0
  have hl9 := hS.2.2.2.2.1
  refine v_aload_n (am_Dk d_MR_spells (k := 0) rfl) rfl ?_
  refine v_get (am_Dk d_MR_spells (k := 1) rfl) f_MR_139 hr rfl ?_
  refine v_aload_n (am_Dk d_MR_spells (k := 2) rfl) rfl ?_
  refine v_callV (rest := [.int (nI l)]) (As := []) (mc' := 0) (ms' := 0) (am_Dk d_MR_spells (k := 3) rfl) c_MR_184 (Or.inr hS.1) (t_jS_length G (d := 1) (by omega) hS) (by omega) (by omega) (by omega) (by simp [Value.category]) rfl (fun v1 M2 n3 h4 => ?_) (fun _ _ _ h4 => ?_)
  rotate_left
  · exact absurd h4.1 (by simp)
  obtain ⟨h4, e5, e6⟩ := h4
  replace e5 := e5.symm
  replace e6 := e6.symm
  subst e5
  subst e6
  cases h4
  show am_V G _ _ _ _ _ 8 [(0, .ref 1225), (1, .ref S)] [.int (nI w.length), .int (nI l)] M nx 0 0
  refine v_icmp_eq (tgt := 13) (am_Dk d_MR_spells (k := 4) rfl) (by decide) (fun c7 => ?_) (fun c7 => ?_)
  · have Nc7 := (nI_eq (a := l) (b := w.length) (by omega) (by omega)).mp c7
    have hlen := Nc7
    refine v_iconst (v := 0) (am_Dk d_MR_spells (k := 7) rfl) (by decide) ?_
    refine v_istore_n (L1 := [(2, .int 0), (0, .ref 1225), (1, .ref S)]) (am_Dk d_MR_spells (k := 8) rfl) (by decide) rfl ?_
    exact l_MR_spells1 G (le := 0) hd hr hw hl hS hlen l 0 (by omega) (fun j hj => absurd hj (by omega))
  · have Nc7 : ¬ l = w.length := fun z => c7 ((nI_eq (a := l) (b := w.length) (by omega) (by omega)).mpr z)
    have hle := Nc7
    refine v_iconst (v := 0) (am_Dk d_MR_spells (k := 5) rfl) (by decide) ?_
    exact v_ireturn (am_Dk d_MR_spells (k := 6) rfl) rfl rfl (by omega) (by omega) ⟨by rw [show spv w l g = false from decide_eq_false (fun z => hle z.1.symm)]; rfl, rfl, rfl⟩
set_option maxRecDepth 20000 in
theorem l_MR_rank1 (G : am_G) {d nx : Nat} (hd : 5 ≤ d) {M : am_M} {n : Nat} {at9 be tk op le tp pl vd kn rk : Int32} {nu : Int64} {l : Nat} (hr : M 1225 = some (.inr (12, [.ref 1226, .ref 1227, .ref 1228, .ref 1213, .ref 1220, .ref 1212, .int (nI n), .int at9, .int be, .int tk, .int op, .long nu, .ref 1229, .int (nI l), .ref 1230, .int tp, .int pl, .ref 1231, .int vd, .int kn, .int rk, .ref 1232]))) {g : Nat → Int32} (hw : M 1229 = some (.inl (0, 4096, .inl g))) (hl : l ≤ 4096) {sd : Nat → Option Nat} {rkA : Nat → Int32} (hsd : M 1226 = some (.inl (5, 20, .inr (.inr (.inr (.inr sd)))))) (hsk : ∀ i, i < 20 → sd i = some (i + 141)) (hra : M 1227 = some (.inl (1, 20, .inl rkA))) (hrk : ∀ i, i < 20 → rkA i = rk_tab.getD i 0) (ht : tk = 3) : ∀ m i, i + m = 20 → (∀ j, j < i → ¬ spv (kn_w (sdO j)) l g = true) → am_V G m_MR_rank d 0 0 (fun r M1 nx1 => r = .inl (some (.int (rkN (spg l g)))) ∧ M1 = M ∧ nx1 = nx) 15 [(1, .int (nI i)), (0, .ref 1225)] [] M nx 0 0 := by
  have hT3 : ¬ nI 3 = nI 3 → False := fun z => z rfl
  intro m
  induction m with
  | zero =>
    intro i him hall
    have hno : ¬ 0 < kn_inf (spg l g) := by
      rcases spg_of l g with h | ⟨h1, h2, h3⟩
      · rw [h]; decide
      · rcases sd_on _ h2 with h | h | ⟨k, k1, k2⟩
        · omega
        · exact h
        · exact absurd (by rw [k2]; exact h3) (hall k (by omega))
    refine v_aload_n (am_Dk d_MR_rank (k := 8) rfl) rfl ?_
    refine v_get (am_Dk d_MR_rank (k := 9) rfl) f_MR_123 hr rfl ?_
    refine v_iconst (v := 3) (am_Dk d_MR_rank (k := 10) rfl) (by decide) ?_
    refine v_icmp_ne (tgt := 58) (am_Dk d_MR_rank (k := 11) rfl) (by decide) (fun c1 => ?_) (fun c1 => ?_)
    · exact absurd ht c1
    · refine v_iload_n (am_Dk d_MR_rank (k := 12) rfl) rfl ?_
      refine v_aload_n (am_Dk d_MR_rank (k := 13) rfl) rfl ?_
      refine v_get (am_Dk d_MR_rank (k := 14) rfl) f_MR_51 hr rfl ?_
      refine v_alen (am_Dk d_MR_rank (k := 15) rfl) hsd rfl rfl ?_
      show am_V G _ _ _ _ _ 29 [(1, .int (nI i)), (0, .ref 1225)] [.int 20, .int (nI i)] M nx 0 0
      refine v_icmp_ge (tgt := 58) (am_Dk d_MR_rank (k := 16) rfl) (by decide) (fun c2 => ?_) (fun c2 => ?_)
      · have Nc2 := (nI_leI (a := 20) (b := i) (by omega) (by omega)).mp c2
        refine v_iconst (v := (-1)) (am_Dk d_MR_rank (k := 31) rfl) (by decide) ?_
        exact v_ireturn (am_Dk d_MR_rank (k := 32) rfl) rfl rfl (by omega) (by omega) ⟨by rw [rkN, if_neg hno], rfl, rfl⟩
      · have Nc2 : ¬ 20 ≤ i := fun z => c2 ((nI_leI (a := 20) (b := i) (by omega) (by omega)).mpr z)
        exfalso
        omega
  | succ m ih =>
    intro i him hall
    refine v_aload_n (am_Dk d_MR_rank (k := 8) rfl) rfl ?_
    refine v_get (am_Dk d_MR_rank (k := 9) rfl) f_MR_123 hr rfl ?_
    refine v_iconst (v := 3) (am_Dk d_MR_rank (k := 10) rfl) (by decide) ?_
    refine v_icmp_ne (tgt := 58) (am_Dk d_MR_rank (k := 11) rfl) (by decide) (fun c1 => ?_) (fun c1 => ?_)
    · exact absurd ht c1
    · refine v_iload_n (am_Dk d_MR_rank (k := 12) rfl) rfl ?_
      refine v_aload_n (am_Dk d_MR_rank (k := 13) rfl) rfl ?_
      refine v_get (am_Dk d_MR_rank (k := 14) rfl) f_MR_51 hr rfl ?_
      refine v_alen (am_Dk d_MR_rank (k := 15) rfl) hsd rfl rfl ?_
      show am_V G _ _ _ _ _ 29 [(1, .int (nI i)), (0, .ref 1225)] [.int 20, .int (nI i)] M nx 0 0
      refine v_icmp_ge (tgt := 58) (am_Dk d_MR_rank (k := 16) rfl) (by decide) (fun c2 => ?_) (fun c2 => ?_)
      · have Nc2 := (nI_leI (a := 20) (b := i) (by omega) (by omega)).mp c2
        exfalso
        omega
      · have Nc2 : ¬ 20 ≤ i := fun z => c2 ((nI_leI (a := 20) (b := i) (by omega) (by omega)).mpr z)
        refine v_aload_n (am_Dk d_MR_rank (k := 17) rfl) rfl ?_
        refine v_aload_n (am_Dk d_MR_rank (k := 18) rfl) rfl ?_
        refine v_get (am_Dk d_MR_rank (k := 19) rfl) f_MR_51 hr rfl ?_
        refine v_iload_n (am_Dk d_MR_rank (k := 20) rfl) rfl ?_
        refine v_aald (v := .ref (i + 141)) (am_Dk d_MR_rank (k := 21) rfl) hsd rfl (vp_in_nI (by omega) (by omega)) (by rw [nI_clamp (n := i) (by omega), hsk i (by omega)]; rfl) ?_
        refine v_callV (rest := []) (As := [.ref (i + 141)]) (mc' := 0) (ms' := 0) (am_Dk d_MR_rank (k := 22) rfl) c_MR_192 (Or.inl ⟨_, _, _, _, _, hr, cq_ok12⟩) (t_MR_spells G (d := 4) (le := 0) (by omega) hr hw hl (sd_S i (by omega))) (by omega) (by omega) (by omega) (by simp [Value.category]) rfl (fun v3 M4 n5 h6 => ?_) (fun _ _ _ h6 => ?_)
        rotate_left
        · exact absurd h6.1 (by simp)
        obtain ⟨h6, e7, e8⟩ := h6
        replace e7 := e7.symm
        replace e8 := e8.symm
        subst e7
        subst e8
        cases h6
        show am_V G _ _ _ _ _ 42 [(1, .int (nI i)), (0, .ref 1225)] [.int (bi (spv (kn_w (sdO i)) l g))] M nx 0 0
        refine v_if_eq (tgt := 52) (am_Dk d_MR_rank (k := 23) rfl) (by decide) (fun c9 => ?_) (fun c9 => ?_)
        · have hF9 := bi0.mp c9
          refine v_iinc (v := nI (i + 1)) (L1 := [(1, .int (nI (i + 1))), (0, .ref 1225)]) (am_Dk d_MR_rank (k := 29) rfl) rfl (nI_1 _) (by decide) rfl ?_
          refine v_goto (tgt := 15) (am_Dk d_MR_rank (k := 30) rfl) (by decide) ?_
          exact ih (i + 1) (by omega) (fun j hj => by
            rcases Nat.lt_succ_iff_lt_or_eq.mp hj with h | h
            · exact hall j h
            · rw [h]; exact ne_true_of_eq_false hF9)
        · have hT9 := bi1 c9
          refine v_aload_n (am_Dk d_MR_rank (k := 24) rfl) rfl ?_
          refine v_get (am_Dk d_MR_rank (k := 25) rfl) f_MR_57 hr rfl ?_
          refine v_iload_n (am_Dk d_MR_rank (k := 26) rfl) rfl ?_
          refine v_iald (am_Dk d_MR_rank (k := 27) rfl) hra rfl (vp_in_nI (by omega) (by omega)) ?_
          rw [nI_clamp (n := i) (by omega)]
          rw [show rkA i = kn_inf (sdO i) from by rw [hrk i (by omega), sd_rk i (by omega)]]
          exact v_ireturn (am_Dk d_MR_rank (k := 28) rfl) rfl rfl (by omega) (by omega) ⟨by rw [rkN, spg_eq (sd_lt i (by omega)) hT9, if_pos (sd_ip i (by omega))], rfl, rfl⟩
set_option maxRecDepth 20000 in
theorem t_MR_rank (G : am_G) {d nx : Nat} (hd : 5 ≤ d) {M : am_M} {n : Nat} {at9 be tk op le tp pl vd kn rk : Int32} {nu : Int64} {l : Nat} (hr : M 1225 = some (.inr (12, [.ref 1226, .ref 1227, .ref 1228, .ref 1213, .ref 1220, .ref 1212, .int (nI n), .int at9, .int be, .int tk, .int op, .long nu, .ref 1229, .int (nI l), .ref 1230, .int tp, .int pl, .ref 1231, .int vd, .int kn, .int rk, .ref 1232]))) {g : Nat → Int32} (hw : M 1229 = some (.inl (0, 4096, .inl g))) (hl : l ≤ 4096) {sd : Nat → Option Nat} {rkA : Nat → Int32} (hsd : M 1226 = some (.inl (5, 20, .inr (.inr (.inr (.inr sd)))))) (hsk : ∀ i, i < 20 → sd i = some (i + 141)) (hra : M 1227 = some (.inl (1, 20, .inl rkA))) (hrk : ∀ i, i < 20 → rkA i = rk_tab.getD i 0) : am_Tr G m_MR_rank d 0 0 [.ref 1225] M nx (fun r M1 nx1 => r = .inl (some (.int (if tk = 10 then 1000 else if tk = 3 then rkN (spg l g) else -1))) ∧ M1 = M ∧ nx1 = nx) := by
  refine am_TrOf (by decide) (Nat.le_of_ble_eq_true rfl) ?_
  show am_V G _ _ _ _ _ 0 [(0, .ref 1225)] [] M nx 0 0
  refine v_aload_n (am_Dk d_MR_rank (k := 0) rfl) rfl ?_
  refine v_get (am_Dk d_MR_rank (k := 1) rfl) f_MR_123 hr rfl ?_
  refine v_bipush (v := 10) (am_Dk d_MR_rank (k := 2) rfl) (by decide) ?_
  refine v_icmp_ne (tgt := 13) (am_Dk d_MR_rank (k := 3) rfl) (by decide) (fun c1 => ?_) (fun c1 => ?_)
  · have h10 := c1
    refine v_iconst (v := 0) (am_Dk d_MR_rank (k := 6) rfl) (by decide) ?_
    refine v_istore_n (L1 := [(1, .int 0), (0, .ref 1225)]) (am_Dk d_MR_rank (k := 7) rfl) (by decide) rfl ?_
    by_cases h3 : tk = 3
    · rw [if_neg h10, if_pos h3]
      exact v_drop (l_MR_rank1 G (le := 0) hd hr hw hl hsd hsk hra hrk h3 20 0 (by omega) (fun j hj => absurd hj (by omega))) (by simp [nI_0])
    refine v_aload_n (am_Dk d_MR_rank (k := 8) rfl) rfl ?_
    refine v_get (am_Dk d_MR_rank (k := 9) rfl) f_MR_123 hr rfl ?_
    refine v_iconst (v := 3) (am_Dk d_MR_rank (k := 10) rfl) (by decide) ?_
    refine v_icmp_ne (tgt := 58) (am_Dk d_MR_rank (k := 11) rfl) (by decide) (fun c2 => ?_) (fun c2 => ?_)
    · have h3 := c2
      refine v_iconst (v := (-1)) (am_Dk d_MR_rank (k := 31) rfl) (by decide) ?_
      exact v_ireturn (am_Dk d_MR_rank (k := 32) rfl) rfl rfl (by omega) (by omega) ⟨by rw [if_neg h10, if_neg h3], rfl, rfl⟩
    · exact absurd c2 h3
  · have h10 := c1
    refine v_sipush (v := 1000) (am_Dk d_MR_rank (k := 4) rfl) (by decide) ?_
    exact v_ireturn (am_Dk d_MR_rank (k := 5) rfl) rfl rfl (by omega) (by omega) ⟨by rw [if_pos h10], rfl, rfl⟩
theorem pf_0 : am_Str 162 262 (kn_w 5) := ⟨by decide +kernel, by decide +kernel, by decide +kernel, by decide +kernel, by decide +kernel, by decide +kernel⟩
theorem pf_1 : am_Str 156 256 (kn_w 18) := ⟨by decide +kernel, by decide +kernel, by decide +kernel, by decide +kernel, by decide +kernel, by decide +kernel⟩
theorem pf_v (l : Nat) (g : Nat → Int32) : pfN (spg l g) = if spv (kn_w 5) l g = true then 900 else if spv (kn_w 18) l g = true then 200 else -1 := by
  by_cases h5 : spv (kn_w 5) l g = true
  · rw [if_pos h5, spg_eq (by decide) h5]; rfl
  · rw [if_neg h5]
    by_cases h18 : spv (kn_w 18) l g = true
    · rw [if_pos h18, spg_eq (by decide) h18]; rfl
    · rw [if_neg h18, pfN, if_neg]
      rcases spg_of l g with h | ⟨h1, h2, h3⟩
      · rw [h]; decide
      · intro z
        have : ∀ i, i < 26 → 0 < kn_pf i → i = 5 ∨ i = 18 := by decide +kernel
        rcases this _ h2 z with h | h
        · rw [h] at h3; exact h5 h3
        · rw [h] at h3; exact h18 h3
set_option maxRecDepth 20000 in
theorem t_MR_prefix (G : am_G) {d nx : Nat} (hd : 5 ≤ d) {M : am_M} {n : Nat} {at9 be tk op le tp pl vd kn rk : Int32} {nu : Int64} {l : Nat} (hr : M 1225 = some (.inr (12, [.ref 1226, .ref 1227, .ref 1228, .ref 1213, .ref 1220, .ref 1212, .int (nI n), .int at9, .int be, .int tk, .int op, .long nu, .ref 1229, .int (nI l), .ref 1230, .int tp, .int pl, .ref 1231, .int vd, .int kn, .int rk, .ref 1232]))) {g : Nat → Int32} (hw : M 1229 = some (.inl (0, 4096, .inl g))) (hl : l ≤ 4096)  : am_Tr G m_MR_prefix d 0 0 [.ref 1225] M nx (fun r M1 nx1 => r = .inl (some (.int (if tk = 3 then pfN (spg l g) else -1))) ∧ M1 = M ∧ nx1 = nx) := by
  refine am_TrOf (by decide) (Nat.le_of_ble_eq_true rfl) ?_
  show am_V G _ _ _ _ _ 0 [(0, .ref 1225)] [] M nx 0 0
  refine v_aload_n (am_Dk d_MR_prefix (k := 0) rfl) rfl ?_
  refine v_get (am_Dk d_MR_prefix (k := 1) rfl) f_MR_123 hr rfl ?_
  refine v_iconst (v := 3) (am_Dk d_MR_prefix (k := 2) rfl) (by decide) ?_
  refine v_icmp_eq (tgt := 12) (am_Dk d_MR_prefix (k := 3) rfl) (by decide) (fun c1 => ?_) (fun c1 => ?_)
  · have h3 := c1
    refine v_aload_n (am_Dk d_MR_prefix (k := 6) rfl) rfl ?_
    refine v_ldcS (i := 162) (tx := "\\+") (am_Dk d_MR_prefix (k := 7) rfl) (by decide +kernel) ?_
    refine v_callV (rest := []) (As := [.ref 162]) (mc' := 0) (ms' := 0) (am_Dk d_MR_prefix (k := 8) rfl) c_MR_192 (Or.inl ⟨_, _, _, _, _, hr, cq_ok12⟩) (t_MR_spells G (d := 4) (le := 0) (by omega) hr hw hl pf_0) (by omega) (by omega) (by omega) (by simp [Value.category]) rfl (fun v2 M3 n4 h5 => ?_) (fun _ _ _ h5 => ?_)
    rotate_left
    · exact absurd h5.1 (by simp)
    obtain ⟨h5, e6, e7⟩ := h5
    replace e6 := e6.symm
    replace e7 := e7.symm
    subst e6
    subst e7
    cases h5
    show am_V G _ _ _ _ _ 18 [(0, .ref 1225)] [.int (bi (spv (kn_w 5) l g))] M nx 0 0
    refine v_if_eq (tgt := 27) (am_Dk d_MR_prefix (k := 9) rfl) (by decide) (fun c8 => ?_) (fun c8 => ?_)
    · have t5 := ne_true_of_eq_false (bi0.mp c8)
      refine v_aload_n (am_Dk d_MR_prefix (k := 12) rfl) rfl ?_
      refine v_ldcS (i := 156) (tx := "-") (am_Dk d_MR_prefix (k := 13) rfl) (by decide +kernel) ?_
      refine v_callV (rest := []) (As := [.ref 156]) (mc' := 0) (ms' := 0) (am_Dk d_MR_prefix (k := 14) rfl) c_MR_192 (Or.inl ⟨_, _, _, _, _, hr, cq_ok12⟩) (t_MR_spells G (d := 4) (le := 0) (by omega) hr hw hl pf_1) (by omega) (by omega) (by omega) (by simp [Value.category]) rfl (fun v9 M10 n11 h12 => ?_) (fun _ _ _ h12 => ?_)
      rotate_left
      · exact absurd h12.1 (by simp)
      obtain ⟨h12, e13, e14⟩ := h12
      replace e13 := e13.symm
      replace e14 := e14.symm
      subst e13
      subst e14
      cases h12
      show am_V G _ _ _ _ _ 33 [(0, .ref 1225)] [.int (bi (spv (kn_w 18) l g))] M nx 0 0
      refine v_if_eq (tgt := 42) (am_Dk d_MR_prefix (k := 15) rfl) (by decide) (fun c15 => ?_) (fun c15 => ?_)
      · have t18 := ne_true_of_eq_false (bi0.mp c15)
        refine v_iconst (v := (-1)) (am_Dk d_MR_prefix (k := 18) rfl) (by decide) ?_
        exact v_ireturn (am_Dk d_MR_prefix (k := 19) rfl) rfl rfl (by omega) (by omega) ⟨by rw [if_pos h3, pf_v, if_neg t5, if_neg t18], rfl, rfl⟩
      · have t18 := bi1 c15
        refine v_sipush (v := 200) (am_Dk d_MR_prefix (k := 16) rfl) (by decide) ?_
        refine v_goto (tgt := 43) (am_Dk d_MR_prefix (k := 17) rfl) (by decide) ?_
        exact v_ireturn (am_Dk d_MR_prefix (k := 19) rfl) rfl rfl (by omega) (by omega) ⟨by rw [if_pos h3, pf_v, if_neg t5, if_pos t18], rfl, rfl⟩
    · have t5 := bi1 c8
      refine v_sipush (v := 900) (am_Dk d_MR_prefix (k := 10) rfl) (by decide) ?_
      refine v_goto (tgt := 43) (am_Dk d_MR_prefix (k := 11) rfl) (by decide) ?_
      exact v_ireturn (am_Dk d_MR_prefix (k := 19) rfl) rfl rfl (by omega) (by omega) ⟨by rw [if_pos h3, pf_v, if_pos t5], rfl, rfl⟩
  · have h3 := c1
    refine v_iconst (v := (-1)) (am_Dk d_MR_prefix (k := 4) rfl) (by decide) ?_
    refine v_goto (tgt := 43) (am_Dk d_MR_prefix (k := 5) rfl) (by decide) ?_
    exact v_ireturn (am_Dk d_MR_prefix (k := 19) rfl) rfl rfl (by omega) (by omega) ⟨by rw [if_neg h3], rfl, rfl⟩
set_option maxRecDepth 20000 in
theorem t_MR_begins (G : am_G) {d nx : Nat} (hd : 6 ≤ d) {M : am_M} {n : Nat} {at9 be tk op le tp pl vd kn rk : Int32} {nu : Int64} {l : Nat} (hr : M 1225 = some (.inr (12, [.ref 1226, .ref 1227, .ref 1228, .ref 1213, .ref 1220, .ref 1212, .int (nI n), .int at9, .int be, .int tk, .int op, .long nu, .ref 1229, .int (nI l), .ref 1230, .int tp, .int pl, .ref 1231, .int vd, .int kn, .int rk, .ref 1232]))) {g : Nat → Int32} (hw : M 1229 = some (.inl (0, 4096, .inl g))) (hl : l ≤ 4096) {sd : Nat → Option Nat} {rkA : Nat → Int32} (hsd : M 1226 = some (.inl (5, 20, .inr (.inr (.inr (.inr sd)))))) (hsk : ∀ i, i < 20 → sd i = some (i + 141)) (hra : M 1227 = some (.inl (1, 20, .inl rkA))) (hrk : ∀ i, i < 20 → rkA i = rk_tab.getD i 0) : am_Tr G m_MR_begins d 0 0 [.ref 1225] M nx (fun r M1 nx1 => r = .inl (some (.int (bi (decide (¬ (tk = 5 ∨ tk = 7 ∨ tk = 9 ∨ tk = 10 ∨ tk = 11 ∨ tk = 0 ∨ tk = 13) ∧ ((if tk = 10 then 1000 else if tk = 3 then rkN (spg l g) else -1) = -1 ∨ ¬ (if tk = 3 then pfN (spg l g) else -1) = -1)))))) ∧ M1 = M ∧ nx1 = nx) := by
  refine am_TrOf (by decide) (Nat.le_of_ble_eq_true rfl) ?_
  show am_V G _ _ _ _ _ 0 [(0, .ref 1225)] [] M nx 0 0
  refine v_aload_n (am_Dk d_MR_begins (k := 0) rfl) rfl ?_
  refine v_get (am_Dk d_MR_begins (k := 1) rfl) f_MR_123 hr rfl ?_
  refine v_iconst (v := 5) (am_Dk d_MR_begins (k := 2) rfl) (by decide) ?_
  refine v_icmp_eq (tgt := 60) (am_Dk d_MR_begins (k := 3) rfl) (by decide) (fun c1 => ?_) (fun c1 => ?_)
  · refine v_iconst (v := 0) (am_Dk d_MR_begins (k := 27) rfl) (by decide) ?_
    exact v_ireturn (am_Dk d_MR_begins (k := 28) rfl) rfl rfl (by omega) (by omega) ⟨by rw [decide_eq_false (fun z => z.1 (by simp_all))]; rfl, rfl, rfl⟩
  · refine v_aload_n (am_Dk d_MR_begins (k := 4) rfl) rfl ?_
    refine v_get (am_Dk d_MR_begins (k := 5) rfl) f_MR_123 hr rfl ?_
    refine v_bipush (v := 7) (am_Dk d_MR_begins (k := 6) rfl) (by decide) ?_
    refine v_icmp_eq (tgt := 60) (am_Dk d_MR_begins (k := 7) rfl) (by decide) (fun c2 => ?_) (fun c2 => ?_)
    · refine v_iconst (v := 0) (am_Dk d_MR_begins (k := 27) rfl) (by decide) ?_
      exact v_ireturn (am_Dk d_MR_begins (k := 28) rfl) rfl rfl (by omega) (by omega) ⟨by rw [decide_eq_false (fun z => z.1 (by simp_all))]; rfl, rfl, rfl⟩
    · refine v_aload_n (am_Dk d_MR_begins (k := 8) rfl) rfl ?_
      refine v_get (am_Dk d_MR_begins (k := 9) rfl) f_MR_123 hr rfl ?_
      refine v_bipush (v := 9) (am_Dk d_MR_begins (k := 10) rfl) (by decide) ?_
      refine v_icmp_eq (tgt := 60) (am_Dk d_MR_begins (k := 11) rfl) (by decide) (fun c3 => ?_) (fun c3 => ?_)
      · refine v_iconst (v := 0) (am_Dk d_MR_begins (k := 27) rfl) (by decide) ?_
        exact v_ireturn (am_Dk d_MR_begins (k := 28) rfl) rfl rfl (by omega) (by omega) ⟨by rw [decide_eq_false (fun z => z.1 (by simp_all))]; rfl, rfl, rfl⟩
      · refine v_aload_n (am_Dk d_MR_begins (k := 12) rfl) rfl ?_
        refine v_get (am_Dk d_MR_begins (k := 13) rfl) f_MR_123 hr rfl ?_
        refine v_bipush (v := 10) (am_Dk d_MR_begins (k := 14) rfl) (by decide) ?_
        refine v_icmp_eq (tgt := 60) (am_Dk d_MR_begins (k := 15) rfl) (by decide) (fun c4 => ?_) (fun c4 => ?_)
        · refine v_iconst (v := 0) (am_Dk d_MR_begins (k := 27) rfl) (by decide) ?_
          exact v_ireturn (am_Dk d_MR_begins (k := 28) rfl) rfl rfl (by omega) (by omega) ⟨by rw [decide_eq_false (fun z => z.1 (by simp_all))]; rfl, rfl, rfl⟩
        · refine v_aload_n (am_Dk d_MR_begins (k := 16) rfl) rfl ?_
          refine v_get (am_Dk d_MR_begins (k := 17) rfl) f_MR_123 hr rfl ?_
          refine v_bipush (v := 11) (am_Dk d_MR_begins (k := 18) rfl) (by decide) ?_
          refine v_icmp_eq (tgt := 60) (am_Dk d_MR_begins (k := 19) rfl) (by decide) (fun c5 => ?_) (fun c5 => ?_)
          · refine v_iconst (v := 0) (am_Dk d_MR_begins (k := 27) rfl) (by decide) ?_
            exact v_ireturn (am_Dk d_MR_begins (k := 28) rfl) rfl rfl (by omega) (by omega) ⟨by rw [decide_eq_false (fun z => z.1 (by simp_all))]; rfl, rfl, rfl⟩
          · refine v_aload_n (am_Dk d_MR_begins (k := 20) rfl) rfl ?_
            refine v_get (am_Dk d_MR_begins (k := 21) rfl) f_MR_123 hr rfl ?_
            refine v_if_eq (tgt := 60) (am_Dk d_MR_begins (k := 22) rfl) (by decide) (fun c6 => ?_) (fun c6 => ?_)
            · refine v_iconst (v := 0) (am_Dk d_MR_begins (k := 27) rfl) (by decide) ?_
              exact v_ireturn (am_Dk d_MR_begins (k := 28) rfl) rfl rfl (by omega) (by omega) ⟨by rw [decide_eq_false (fun z => z.1 (by simp_all))]; rfl, rfl, rfl⟩
            · refine v_aload_n (am_Dk d_MR_begins (k := 23) rfl) rfl ?_
              refine v_get (am_Dk d_MR_begins (k := 24) rfl) f_MR_123 hr rfl ?_
              refine v_bipush (v := 13) (am_Dk d_MR_begins (k := 25) rfl) (by decide) ?_
              refine v_icmp_ne (tgt := 62) (am_Dk d_MR_begins (k := 26) rfl) (by decide) (fun c7 => ?_) (fun c7 => ?_)
              · have hn7 : ¬ (tk = 5 ∨ tk = 7 ∨ tk = 9 ∨ tk = 10 ∨ tk = 11 ∨ tk = 0 ∨ tk = 13) := by simp_all
                refine v_aload_n (am_Dk d_MR_begins (k := 29) rfl) rfl ?_
                refine v_callV (rest := []) (As := []) (mc' := 0) (ms' := 0) (am_Dk d_MR_begins (k := 30) rfl) c_MR_198 (Or.inl ⟨_, _, _, _, _, hr, cq_ok12⟩) (t_MR_rank G (d := 5) (le := 0) (by omega) hr hw hl hsd hsk hra hrk) (by omega) (by omega) (by omega) (by simp [Value.category]) rfl (fun v8 M9 n10 h11 => ?_) (fun _ _ _ h11 => ?_)
                rotate_left
                · exact absurd h11.1 (by simp)
                obtain ⟨h11, e12, e13⟩ := h11
                replace e12 := e12.symm
                replace e13 := e13.symm
                subst e12
                subst e13
                cases h11
                show am_V G _ _ _ _ _ 66 [(0, .ref 1225)] [.int (if tk = 10 then 1000 else if tk = 3 then rkN (spg l g) else -1)] M nx 0 0
                refine v_iconst (v := (-1)) (am_Dk d_MR_begins (k := 31) rfl) (by decide) ?_
                refine v_icmp_eq (tgt := 78) (am_Dk d_MR_begins (k := 32) rfl) (by decide) (fun c14 => ?_) (fun c14 => ?_)
                · have hA := c14
                  refine v_iconst (v := 1) (am_Dk d_MR_begins (k := 37) rfl) (by decide) ?_
                  refine v_goto (tgt := 83) (am_Dk d_MR_begins (k := 38) rfl) (by decide) ?_
                  exact v_ireturn (am_Dk d_MR_begins (k := 40) rfl) rfl rfl (by omega) (by omega) ⟨by rw [decide_eq_true ⟨hn7, by first | exact Or.inl hA | exact Or.inr hB⟩]; rfl, rfl, rfl⟩
                · have hA := c14
                  refine v_aload_n (am_Dk d_MR_begins (k := 33) rfl) rfl ?_
                  refine v_callV (rest := []) (As := []) (mc' := 0) (ms' := 0) (am_Dk d_MR_begins (k := 34) rfl) c_MR_201 (Or.inl ⟨_, _, _, _, _, hr, cq_ok12⟩) (t_MR_prefix G (d := 5) (le := 0) (by omega) hr hw hl) (by omega) (by omega) (by omega) (by simp [Value.category]) rfl (fun v15 M16 n17 h18 => ?_) (fun _ _ _ h18 => ?_)
                  rotate_left
                  · exact absurd h18.1 (by simp)
                  obtain ⟨h18, e19, e20⟩ := h18
                  replace e19 := e19.symm
                  replace e20 := e20.symm
                  subst e19
                  subst e20
                  cases h18
                  show am_V G _ _ _ _ _ 74 [(0, .ref 1225)] [.int (if tk = 3 then pfN (spg l g) else -1)] M nx 0 0
                  refine v_iconst (v := (-1)) (am_Dk d_MR_begins (k := 35) rfl) (by decide) ?_
                  refine v_icmp_eq (tgt := 82) (am_Dk d_MR_begins (k := 36) rfl) (by decide) (fun c21 => ?_) (fun c21 => ?_)
                  · have hB := c21
                    refine v_iconst (v := 0) (am_Dk d_MR_begins (k := 39) rfl) (by decide) ?_
                    exact v_ireturn (am_Dk d_MR_begins (k := 40) rfl) rfl rfl (by omega) (by omega) ⟨by rw [decide_eq_false (fun z => z.2.elim hA (fun y => y hB))]; rfl, rfl, rfl⟩
                  · have hB := c21
                    refine v_iconst (v := 1) (am_Dk d_MR_begins (k := 37) rfl) (by decide) ?_
                    refine v_goto (tgt := 83) (am_Dk d_MR_begins (k := 38) rfl) (by decide) ?_
                    exact v_ireturn (am_Dk d_MR_begins (k := 40) rfl) rfl rfl (by omega) (by omega) ⟨by rw [decide_eq_true ⟨hn7, by first | exact Or.inl hA | exact Or.inr hB⟩]; rfl, rfl, rfl⟩
              · refine v_iconst (v := 0) (am_Dk d_MR_begins (k := 27) rfl) (by decide) ?_
                exact v_ireturn (am_Dk d_MR_begins (k := 28) rfl) rfl rfl (by omega) (by omega) ⟨by rw [decide_eq_false (fun z => z.1 (by simp_all))]; rfl, rfl, rfl⟩
