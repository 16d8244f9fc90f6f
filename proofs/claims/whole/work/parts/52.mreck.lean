/-! THE REFERENCE'S VARIABLES AND SORTS (mine; rows laid by the walker) -/
def tbl (M : am_M) (c : Nat) (Vl : Nat → Nat) (Vg : Nat → Nat → Int32) (Vn : Nat → Int64) (P : Nat → Int32) (Q : Nat → Nat) : Prop := M 1233 = some (.inl (0, 210000, .inl P)) ∧ tbB P ∧ (∃ Qa, M 1234 = some (.inl (1, 52, .inl Qa)) ∧ ∀ i, i ≤ c → Qa i = nI (Q i)) ∧ (∃ Vr, M 1235 = some (.inl (2, 51, .inr (.inl Vr))) ∧ ∀ i, i < c → Vr i = Vn i) ∧ Q 0 = 0 ∧ (∀ i, i < c → Q (i + 1) = Q i + Vl i ∧ Vl i ≤ 4096 ∧ (∀ j, j < Vl i → P (Q i + j) = Vg i j) ∧ inR (Vn i)) ∧ c ≤ 50
theorem tbl_Q {M : am_M} {c : Nat} {Vl : Nat → Nat} {Vg : Nat → Nat → Int32} {Vn : Nat → Int64} {P : Nat → Int32} {Q : Nat → Nat} (h : tbl M c Vl Vg Vn P Q) : ∀ i, i ≤ c → Q i ≤ 4096 * i := by
  intro i
  induction i with
  | zero => intro _; rw [h.2.2.2.2.1]; omega
  | succ i ih =>
    intro hi
    have h1 := h.2.2.2.2.2.1 i (by omega)
    have h2 := ih (by omega)
    omega
theorem spv_iff {k l : Nat} {g : Nat → Int32} (hk : 2 ≤ k ∧ k < 26) : spv (kn_w k) l g = decide (spg l g = k) := by
  by_cases h : spg l g = k
  · rw [decide_eq_true h]
    rcases spg_of l g with h0 | ⟨_, _, h3⟩
    · omega
    · rw [h] at h3
      exact h3
  · rw [decide_eq_false h]
    cases hs : spv (kn_w k) l g with
    | false => rfl
    | true => exact absurd (spg_eq hk hs) h
def luT (c : Nat) (Vl : Nat → Nat) (Vg : Nat → Nat → Int32) (Vn : Nat → Int64) (l : Nat) (g : Nat → Int32) : Option Int64 := (vfF (vmt Vl Vg l g) c 0).map Vn
set_option maxRecDepth 20000 in
theorem t_MM_sameName (G : am_G) {d nx : Nat} (hd : 1 ≤ d) {M : am_M} {c : Nat} {Vl : Nat → Nat} {Vg : Nat → Nat → Int32} {Vn : Nat → Int64} {P : Nat → Int32} {Q : Nat → Nat} (hT9 : tbl M c Vl Vg Vn P Q) {th ta pl er : Int32} {re : Int64} (h0 : M 1211 = some (.inr (9, [.int th, .int ta, .int pl, .int er, .int (nI c), .ref 1212, .ref 1213, .ref 1220, .ref 1225, .ref 1233, .ref 1234, .ref 1235, .ref 1236, .ref 1237, .ref 1238, .long re]))) {ns tx k : Nat} {T : Nat → Int32} {F : Nat → Nat} (hNM : NMs M ns tx T F) (hk : k < ns) (hns : ns ≤ 9000) (htx : tx ≤ 5000) {i : Nat} (hi : i < c) : am_Tr G m_MM_sameName d 0 0 [.ref 1211, .int (nI i), .int (nI k)] M nx (fun r M1 nx1 => r = .inl (some (.int (bi (vmt Vl Vg (nmL F k) (nmW T F k) i)))) ∧ M1 = M ∧ nx1 = nx) := by
  refine am_TrOf (by decide) (Nat.le_of_ble_eq_true rfl) ?_
  show am_V G _ _ _ _ _ 0 [(0, .ref 1211), (1, .int (nI i)), (2, .int (nI k))] [] M nx 0 0
  obtain ⟨hN, hT, _, hO, ⟨A, hF, hA⟩, _, _⟩ := hNM
  have hQi := tbl_Q hT9 i (by omega)
  have hQ1 := tbl_Q hT9 (i + 1) (by omega)
  obtain ⟨hP, hPB, ⟨Qa, hQa, hQk⟩, _, _, hti, hc50⟩ := hT9
  obtain ⟨t1, t2, t3, _⟩ := hti i hi
  have hF1 := nmO_le hO (k + 1) (by omega)
  have hkL : nmL F k ≤ 5000 := by rw [nmL]; omega
  have hlp : nmL F k = Vl i → ∀ m j, j + m = nmL F k → (∀ q, q < j → Vg i q = nmW T F k q) → am_V G m_MM_sameName d 0 0 (fun r M1 nx1 => r = .inl (some (.int (bi (vmt Vl Vg (nmL F k) (nmW T F k) i)))) ∧ M1 = M ∧ nx1 = nx) 30 [(3, .int (nI j)), (0, .ref 1211), (1, .int (nI i)), (2, .int (nI k))] [] M nx 0 0 := by
    intro hle m
    induction m with
    | zero =>
      intro j hjm hall
      refine v_iload_n (am_Dk d_MM_sameName (k := 20) rfl) rfl ?_
      refine v_aload_n (am_Dk d_MM_sameName (k := 21) rfl) rfl ?_
      refine v_get (am_Dk d_MM_sameName (k := 22) rfl) f_MM_27 h0 rfl ?_
      refine v_iload_n (am_Dk d_MM_sameName (k := 23) rfl) rfl ?_
      refine v_callV (rest := [.int (nI j)]) (As := [.int (nI k)]) (mc' := 0) (ms' := 0) (am_Dk d_MM_sameName (k := 24) rfl) c_MM_85 (Or.inl ⟨_, _, _, _, _, hN, cq_ok11⟩) (t_MN_length G (d := 0) (by omega) hN hT hO hF hA hk hns htx) (by omega) (by omega) (by omega) (by simp [Value.category]) rfl (fun v1 M2 n3 h4 => ?_) (fun _ _ _ h4 => ?_)
      rotate_left
      · exact absurd h4.1 (by simp)
      obtain ⟨h4, e5, e6⟩ := h4
      replace e5 := e5.symm
      replace e6 := e6.symm
      subst e5
      subst e6
      cases h4
      show am_V G _ _ _ _ _ 39 [(3, .int (nI j)), (0, .ref 1211), (1, .int (nI i)), (2, .int (nI k))] [.int (nI (nmL F k)), .int (nI j)] M nx 0 0
      refine v_icmp_ge (tgt := 75) (am_Dk d_MM_sameName (k := 25) rfl) (by decide) (fun c7 => ?_) (fun c7 => ?_)
      · have Nc7 := (nI_leI (a := nmL F k) (b := j) (by omega) (by omega)).mp c7
        refine v_iconst (v := 1) (am_Dk d_MM_sameName (k := 45) rfl) (by decide) ?_
        exact v_ireturn (am_Dk d_MM_sameName (k := 46) rfl) rfl rfl (by omega) (by omega) ⟨by rw [show vmt Vl Vg (nmL F k) (nmW T F k) i = true from decide_eq_true ⟨hle.symm, fun q hq => hall q (by omega)⟩]; rfl, rfl, rfl⟩
      · have Nc7 : ¬ (nmL F k) ≤ j := fun z => c7 ((nI_leI (a := nmL F k) (b := j) (by omega) (by omega)).mpr z)
        exfalso
        omega
    | succ m ih =>
      intro j hjm hall
      refine v_iload_n (am_Dk d_MM_sameName (k := 20) rfl) rfl ?_
      refine v_aload_n (am_Dk d_MM_sameName (k := 21) rfl) rfl ?_
      refine v_get (am_Dk d_MM_sameName (k := 22) rfl) f_MM_27 h0 rfl ?_
      refine v_iload_n (am_Dk d_MM_sameName (k := 23) rfl) rfl ?_
      refine v_callV (rest := [.int (nI j)]) (As := [.int (nI k)]) (mc' := 0) (ms' := 0) (am_Dk d_MM_sameName (k := 24) rfl) c_MM_85 (Or.inl ⟨_, _, _, _, _, hN, cq_ok11⟩) (t_MN_length G (d := 0) (by omega) hN hT hO hF hA hk hns htx) (by omega) (by omega) (by omega) (by simp [Value.category]) rfl (fun v1 M2 n3 h4 => ?_) (fun _ _ _ h4 => ?_)
      rotate_left
      · exact absurd h4.1 (by simp)
      obtain ⟨h4, e5, e6⟩ := h4
      replace e5 := e5.symm
      replace e6 := e6.symm
      subst e5
      subst e6
      cases h4
      show am_V G _ _ _ _ _ 39 [(3, .int (nI j)), (0, .ref 1211), (1, .int (nI i)), (2, .int (nI k))] [.int (nI (nmL F k)), .int (nI j)] M nx 0 0
      refine v_icmp_ge (tgt := 75) (am_Dk d_MM_sameName (k := 25) rfl) (by decide) (fun c7 => ?_) (fun c7 => ?_)
      · have Nc7 := (nI_leI (a := nmL F k) (b := j) (by omega) (by omega)).mp c7
        exfalso
        omega
      · have Nc7 : ¬ (nmL F k) ≤ j := fun z => c7 ((nI_leI (a := nmL F k) (b := j) (by omega) (by omega)).mpr z)
        refine v_aload_n (am_Dk d_MM_sameName (k := 26) rfl) rfl ?_
        refine v_get (am_Dk d_MM_sameName (k := 27) rfl) f_MM_41 h0 rfl ?_
        refine v_aload_n (am_Dk d_MM_sameName (k := 28) rfl) rfl ?_
        refine v_get (am_Dk d_MM_sameName (k := 29) rfl) f_MM_44 h0 rfl ?_
        refine v_iload_n (am_Dk d_MM_sameName (k := 30) rfl) rfl ?_
        refine v_iald (am_Dk d_MM_sameName (k := 31) rfl) hQa rfl (vp_in_nI (by omega) (by omega)) ?_
        rw [nI_clamp (n := i) (by omega)]
        rw [show Qa i = nI (Q i) from hQk _ (by omega)]
        refine v_iload_n (am_Dk d_MM_sameName (k := 32) rfl) rfl ?_
        refine v_iadd (am_Dk d_MM_sameName (k := 33) rfl) ?_
        rw [nI_add]
        refine v_bald (am_Dk d_MM_sameName (k := 34) rfl) hP rfl (vp_in_nI (by omega) (by omega)) ?_
        rw [nI_clamp (n := Q i + j) (by omega)]
        refine v_aload_n (am_Dk d_MM_sameName (k := 35) rfl) rfl ?_
        refine v_get (am_Dk d_MM_sameName (k := 36) rfl) f_MM_27 h0 rfl ?_
        refine v_iload_n (am_Dk d_MM_sameName (k := 37) rfl) rfl ?_
        refine v_iload_n (am_Dk d_MM_sameName (k := 38) rfl) rfl ?_
        refine v_callV (rest := [.int (P (Q i + j))]) (As := [.int (nI k), .int (nI j)]) (mc' := 0) (ms' := 0) (am_Dk d_MM_sameName (k := 39) rfl) c_MM_88 (Or.inl ⟨_, _, _, _, _, hN, cq_ok11⟩) (t_MN_at G (d := 0) (by omega) hN hT hO hF hA hk hns htx (i := j) (by omega)) (by omega) (by omega) (by omega) (by simp [Value.category]) rfl (fun v8 M9 n10 h11 => ?_) (fun _ _ _ h11 => ?_)
        rotate_left
        · exact absurd h11.1 (by simp)
        obtain ⟨h11, e12, e13⟩ := h11
        replace e12 := e12.symm
        replace e13 := e13.symm
        subst e12
        subst e13
        cases h11
        show am_V G _ _ _ _ _ 64 [(3, .int (nI j)), (0, .ref 1211), (1, .int (nI i)), (2, .int (nI k))] [.int (nmW T F k j), .int (P (Q i + j))] M nx 0 0
        refine v_icmp_eq (tgt := 69) (am_Dk d_MM_sameName (k := 40) rfl) (by decide) (fun c14 => ?_) (fun c14 => ?_)
        · have hEq := c14
          refine v_iinc (v := nI (j + 1)) (L1 := [(3, .int (nI (j + 1))), (0, .ref 1211), (1, .int (nI i)), (2, .int (nI k))]) (am_Dk d_MM_sameName (k := 43) rfl) rfl (nI_1 _) (by decide) rfl ?_
          refine v_goto (tgt := 30) (am_Dk d_MM_sameName (k := 44) rfl) (by decide) ?_
          exact ih (j + 1) (by omega) (fun q hq => by
            rcases Nat.lt_succ_iff_lt_or_eq.mp hq with h | h
            · exact hall q h
            · rw [h]; exact (t3 j (by omega)).symm.trans hEq)
        · have hne := c14
          refine v_iconst (v := 0) (am_Dk d_MM_sameName (k := 41) rfl) (by decide) ?_
          exact v_ireturn (am_Dk d_MM_sameName (k := 42) rfl) rfl rfl (by omega) (by omega) ⟨by rw [show vmt Vl Vg (nmL F k) (nmW T F k) i = false from decide_eq_false (fun z => hne ((t3 j (by omega)).trans (z.2 j (by omega))))]; rfl, rfl, rfl⟩
  refine v_aload_n (am_Dk d_MM_sameName (k := 0) rfl) rfl ?_
  refine v_get (am_Dk d_MM_sameName (k := 1) rfl) f_MM_44 h0 rfl ?_
  refine v_iload_n (am_Dk d_MM_sameName (k := 2) rfl) rfl ?_
  refine v_iconst (v := 1) (am_Dk d_MM_sameName (k := 3) rfl) (by decide) ?_
  refine v_iadd (am_Dk d_MM_sameName (k := 4) rfl) ?_
  rw [nI_1]
  refine v_iald (am_Dk d_MM_sameName (k := 5) rfl) hQa rfl (vp_in_nI (by omega) (by omega)) ?_
  rw [nI_clamp (n := i + 1) (by omega)]
  rw [show Qa (i + 1) = nI (Q (i + 1)) from hQk _ (by omega)]
  refine v_aload_n (am_Dk d_MM_sameName (k := 6) rfl) rfl ?_
  refine v_get (am_Dk d_MM_sameName (k := 7) rfl) f_MM_44 h0 rfl ?_
  refine v_iload_n (am_Dk d_MM_sameName (k := 8) rfl) rfl ?_
  refine v_iald (am_Dk d_MM_sameName (k := 9) rfl) hQa rfl (vp_in_nI (by omega) (by omega)) ?_
  rw [nI_clamp (n := i) (by omega)]
  rw [show Qa i = nI (Q i) from hQk _ (by omega)]
  refine v_isub (am_Dk d_MM_sameName (k := 10) rfl) ?_
  rw [nI_sub (by omega), show Q (i + 1) - Q i = Vl i from by omega]
  refine v_aload_n (am_Dk d_MM_sameName (k := 11) rfl) rfl ?_
  refine v_get (am_Dk d_MM_sameName (k := 12) rfl) f_MM_27 h0 rfl ?_
  refine v_iload_n (am_Dk d_MM_sameName (k := 13) rfl) rfl ?_
  refine v_callV (rest := [.int (nI (Vl i))]) (As := [.int (nI k)]) (mc' := 0) (ms' := 0) (am_Dk d_MM_sameName (k := 14) rfl) c_MM_85 (Or.inl ⟨_, _, _, _, _, hN, cq_ok11⟩) (t_MN_length G (d := 0) (by omega) hN hT hO hF hA hk hns htx) (by omega) (by omega) (by omega) (by simp [Value.category]) rfl (fun v1 M2 n3 h4 => ?_) (fun _ _ _ h4 => ?_)
  rotate_left
  · exact absurd h4.1 (by simp)
  obtain ⟨h4, e5, e6⟩ := h4
  replace e5 := e5.symm
  replace e6 := e6.symm
  subst e5
  subst e6
  cases h4
  show am_V G _ _ _ _ _ 23 [(0, .ref 1211), (1, .int (nI i)), (2, .int (nI k))] [.int (nI (nmL F k)), .int (nI (Vl i))] M nx 0 0
  refine v_icmp_eq (tgt := 28) (am_Dk d_MM_sameName (k := 15) rfl) (by decide) (fun c7 => ?_) (fun c7 => ?_)
  · have Nc7 := (nI_eq (a := Vl i) (b := nmL F k) (by omega) (by omega)).mp c7
    have hle : nmL F k = Vl i := Nc7.symm
    refine v_iconst (v := 0) (am_Dk d_MM_sameName (k := 18) rfl) (by decide) ?_
    refine v_istore_n (L1 := [(3, .int 0), (0, .ref 1211), (1, .int (nI i)), (2, .int (nI k))]) (am_Dk d_MM_sameName (k := 19) rfl) (by decide) rfl ?_
    exact v_drop (hlp hle (nmL F k) 0 (by omega) (fun q hq => absurd hq (by omega))) (by simp [nI_0])
  · have Nc7 : ¬ (Vl i) = (nmL F k) := fun z => c7 ((nI_eq (a := Vl i) (b := nmL F k) (by omega) (by omega)).mpr z)
    have hle : ¬ nmL F k = Vl i := fun z => Nc7 z.symm
    refine v_iconst (v := 0) (am_Dk d_MM_sameName (k := 16) rfl) (by decide) ?_
    exact v_ireturn (am_Dk d_MM_sameName (k := 17) rfl) rfl rfl (by omega) (by omega) ⟨by rw [show vmt Vl Vg (nmL F k) (nmW T F k) i = false from decide_eq_false (fun z => hle z.1.symm)]; rfl, rfl, rfl⟩
def oI (q : Option Nat) : Int32 := match q with
  | none => -1
  | some i => nI i
def vfx (c : Nat) (Vl : Nat → Nat) (Vg : Nat → Nat → Int32) (T : Nat → Int32) (F : Nat → Nat) (x : Option Nat) : Option Nat := match x with
  | none => none
  | some k => vfF (vmt Vl Vg (nmL F k) (nmW T F k)) c 0
set_option maxRecDepth 20000 in
theorem t_MM_variable (G : am_G) {d nx : Nat} (hd : 2 ≤ d) {M : am_M} {c : Nat} {Vl : Nat → Nat} {Vg : Nat → Nat → Int32} {Vn : Nat → Int64} {P : Nat → Int32} {Q : Nat → Nat} (hT9 : tbl M c Vl Vg Vn P Q) {th ta pl er : Int32} {re : Int64} (h0 : M 1211 = some (.inr (9, [.int th, .int ta, .int pl, .int er, .int (nI c), .ref 1212, .ref 1213, .ref 1220, .ref 1225, .ref 1233, .ref 1234, .ref 1235, .ref 1236, .ref 1237, .ref 1238, .long re]))) {ns tx : Nat} {T : Nat → Int32} {F : Nat → Nat} (hNM : NMs M ns tx T F) (hns : ns ≤ 9000) (htx : tx ≤ 5000) {v : Nat} {Va : Nat → Int32} (hv : v < 4200) (hVa : M 1231 = some (.inl (1, 4200, .inl Va))) {x0 x1 x2 x3 x4 x5 x6 x7 x8 x9 x10 x11 x12 : Value} (h12 : M 1225 = some (.inr (12, [.ref 1226, .ref 1227, .ref 1228, .ref 1213, .ref 1220, x12, x0, x1, x2, x3, x4, x5, .ref 1229, x6, .ref 1230, x7, x8, .ref 1231, x9, x10, x11, .ref 1232]))) {x : Option Nat} (hx : (x = none ∧ Va v = -1) ∨ ∃ k, x = some k ∧ k < ns ∧ Va v = nI k) : am_Tr G m_MM_variable d 0 0 [.ref 1211, .int (nI v)] M nx (fun r M1 nx1 => r = .inl (some (.int (oI (vfx c Vl Vg T F x)))) ∧ M1 = M ∧ nx1 = nx) := by
  refine am_TrOf (by decide) (Nat.le_of_ble_eq_true rfl) ?_
  show am_V G _ _ _ _ _ 0 [(0, .ref 1211), (1, .int (nI v))] [] M nx 0 0
  have hc50 := hT9.2.2.2.2.2.2
  have hlp : ∀ k, k < ns → x = some k → ∀ m i, i + m = c → vfF (vmt Vl Vg (nmL F k) (nmW T F k)) m i = vfF (vmt Vl Vg (nmL F k) (nmW T F k)) c 0 → am_V G m_MM_variable d 0 0 (fun r M1 nx1 => r = .inl (some (.int (oI (vfx c Vl Vg T F x)))) ∧ M1 = M ∧ nx1 = nx) 12 [(3, .int (nI i)), (2, .int (nI k)), (0, .ref 1211), (1, .int (nI v))] [] M nx 0 0 := by
    intro k hk hxk m
    induction m with
    | zero =>
      intro i him hall
      refine v_iload_n (am_Dk d_MM_variable (k := 8) rfl) rfl ?_
      refine v_aload_n (am_Dk d_MM_variable (k := 9) rfl) rfl ?_
      refine v_get (am_Dk d_MM_variable (k := 10) rfl) f_MM_78 h0 rfl ?_
      refine v_icmp_ge (tgt := 42) (am_Dk d_MM_variable (k := 11) rfl) (by decide) (fun c1 => ?_) (fun c1 => ?_)
      · have Nc1 := (nI_leI (a := c) (b := i) (by omega) (by omega)).mp c1
        refine v_iconst (v := (-1)) (am_Dk d_MM_variable (k := 24) rfl) (by decide) ?_
        exact v_ireturn (am_Dk d_MM_variable (k := 25) rfl) rfl rfl (by omega) (by omega) ⟨by rw [show vfx c Vl Vg T F x = vfF (vmt Vl Vg (nmL F k) (nmW T F k)) c 0 from by rw [hxk]; rfl, ← hall]; rfl, rfl, rfl⟩
      · have Nc1 : ¬ c ≤ i := fun z => c1 ((nI_leI (a := c) (b := i) (by omega) (by omega)).mpr z)
        exfalso
        omega
    | succ m ih =>
      intro i him hall
      refine v_iload_n (am_Dk d_MM_variable (k := 8) rfl) rfl ?_
      refine v_aload_n (am_Dk d_MM_variable (k := 9) rfl) rfl ?_
      refine v_get (am_Dk d_MM_variable (k := 10) rfl) f_MM_78 h0 rfl ?_
      refine v_icmp_ge (tgt := 42) (am_Dk d_MM_variable (k := 11) rfl) (by decide) (fun c1 => ?_) (fun c1 => ?_)
      · have Nc1 := (nI_leI (a := c) (b := i) (by omega) (by omega)).mp c1
        exfalso
        omega
      · have Nc1 : ¬ c ≤ i := fun z => c1 ((nI_leI (a := c) (b := i) (by omega) (by omega)).mpr z)
        refine v_iload_n (am_Dk d_MM_variable (k := 12) rfl) rfl ?_
        refine v_iconst (v := (-1)) (am_Dk d_MM_variable (k := 13) rfl) (by decide) ?_
        refine v_icmp_eq (tgt := 42) (am_Dk d_MM_variable (k := 14) rfl) (by decide) (fun c2 => ?_) (fun c2 => ?_)
        · exact absurd c2 (nI_nm1 (by omega))
        · refine v_aload_n (am_Dk d_MM_variable (k := 15) rfl) rfl ?_
          refine v_iload_n (am_Dk d_MM_variable (k := 16) rfl) rfl ?_
          refine v_iload_n (am_Dk d_MM_variable (k := 17) rfl) rfl ?_
          refine v_callV (rest := []) (As := [.int (nI i), .int (nI k)]) (mc' := 0) (ms' := 0) (am_Dk d_MM_variable (k := 18) rfl) c_MM_81 (Or.inl ⟨_, _, _, _, _, h0, cq_ok9⟩) (t_MM_sameName G (d := 1) (by omega) hT9 h0 hNM hk hns htx (show i < c from by omega)) (by omega) (by omega) (by omega) (by simp [Value.category]) rfl (fun v3 M4 n5 h6 => ?_) (fun _ _ _ h6 => ?_)
          rotate_left
          · exact absurd h6.1 (by simp)
          obtain ⟨h6, e7, e8⟩ := h6
          replace e7 := e7.symm
          replace e8 := e8.symm
          subst e7
          subst e8
          cases h6
          show am_V G _ _ _ _ _ 31 [(3, .int (nI i)), (2, .int (nI k)), (0, .ref 1211), (1, .int (nI v))] [.int (bi (vmt Vl Vg (nmL F k) (nmW T F k) i))] M nx 0 0
          refine v_if_eq (tgt := 36) (am_Dk d_MM_variable (k := 19) rfl) (by decide) (fun c9 => ?_) (fun c9 => ?_)
          · have hFa := bi0.mp c9
            refine v_iinc (v := nI (i + 1)) (L1 := [(3, .int (nI (i + 1))), (2, .int (nI k)), (0, .ref 1211), (1, .int (nI v))]) (am_Dk d_MM_variable (k := 22) rfl) rfl (nI_1 _) (by decide) rfl ?_
            refine v_goto (tgt := 12) (am_Dk d_MM_variable (k := 23) rfl) (by decide) ?_
            exact ih (i + 1) (by omega) (by rw [← hall, vfF, if_neg (ne_true_of_eq_false hFa)])
          · have hTr := bi1 c9
            refine v_iload_n (am_Dk d_MM_variable (k := 20) rfl) rfl ?_
            exact v_ireturn (am_Dk d_MM_variable (k := 21) rfl) rfl rfl (by omega) (by omega) ⟨by rw [show vfx c Vl Vg T F x = vfF (vmt Vl Vg (nmL F k) (nmW T F k)) c 0 from by rw [hxk]; rfl, ← hall, vfF, if_pos hTr]; rfl, rfl, rfl⟩
  rcases hx with ⟨hx, hv1⟩ | ⟨k, hx, hkn, hv1⟩
  · refine v_aload_n (am_Dk d_MM_variable (k := 0) rfl) rfl ?_
    refine v_get (am_Dk d_MM_variable (k := 1) rfl) f_MM_36 h0 rfl ?_
    refine v_get9 (am_Dk d_MM_variable (k := 2) rfl) r_MM_75 h12 rfl ?_
    refine v_iload_n (am_Dk d_MM_variable (k := 3) rfl) rfl ?_
    refine v_iald (am_Dk d_MM_variable (k := 4) rfl) hVa rfl (vp_in_nI (by omega) (by omega)) ?_
    rw [nI_clamp (n := v) (by omega)]
    rw [show Va v = -1 from hv1]
    refine v_istore_n (L1 := [(2, .int (-1)), (0, .ref 1211), (1, .int (nI v))]) (am_Dk d_MM_variable (k := 5) rfl) (by decide) rfl ?_
    refine v_iconst (v := 0) (am_Dk d_MM_variable (k := 6) rfl) (by decide) ?_
    refine v_istore_n (L1 := [(3, .int 0), (2, .int (-1)), (0, .ref 1211), (1, .int (nI v))]) (am_Dk d_MM_variable (k := 7) rfl) (by decide) rfl ?_
    refine v_iload_n (am_Dk d_MM_variable (k := 8) rfl) rfl ?_
    refine v_aload_n (am_Dk d_MM_variable (k := 9) rfl) rfl ?_
    refine v_get (am_Dk d_MM_variable (k := 10) rfl) f_MM_78 h0 rfl ?_
    refine v_icmp_ge (tgt := 42) (am_Dk d_MM_variable (k := 11) rfl) (by decide) (fun c1 => ?_) (fun c1 => ?_)
    · refine v_iconst (v := (-1)) (am_Dk d_MM_variable (k := 24) rfl) (by decide) ?_
      exact v_ireturn (am_Dk d_MM_variable (k := 25) rfl) rfl rfl (by omega) (by omega) ⟨by rw [hx]; rfl, rfl, rfl⟩
    · refine v_iload_n (am_Dk d_MM_variable (k := 12) rfl) rfl ?_
      refine v_iconst (v := (-1)) (am_Dk d_MM_variable (k := 13) rfl) (by decide) ?_
      refine v_icmp_eq (tgt := 42) (am_Dk d_MM_variable (k := 14) rfl) (by decide) (fun c2 => ?_) (fun c2 => ?_)
      · refine v_iconst (v := (-1)) (am_Dk d_MM_variable (k := 24) rfl) (by decide) ?_
        exact v_ireturn (am_Dk d_MM_variable (k := 25) rfl) rfl rfl (by omega) (by omega) ⟨by rw [hx]; rfl, rfl, rfl⟩
      · exact absurd (by decide) c2
  · refine v_aload_n (am_Dk d_MM_variable (k := 0) rfl) rfl ?_
    refine v_get (am_Dk d_MM_variable (k := 1) rfl) f_MM_36 h0 rfl ?_
    refine v_get9 (am_Dk d_MM_variable (k := 2) rfl) r_MM_75 h12 rfl ?_
    refine v_iload_n (am_Dk d_MM_variable (k := 3) rfl) rfl ?_
    refine v_iald (am_Dk d_MM_variable (k := 4) rfl) hVa rfl (vp_in_nI (by omega) (by omega)) ?_
    rw [nI_clamp (n := v) (by omega)]
    rw [show Va v = nI k from hv1]
    refine v_istore_n (L1 := [(2, .int (nI k)), (0, .ref 1211), (1, .int (nI v))]) (am_Dk d_MM_variable (k := 5) rfl) (by decide) rfl ?_
    refine v_iconst (v := 0) (am_Dk d_MM_variable (k := 6) rfl) (by decide) ?_
    refine v_istore_n (L1 := [(3, .int 0), (2, .int (nI k)), (0, .ref 1211), (1, .int (nI v))]) (am_Dk d_MM_variable (k := 7) rfl) (by decide) rfl ?_
    exact v_drop (hlp k hkn hx c 0 (by omega) rfl) (by simp [nI_0])
