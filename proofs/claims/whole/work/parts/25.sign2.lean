/-! THE SIGNS OF THE CLASS, SECOND HALF (mine; rows laid by the walker) -/
theorem en_oN_0 : (0, "java/lang/Enum", "ordinal", "I", Value.int (nI 0)) ∈ am_kf := by decide +kernel
theorem en_oN_1 : (1, "java/lang/Enum", "ordinal", "I", Value.int (nI 1)) ∈ am_kf := by decide +kernel
theorem en_oN_2 : (2, "java/lang/Enum", "ordinal", "I", Value.int (nI 2)) ∈ am_kf := by decide +kernel
theorem en_oN_3 : (3, "java/lang/Enum", "ordinal", "I", Value.int (nI 3)) ∈ am_kf := by decide +kernel
theorem en_oN_4 : (4, "java/lang/Enum", "ordinal", "I", Value.int (nI 4)) ∈ am_kf := by decide +kernel
theorem en_oN_5 : (5, "java/lang/Enum", "ordinal", "I", Value.int (nI 5)) ∈ am_kf := by decide +kernel
theorem en_oN_6 : (6, "java/lang/Enum", "ordinal", "I", Value.int (nI 6)) ∈ am_kf := by decide +kernel
theorem en_oN_7 : (7, "java/lang/Enum", "ordinal", "I", Value.int (nI 7)) ∈ am_kf := by decide +kernel
theorem en_oN_8 : (8, "java/lang/Enum", "ordinal", "I", Value.int (nI 8)) ∈ am_kf := by decide +kernel
theorem en_oN_9 : (9, "java/lang/Enum", "ordinal", "I", Value.int (nI 9)) ∈ am_kf := by decide +kernel
theorem en_oN_10 : (10, "java/lang/Enum", "ordinal", "I", Value.int (nI 10)) ∈ am_kf := by decide +kernel
theorem en_oN_11 : (11, "java/lang/Enum", "ordinal", "I", Value.int (nI 11)) ∈ am_kf := by decide +kernel
theorem en_oN_12 : (12, "java/lang/Enum", "ordinal", "I", Value.int (nI 12)) ∈ am_kf := by decide +kernel
theorem en_oN_13 : (13, "java/lang/Enum", "ordinal", "I", Value.int (nI 13)) ∈ am_kf := by decide +kernel
theorem en_oN_14 : (14, "java/lang/Enum", "ordinal", "I", Value.int (nI 14)) ∈ am_kf := by decide +kernel
theorem en_oN_15 : (15, "java/lang/Enum", "ordinal", "I", Value.int (nI 15)) ∈ am_kf := by decide +kernel
theorem en_oN_16 : (16, "java/lang/Enum", "ordinal", "I", Value.int (nI 16)) ∈ am_kf := by decide +kernel
theorem en_oN_17 : (17, "java/lang/Enum", "ordinal", "I", Value.int (nI 17)) ∈ am_kf := by decide +kernel
theorem en_oN_18 : (18, "java/lang/Enum", "ordinal", "I", Value.int (nI 18)) ∈ am_kf := by decide +kernel
theorem en_oN_19 : (19, "java/lang/Enum", "ordinal", "I", Value.int (nI 19)) ∈ am_kf := by decide +kernel
theorem en_oN_20 : (20, "java/lang/Enum", "ordinal", "I", Value.int (nI 20)) ∈ am_kf := by decide +kernel
theorem en_oN_21 : (21, "java/lang/Enum", "ordinal", "I", Value.int (nI 21)) ∈ am_kf := by decide +kernel
theorem en_oN_22 : (22, "java/lang/Enum", "ordinal", "I", Value.int (nI 22)) ∈ am_kf := by decide +kernel
theorem en_oN_23 : (23, "java/lang/Enum", "ordinal", "I", Value.int (nI 23)) ∈ am_kf := by decide +kernel
theorem en_oN_24 : (24, "java/lang/Enum", "ordinal", "I", Value.int (nI 24)) ∈ am_kf := by decide +kernel
theorem en_oN_25 : (25, "java/lang/Enum", "ordinal", "I", Value.int (nI 25)) ∈ am_kf := by decide +kernel
theorem en_oN : ∀ k, k < 26 → (k, "java/lang/Enum", "ordinal", "I", Value.int (nI k)) ∈ am_kf
  | 0, _ => en_oN_0
  | 1, _ => en_oN_1
  | 2, _ => en_oN_2
  | 3, _ => en_oN_3
  | 4, _ => en_oN_4
  | 5, _ => en_oN_5
  | 6, _ => en_oN_6
  | 7, _ => en_oN_7
  | 8, _ => en_oN_8
  | 9, _ => en_oN_9
  | 10, _ => en_oN_10
  | 11, _ => en_oN_11
  | 12, _ => en_oN_12
  | 13, _ => en_oN_13
  | 14, _ => en_oN_14
  | 15, _ => en_oN_15
  | 16, _ => en_oN_16
  | 17, _ => en_oN_17
  | 18, _ => en_oN_18
  | 19, _ => en_oN_19
  | 20, _ => en_oN_20
  | 21, _ => en_oN_21
  | 22, _ => en_oN_22
  | 23, _ => en_oN_23
  | 24, _ => en_oN_24
  | 25, _ => en_oN_25
  | k + 26, h => absurd h (by omega)
theorem en_oK_0 : (26, "java/lang/Enum", "ordinal", "I", Value.int (nI 0)) ∈ am_kf := by decide +kernel
theorem en_oK_1 : (27, "java/lang/Enum", "ordinal", "I", Value.int (nI 1)) ∈ am_kf := by decide +kernel
theorem en_oK_2 : (28, "java/lang/Enum", "ordinal", "I", Value.int (nI 2)) ∈ am_kf := by decide +kernel
theorem en_oK_3 : (29, "java/lang/Enum", "ordinal", "I", Value.int (nI 3)) ∈ am_kf := by decide +kernel
theorem en_oK_4 : (30, "java/lang/Enum", "ordinal", "I", Value.int (nI 4)) ∈ am_kf := by decide +kernel
theorem en_oK_5 : (31, "java/lang/Enum", "ordinal", "I", Value.int (nI 5)) ∈ am_kf := by decide +kernel
theorem en_oK_6 : (32, "java/lang/Enum", "ordinal", "I", Value.int (nI 6)) ∈ am_kf := by decide +kernel
theorem en_oK_7 : (33, "java/lang/Enum", "ordinal", "I", Value.int (nI 7)) ∈ am_kf := by decide +kernel
theorem en_oK_8 : (34, "java/lang/Enum", "ordinal", "I", Value.int (nI 8)) ∈ am_kf := by decide +kernel
theorem en_oK_9 : (35, "java/lang/Enum", "ordinal", "I", Value.int (nI 9)) ∈ am_kf := by decide +kernel
theorem en_oK_10 : (36, "java/lang/Enum", "ordinal", "I", Value.int (nI 10)) ∈ am_kf := by decide +kernel
theorem en_oK_11 : (37, "java/lang/Enum", "ordinal", "I", Value.int (nI 11)) ∈ am_kf := by decide +kernel
theorem en_oK : ∀ k, k < 12 → (26 + k, "java/lang/Enum", "ordinal", "I", Value.int (nI k)) ∈ am_kf
  | 0, _ => en_oK_0
  | 1, _ => en_oK_1
  | 2, _ => en_oK_2
  | 3, _ => en_oK_3
  | 4, _ => en_oK_4
  | 5, _ => en_oK_5
  | 6, _ => en_oK_6
  | 7, _ => en_oK_7
  | 8, _ => en_oK_8
  | 9, _ => en_oK_9
  | 10, _ => en_oK_10
  | 11, _ => en_oK_11
  | k + 12, h => absurd h (by omega)
theorem en_oR_0 : (38, "java/lang/Enum", "ordinal", "I", Value.int (nI 0)) ∈ am_kf := by decide +kernel
theorem en_oR_1 : (39, "java/lang/Enum", "ordinal", "I", Value.int (nI 1)) ∈ am_kf := by decide +kernel
theorem en_oR_2 : (40, "java/lang/Enum", "ordinal", "I", Value.int (nI 2)) ∈ am_kf := by decide +kernel
theorem en_oR_3 : (41, "java/lang/Enum", "ordinal", "I", Value.int (nI 3)) ∈ am_kf := by decide +kernel
theorem en_oR_4 : (42, "java/lang/Enum", "ordinal", "I", Value.int (nI 4)) ∈ am_kf := by decide +kernel
theorem en_oR_5 : (43, "java/lang/Enum", "ordinal", "I", Value.int (nI 5)) ∈ am_kf := by decide +kernel
theorem en_oR_6 : (44, "java/lang/Enum", "ordinal", "I", Value.int (nI 6)) ∈ am_kf := by decide +kernel
theorem en_oR : ∀ k, k < 7 → (38 + k, "java/lang/Enum", "ordinal", "I", Value.int (nI k)) ∈ am_kf
  | 0, _ => en_oR_0
  | 1, _ => en_oR_1
  | 2, _ => en_oR_2
  | 3, _ => en_oR_3
  | 4, _ => en_oR_4
  | 5, _ => en_oR_5
  | 6, _ => en_oR_6
  | k + 7, h => absurd h (by omega)
theorem en_eq {G : am_G} (hO : am_Ok G) {i j a b : Nat} (ha : a < 100) (hb : b < 100) (h1 : (i, "java/lang/Enum", "ordinal", "I", Value.int (nI a)) ∈ am_kf) (h2 : (j, "java/lang/Enum", "ordinal", "I", Value.int (nI b)) ∈ am_kf) (h : am_ad G i = am_ad G j) : a = b := by
  have e1 := hO.2.2.2.2.2.1 _ h1
  have e2 := hO.2.2.2.2.2.1 _ h2
  obtain ⟨cf, k, x, f, cell, p1, p2, p3, p4, p5, -⟩ := e1
  obtain ⟨cf', k', x', f', cell', q1, q2, q3, q4, q5, -⟩ := e2
  cases p1.symm.trans q1
  dsimp only at p3 q3
  rw [h] at p3
  cases p3.symm.trans q3
  have e3 := p5.symm.trans q5
  have e4 : nI a = nI b := by
    have : (Value.int (nI a)) = Value.int (nI b) := Option.some.inj e3
    exact Value.int.inj this
  exact (nI_eq (by omega) (by omega)).mp e4
theorem en_N {G : am_G} {i j : Nat} (hi : i < 26) (hj : j < 26) (hO : am_Ok G) (h : (some i).map (am_ad G) = (some j).map (am_ad G)) : some i = some j := by
  rw [en_eq hO (by omega) (by omega) (en_oN i hi) (en_oN j hj) (Option.some.inj h)]
theorem en_K {G : am_G} {i j : Nat} (hi : 26 ≤ i ∧ i < 38) (hj : 26 ≤ j ∧ j < 38) (hO : am_Ok G) (h : (some i).map (am_ad G) = (some j).map (am_ad G)) : some i = some j := by
  obtain ⟨a, rfl⟩ : ∃ a, i = 26 + a := ⟨i - 26, by omega⟩
  obtain ⟨b, rfl⟩ : ∃ b, j = 26 + b := ⟨j - 26, by omega⟩
  rw [en_eq hO (by omega) (by omega) (en_oK a (by omega)) (en_oK b (by omega)) (Option.some.inj h)]
theorem mkK_rng (x : Int32) : (26 ≤ mkK x ∧ mkK x < 38) ∧ ¬ mkK x = 28 ∧ 26 + (mkK x - 26) = mkK x := by
  unfold mkK
  repeat' split
  all_goals decide
theorem tb_in {f : Nat → Int32} {n i : Nat} {c : Int32} (h : tb f n i = c) (hc : ¬ (-1 : Int32) = c) : i < n := by
  by_cases hi : i < n
  · exact hi
  · rw [tb, if_neg hi] at h
    exact absurd h hc
theorem pb_rng (g : Nat → Int32) (n : Nat) : ∀ m i c, i + m = n → i ≤ pbF g n m i c ∧ pbF g n m i c ≤ n
  | 0, i, c, h => by rw [pbF]; omega
  | m + 1, i, c, h => by
    have h1 := pb_rng g n m (i + 1) (decide (¬ g i = 10)) (by omega)
    have h2 := pb_rng g n m (i + 1) true (by omega)
    have h3 := pb_rng g n m (i + 1) false (by omega)
    rw [pbF]
    repeat' split
    all_goals omega
theorem plt_rng (g : Nat → Int32) (n : Nat) : ∀ m i, i + m = n → i ≤ pltF g n m i ∧ pltF g n m i ≤ n
  | 0, i, h => by rw [pltF]; omega
  | m + 1, i, h => by
    have h1 := plt_rng g n m (i + 1) (by omega)
    rw [pltF]
    repeat' split
    all_goals omega
theorem py_rng (g : Nat → Int32) (n : Nat) : ∀ m i, i + m = n → i ≤ pyF g n m i ∧ pyF g n m i ≤ n
  | 0, i, h => by rw [pyF]; omega
  | m + 1, i, h => by
    have h1 := py_rng g n m (i + 1) (by omega)
    rw [pyF]
    repeat' split
    all_goals omega
theorem dv_rng (g : Nat → Int32) (n : Nat) : ∀ m i v, i + m = n → i ≤ (dvF g n m i v).1 ∧ (dvF g n m i v).1 ≤ n
  | 0, i, v, h => by rw [dvF]; dsimp only; omega
  | m + 1, i, v, h => by
    have h1 := dv_rng g n m (i + 1) (jmin (v * 10 + (g i).toInt64 - 48) 9007199254740992) (by omega)
    rw [dvF]
    split
    · omega
    · dsimp only; omega
theorem qd_rng (g : Nat → Int32) (n : Nat) : ∀ m i, i ≤ qdF g n m i
  | 0, i => by rw [qdF]; omega
  | m + 1, i => by
    have h1 := qd_rng g n m (i + 1)
    have h2 := qd_rng g n m (i + 2)
    rw [qdF]
    repeat' split
    all_goals omega
set_option maxRecDepth 20000 in
theorem l_Sg_becomeInteger1 (G : am_G) {d nx : Nat} (hd : 1 ≤ d) {M : am_M} {f : Nat → Int32} {n : Nat} (h1 : M 1001 = some (.inr (1, [.ref 1002, .int (nI n)]))) (h2 : M 1002 = some (.inl (0, 4096, .inl f))) (hn : n ≤ 4096) {kd nm p : Nat} {af nf nt : Int32} {I : Nat} {V : Int64} : ∀ m i v, i + m = n → dvF (tb f n) n m i v = (I, V) → am_V G m_Sg_becomeInteger d 0 0 (fun r M1 nx1 => (9007199254740991 < V ∧ r = .inl none ∧ M1 = am_up M 1006 (.inr (6, [.ref 1001, .ref 37, .int (nI p), .int (nI I), .long V, .ref nm, .int nf, .int nt])) ∧ nx1 = nx) ∨ (¬ 9007199254740991 < V ∧ r = .inl none ∧ M1 = am_up M 1006 (.inr (6, [.ref 1001, .ref 27, .int (nI p), .int (nI I), .long V, .ref nm, .int nf, .int nt])) ∧ nx1 = nx)) 10 [(1, .int (nI i)), (0, .ref 1006)] [] (am_up M 1006 (.inr (6, [.ref 1001, .ref kd, .int (nI p), .int af, .long v, .ref nm, .int nf, .int nt]))) nx 0 0 := by
  intro m
  induction m with
  | zero =>
    intro i v him he
    rw [dvF] at he
    have hI : i = I := congrArg Prod.fst he
    have hV : v = V := congrArg Prod.snd he
    subst hI
    subst hV
    refine v_iload_n (am_Dk d_Sg_becomeInteger (k := 6) rfl) rfl ?_
    refine v_aload_n (am_Dk d_Sg_becomeInteger (k := 7) rfl) rfl ?_
    have m1 : (am_up M 1006 (.inr (6, [.ref 1001, .ref kd, .int (nI p), .int af, .long v, .ref nm, .int nf, .int nt]))) 1006 = some (.inr (6, [.ref 1001, .ref kd, .int (nI p), .int af, .long v, .ref nm, .int nf, .int nt])) := am_up_eq _ _ _
    refine v_get (am_Dk d_Sg_becomeInteger (k := 8) rfl) f_Sg_9 m1 rfl ?_
    have m2 : (am_up M 1006 (.inr (6, [.ref 1001, .ref kd, .int (nI p), .int af, .long v, .ref nm, .int nf, .int nt]))) 1001 = some (.inr (1, [.ref 1002, .int (nI n)])) := (am_up_ne (show 1001 ≠ 1006 from by decide)).trans (h1)
    refine v_get (am_Dk d_Sg_becomeInteger (k := 9) rfl) f_Sg_114 m2 rfl ?_
    refine v_icmp_ge (tgt := 73) (am_Dk d_Sg_becomeInteger (k := 10) rfl) (by decide) (fun c3 => ?_) (fun c3 => ?_)
    · have Nc3 := (nI_leI (a := n) (b := i) (by omega) (by omega)).mp c3
      refine v_aload_n (am_Dk d_Sg_becomeInteger (k := 35) rfl) rfl ?_
      refine v_aload_n (am_Dk d_Sg_becomeInteger (k := 36) rfl) rfl ?_
      refine v_get (am_Dk d_Sg_becomeInteger (k := 37) rfl) f_Sg_110 m1 rfl ?_
      refine v_ldc2 (am_Dk d_Sg_becomeInteger (k := 38) rfl) k_Sg_129 ?_
      refine v_lcmp (am_Dk d_Sg_becomeInteger (k := 39) rfl) ?_
      refine v_if_le (tgt := 91) (am_Dk d_Sg_becomeInteger (k := 40) rfl) (by decide) (fun c4 => ?_) (fun c4 => ?_)
      · have Nc4 := (lg_cmp_le _ _).mp c4
        refine v_gets (v := .ref 27) (am_Dk d_Sg_becomeInteger (k := 43) rfl) s_Sg_134 (by decide +kernel) ?_
        refine v_iload_n (am_Dk d_Sg_becomeInteger (k := 44) rfl) rfl ?_
        refine v_callV (rest := []) (As := [.ref 27, .int (nI i)]) (mc' := 0) (ms' := 0) (am_Dk d_Sg_becomeInteger (k := 45) rfl) c_Sg_63 (Or.inl ⟨_, _, _, _, _, m1, cq_ok6⟩) (t_Sg_become G (d := 0) (by omega) m1) (by omega) (by omega) (by omega) (by simp [Value.category]) rfl (fun v5 M6 n7 h8 => ?_) (fun _ _ _ h8 => ?_)
        rotate_left
        · exact absurd h8.1 (by simp)
        obtain ⟨h8, e9, e10⟩ := h8
        replace e9 := e9.symm
        replace e10 := e10.symm
        subst e9
        subst e10
        cases h8
        rw [am_uu0 (a := 1006)]
        show am_V G _ _ _ _ _ 98 [(1, .int (nI i)), (0, .ref 1006)] [] (am_up M 1006 (.inr (6, [.ref 1001, .ref 27, .int (nI p), .int (nI i), .long v, .ref nm, .int nf, .int nt]))) nx 0 0
        exact v_return (am_Dk d_Sg_becomeInteger (k := 46) rfl) rfl (by omega) (by omega) (Or.inr ⟨Int64.not_lt.mpr (by assumption), rfl, rfl, rfl⟩)
      · have Nc4 := fun z => c4 ((lg_cmp_le _ _).mpr z)
        refine v_gets (v := .ref 37) (am_Dk d_Sg_becomeInteger (k := 41) rfl) s_Sg_131 (by decide +kernel) ?_
        refine v_goto (tgt := 94) (am_Dk d_Sg_becomeInteger (k := 42) rfl) (by decide) ?_
        refine v_iload_n (am_Dk d_Sg_becomeInteger (k := 44) rfl) rfl ?_
        refine v_callV (rest := []) (As := [.ref 37, .int (nI i)]) (mc' := 0) (ms' := 0) (am_Dk d_Sg_becomeInteger (k := 45) rfl) c_Sg_63 (Or.inl ⟨_, _, _, _, _, m1, cq_ok6⟩) (t_Sg_become G (d := 0) (by omega) m1) (by omega) (by omega) (by omega) (by simp [Value.category]) rfl (fun v11 M12 n13 h14 => ?_) (fun _ _ _ h14 => ?_)
        rotate_left
        · exact absurd h14.1 (by simp)
        obtain ⟨h14, e15, e16⟩ := h14
        replace e15 := e15.symm
        replace e16 := e16.symm
        subst e15
        subst e16
        cases h14
        rw [am_uu0 (a := 1006)]
        show am_V G _ _ _ _ _ 98 [(1, .int (nI i)), (0, .ref 1006)] [] (am_up M 1006 (.inr (6, [.ref 1001, .ref 37, .int (nI p), .int (nI i), .long v, .ref nm, .int nf, .int nt]))) nx 0 0
        exact v_return (am_Dk d_Sg_becomeInteger (k := 46) rfl) rfl (by omega) (by omega) (Or.inl ⟨Int64.not_le.mp (by assumption), rfl, rfl, rfl⟩)
    · have Nc3 : ¬ n ≤ i := fun z => c3 ((nI_leI (a := n) (b := i) (by omega) (by omega)).mpr z)
      exfalso
      omega
  | succ m ih =>
    intro i v him he
    rw [dvF] at he
    refine v_iload_n (am_Dk d_Sg_becomeInteger (k := 6) rfl) rfl ?_
    refine v_aload_n (am_Dk d_Sg_becomeInteger (k := 7) rfl) rfl ?_
    have m1 : (am_up M 1006 (.inr (6, [.ref 1001, .ref kd, .int (nI p), .int af, .long v, .ref nm, .int nf, .int nt]))) 1006 = some (.inr (6, [.ref 1001, .ref kd, .int (nI p), .int af, .long v, .ref nm, .int nf, .int nt])) := am_up_eq _ _ _
    refine v_get (am_Dk d_Sg_becomeInteger (k := 8) rfl) f_Sg_9 m1 rfl ?_
    have m2 : (am_up M 1006 (.inr (6, [.ref 1001, .ref kd, .int (nI p), .int af, .long v, .ref nm, .int nf, .int nt]))) 1001 = some (.inr (1, [.ref 1002, .int (nI n)])) := (am_up_ne (show 1001 ≠ 1006 from by decide)).trans (h1)
    refine v_get (am_Dk d_Sg_becomeInteger (k := 9) rfl) f_Sg_114 m2 rfl ?_
    refine v_icmp_ge (tgt := 73) (am_Dk d_Sg_becomeInteger (k := 10) rfl) (by decide) (fun c3 => ?_) (fun c3 => ?_)
    · have Nc3 := (nI_leI (a := n) (b := i) (by omega) (by omega)).mp c3
      exfalso
      omega
    · have Nc3 : ¬ n ≤ i := fun z => c3 ((nI_leI (a := n) (b := i) (by omega) (by omega)).mpr z)
      refine v_aload_n (am_Dk d_Sg_becomeInteger (k := 11) rfl) rfl ?_
      refine v_get (am_Dk d_Sg_becomeInteger (k := 12) rfl) f_Sg_9 m1 rfl ?_
      refine v_iload_n (am_Dk d_Sg_becomeInteger (k := 13) rfl) rfl ?_
      have m4 : (am_up M 1006 (.inr (6, [.ref 1001, .ref kd, .int (nI p), .int af, .long v, .ref nm, .int nf, .int nt]))) 1002 = some (.inl (0, 4096, .inl f)) := (am_up_ne (show 1002 ≠ 1006 from by decide)).trans (h2)
      refine v_callV (rest := []) (As := [.int (nI i)]) (mc' := 0) (ms' := 0) (am_Dk d_Sg_becomeInteger (k := 14) rfl) c_Sg_47 (Or.inl ⟨_, _, _, _, _, m2, cq_ok1⟩) (t_Tape_at G (d := 0) (i := i) (by omega) m2 m4 (by omega) (by omega)) (by omega) (by omega) (by omega) (by simp [Value.category]) rfl (fun v5 M6 n7 h8 => ?_) (fun _ _ _ h8 => ?_)
      rotate_left
      · exact absurd h8.1 (by simp)
      obtain ⟨h8, e9, e10⟩ := h8
      replace e9 := e9.symm
      replace e10 := e10.symm
      subst e9
      subst e10
      cases h8
      show am_V G _ _ _ _ _ 29 [(1, .int (nI i)), (0, .ref 1006)] [.int (tb f n i)] (am_up M 1006 (.inr (6, [.ref 1001, .ref kd, .int (nI p), .int af, .long v, .ref nm, .int nf, .int nt]))) nx 0 0
      refine v_callS (rest := []) (As := [.int (tb f n i)]) (mc' := 0) (ms' := 0) (am_Dk d_Sg_becomeInteger (k := 15) rfl) c_Sg_67 (t_Sg_isDigit G (d := 0)) (by omega) (by omega) (by omega) (by simp [Value.category]) rfl (fun v11 M12 n13 h14 => ?_) (fun _ _ _ h14 => ?_)
      rotate_left
      · exact absurd h14.1 (by simp)
      obtain ⟨h14, e15, e16⟩ := h14
      replace e15 := e15.symm
      replace e16 := e16.symm
      subst e15
      subst e16
      cases h14
      show am_V G _ _ _ _ _ 32 [(1, .int (nI i)), (0, .ref 1006)] [.int (bi (dgB (tb f n i)))] (am_up M 1006 (.inr (6, [.ref 1001, .ref kd, .int (nI p), .int af, .long v, .ref nm, .int nf, .int nt]))) nx 0 0
      refine v_if_eq (tgt := 73) (am_Dk d_Sg_becomeInteger (k := 16) rfl) (by decide) (fun c17 => ?_) (fun c17 => ?_)
      · rw [if_neg (by rw [bi0.mp c17]; decide)] at he
        have hI : i = I := congrArg Prod.fst he
        have hV : v = V := congrArg Prod.snd he
        subst hI
        subst hV
        refine v_aload_n (am_Dk d_Sg_becomeInteger (k := 35) rfl) rfl ?_
        refine v_aload_n (am_Dk d_Sg_becomeInteger (k := 36) rfl) rfl ?_
        refine v_get (am_Dk d_Sg_becomeInteger (k := 37) rfl) f_Sg_110 m1 rfl ?_
        refine v_ldc2 (am_Dk d_Sg_becomeInteger (k := 38) rfl) k_Sg_129 ?_
        refine v_lcmp (am_Dk d_Sg_becomeInteger (k := 39) rfl) ?_
        refine v_if_le (tgt := 91) (am_Dk d_Sg_becomeInteger (k := 40) rfl) (by decide) (fun c18 => ?_) (fun c18 => ?_)
        · have Nc18 := (lg_cmp_le _ _).mp c18
          refine v_gets (v := .ref 27) (am_Dk d_Sg_becomeInteger (k := 43) rfl) s_Sg_134 (by decide +kernel) ?_
          refine v_iload_n (am_Dk d_Sg_becomeInteger (k := 44) rfl) rfl ?_
          refine v_callV (rest := []) (As := [.ref 27, .int (nI i)]) (mc' := 0) (ms' := 0) (am_Dk d_Sg_becomeInteger (k := 45) rfl) c_Sg_63 (Or.inl ⟨_, _, _, _, _, m1, cq_ok6⟩) (t_Sg_become G (d := 0) (by omega) m1) (by omega) (by omega) (by omega) (by simp [Value.category]) rfl (fun v19 M20 n21 h22 => ?_) (fun _ _ _ h22 => ?_)
          rotate_left
          · exact absurd h22.1 (by simp)
          obtain ⟨h22, e23, e24⟩ := h22
          replace e23 := e23.symm
          replace e24 := e24.symm
          subst e23
          subst e24
          cases h22
          rw [am_uu0 (a := 1006)]
          show am_V G _ _ _ _ _ 98 [(1, .int (nI i)), (0, .ref 1006)] [] (am_up M 1006 (.inr (6, [.ref 1001, .ref 27, .int (nI p), .int (nI i), .long v, .ref nm, .int nf, .int nt]))) nx 0 0
          exact v_return (am_Dk d_Sg_becomeInteger (k := 46) rfl) rfl (by omega) (by omega) (Or.inr ⟨Int64.not_lt.mpr (by assumption), rfl, rfl, rfl⟩)
        · have Nc18 := fun z => c18 ((lg_cmp_le _ _).mpr z)
          refine v_gets (v := .ref 37) (am_Dk d_Sg_becomeInteger (k := 41) rfl) s_Sg_131 (by decide +kernel) ?_
          refine v_goto (tgt := 94) (am_Dk d_Sg_becomeInteger (k := 42) rfl) (by decide) ?_
          refine v_iload_n (am_Dk d_Sg_becomeInteger (k := 44) rfl) rfl ?_
          refine v_callV (rest := []) (As := [.ref 37, .int (nI i)]) (mc' := 0) (ms' := 0) (am_Dk d_Sg_becomeInteger (k := 45) rfl) c_Sg_63 (Or.inl ⟨_, _, _, _, _, m1, cq_ok6⟩) (t_Sg_become G (d := 0) (by omega) m1) (by omega) (by omega) (by omega) (by simp [Value.category]) rfl (fun v25 M26 n27 h28 => ?_) (fun _ _ _ h28 => ?_)
          rotate_left
          · exact absurd h28.1 (by simp)
          obtain ⟨h28, e29, e30⟩ := h28
          replace e29 := e29.symm
          replace e30 := e30.symm
          subst e29
          subst e30
          cases h28
          rw [am_uu0 (a := 1006)]
          show am_V G _ _ _ _ _ 98 [(1, .int (nI i)), (0, .ref 1006)] [] (am_up M 1006 (.inr (6, [.ref 1001, .ref 37, .int (nI p), .int (nI i), .long v, .ref nm, .int nf, .int nt]))) nx 0 0
          exact v_return (am_Dk d_Sg_becomeInteger (k := 46) rfl) rfl (by omega) (by omega) (Or.inl ⟨Int64.not_le.mp (by assumption), rfl, rfl, rfl⟩)
      · rw [if_pos (bi1 c17)] at he
        refine v_aload_n (am_Dk d_Sg_becomeInteger (k := 17) rfl) rfl ?_
        refine v_aload_n (am_Dk d_Sg_becomeInteger (k := 18) rfl) rfl ?_
        refine v_get (am_Dk d_Sg_becomeInteger (k := 19) rfl) f_Sg_110 m1 rfl ?_
        refine v_ldc2 (am_Dk d_Sg_becomeInteger (k := 20) rfl) k_Sg_117 ?_
        refine v_lmul (am_Dk d_Sg_becomeInteger (k := 21) rfl) ?_
        refine v_aload_n (am_Dk d_Sg_becomeInteger (k := 22) rfl) rfl ?_
        refine v_get (am_Dk d_Sg_becomeInteger (k := 23) rfl) f_Sg_9 m1 rfl ?_
        refine v_iload_n (am_Dk d_Sg_becomeInteger (k := 24) rfl) rfl ?_
        refine v_callV (rest := [.long ((v) * (10)), .ref 1006]) (As := [.int (nI i)]) (mc' := 0) (ms' := 0) (am_Dk d_Sg_becomeInteger (k := 25) rfl) c_Sg_47 (Or.inl ⟨_, _, _, _, _, m2, cq_ok1⟩) (t_Tape_at G (d := 0) (i := i) (by omega) m2 m4 (by omega) (by omega)) (by omega) (by omega) (by omega) (by simp [Value.category]) rfl (fun v31 M32 n33 h34 => ?_) (fun _ _ _ h34 => ?_)
        rotate_left
        · exact absurd h34.1 (by simp)
        obtain ⟨h34, e35, e36⟩ := h34
        replace e35 := e35.symm
        replace e36 := e36.symm
        subst e35
        subst e36
        cases h34
        show am_V G _ _ _ _ _ 52 [(1, .int (nI i)), (0, .ref 1006)] [.int (tb f n i), .long ((v) * (10)), .ref 1006] (am_up M 1006 (.inr (6, [.ref 1001, .ref kd, .int (nI p), .int af, .long v, .ref nm, .int nf, .int nt]))) nx 0 0
        refine v_i2l (am_Dk d_Sg_becomeInteger (k := 26) rfl) rfl ?_
        refine v_ladd (am_Dk d_Sg_becomeInteger (k := 27) rfl) ?_
        refine v_ldc2 (am_Dk d_Sg_becomeInteger (k := 28) rfl) k_Sg_119 ?_
        refine v_lsub (am_Dk d_Sg_becomeInteger (k := 29) rfl) ?_
        refine v_ldc2 (am_Dk d_Sg_becomeInteger (k := 30) rfl) k_Sg_121 ?_
        refine v_callS (rest := [.ref 1006]) (As := [.long ((((((v) * (10))) + ((Int32.toInt64 (tb f n i))))) - (48)), .long 9007199254740992]) (mc' := 0) (ms' := 0) (am_Dk d_Sg_becomeInteger (k := 31) rfl) c_Sg_123 (t_jM_min1 G (d := 0) (by omega)) (by omega) (by omega) (by omega) (by simp [Value.category]) rfl (fun v37 M38 n39 h40 => ?_) (fun _ _ _ h40 => ?_)
        rotate_left
        · exact absurd h40.1 (by simp)
        obtain ⟨h40, e41, e42⟩ := h40
        replace e41 := e41.symm
        replace e42 := e42.symm
        subst e41
        subst e42
        cases h40
        show am_V G _ _ _ _ _ 64 [(1, .int (nI i)), (0, .ref 1006)] [.long (jmin ((((((v) * (10))) + ((Int32.toInt64 (tb f n i))))) - (48)) 9007199254740992), .ref 1006] (am_up M 1006 (.inr (6, [.ref 1001, .ref kd, .int (nI p), .int af, .long v, .ref nm, .int nf, .int nt]))) nx 0 0
        refine v_put (am_Dk d_Sg_becomeInteger (k := 32) rfl) f_Sg_110 m1 (Nat.le_of_ble_eq_true rfl) rfl rfl ?_
        rw [am_uu0 (a := 1006)]
        refine v_iinc (v := nI (i + 1)) (L1 := [(1, .int (nI (i + 1))), (0, .ref 1006)]) (am_Dk d_Sg_becomeInteger (k := 33) rfl) rfl (nI_1 _) (by decide) rfl ?_
        refine v_goto (tgt := 10) (am_Dk d_Sg_becomeInteger (k := 34) rfl) (by decide) ?_
        exact ih (i + 1) _ (by omega) he
set_option maxRecDepth 20000 in
theorem t_Sg_becomeInteger (G : am_G) {d nx : Nat} (hd : 1 ≤ d) {M : am_M} {f : Nat → Int32} {n : Nat} (h1 : M 1001 = some (.inr (1, [.ref 1002, .int (nI n)]))) (h2 : M 1002 = some (.inl (0, 4096, .inl f))) (hn : n ≤ 4096) {kd nm p : Nat} {af nf nt : Int32} {nu : Int64} (hp : p ≤ n) (h6 : M 1006 = some (.inr (6, [.ref 1001, .ref kd, .int (nI p), .int af, .long nu, .ref nm, .int nf, .int nt]))) : am_Tr G m_Sg_becomeInteger d 0 0 [.ref 1006] M nx (fun r M1 nx1 => (9007199254740991 < (dv (tb f n) n p).2 ∧ r = .inl none ∧ M1 = am_up M 1006 (.inr (6, [.ref 1001, .ref 37, .int (nI p), .int (nI (dv (tb f n) n p).1), .long (dv (tb f n) n p).2, .ref nm, .int nf, .int nt])) ∧ nx1 = nx) ∨ (¬ 9007199254740991 < (dv (tb f n) n p).2 ∧ r = .inl none ∧ M1 = am_up M 1006 (.inr (6, [.ref 1001, .ref 27, .int (nI p), .int (nI (dv (tb f n) n p).1), .long (dv (tb f n) n p).2, .ref nm, .int nf, .int nt])) ∧ nx1 = nx)) := by
  refine am_TrOf (by decide) (Nat.le_of_ble_eq_true rfl) ?_
  show am_V G _ _ _ _ _ 0 [(0, .ref 1006)] [] M nx 0 0
  refine v_aload_n (am_Dk d_Sg_becomeInteger (k := 0) rfl) rfl ?_
  refine v_lconst (v := 0) (am_Dk d_Sg_becomeInteger (k := 1) rfl) (by decide) ?_
  refine v_put (am_Dk d_Sg_becomeInteger (k := 2) rfl) f_Sg_110 h6 (Nat.le_of_ble_eq_true rfl) rfl rfl ?_
  refine v_aload_n (am_Dk d_Sg_becomeInteger (k := 3) rfl) rfl ?_
  have m1 : (am_up M 1006 (.inr (6, [.ref 1001, .ref kd, .int (nI p), .int af, .long 0, .ref nm, .int nf, .int nt]))) 1006 = some (.inr (6, [.ref 1001, .ref kd, .int (nI p), .int af, .long 0, .ref nm, .int nf, .int nt])) := am_up_eq _ _ _
  refine v_get (am_Dk d_Sg_becomeInteger (k := 4) rfl) f_Sg_44 m1 rfl ?_
  refine v_istore_n (L1 := [(1, .int (nI p)), (0, .ref 1006)]) (am_Dk d_Sg_becomeInteger (k := 5) rfl) (by decide) rfl ?_
  exact l_Sg_becomeInteger1 G hd h1 h2 hn (n - p) p 0 (by omega) rfl
set_option maxRecDepth 20000 in
theorem t_Sg_isInsideQuotes (G : am_G) {d nx : Nat} (hd : 1 ≤ d) {M : am_M} {f : Nat → Int32} {n : Nat} (h1 : M 1001 = some (.inr (1, [.ref 1002, .int (nI n)]))) (h2 : M 1002 = some (.inl (0, 4096, .inl f))) (hn : n ≤ 4096) {kd nm : Nat} {pl af nf nt : Int32} {nu : Int64} {i : Nat} (hi : i < 50000) (h6 : M 1006 = some (.inr (6, [.ref 1001, .ref kd, .int pl, .int af, .long nu, .ref nm, .int nf, .int nt]))) : am_Tr G m_Sg_isInsideQuotes d 0 0 [.ref 1006, .int (nI i)] M nx (fun r M1 nx1 => r = .inl (some (.int (bi (inq (tb f n) i)))) ∧ M1 = M ∧ nx1 = nx) := by
  refine am_TrOf (by decide) (Nat.le_of_ble_eq_true rfl) ?_
  show am_V G _ _ _ _ _ 0 [(0, .ref 1006), (1, .int (nI i))] [] M nx 0 0
  refine v_aload_n (am_Dk d_Sg_isInsideQuotes (k := 0) rfl) rfl ?_
  refine v_get (am_Dk d_Sg_isInsideQuotes (k := 1) rfl) f_Sg_9 h6 rfl ?_
  refine v_iload_n (am_Dk d_Sg_isInsideQuotes (k := 2) rfl) rfl ?_
  refine v_callV (rest := []) (As := [.int (nI i)]) (mc' := 0) (ms' := 0) (am_Dk d_Sg_isInsideQuotes (k := 3) rfl) c_Sg_47 (Or.inl ⟨_, _, _, _, _, h1, cq_ok1⟩) (t_Tape_at G (d := 0) (i := i) (by omega) h1 h2 (by omega) (by omega)) (by omega) (by omega) (by omega) (by simp [Value.category]) rfl (fun v1 M2 n3 h4 => ?_) (fun _ _ _ h4 => ?_)
  rotate_left
  · exact absurd h4.1 (by simp)
  obtain ⟨h4, e5, e6⟩ := h4
  replace e5 := e5.symm
  replace e6 := e6.symm
  subst e5
  subst e6
  cases h4
  show am_V G _ _ _ _ _ 8 [(0, .ref 1006), (1, .int (nI i))] [.int (tb f n i)] M nx 0 0
  refine v_istore_n (L1 := [(2, .int (tb f n i)), (0, .ref 1006), (1, .int (nI i))]) (am_Dk d_Sg_isInsideQuotes (k := 4) rfl) (by decide) rfl ?_
  refine v_iload_n (am_Dk d_Sg_isInsideQuotes (k := 5) rfl) rfl ?_
  refine v_bipush (v := 39) (am_Dk d_Sg_isInsideQuotes (k := 6) rfl) (by decide) ?_
  refine v_icmp_ne (tgt := 38) (am_Dk d_Sg_isInsideQuotes (k := 7) rfl) (by decide) (fun c7 => ?_) (fun c7 => ?_)
  · refine v_iload_n (am_Dk d_Sg_isInsideQuotes (k := 20) rfl) rfl ?_
    refine v_bipush (v := 32) (am_Dk d_Sg_isInsideQuotes (k := 21) rfl) (by decide) ?_
    refine v_icmp_lt (tgt := 54) (am_Dk d_Sg_isInsideQuotes (k := 22) rfl) (by decide) (fun c8 => ?_) (fun c8 => ?_)
    · refine v_iconst (v := 0) (am_Dk d_Sg_isInsideQuotes (k := 28) rfl) (by decide) ?_
      exact v_ireturn (am_Dk d_Sg_isInsideQuotes (k := 29) rfl) rfl rfl (by omega) (by omega) ⟨by simp [inq, bi, *], rfl, rfl⟩
    · refine v_iload_n (am_Dk d_Sg_isInsideQuotes (k := 23) rfl) rfl ?_
      refine v_bipush (v := 126) (am_Dk d_Sg_isInsideQuotes (k := 24) rfl) (by decide) ?_
      refine v_icmp_gt (tgt := 54) (am_Dk d_Sg_isInsideQuotes (k := 25) rfl) (by decide) (fun c9 => ?_) (fun c9 => ?_)
      · refine v_iconst (v := 0) (am_Dk d_Sg_isInsideQuotes (k := 28) rfl) (by decide) ?_
        exact v_ireturn (am_Dk d_Sg_isInsideQuotes (k := 29) rfl) rfl rfl (by omega) (by omega) ⟨by simp [inq, bi, *], rfl, rfl⟩
      · refine v_iconst (v := 1) (am_Dk d_Sg_isInsideQuotes (k := 26) rfl) (by decide) ?_
        refine v_goto (tgt := 55) (am_Dk d_Sg_isInsideQuotes (k := 27) rfl) (by decide) ?_
        exact v_ireturn (am_Dk d_Sg_isInsideQuotes (k := 29) rfl) rfl rfl (by omega) (by omega) ⟨by simp [inq, bi, *], rfl, rfl⟩
  · refine v_aload_n (am_Dk d_Sg_isInsideQuotes (k := 8) rfl) rfl ?_
    refine v_get (am_Dk d_Sg_isInsideQuotes (k := 9) rfl) f_Sg_9 h6 rfl ?_
    refine v_iload_n (am_Dk d_Sg_isInsideQuotes (k := 10) rfl) rfl ?_
    refine v_iconst (v := 1) (am_Dk d_Sg_isInsideQuotes (k := 11) rfl) (by decide) ?_
    refine v_iadd (am_Dk d_Sg_isInsideQuotes (k := 12) rfl) ?_
    rw [nI_1]
    refine v_callV (rest := []) (As := [.int (nI (i + 1))]) (mc' := 0) (ms' := 0) (am_Dk d_Sg_isInsideQuotes (k := 13) rfl) c_Sg_47 (Or.inl ⟨_, _, _, _, _, h1, cq_ok1⟩) (t_Tape_at G (d := 0) (i := i + 1) (by omega) h1 h2 (by omega) (by omega)) (by omega) (by omega) (by omega) (by simp [Value.category]) rfl (fun v10 M11 n12 h13 => ?_) (fun _ _ _ h13 => ?_)
    rotate_left
    · exact absurd h13.1 (by simp)
    obtain ⟨h13, e14, e15⟩ := h13
    replace e14 := e14.symm
    replace e15 := e15.symm
    subst e14
    subst e15
    cases h13
    show am_V G _ _ _ _ _ 25 [(2, .int (tb f n i)), (0, .ref 1006), (1, .int (nI i))] [.int (tb f n (i + 1))] M nx 0 0
    refine v_bipush (v := 39) (am_Dk d_Sg_isInsideQuotes (k := 14) rfl) (by decide) ?_
    refine v_icmp_ne (tgt := 34) (am_Dk d_Sg_isInsideQuotes (k := 15) rfl) (by decide) (fun c16 => ?_) (fun c16 => ?_)
    · refine v_iconst (v := 0) (am_Dk d_Sg_isInsideQuotes (k := 18) rfl) (by decide) ?_
      refine v_goto (tgt := 55) (am_Dk d_Sg_isInsideQuotes (k := 19) rfl) (by decide) ?_
      exact v_ireturn (am_Dk d_Sg_isInsideQuotes (k := 29) rfl) rfl rfl (by omega) (by omega) ⟨by simp [inq, bi, *], rfl, rfl⟩
    · refine v_iconst (v := 1) (am_Dk d_Sg_isInsideQuotes (k := 16) rfl) (by decide) ?_
      refine v_goto (tgt := 55) (am_Dk d_Sg_isInsideQuotes (k := 17) rfl) (by decide) ?_
      exact v_ireturn (am_Dk d_Sg_isInsideQuotes (k := 29) rfl) rfl rfl (by omega) (by omega) ⟨by simp [inq, bi, *], rfl, rfl⟩
set_option maxRecDepth 20000 in
theorem l_Sg_becomeQuotedName1 (G : am_G) {d nx : Nat} (hd : 2 ≤ d) {M : am_M} {f : Nat → Int32} {n : Nat} (h1 : M 1001 = some (.inr (1, [.ref 1002, .int (nI n)]))) (h2 : M 1002 = some (.inl (0, 4096, .inl f))) (hn : n ≤ 4096) {kd nm p : Nat} {af nf nt : Int32} {nu : Int64} {E : Nat} (h6 : M 1006 = some (.inr (6, [.ref 1001, .ref kd, .int (nI p), .int af, .long nu, .ref nm, .int nf, .int nt]))) : ∀ m i, n ≤ i + m → i ≤ n → qdF (tb f n) n m i = E → am_V G m_Sg_becomeQuotedName d 0 0 (fun r M1 nx1 => (tb f n E = 39 ∧ r = .inl none ∧ M1 = am_up M 1006 (.inr (6, [.ref 1001, .ref 28, .int (nI p), .int (nI (E + 1)), .long nu, .ref nm, .int (nI (p + 1)), .int (nI E)])) ∧ nx1 = nx) ∨ (¬ tb f n E = 39 ∧ r = .inl none ∧ M1 = am_up M 1006 (.inr (6, [.ref 1001, .ref 37, .int (nI p), .int (nI (p + 1)), .long nu, .ref nm, .int nf, .int nt])) ∧ nx1 = nx)) 7 [(1, .int (nI i)), (0, .ref 1006)] [] M nx 0 0 := by
  intro m
  induction m with
  | zero =>
    intro i him hin he
    rw [qdF] at he
    subst he
    refine v_iload_n (am_Dk d_Sg_becomeQuotedName (k := 5) rfl) rfl ?_
    refine v_aload_n (am_Dk d_Sg_becomeQuotedName (k := 6) rfl) rfl ?_
    refine v_get (am_Dk d_Sg_becomeQuotedName (k := 7) rfl) f_Sg_9 h6 rfl ?_
    refine v_get (am_Dk d_Sg_becomeQuotedName (k := 8) rfl) f_Sg_114 h1 rfl ?_
    refine v_icmp_ge (tgt := 50) (am_Dk d_Sg_becomeQuotedName (k := 9) rfl) (by decide) (fun c1 => ?_) (fun c1 => ?_)
    · have Nc1 := (nI_leI (a := n) (b := i) (by omega) (by omega)).mp c1
      refine v_aload_n (am_Dk d_Sg_becomeQuotedName (k := 27) rfl) rfl ?_
      refine v_get (am_Dk d_Sg_becomeQuotedName (k := 28) rfl) f_Sg_9 h6 rfl ?_
      refine v_iload_n (am_Dk d_Sg_becomeQuotedName (k := 29) rfl) rfl ?_
      refine v_callV (rest := []) (As := [.int (nI i)]) (mc' := 0) (ms' := 0) (am_Dk d_Sg_becomeQuotedName (k := 30) rfl) c_Sg_47 (Or.inl ⟨_, _, _, _, _, h1, cq_ok1⟩) (t_Tape_at G (d := 0) (i := i) (by omega) h1 h2 (by omega) (by omega)) (by omega) (by omega) (by omega) (by simp [Value.category]) rfl (fun v2 M3 n4 h5 => ?_) (fun _ _ _ h5 => ?_)
      rotate_left
      · exact absurd h5.1 (by simp)
      obtain ⟨h5, e6, e7⟩ := h5
      replace e6 := e6.symm
      replace e7 := e7.symm
      subst e6
      subst e7
      cases h5
      show am_V G _ _ _ _ _ 58 [(1, .int (nI i)), (0, .ref 1006)] [.int (tb f n i)] M nx 0 0
      refine v_bipush (v := 39) (am_Dk d_Sg_becomeQuotedName (k := 31) rfl) (by decide) ?_
      refine v_icmp_ne (tgt := 91) (am_Dk d_Sg_becomeQuotedName (k := 32) rfl) (by decide) (fun c8 => ?_) (fun c8 => ?_)
      · refine v_aload_n (am_Dk d_Sg_becomeQuotedName (k := 49) rfl) rfl ?_
        refine v_gets (v := .ref 37) (am_Dk d_Sg_becomeQuotedName (k := 50) rfl) s_Sg_131 (by decide +kernel) ?_
        refine v_aload_n (am_Dk d_Sg_becomeQuotedName (k := 51) rfl) rfl ?_
        refine v_get (am_Dk d_Sg_becomeQuotedName (k := 52) rfl) f_Sg_44 h6 rfl ?_
        refine v_iconst (v := 1) (am_Dk d_Sg_becomeQuotedName (k := 53) rfl) (by decide) ?_
        refine v_iadd (am_Dk d_Sg_becomeQuotedName (k := 54) rfl) ?_
        rw [nI_1]
        refine v_callV (rest := []) (As := [.ref 37, .int (nI (p + 1))]) (mc' := 0) (ms' := 0) (am_Dk d_Sg_becomeQuotedName (k := 55) rfl) c_Sg_63 (Or.inl ⟨_, _, _, _, _, h6, cq_ok6⟩) (t_Sg_become G (d := 0) (by omega) h6) (by omega) (by omega) (by omega) (by simp [Value.category]) rfl (fun v9 M10 n11 h12 => ?_) (fun _ _ _ h12 => ?_)
        rotate_left
        · exact absurd h12.1 (by simp)
        obtain ⟨h12, e13, e14⟩ := h12
        replace e13 := e13.symm
        replace e14 := e14.symm
        subst e13
        subst e14
        cases h12
        show am_V G _ _ _ _ _ 104 [(1, .int (nI i)), (0, .ref 1006)] [] (am_up M 1006 (.inr (6, [.ref 1001, .ref 37, .int (nI p), .int (nI (p + 1)), .long nu, .ref nm, .int nf, .int nt]))) nx 0 0
        exact v_return (am_Dk d_Sg_becomeQuotedName (k := 56) rfl) rfl (by omega) (by omega) (Or.inr ⟨by assumption, rfl, rfl, rfl⟩)
      · refine v_aload_n (am_Dk d_Sg_becomeQuotedName (k := 33) rfl) rfl ?_
        refine v_gets (v := .ref 28) (am_Dk d_Sg_becomeQuotedName (k := 34) rfl) s_Sg_92 (by decide +kernel) ?_
        refine v_iload_n (am_Dk d_Sg_becomeQuotedName (k := 35) rfl) rfl ?_
        refine v_iconst (v := 1) (am_Dk d_Sg_becomeQuotedName (k := 36) rfl) (by decide) ?_
        refine v_iadd (am_Dk d_Sg_becomeQuotedName (k := 37) rfl) ?_
        rw [nI_1]
        refine v_callV (rest := []) (As := [.ref 28, .int (nI (i + 1))]) (mc' := 0) (ms' := 0) (am_Dk d_Sg_becomeQuotedName (k := 38) rfl) c_Sg_63 (Or.inl ⟨_, _, _, _, _, h6, cq_ok6⟩) (t_Sg_become G (d := 0) (by omega) h6) (by omega) (by omega) (by omega) (by simp [Value.category]) rfl (fun v15 M16 n17 h18 => ?_) (fun _ _ _ h18 => ?_)
        rotate_left
        · exact absurd h18.1 (by simp)
        obtain ⟨h18, e19, e20⟩ := h18
        replace e19 := e19.symm
        replace e20 := e20.symm
        subst e19
        subst e20
        cases h18
        show am_V G _ _ _ _ _ 73 [(1, .int (nI i)), (0, .ref 1006)] [] (am_up M 1006 (.inr (6, [.ref 1001, .ref 28, .int (nI p), .int (nI (i + 1)), .long nu, .ref nm, .int nf, .int nt]))) nx 0 0
        refine v_aload_n (am_Dk d_Sg_becomeQuotedName (k := 39) rfl) rfl ?_
        refine v_aload_n (am_Dk d_Sg_becomeQuotedName (k := 40) rfl) rfl ?_
        have m21 : (am_up M 1006 (.inr (6, [.ref 1001, .ref 28, .int (nI p), .int (nI (i + 1)), .long nu, .ref nm, .int nf, .int nt]))) 1006 = some (.inr (6, [.ref 1001, .ref 28, .int (nI p), .int (nI (i + 1)), .long nu, .ref nm, .int nf, .int nt])) := am_up_eq _ _ _
        refine v_get (am_Dk d_Sg_becomeQuotedName (k := 41) rfl) f_Sg_44 m21 rfl ?_
        refine v_iconst (v := 1) (am_Dk d_Sg_becomeQuotedName (k := 42) rfl) (by decide) ?_
        refine v_iadd (am_Dk d_Sg_becomeQuotedName (k := 43) rfl) ?_
        rw [nI_1]
        refine v_put (am_Dk d_Sg_becomeQuotedName (k := 44) rfl) f_Sg_95 m21 (Nat.le_of_ble_eq_true rfl) rfl rfl ?_
        rw [am_uu0 (a := 1006)]
        refine v_aload_n (am_Dk d_Sg_becomeQuotedName (k := 45) rfl) rfl ?_
        refine v_iload_n (am_Dk d_Sg_becomeQuotedName (k := 46) rfl) rfl ?_
        have m22 : (am_up M 1006 (.inr (6, [.ref 1001, .ref 28, .int (nI p), .int (nI (i + 1)), .long nu, .ref nm, .int (nI (p + 1)), .int nt]))) 1006 = some (.inr (6, [.ref 1001, .ref 28, .int (nI p), .int (nI (i + 1)), .long nu, .ref nm, .int (nI (p + 1)), .int nt])) := am_up_eq _ _ _
        refine v_put (am_Dk d_Sg_becomeQuotedName (k := 47) rfl) f_Sg_98 m22 (Nat.le_of_ble_eq_true rfl) rfl rfl ?_
        rw [am_uu0 (a := 1006)]
        refine v_goto (tgt := 104) (am_Dk d_Sg_becomeQuotedName (k := 48) rfl) (by decide) ?_
        exact v_return (am_Dk d_Sg_becomeQuotedName (k := 56) rfl) rfl (by omega) (by omega) (Or.inl ⟨by assumption, rfl, rfl, rfl⟩)
    · have Nc1 : ¬ n ≤ i := fun z => c1 ((nI_leI (a := n) (b := i) (by omega) (by omega)).mpr z)
      exfalso
      omega
  | succ m ih =>
    intro i him hin he
    rw [qdF] at he
    refine v_iload_n (am_Dk d_Sg_becomeQuotedName (k := 5) rfl) rfl ?_
    refine v_aload_n (am_Dk d_Sg_becomeQuotedName (k := 6) rfl) rfl ?_
    refine v_get (am_Dk d_Sg_becomeQuotedName (k := 7) rfl) f_Sg_9 h6 rfl ?_
    refine v_get (am_Dk d_Sg_becomeQuotedName (k := 8) rfl) f_Sg_114 h1 rfl ?_
    refine v_icmp_ge (tgt := 50) (am_Dk d_Sg_becomeQuotedName (k := 9) rfl) (by decide) (fun c1 => ?_) (fun c1 => ?_)
    · have Nc1 := (nI_leI (a := n) (b := i) (by omega) (by omega)).mp c1
      rw [if_neg (by omega)] at he
      subst he
      refine v_aload_n (am_Dk d_Sg_becomeQuotedName (k := 27) rfl) rfl ?_
      refine v_get (am_Dk d_Sg_becomeQuotedName (k := 28) rfl) f_Sg_9 h6 rfl ?_
      refine v_iload_n (am_Dk d_Sg_becomeQuotedName (k := 29) rfl) rfl ?_
      refine v_callV (rest := []) (As := [.int (nI i)]) (mc' := 0) (ms' := 0) (am_Dk d_Sg_becomeQuotedName (k := 30) rfl) c_Sg_47 (Or.inl ⟨_, _, _, _, _, h1, cq_ok1⟩) (t_Tape_at G (d := 0) (i := i) (by omega) h1 h2 (by omega) (by omega)) (by omega) (by omega) (by omega) (by simp [Value.category]) rfl (fun v2 M3 n4 h5 => ?_) (fun _ _ _ h5 => ?_)
      rotate_left
      · exact absurd h5.1 (by simp)
      obtain ⟨h5, e6, e7⟩ := h5
      replace e6 := e6.symm
      replace e7 := e7.symm
      subst e6
      subst e7
      cases h5
      show am_V G _ _ _ _ _ 58 [(1, .int (nI i)), (0, .ref 1006)] [.int (tb f n i)] M nx 0 0
      refine v_bipush (v := 39) (am_Dk d_Sg_becomeQuotedName (k := 31) rfl) (by decide) ?_
      refine v_icmp_ne (tgt := 91) (am_Dk d_Sg_becomeQuotedName (k := 32) rfl) (by decide) (fun c8 => ?_) (fun c8 => ?_)
      · refine v_aload_n (am_Dk d_Sg_becomeQuotedName (k := 49) rfl) rfl ?_
        refine v_gets (v := .ref 37) (am_Dk d_Sg_becomeQuotedName (k := 50) rfl) s_Sg_131 (by decide +kernel) ?_
        refine v_aload_n (am_Dk d_Sg_becomeQuotedName (k := 51) rfl) rfl ?_
        refine v_get (am_Dk d_Sg_becomeQuotedName (k := 52) rfl) f_Sg_44 h6 rfl ?_
        refine v_iconst (v := 1) (am_Dk d_Sg_becomeQuotedName (k := 53) rfl) (by decide) ?_
        refine v_iadd (am_Dk d_Sg_becomeQuotedName (k := 54) rfl) ?_
        rw [nI_1]
        refine v_callV (rest := []) (As := [.ref 37, .int (nI (p + 1))]) (mc' := 0) (ms' := 0) (am_Dk d_Sg_becomeQuotedName (k := 55) rfl) c_Sg_63 (Or.inl ⟨_, _, _, _, _, h6, cq_ok6⟩) (t_Sg_become G (d := 0) (by omega) h6) (by omega) (by omega) (by omega) (by simp [Value.category]) rfl (fun v9 M10 n11 h12 => ?_) (fun _ _ _ h12 => ?_)
        rotate_left
        · exact absurd h12.1 (by simp)
        obtain ⟨h12, e13, e14⟩ := h12
        replace e13 := e13.symm
        replace e14 := e14.symm
        subst e13
        subst e14
        cases h12
        show am_V G _ _ _ _ _ 104 [(1, .int (nI i)), (0, .ref 1006)] [] (am_up M 1006 (.inr (6, [.ref 1001, .ref 37, .int (nI p), .int (nI (p + 1)), .long nu, .ref nm, .int nf, .int nt]))) nx 0 0
        exact v_return (am_Dk d_Sg_becomeQuotedName (k := 56) rfl) rfl (by omega) (by omega) (Or.inr ⟨by assumption, rfl, rfl, rfl⟩)
      · refine v_aload_n (am_Dk d_Sg_becomeQuotedName (k := 33) rfl) rfl ?_
        refine v_gets (v := .ref 28) (am_Dk d_Sg_becomeQuotedName (k := 34) rfl) s_Sg_92 (by decide +kernel) ?_
        refine v_iload_n (am_Dk d_Sg_becomeQuotedName (k := 35) rfl) rfl ?_
        refine v_iconst (v := 1) (am_Dk d_Sg_becomeQuotedName (k := 36) rfl) (by decide) ?_
        refine v_iadd (am_Dk d_Sg_becomeQuotedName (k := 37) rfl) ?_
        rw [nI_1]
        refine v_callV (rest := []) (As := [.ref 28, .int (nI (i + 1))]) (mc' := 0) (ms' := 0) (am_Dk d_Sg_becomeQuotedName (k := 38) rfl) c_Sg_63 (Or.inl ⟨_, _, _, _, _, h6, cq_ok6⟩) (t_Sg_become G (d := 0) (by omega) h6) (by omega) (by omega) (by omega) (by simp [Value.category]) rfl (fun v15 M16 n17 h18 => ?_) (fun _ _ _ h18 => ?_)
        rotate_left
        · exact absurd h18.1 (by simp)
        obtain ⟨h18, e19, e20⟩ := h18
        replace e19 := e19.symm
        replace e20 := e20.symm
        subst e19
        subst e20
        cases h18
        show am_V G _ _ _ _ _ 73 [(1, .int (nI i)), (0, .ref 1006)] [] (am_up M 1006 (.inr (6, [.ref 1001, .ref 28, .int (nI p), .int (nI (i + 1)), .long nu, .ref nm, .int nf, .int nt]))) nx 0 0
        refine v_aload_n (am_Dk d_Sg_becomeQuotedName (k := 39) rfl) rfl ?_
        refine v_aload_n (am_Dk d_Sg_becomeQuotedName (k := 40) rfl) rfl ?_
        have m21 : (am_up M 1006 (.inr (6, [.ref 1001, .ref 28, .int (nI p), .int (nI (i + 1)), .long nu, .ref nm, .int nf, .int nt]))) 1006 = some (.inr (6, [.ref 1001, .ref 28, .int (nI p), .int (nI (i + 1)), .long nu, .ref nm, .int nf, .int nt])) := am_up_eq _ _ _
        refine v_get (am_Dk d_Sg_becomeQuotedName (k := 41) rfl) f_Sg_44 m21 rfl ?_
        refine v_iconst (v := 1) (am_Dk d_Sg_becomeQuotedName (k := 42) rfl) (by decide) ?_
        refine v_iadd (am_Dk d_Sg_becomeQuotedName (k := 43) rfl) ?_
        rw [nI_1]
        refine v_put (am_Dk d_Sg_becomeQuotedName (k := 44) rfl) f_Sg_95 m21 (Nat.le_of_ble_eq_true rfl) rfl rfl ?_
        rw [am_uu0 (a := 1006)]
        refine v_aload_n (am_Dk d_Sg_becomeQuotedName (k := 45) rfl) rfl ?_
        refine v_iload_n (am_Dk d_Sg_becomeQuotedName (k := 46) rfl) rfl ?_
        have m22 : (am_up M 1006 (.inr (6, [.ref 1001, .ref 28, .int (nI p), .int (nI (i + 1)), .long nu, .ref nm, .int (nI (p + 1)), .int nt]))) 1006 = some (.inr (6, [.ref 1001, .ref 28, .int (nI p), .int (nI (i + 1)), .long nu, .ref nm, .int (nI (p + 1)), .int nt])) := am_up_eq _ _ _
        refine v_put (am_Dk d_Sg_becomeQuotedName (k := 47) rfl) f_Sg_98 m22 (Nat.le_of_ble_eq_true rfl) rfl rfl ?_
        rw [am_uu0 (a := 1006)]
        refine v_goto (tgt := 104) (am_Dk d_Sg_becomeQuotedName (k := 48) rfl) (by decide) ?_
        exact v_return (am_Dk d_Sg_becomeQuotedName (k := 56) rfl) rfl (by omega) (by omega) (Or.inl ⟨by assumption, rfl, rfl, rfl⟩)
    · have Nc1 : ¬ n ≤ i := fun z => c1 ((nI_leI (a := n) (b := i) (by omega) (by omega)).mpr z)
      rw [if_pos (by omega)] at he
      refine v_aload_n (am_Dk d_Sg_becomeQuotedName (k := 10) rfl) rfl ?_
      refine v_iload_n (am_Dk d_Sg_becomeQuotedName (k := 11) rfl) rfl ?_
      refine v_callV (rest := []) (As := [.int (nI i)]) (mc' := 0) (ms' := 0) (am_Dk d_Sg_becomeQuotedName (k := 12) rfl) c_Sg_137 (Or.inl ⟨_, _, _, _, _, h6, cq_ok6⟩) (t_Sg_isInsideQuotes G (d := 1) (i := i) (by omega) h1 h2 (by omega) (by omega) h6) (by omega) (by omega) (by omega) (by simp [Value.category]) rfl (fun v23 M24 n25 h26 => ?_) (fun _ _ _ h26 => ?_)
      rotate_left
      · exact absurd h26.1 (by simp)
      obtain ⟨h26, e27, e28⟩ := h26
      replace e27 := e27.symm
      replace e28 := e28.symm
      subst e27
      subst e28
      cases h26
      show am_V G _ _ _ _ _ 23 [(1, .int (nI i)), (0, .ref 1006)] [.int (bi (inq (tb f n) i))] M nx 0 0
      refine v_if_eq (tgt := 50) (am_Dk d_Sg_becomeQuotedName (k := 13) rfl) (by decide) (fun c29 => ?_) (fun c29 => ?_)
      · rw [if_neg (by rw [bi0.mp c29]; decide)] at he
        subst he
        refine v_aload_n (am_Dk d_Sg_becomeQuotedName (k := 27) rfl) rfl ?_
        refine v_get (am_Dk d_Sg_becomeQuotedName (k := 28) rfl) f_Sg_9 h6 rfl ?_
        refine v_iload_n (am_Dk d_Sg_becomeQuotedName (k := 29) rfl) rfl ?_
        refine v_callV (rest := []) (As := [.int (nI i)]) (mc' := 0) (ms' := 0) (am_Dk d_Sg_becomeQuotedName (k := 30) rfl) c_Sg_47 (Or.inl ⟨_, _, _, _, _, h1, cq_ok1⟩) (t_Tape_at G (d := 0) (i := i) (by omega) h1 h2 (by omega) (by omega)) (by omega) (by omega) (by omega) (by simp [Value.category]) rfl (fun v30 M31 n32 h33 => ?_) (fun _ _ _ h33 => ?_)
        rotate_left
        · exact absurd h33.1 (by simp)
        obtain ⟨h33, e34, e35⟩ := h33
        replace e34 := e34.symm
        replace e35 := e35.symm
        subst e34
        subst e35
        cases h33
        show am_V G _ _ _ _ _ 58 [(1, .int (nI i)), (0, .ref 1006)] [.int (tb f n i)] M nx 0 0
        refine v_bipush (v := 39) (am_Dk d_Sg_becomeQuotedName (k := 31) rfl) (by decide) ?_
        refine v_icmp_ne (tgt := 91) (am_Dk d_Sg_becomeQuotedName (k := 32) rfl) (by decide) (fun c36 => ?_) (fun c36 => ?_)
        · refine v_aload_n (am_Dk d_Sg_becomeQuotedName (k := 49) rfl) rfl ?_
          refine v_gets (v := .ref 37) (am_Dk d_Sg_becomeQuotedName (k := 50) rfl) s_Sg_131 (by decide +kernel) ?_
          refine v_aload_n (am_Dk d_Sg_becomeQuotedName (k := 51) rfl) rfl ?_
          refine v_get (am_Dk d_Sg_becomeQuotedName (k := 52) rfl) f_Sg_44 h6 rfl ?_
          refine v_iconst (v := 1) (am_Dk d_Sg_becomeQuotedName (k := 53) rfl) (by decide) ?_
          refine v_iadd (am_Dk d_Sg_becomeQuotedName (k := 54) rfl) ?_
          rw [nI_1]
          refine v_callV (rest := []) (As := [.ref 37, .int (nI (p + 1))]) (mc' := 0) (ms' := 0) (am_Dk d_Sg_becomeQuotedName (k := 55) rfl) c_Sg_63 (Or.inl ⟨_, _, _, _, _, h6, cq_ok6⟩) (t_Sg_become G (d := 0) (by omega) h6) (by omega) (by omega) (by omega) (by simp [Value.category]) rfl (fun v37 M38 n39 h40 => ?_) (fun _ _ _ h40 => ?_)
          rotate_left
          · exact absurd h40.1 (by simp)
          obtain ⟨h40, e41, e42⟩ := h40
          replace e41 := e41.symm
          replace e42 := e42.symm
          subst e41
          subst e42
          cases h40
          show am_V G _ _ _ _ _ 104 [(1, .int (nI i)), (0, .ref 1006)] [] (am_up M 1006 (.inr (6, [.ref 1001, .ref 37, .int (nI p), .int (nI (p + 1)), .long nu, .ref nm, .int nf, .int nt]))) nx 0 0
          exact v_return (am_Dk d_Sg_becomeQuotedName (k := 56) rfl) rfl (by omega) (by omega) (Or.inr ⟨by assumption, rfl, rfl, rfl⟩)
        · refine v_aload_n (am_Dk d_Sg_becomeQuotedName (k := 33) rfl) rfl ?_
          refine v_gets (v := .ref 28) (am_Dk d_Sg_becomeQuotedName (k := 34) rfl) s_Sg_92 (by decide +kernel) ?_
          refine v_iload_n (am_Dk d_Sg_becomeQuotedName (k := 35) rfl) rfl ?_
          refine v_iconst (v := 1) (am_Dk d_Sg_becomeQuotedName (k := 36) rfl) (by decide) ?_
          refine v_iadd (am_Dk d_Sg_becomeQuotedName (k := 37) rfl) ?_
          rw [nI_1]
          refine v_callV (rest := []) (As := [.ref 28, .int (nI (i + 1))]) (mc' := 0) (ms' := 0) (am_Dk d_Sg_becomeQuotedName (k := 38) rfl) c_Sg_63 (Or.inl ⟨_, _, _, _, _, h6, cq_ok6⟩) (t_Sg_become G (d := 0) (by omega) h6) (by omega) (by omega) (by omega) (by simp [Value.category]) rfl (fun v43 M44 n45 h46 => ?_) (fun _ _ _ h46 => ?_)
          rotate_left
          · exact absurd h46.1 (by simp)
          obtain ⟨h46, e47, e48⟩ := h46
          replace e47 := e47.symm
          replace e48 := e48.symm
          subst e47
          subst e48
          cases h46
          show am_V G _ _ _ _ _ 73 [(1, .int (nI i)), (0, .ref 1006)] [] (am_up M 1006 (.inr (6, [.ref 1001, .ref 28, .int (nI p), .int (nI (i + 1)), .long nu, .ref nm, .int nf, .int nt]))) nx 0 0
          refine v_aload_n (am_Dk d_Sg_becomeQuotedName (k := 39) rfl) rfl ?_
          refine v_aload_n (am_Dk d_Sg_becomeQuotedName (k := 40) rfl) rfl ?_
          have m49 : (am_up M 1006 (.inr (6, [.ref 1001, .ref 28, .int (nI p), .int (nI (i + 1)), .long nu, .ref nm, .int nf, .int nt]))) 1006 = some (.inr (6, [.ref 1001, .ref 28, .int (nI p), .int (nI (i + 1)), .long nu, .ref nm, .int nf, .int nt])) := am_up_eq _ _ _
          refine v_get (am_Dk d_Sg_becomeQuotedName (k := 41) rfl) f_Sg_44 m49 rfl ?_
          refine v_iconst (v := 1) (am_Dk d_Sg_becomeQuotedName (k := 42) rfl) (by decide) ?_
          refine v_iadd (am_Dk d_Sg_becomeQuotedName (k := 43) rfl) ?_
          rw [nI_1]
          refine v_put (am_Dk d_Sg_becomeQuotedName (k := 44) rfl) f_Sg_95 m49 (Nat.le_of_ble_eq_true rfl) rfl rfl ?_
          rw [am_uu0 (a := 1006)]
          refine v_aload_n (am_Dk d_Sg_becomeQuotedName (k := 45) rfl) rfl ?_
          refine v_iload_n (am_Dk d_Sg_becomeQuotedName (k := 46) rfl) rfl ?_
          have m50 : (am_up M 1006 (.inr (6, [.ref 1001, .ref 28, .int (nI p), .int (nI (i + 1)), .long nu, .ref nm, .int (nI (p + 1)), .int nt]))) 1006 = some (.inr (6, [.ref 1001, .ref 28, .int (nI p), .int (nI (i + 1)), .long nu, .ref nm, .int (nI (p + 1)), .int nt])) := am_up_eq _ _ _
          refine v_put (am_Dk d_Sg_becomeQuotedName (k := 47) rfl) f_Sg_98 m50 (Nat.le_of_ble_eq_true rfl) rfl rfl ?_
          rw [am_uu0 (a := 1006)]
          refine v_goto (tgt := 104) (am_Dk d_Sg_becomeQuotedName (k := 48) rfl) (by decide) ?_
          exact v_return (am_Dk d_Sg_becomeQuotedName (k := 56) rfl) rfl (by omega) (by omega) (Or.inl ⟨by assumption, rfl, rfl, rfl⟩)
      · have hQ := bi1 c29
        rw [if_pos hQ] at he
        refine v_iload_n (am_Dk d_Sg_becomeQuotedName (k := 14) rfl) rfl ?_
        refine v_aload_n (am_Dk d_Sg_becomeQuotedName (k := 15) rfl) rfl ?_
        refine v_get (am_Dk d_Sg_becomeQuotedName (k := 16) rfl) f_Sg_9 h6 rfl ?_
        refine v_iload_n (am_Dk d_Sg_becomeQuotedName (k := 17) rfl) rfl ?_
        refine v_callV (rest := [.int (nI i)]) (As := [.int (nI i)]) (mc' := 0) (ms' := 0) (am_Dk d_Sg_becomeQuotedName (k := 18) rfl) c_Sg_47 (Or.inl ⟨_, _, _, _, _, h1, cq_ok1⟩) (t_Tape_at G (d := 0) (i := i) (by omega) h1 h2 (by omega) (by omega)) (by omega) (by omega) (by omega) (by simp [Value.category]) rfl (fun v51 M52 n53 h54 => ?_) (fun _ _ _ h54 => ?_)
        rotate_left
        · exact absurd h54.1 (by simp)
        obtain ⟨h54, e55, e56⟩ := h54
        replace e55 := e55.symm
        replace e56 := e56.symm
        subst e55
        subst e56
        cases h54
        show am_V G _ _ _ _ _ 35 [(1, .int (nI i)), (0, .ref 1006)] [.int (tb f n i), .int (nI i)] M nx 0 0
        refine v_bipush (v := 39) (am_Dk d_Sg_becomeQuotedName (k := 19) rfl) (by decide) ?_
        refine v_icmp_ne (tgt := 44) (am_Dk d_Sg_becomeQuotedName (k := 20) rfl) (by decide) (fun c57 => ?_) (fun c57 => ?_)
        · refine v_iconst (v := 1) (am_Dk d_Sg_becomeQuotedName (k := 23) rfl) (by decide) ?_
          refine v_iadd (am_Dk d_Sg_becomeQuotedName (k := 24) rfl) ?_
          rw [nI_1]
          refine v_istore_n (L1 := [(1, .int (nI (i + 1))), (0, .ref 1006)]) (am_Dk d_Sg_becomeQuotedName (k := 25) rfl) (by decide) rfl ?_
          refine v_goto (tgt := 7) (am_Dk d_Sg_becomeQuotedName (k := 26) rfl) (by decide) ?_
          exact ih (i + 1) (by omega) (by omega) (by rw [if_neg (by assumption)] at he; exact he)
        · refine v_iconst (v := 2) (am_Dk d_Sg_becomeQuotedName (k := 21) rfl) (by decide) ?_
          refine v_goto (tgt := 45) (am_Dk d_Sg_becomeQuotedName (k := 22) rfl) (by decide) ?_
          refine v_iadd (am_Dk d_Sg_becomeQuotedName (k := 24) rfl) ?_
          rw [show (nI i + 2 : Int32) = nI (i + 2) from nI_add i 2]
          refine v_istore_n (L1 := [(1, .int (nI (i + 2))), (0, .ref 1006)]) (am_Dk d_Sg_becomeQuotedName (k := 25) rfl) (by decide) rfl ?_
          refine v_goto (tgt := 7) (am_Dk d_Sg_becomeQuotedName (k := 26) rfl) (by decide) ?_
          exact ih (i + 2) (by omega) (by have h9 := hQ; rw [inq, if_pos (by assumption)] at h9; have := tb_in (of_decide_eq_true h9) (by decide); omega) (by rw [if_pos (by assumption)] at he; exact he)
set_option maxRecDepth 20000 in
theorem t_Sg_becomeQuotedName (G : am_G) {d nx : Nat} (hd : 2 ≤ d) {M : am_M} {f : Nat → Int32} {n : Nat} (h1 : M 1001 = some (.inr (1, [.ref 1002, .int (nI n)]))) (h2 : M 1002 = some (.inl (0, 4096, .inl f))) (hn : n ≤ 4096) {kd nm p : Nat} {af nf nt : Int32} {nu : Int64} (hp : p < n) (h6 : M 1006 = some (.inr (6, [.ref 1001, .ref kd, .int (nI p), .int af, .long nu, .ref nm, .int nf, .int nt]))) : am_Tr G m_Sg_becomeQuotedName d 0 0 [.ref 1006] M nx (fun r M1 nx1 => (tb f n (qd (tb f n) n (p + 1)) = 39 ∧ r = .inl none ∧ M1 = am_up M 1006 (.inr (6, [.ref 1001, .ref 28, .int (nI p), .int (nI ((qd (tb f n) n (p + 1)) + 1)), .long nu, .ref nm, .int (nI (p + 1)), .int (nI (qd (tb f n) n (p + 1)))])) ∧ nx1 = nx) ∨ (¬ tb f n (qd (tb f n) n (p + 1)) = 39 ∧ r = .inl none ∧ M1 = am_up M 1006 (.inr (6, [.ref 1001, .ref 37, .int (nI p), .int (nI (p + 1)), .long nu, .ref nm, .int nf, .int nt])) ∧ nx1 = nx)) := by
  refine am_TrOf (by decide) (Nat.le_of_ble_eq_true rfl) ?_
  show am_V G _ _ _ _ _ 0 [(0, .ref 1006)] [] M nx 0 0
  refine v_aload_n (am_Dk d_Sg_becomeQuotedName (k := 0) rfl) rfl ?_
  refine v_get (am_Dk d_Sg_becomeQuotedName (k := 1) rfl) f_Sg_44 h6 rfl ?_
  refine v_iconst (v := 1) (am_Dk d_Sg_becomeQuotedName (k := 2) rfl) (by decide) ?_
  refine v_iadd (am_Dk d_Sg_becomeQuotedName (k := 3) rfl) ?_
  rw [nI_1]
  refine v_istore_n (L1 := [(1, .int (nI (p + 1))), (0, .ref 1006)]) (am_Dk d_Sg_becomeQuotedName (k := 4) rfl) (by decide) rfl ?_
  exact l_Sg_becomeQuotedName1 G hd h1 h2 hn h6 (n - (p + 1)) (p + 1) (by omega) (by omega) rfl
set_option maxRecDepth 20000 in
theorem l_Sg_becomeSymbolName1 (G : am_G) {d nx : Nat} (hd : 1 ≤ d) {M : am_M} {f : Nat → Int32} {n : Nat} (h1 : M 1001 = some (.inr (1, [.ref 1002, .int (nI n)]))) (h2 : M 1002 = some (.inl (0, 4096, .inl f))) (hn : n ≤ 4096) {kd nm p : Nat} {af nf nt : Int32} {nu : Int64} (hp : p < n) {E : Nat} (h6 : M 1006 = some (.inr (6, [.ref 1001, .ref kd, .int (nI p), .int af, .long nu, .ref nm, .int nf, .int nt]))) : ∀ m i, i + m = n → pyF (tb f n) n m i = E → am_V G m_Sg_becomeSymbolName d 0 0 (fun r M1 nx1 => ((E = p + 1 ∧ tb f n p = 46 ∧ (tb f n E = -1 ∨ tb f n E = 37 ∨ blB (tb f n E) = true)) ∧ r = .inl none ∧ M1 = am_up M 1006 (.inr (6, [.ref 1001, .ref 35, .int (nI p), .int (nI E), .long nu, .ref nm, .int (nI p), .int (nI E)])) ∧ nx1 = nx) ∨ (¬ (E = p + 1 ∧ tb f n p = 46 ∧ (tb f n E = -1 ∨ tb f n E = 37 ∨ blB (tb f n E) = true)) ∧ r = .inl none ∧ M1 = am_up M 1006 (.inr (6, [.ref 1001, .ref 28, .int (nI p), .int (nI E), .long nu, .ref nm, .int (nI p), .int (nI E)])) ∧ nx1 = nx)) 7 [(1, .int (nI i)), (0, .ref 1006)] [] M nx 0 0 := by
  intro m
  induction m with
  | zero =>
    intro i him he
    obtain rfl : i = E := by rw [← he, pyF]; omega
    clear he
    refine v_iload_n (am_Dk d_Sg_becomeSymbolName (k := 5) rfl) rfl ?_
    refine v_aload_n (am_Dk d_Sg_becomeSymbolName (k := 6) rfl) rfl ?_
    refine v_get (am_Dk d_Sg_becomeSymbolName (k := 7) rfl) f_Sg_9 h6 rfl ?_
    refine v_get (am_Dk d_Sg_becomeSymbolName (k := 8) rfl) f_Sg_114 h1 rfl ?_
    refine v_icmp_ge (tgt := 38) (am_Dk d_Sg_becomeSymbolName (k := 9) rfl) (by decide) (fun c1 => ?_) (fun c1 => ?_)
    · have Nc1 := (nI_leI (a := n) (b := i) (by omega) (by omega)).mp c1
      refine v_aload_n (am_Dk d_Sg_becomeSymbolName (k := 18) rfl) rfl ?_
      refine v_iload_n (am_Dk d_Sg_becomeSymbolName (k := 19) rfl) rfl ?_
      refine v_callV (rest := []) (As := [.int (nI i)]) (mc' := 0) (ms' := 0) (am_Dk d_Sg_becomeSymbolName (k := 20) rfl) c_Sg_76 (Or.inl ⟨_, _, _, _, _, h6, cq_ok6⟩) (t_Sg_becomeName G (d := 0) (by omega) h6) (by omega) (by omega) (by omega) (by simp [Value.category]) rfl (fun v2 M3 n4 h5 => ?_) (fun _ _ _ h5 => ?_)
      rotate_left
      · exact absurd h5.1 (by simp)
      obtain ⟨h5, e6, e7⟩ := h5
      replace e6 := e6.symm
      replace e7 := e7.symm
      subst e6
      subst e7
      cases h5
      show am_V G _ _ _ _ _ 43 [(1, .int (nI i)), (0, .ref 1006)] [] (am_up M 1006 (.inr (6, [.ref 1001, .ref 28, .int (nI p), .int (nI i), .long nu, .ref nm, .int (nI p), .int (nI i)]))) nx 0 0
      refine v_iload_n (am_Dk d_Sg_becomeSymbolName (k := 21) rfl) rfl ?_
      refine v_aload_n (am_Dk d_Sg_becomeSymbolName (k := 22) rfl) rfl ?_
      have m8 : (am_up M 1006 (.inr (6, [.ref 1001, .ref 28, .int (nI p), .int (nI i), .long nu, .ref nm, .int (nI p), .int (nI i)]))) 1006 = some (.inr (6, [.ref 1001, .ref 28, .int (nI p), .int (nI i), .long nu, .ref nm, .int (nI p), .int (nI i)])) := am_up_eq _ _ _
      refine v_get (am_Dk d_Sg_becomeSymbolName (k := 23) rfl) f_Sg_44 m8 rfl ?_
      refine v_iconst (v := 1) (am_Dk d_Sg_becomeSymbolName (k := 24) rfl) (by decide) ?_
      refine v_iadd (am_Dk d_Sg_becomeSymbolName (k := 25) rfl) ?_
      rw [nI_1]
      refine v_icmp_ne (tgt := 73) (am_Dk d_Sg_becomeSymbolName (k := 26) rfl) (by decide) (fun c9 => ?_) (fun c9 => ?_)
      · have Nc9 : ¬ i = (p + 1) := fun z => c9 ((nI_eq (a := i) (b := p + 1) (by omega) (by omega)).mpr z)
        refine v_iconst (v := 0) (am_Dk d_Sg_becomeSymbolName (k := 36) rfl) (by decide) ?_
        refine v_istore_n (L1 := [(2, .int 0), (1, .int (nI i)), (0, .ref 1006)]) (am_Dk d_Sg_becomeSymbolName (k := 37) rfl) (by decide) rfl ?_
        refine v_aload_n (am_Dk d_Sg_becomeSymbolName (k := 38) rfl) rfl ?_
        refine v_get (am_Dk d_Sg_becomeSymbolName (k := 39) rfl) f_Sg_9 m8 rfl ?_
        refine v_iload_n (am_Dk d_Sg_becomeSymbolName (k := 40) rfl) rfl ?_
        have m10 : (am_up M 1006 (.inr (6, [.ref 1001, .ref 28, .int (nI p), .int (nI i), .long nu, .ref nm, .int (nI p), .int (nI i)]))) 1001 = some (.inr (1, [.ref 1002, .int (nI n)])) := (am_up_ne (show 1001 ≠ 1006 from by decide)).trans (h1)
        have m11 : (am_up M 1006 (.inr (6, [.ref 1001, .ref 28, .int (nI p), .int (nI i), .long nu, .ref nm, .int (nI p), .int (nI i)]))) 1002 = some (.inl (0, 4096, .inl f)) := (am_up_ne (show 1002 ≠ 1006 from by decide)).trans (h2)
        refine v_callV (rest := []) (As := [.int (nI i)]) (mc' := 0) (ms' := 0) (am_Dk d_Sg_becomeSymbolName (k := 41) rfl) c_Sg_47 (Or.inl ⟨_, _, _, _, _, m10, cq_ok1⟩) (t_Tape_at G (d := 0) (i := i) (by omega) m10 m11 (by omega) (by omega)) (by omega) (by omega) (by omega) (by simp [Value.category]) rfl (fun v12 M13 n14 h15 => ?_) (fun _ _ _ h15 => ?_)
        rotate_left
        · exact absurd h15.1 (by simp)
        obtain ⟨h15, e16, e17⟩ := h15
        replace e16 := e16.symm
        replace e17 := e17.symm
        subst e16
        subst e17
        cases h15
        show am_V G _ _ _ _ _ 83 [(2, .int 0), (1, .int (nI i)), (0, .ref 1006)] [.int (tb f n i)] (am_up M 1006 (.inr (6, [.ref 1001, .ref 28, .int (nI p), .int (nI i), .long nu, .ref nm, .int (nI p), .int (nI i)]))) nx 0 0
        refine v_istore_n (L1 := [(3, .int (tb f n i)), (2, .int 0), (1, .int (nI i)), (0, .ref 1006)]) (am_Dk d_Sg_becomeSymbolName (k := 42) rfl) (by decide) rfl ?_
        refine v_iload_n (am_Dk d_Sg_becomeSymbolName (k := 43) rfl) rfl ?_
        refine v_if_eq (tgt := 113) (am_Dk d_Sg_becomeSymbolName (k := 44) rfl) (by decide) (fun c18 => ?_) (fun c18 => ?_)
        · have Nc18 := (nI_eq (a := 0) (b := 0) (by omega) (by omega)).mp c18
          exact v_return (am_Dk d_Sg_becomeSymbolName (k := 57) rfl) rfl (by omega) (by omega) (Or.inr ⟨by first | exact fun z => absurd z.1 (by assumption) | exact fun z => absurd z.2.1 (by assumption) | (rintro ⟨z1, z2, z3⟩; simp_all), rfl, rfl, rfl⟩)
        · exact absurd (by decide) c18
      · have Nc9 := (nI_eq (a := i) (b := p + 1) (by omega) (by omega)).mp c9
        refine v_aload_n (am_Dk d_Sg_becomeSymbolName (k := 27) rfl) rfl ?_
        refine v_get (am_Dk d_Sg_becomeSymbolName (k := 28) rfl) f_Sg_9 m8 rfl ?_
        refine v_aload_n (am_Dk d_Sg_becomeSymbolName (k := 29) rfl) rfl ?_
        refine v_get (am_Dk d_Sg_becomeSymbolName (k := 30) rfl) f_Sg_44 m8 rfl ?_
        have m19 : (am_up M 1006 (.inr (6, [.ref 1001, .ref 28, .int (nI p), .int (nI i), .long nu, .ref nm, .int (nI p), .int (nI i)]))) 1001 = some (.inr (1, [.ref 1002, .int (nI n)])) := (am_up_ne (show 1001 ≠ 1006 from by decide)).trans (h1)
        have m20 : (am_up M 1006 (.inr (6, [.ref 1001, .ref 28, .int (nI p), .int (nI i), .long nu, .ref nm, .int (nI p), .int (nI i)]))) 1002 = some (.inl (0, 4096, .inl f)) := (am_up_ne (show 1002 ≠ 1006 from by decide)).trans (h2)
        refine v_callV (rest := []) (As := [.int (nI p)]) (mc' := 0) (ms' := 0) (am_Dk d_Sg_becomeSymbolName (k := 31) rfl) c_Sg_47 (Or.inl ⟨_, _, _, _, _, m19, cq_ok1⟩) (t_Tape_at G (d := 0) (i := p) (by omega) m19 m20 (by omega) (by omega)) (by omega) (by omega) (by omega) (by simp [Value.category]) rfl (fun v21 M22 n23 h24 => ?_) (fun _ _ _ h24 => ?_)
        rotate_left
        · exact absurd h24.1 (by simp)
        obtain ⟨h24, e25, e26⟩ := h24
        replace e25 := e25.symm
        replace e26 := e26.symm
        subst e25
        subst e26
        cases h24
        show am_V G _ _ _ _ _ 64 [(1, .int (nI i)), (0, .ref 1006)] [.int (tb f n p)] (am_up M 1006 (.inr (6, [.ref 1001, .ref 28, .int (nI p), .int (nI i), .long nu, .ref nm, .int (nI p), .int (nI i)]))) nx 0 0
        refine v_bipush (v := 46) (am_Dk d_Sg_becomeSymbolName (k := 32) rfl) (by decide) ?_
        refine v_icmp_ne (tgt := 73) (am_Dk d_Sg_becomeSymbolName (k := 33) rfl) (by decide) (fun c27 => ?_) (fun c27 => ?_)
        · refine v_iconst (v := 0) (am_Dk d_Sg_becomeSymbolName (k := 36) rfl) (by decide) ?_
          refine v_istore_n (L1 := [(2, .int 0), (1, .int (nI i)), (0, .ref 1006)]) (am_Dk d_Sg_becomeSymbolName (k := 37) rfl) (by decide) rfl ?_
          refine v_aload_n (am_Dk d_Sg_becomeSymbolName (k := 38) rfl) rfl ?_
          refine v_get (am_Dk d_Sg_becomeSymbolName (k := 39) rfl) f_Sg_9 m8 rfl ?_
          refine v_iload_n (am_Dk d_Sg_becomeSymbolName (k := 40) rfl) rfl ?_
          refine v_callV (rest := []) (As := [.int (nI i)]) (mc' := 0) (ms' := 0) (am_Dk d_Sg_becomeSymbolName (k := 41) rfl) c_Sg_47 (Or.inl ⟨_, _, _, _, _, m19, cq_ok1⟩) (t_Tape_at G (d := 0) (i := i) (by omega) m19 m20 (by omega) (by omega)) (by omega) (by omega) (by omega) (by simp [Value.category]) rfl (fun v28 M29 n30 h31 => ?_) (fun _ _ _ h31 => ?_)
          rotate_left
          · exact absurd h31.1 (by simp)
          obtain ⟨h31, e32, e33⟩ := h31
          replace e32 := e32.symm
          replace e33 := e33.symm
          subst e32
          subst e33
          cases h31
          show am_V G _ _ _ _ _ 83 [(2, .int 0), (1, .int (nI i)), (0, .ref 1006)] [.int (tb f n i)] (am_up M 1006 (.inr (6, [.ref 1001, .ref 28, .int (nI p), .int (nI i), .long nu, .ref nm, .int (nI p), .int (nI i)]))) nx 0 0
          refine v_istore_n (L1 := [(3, .int (tb f n i)), (2, .int 0), (1, .int (nI i)), (0, .ref 1006)]) (am_Dk d_Sg_becomeSymbolName (k := 42) rfl) (by decide) rfl ?_
          refine v_iload_n (am_Dk d_Sg_becomeSymbolName (k := 43) rfl) rfl ?_
          refine v_if_eq (tgt := 113) (am_Dk d_Sg_becomeSymbolName (k := 44) rfl) (by decide) (fun c34 => ?_) (fun c34 => ?_)
          · have Nc34 := (nI_eq (a := 0) (b := 0) (by omega) (by omega)).mp c34
            exact v_return (am_Dk d_Sg_becomeSymbolName (k := 57) rfl) rfl (by omega) (by omega) (Or.inr ⟨by first | exact fun z => absurd z.1 (by assumption) | exact fun z => absurd z.2.1 (by assumption) | (rintro ⟨z1, z2, z3⟩; simp_all), rfl, rfl, rfl⟩)
          · exact absurd (by decide) c34
        · refine v_iconst (v := 1) (am_Dk d_Sg_becomeSymbolName (k := 34) rfl) (by decide) ?_
          refine v_goto (tgt := 74) (am_Dk d_Sg_becomeSymbolName (k := 35) rfl) (by decide) ?_
          refine v_istore_n (L1 := [(2, .int 1), (1, .int (nI i)), (0, .ref 1006)]) (am_Dk d_Sg_becomeSymbolName (k := 37) rfl) (by decide) rfl ?_
          refine v_aload_n (am_Dk d_Sg_becomeSymbolName (k := 38) rfl) rfl ?_
          refine v_get (am_Dk d_Sg_becomeSymbolName (k := 39) rfl) f_Sg_9 m8 rfl ?_
          refine v_iload_n (am_Dk d_Sg_becomeSymbolName (k := 40) rfl) rfl ?_
          refine v_callV (rest := []) (As := [.int (nI i)]) (mc' := 0) (ms' := 0) (am_Dk d_Sg_becomeSymbolName (k := 41) rfl) c_Sg_47 (Or.inl ⟨_, _, _, _, _, m19, cq_ok1⟩) (t_Tape_at G (d := 0) (i := i) (by omega) m19 m20 (by omega) (by omega)) (by omega) (by omega) (by omega) (by simp [Value.category]) rfl (fun v35 M36 n37 h38 => ?_) (fun _ _ _ h38 => ?_)
          rotate_left
          · exact absurd h38.1 (by simp)
          obtain ⟨h38, e39, e40⟩ := h38
          replace e39 := e39.symm
          replace e40 := e40.symm
          subst e39
          subst e40
          cases h38
          show am_V G _ _ _ _ _ 83 [(2, .int 1), (1, .int (nI i)), (0, .ref 1006)] [.int (tb f n i)] (am_up M 1006 (.inr (6, [.ref 1001, .ref 28, .int (nI p), .int (nI i), .long nu, .ref nm, .int (nI p), .int (nI i)]))) nx 0 0
          refine v_istore_n (L1 := [(3, .int (tb f n i)), (2, .int 1), (1, .int (nI i)), (0, .ref 1006)]) (am_Dk d_Sg_becomeSymbolName (k := 42) rfl) (by decide) rfl ?_
          refine v_iload_n (am_Dk d_Sg_becomeSymbolName (k := 43) rfl) rfl ?_
          refine v_if_eq (tgt := 113) (am_Dk d_Sg_becomeSymbolName (k := 44) rfl) (by decide) (fun c41 => ?_) (fun c41 => ?_)
          · exact absurd c41 (by decide)
          · have Nc41 : ¬ 1 = 0 := fun z => c41 ((nI_eq (a := 1) (b := 0) (by omega) (by omega)).mpr z)
            refine v_iload_n (am_Dk d_Sg_becomeSymbolName (k := 45) rfl) rfl ?_
            refine v_iconst (v := (-1)) (am_Dk d_Sg_becomeSymbolName (k := 46) rfl) (by decide) ?_
            refine v_icmp_eq (tgt := 106) (am_Dk d_Sg_becomeSymbolName (k := 47) rfl) (by decide) (fun c42 => ?_) (fun c42 => ?_)
            · refine v_aload_n (am_Dk d_Sg_becomeSymbolName (k := 54) rfl) rfl ?_
              refine v_gets (v := .ref 35) (am_Dk d_Sg_becomeSymbolName (k := 55) rfl) s_Sg_143 (by decide +kernel) ?_
              refine v_put (am_Dk d_Sg_becomeSymbolName (k := 56) rfl) f_Sg_21 m8 (Nat.le_of_ble_eq_true rfl) rfl rfl ?_
              rw [am_uu0 (a := 1006)]
              exact v_return (am_Dk d_Sg_becomeSymbolName (k := 57) rfl) rfl (by omega) (by omega) (Or.inl ⟨⟨by assumption, by assumption, by first | exact Or.inl (by assumption) | exact Or.inr (Or.inl (by assumption)) | exact Or.inr (Or.inr (by assumption))⟩, rfl, rfl, rfl⟩)
            · refine v_iload_n (am_Dk d_Sg_becomeSymbolName (k := 48) rfl) rfl ?_
              refine v_bipush (v := 37) (am_Dk d_Sg_becomeSymbolName (k := 49) rfl) (by decide) ?_
              refine v_icmp_eq (tgt := 106) (am_Dk d_Sg_becomeSymbolName (k := 50) rfl) (by decide) (fun c43 => ?_) (fun c43 => ?_)
              · refine v_aload_n (am_Dk d_Sg_becomeSymbolName (k := 54) rfl) rfl ?_
                refine v_gets (v := .ref 35) (am_Dk d_Sg_becomeSymbolName (k := 55) rfl) s_Sg_143 (by decide +kernel) ?_
                refine v_put (am_Dk d_Sg_becomeSymbolName (k := 56) rfl) f_Sg_21 m8 (Nat.le_of_ble_eq_true rfl) rfl rfl ?_
                rw [am_uu0 (a := 1006)]
                exact v_return (am_Dk d_Sg_becomeSymbolName (k := 57) rfl) rfl (by omega) (by omega) (Or.inl ⟨⟨by assumption, by assumption, by first | exact Or.inl (by assumption) | exact Or.inr (Or.inl (by assumption)) | exact Or.inr (Or.inr (by assumption))⟩, rfl, rfl, rfl⟩)
              · refine v_iload_n (am_Dk d_Sg_becomeSymbolName (k := 51) rfl) rfl ?_
                refine v_callS (rest := []) (As := [.int (tb f n i)]) (mc' := 0) (ms' := 0) (am_Dk d_Sg_becomeSymbolName (k := 52) rfl) c_Sg_140 (t_Sg_isBlank G (d := 0)) (by omega) (by omega) (by omega) (by simp [Value.category]) rfl (fun v44 M45 n46 h47 => ?_) (fun _ _ _ h47 => ?_)
                rotate_left
                · exact absurd h47.1 (by simp)
                obtain ⟨h47, e48, e49⟩ := h47
                replace e48 := e48.symm
                replace e49 := e49.symm
                subst e48
                subst e49
                cases h47
                show am_V G _ _ _ _ _ 103 [(3, .int (tb f n i)), (2, .int 1), (1, .int (nI i)), (0, .ref 1006)] [.int (bi (blB (tb f n i)))] (am_up M 1006 (.inr (6, [.ref 1001, .ref 28, .int (nI p), .int (nI i), .long nu, .ref nm, .int (nI p), .int (nI i)]))) nx 0 0
                refine v_if_eq (tgt := 113) (am_Dk d_Sg_becomeSymbolName (k := 53) rfl) (by decide) (fun c50 => ?_) (fun c50 => ?_)
                · have Nc50 := bi0.mp c50
                  exact v_return (am_Dk d_Sg_becomeSymbolName (k := 57) rfl) rfl (by omega) (by omega) (Or.inr ⟨by first | exact fun z => absurd z.1 (by assumption) | exact fun z => absurd z.2.1 (by assumption) | (rintro ⟨z1, z2, z3⟩; simp_all), rfl, rfl, rfl⟩)
                · have Nc50 := bi1 c50
                  refine v_aload_n (am_Dk d_Sg_becomeSymbolName (k := 54) rfl) rfl ?_
                  refine v_gets (v := .ref 35) (am_Dk d_Sg_becomeSymbolName (k := 55) rfl) s_Sg_143 (by decide +kernel) ?_
                  refine v_put (am_Dk d_Sg_becomeSymbolName (k := 56) rfl) f_Sg_21 m8 (Nat.le_of_ble_eq_true rfl) rfl rfl ?_
                  rw [am_uu0 (a := 1006)]
                  exact v_return (am_Dk d_Sg_becomeSymbolName (k := 57) rfl) rfl (by omega) (by omega) (Or.inl ⟨⟨by assumption, by assumption, by first | exact Or.inl (by assumption) | exact Or.inr (Or.inl (by assumption)) | exact Or.inr (Or.inr (by assumption))⟩, rfl, rfl, rfl⟩)
    · have Nc1 : ¬ n ≤ i := fun z => c1 ((nI_leI (a := n) (b := i) (by omega) (by omega)).mpr z)
      exfalso
      omega
  | succ m ih =>
    intro i him he
    rw [pyF] at he
    refine v_iload_n (am_Dk d_Sg_becomeSymbolName (k := 5) rfl) rfl ?_
    refine v_aload_n (am_Dk d_Sg_becomeSymbolName (k := 6) rfl) rfl ?_
    refine v_get (am_Dk d_Sg_becomeSymbolName (k := 7) rfl) f_Sg_9 h6 rfl ?_
    refine v_get (am_Dk d_Sg_becomeSymbolName (k := 8) rfl) f_Sg_114 h1 rfl ?_
    refine v_icmp_ge (tgt := 38) (am_Dk d_Sg_becomeSymbolName (k := 9) rfl) (by decide) (fun c1 => ?_) (fun c1 => ?_)
    · have Nc1 := (nI_leI (a := n) (b := i) (by omega) (by omega)).mp c1
      exfalso
      omega
    · have Nc1 : ¬ n ≤ i := fun z => c1 ((nI_leI (a := n) (b := i) (by omega) (by omega)).mpr z)
      refine v_aload_n (am_Dk d_Sg_becomeSymbolName (k := 10) rfl) rfl ?_
      refine v_get (am_Dk d_Sg_becomeSymbolName (k := 11) rfl) f_Sg_9 h6 rfl ?_
      refine v_iload_n (am_Dk d_Sg_becomeSymbolName (k := 12) rfl) rfl ?_
      refine v_callV (rest := []) (As := [.int (nI i)]) (mc' := 0) (ms' := 0) (am_Dk d_Sg_becomeSymbolName (k := 13) rfl) c_Sg_47 (Or.inl ⟨_, _, _, _, _, h1, cq_ok1⟩) (t_Tape_at G (d := 0) (i := i) (by omega) h1 h2 (by omega) (by omega)) (by omega) (by omega) (by omega) (by simp [Value.category]) rfl (fun v2 M3 n4 h5 => ?_) (fun _ _ _ h5 => ?_)
      rotate_left
      · exact absurd h5.1 (by simp)
      obtain ⟨h5, e6, e7⟩ := h5
      replace e6 := e6.symm
      replace e7 := e7.symm
      subst e6
      subst e7
      cases h5
      show am_V G _ _ _ _ _ 26 [(1, .int (nI i)), (0, .ref 1006)] [.int (tb f n i)] M nx 0 0
      refine v_callS (rest := []) (As := [.int (tb f n i)]) (mc' := 0) (ms' := 0) (am_Dk d_Sg_becomeSymbolName (k := 14) rfl) c_Sg_83 (t_Sg_isSymbol G (d := 0) (by omega)) (by omega) (by omega) (by omega) (by simp [Value.category]) rfl (fun v8 M9 n10 h11 => ?_) (fun _ _ _ h11 => ?_)
      rotate_left
      · exact absurd h11.1 (by simp)
      obtain ⟨h11, e12, e13⟩ := h11
      replace e12 := e12.symm
      replace e13 := e13.symm
      subst e12
      subst e13
      cases h11
      show am_V G _ _ _ _ _ 29 [(1, .int (nI i)), (0, .ref 1006)] [.int (bi (syB (tb f n i)))] M nx 0 0
      refine v_if_eq (tgt := 38) (am_Dk d_Sg_becomeSymbolName (k := 15) rfl) (by decide) (fun c14 => ?_) (fun c14 => ?_)
      · rw [if_neg (by rw [bi0.mp c14]; decide)] at he
        subst he
        clear ih
        refine v_aload_n (am_Dk d_Sg_becomeSymbolName (k := 18) rfl) rfl ?_
        refine v_iload_n (am_Dk d_Sg_becomeSymbolName (k := 19) rfl) rfl ?_
        refine v_callV (rest := []) (As := [.int (nI i)]) (mc' := 0) (ms' := 0) (am_Dk d_Sg_becomeSymbolName (k := 20) rfl) c_Sg_76 (Or.inl ⟨_, _, _, _, _, h6, cq_ok6⟩) (t_Sg_becomeName G (d := 0) (by omega) h6) (by omega) (by omega) (by omega) (by simp [Value.category]) rfl (fun v15 M16 n17 h18 => ?_) (fun _ _ _ h18 => ?_)
        rotate_left
        · exact absurd h18.1 (by simp)
        obtain ⟨h18, e19, e20⟩ := h18
        replace e19 := e19.symm
        replace e20 := e20.symm
        subst e19
        subst e20
        cases h18
        show am_V G _ _ _ _ _ 43 [(1, .int (nI i)), (0, .ref 1006)] [] (am_up M 1006 (.inr (6, [.ref 1001, .ref 28, .int (nI p), .int (nI i), .long nu, .ref nm, .int (nI p), .int (nI i)]))) nx 0 0
        refine v_iload_n (am_Dk d_Sg_becomeSymbolName (k := 21) rfl) rfl ?_
        refine v_aload_n (am_Dk d_Sg_becomeSymbolName (k := 22) rfl) rfl ?_
        have m21 : (am_up M 1006 (.inr (6, [.ref 1001, .ref 28, .int (nI p), .int (nI i), .long nu, .ref nm, .int (nI p), .int (nI i)]))) 1006 = some (.inr (6, [.ref 1001, .ref 28, .int (nI p), .int (nI i), .long nu, .ref nm, .int (nI p), .int (nI i)])) := am_up_eq _ _ _
        refine v_get (am_Dk d_Sg_becomeSymbolName (k := 23) rfl) f_Sg_44 m21 rfl ?_
        refine v_iconst (v := 1) (am_Dk d_Sg_becomeSymbolName (k := 24) rfl) (by decide) ?_
        refine v_iadd (am_Dk d_Sg_becomeSymbolName (k := 25) rfl) ?_
        rw [nI_1]
        refine v_icmp_ne (tgt := 73) (am_Dk d_Sg_becomeSymbolName (k := 26) rfl) (by decide) (fun c22 => ?_) (fun c22 => ?_)
        · have Nc22 : ¬ i = (p + 1) := fun z => c22 ((nI_eq (a := i) (b := p + 1) (by omega) (by omega)).mpr z)
          refine v_iconst (v := 0) (am_Dk d_Sg_becomeSymbolName (k := 36) rfl) (by decide) ?_
          refine v_istore_n (L1 := [(2, .int 0), (1, .int (nI i)), (0, .ref 1006)]) (am_Dk d_Sg_becomeSymbolName (k := 37) rfl) (by decide) rfl ?_
          refine v_aload_n (am_Dk d_Sg_becomeSymbolName (k := 38) rfl) rfl ?_
          refine v_get (am_Dk d_Sg_becomeSymbolName (k := 39) rfl) f_Sg_9 m21 rfl ?_
          refine v_iload_n (am_Dk d_Sg_becomeSymbolName (k := 40) rfl) rfl ?_
          have m23 : (am_up M 1006 (.inr (6, [.ref 1001, .ref 28, .int (nI p), .int (nI i), .long nu, .ref nm, .int (nI p), .int (nI i)]))) 1001 = some (.inr (1, [.ref 1002, .int (nI n)])) := (am_up_ne (show 1001 ≠ 1006 from by decide)).trans (h1)
          have m24 : (am_up M 1006 (.inr (6, [.ref 1001, .ref 28, .int (nI p), .int (nI i), .long nu, .ref nm, .int (nI p), .int (nI i)]))) 1002 = some (.inl (0, 4096, .inl f)) := (am_up_ne (show 1002 ≠ 1006 from by decide)).trans (h2)
          refine v_callV (rest := []) (As := [.int (nI i)]) (mc' := 0) (ms' := 0) (am_Dk d_Sg_becomeSymbolName (k := 41) rfl) c_Sg_47 (Or.inl ⟨_, _, _, _, _, m23, cq_ok1⟩) (t_Tape_at G (d := 0) (i := i) (by omega) m23 m24 (by omega) (by omega)) (by omega) (by omega) (by omega) (by simp [Value.category]) rfl (fun v25 M26 n27 h28 => ?_) (fun _ _ _ h28 => ?_)
          rotate_left
          · exact absurd h28.1 (by simp)
          obtain ⟨h28, e29, e30⟩ := h28
          replace e29 := e29.symm
          replace e30 := e30.symm
          subst e29
          subst e30
          cases h28
          show am_V G _ _ _ _ _ 83 [(2, .int 0), (1, .int (nI i)), (0, .ref 1006)] [.int (tb f n i)] (am_up M 1006 (.inr (6, [.ref 1001, .ref 28, .int (nI p), .int (nI i), .long nu, .ref nm, .int (nI p), .int (nI i)]))) nx 0 0
          refine v_istore_n (L1 := [(3, .int (tb f n i)), (2, .int 0), (1, .int (nI i)), (0, .ref 1006)]) (am_Dk d_Sg_becomeSymbolName (k := 42) rfl) (by decide) rfl ?_
          refine v_iload_n (am_Dk d_Sg_becomeSymbolName (k := 43) rfl) rfl ?_
          refine v_if_eq (tgt := 113) (am_Dk d_Sg_becomeSymbolName (k := 44) rfl) (by decide) (fun c31 => ?_) (fun c31 => ?_)
          · have Nc31 := (nI_eq (a := 0) (b := 0) (by omega) (by omega)).mp c31
            exact v_return (am_Dk d_Sg_becomeSymbolName (k := 57) rfl) rfl (by omega) (by omega) (Or.inr ⟨by first | exact fun z => absurd z.1 (by assumption) | exact fun z => absurd z.2.1 (by assumption) | (rintro ⟨z1, z2, z3⟩; simp_all), rfl, rfl, rfl⟩)
          · exact absurd (by decide) c31
        · have Nc22 := (nI_eq (a := i) (b := p + 1) (by omega) (by omega)).mp c22
          refine v_aload_n (am_Dk d_Sg_becomeSymbolName (k := 27) rfl) rfl ?_
          refine v_get (am_Dk d_Sg_becomeSymbolName (k := 28) rfl) f_Sg_9 m21 rfl ?_
          refine v_aload_n (am_Dk d_Sg_becomeSymbolName (k := 29) rfl) rfl ?_
          refine v_get (am_Dk d_Sg_becomeSymbolName (k := 30) rfl) f_Sg_44 m21 rfl ?_
          have m32 : (am_up M 1006 (.inr (6, [.ref 1001, .ref 28, .int (nI p), .int (nI i), .long nu, .ref nm, .int (nI p), .int (nI i)]))) 1001 = some (.inr (1, [.ref 1002, .int (nI n)])) := (am_up_ne (show 1001 ≠ 1006 from by decide)).trans (h1)
          have m33 : (am_up M 1006 (.inr (6, [.ref 1001, .ref 28, .int (nI p), .int (nI i), .long nu, .ref nm, .int (nI p), .int (nI i)]))) 1002 = some (.inl (0, 4096, .inl f)) := (am_up_ne (show 1002 ≠ 1006 from by decide)).trans (h2)
          refine v_callV (rest := []) (As := [.int (nI p)]) (mc' := 0) (ms' := 0) (am_Dk d_Sg_becomeSymbolName (k := 31) rfl) c_Sg_47 (Or.inl ⟨_, _, _, _, _, m32, cq_ok1⟩) (t_Tape_at G (d := 0) (i := p) (by omega) m32 m33 (by omega) (by omega)) (by omega) (by omega) (by omega) (by simp [Value.category]) rfl (fun v34 M35 n36 h37 => ?_) (fun _ _ _ h37 => ?_)
          rotate_left
          · exact absurd h37.1 (by simp)
          obtain ⟨h37, e38, e39⟩ := h37
          replace e38 := e38.symm
          replace e39 := e39.symm
          subst e38
          subst e39
          cases h37
          show am_V G _ _ _ _ _ 64 [(1, .int (nI i)), (0, .ref 1006)] [.int (tb f n p)] (am_up M 1006 (.inr (6, [.ref 1001, .ref 28, .int (nI p), .int (nI i), .long nu, .ref nm, .int (nI p), .int (nI i)]))) nx 0 0
          refine v_bipush (v := 46) (am_Dk d_Sg_becomeSymbolName (k := 32) rfl) (by decide) ?_
          refine v_icmp_ne (tgt := 73) (am_Dk d_Sg_becomeSymbolName (k := 33) rfl) (by decide) (fun c40 => ?_) (fun c40 => ?_)
          · refine v_iconst (v := 0) (am_Dk d_Sg_becomeSymbolName (k := 36) rfl) (by decide) ?_
            refine v_istore_n (L1 := [(2, .int 0), (1, .int (nI i)), (0, .ref 1006)]) (am_Dk d_Sg_becomeSymbolName (k := 37) rfl) (by decide) rfl ?_
            refine v_aload_n (am_Dk d_Sg_becomeSymbolName (k := 38) rfl) rfl ?_
            refine v_get (am_Dk d_Sg_becomeSymbolName (k := 39) rfl) f_Sg_9 m21 rfl ?_
            refine v_iload_n (am_Dk d_Sg_becomeSymbolName (k := 40) rfl) rfl ?_
            refine v_callV (rest := []) (As := [.int (nI i)]) (mc' := 0) (ms' := 0) (am_Dk d_Sg_becomeSymbolName (k := 41) rfl) c_Sg_47 (Or.inl ⟨_, _, _, _, _, m32, cq_ok1⟩) (t_Tape_at G (d := 0) (i := i) (by omega) m32 m33 (by omega) (by omega)) (by omega) (by omega) (by omega) (by simp [Value.category]) rfl (fun v41 M42 n43 h44 => ?_) (fun _ _ _ h44 => ?_)
            rotate_left
            · exact absurd h44.1 (by simp)
            obtain ⟨h44, e45, e46⟩ := h44
            replace e45 := e45.symm
            replace e46 := e46.symm
            subst e45
            subst e46
            cases h44
            show am_V G _ _ _ _ _ 83 [(2, .int 0), (1, .int (nI i)), (0, .ref 1006)] [.int (tb f n i)] (am_up M 1006 (.inr (6, [.ref 1001, .ref 28, .int (nI p), .int (nI i), .long nu, .ref nm, .int (nI p), .int (nI i)]))) nx 0 0
            refine v_istore_n (L1 := [(3, .int (tb f n i)), (2, .int 0), (1, .int (nI i)), (0, .ref 1006)]) (am_Dk d_Sg_becomeSymbolName (k := 42) rfl) (by decide) rfl ?_
            refine v_iload_n (am_Dk d_Sg_becomeSymbolName (k := 43) rfl) rfl ?_
            refine v_if_eq (tgt := 113) (am_Dk d_Sg_becomeSymbolName (k := 44) rfl) (by decide) (fun c47 => ?_) (fun c47 => ?_)
            · have Nc47 := (nI_eq (a := 0) (b := 0) (by omega) (by omega)).mp c47
              exact v_return (am_Dk d_Sg_becomeSymbolName (k := 57) rfl) rfl (by omega) (by omega) (Or.inr ⟨by first | exact fun z => absurd z.1 (by assumption) | exact fun z => absurd z.2.1 (by assumption) | (rintro ⟨z1, z2, z3⟩; simp_all), rfl, rfl, rfl⟩)
            · exact absurd (by decide) c47
          · refine v_iconst (v := 1) (am_Dk d_Sg_becomeSymbolName (k := 34) rfl) (by decide) ?_
            refine v_goto (tgt := 74) (am_Dk d_Sg_becomeSymbolName (k := 35) rfl) (by decide) ?_
            refine v_istore_n (L1 := [(2, .int 1), (1, .int (nI i)), (0, .ref 1006)]) (am_Dk d_Sg_becomeSymbolName (k := 37) rfl) (by decide) rfl ?_
            refine v_aload_n (am_Dk d_Sg_becomeSymbolName (k := 38) rfl) rfl ?_
            refine v_get (am_Dk d_Sg_becomeSymbolName (k := 39) rfl) f_Sg_9 m21 rfl ?_
            refine v_iload_n (am_Dk d_Sg_becomeSymbolName (k := 40) rfl) rfl ?_
            refine v_callV (rest := []) (As := [.int (nI i)]) (mc' := 0) (ms' := 0) (am_Dk d_Sg_becomeSymbolName (k := 41) rfl) c_Sg_47 (Or.inl ⟨_, _, _, _, _, m32, cq_ok1⟩) (t_Tape_at G (d := 0) (i := i) (by omega) m32 m33 (by omega) (by omega)) (by omega) (by omega) (by omega) (by simp [Value.category]) rfl (fun v48 M49 n50 h51 => ?_) (fun _ _ _ h51 => ?_)
            rotate_left
            · exact absurd h51.1 (by simp)
            obtain ⟨h51, e52, e53⟩ := h51
            replace e52 := e52.symm
            replace e53 := e53.symm
            subst e52
            subst e53
            cases h51
            show am_V G _ _ _ _ _ 83 [(2, .int 1), (1, .int (nI i)), (0, .ref 1006)] [.int (tb f n i)] (am_up M 1006 (.inr (6, [.ref 1001, .ref 28, .int (nI p), .int (nI i), .long nu, .ref nm, .int (nI p), .int (nI i)]))) nx 0 0
            refine v_istore_n (L1 := [(3, .int (tb f n i)), (2, .int 1), (1, .int (nI i)), (0, .ref 1006)]) (am_Dk d_Sg_becomeSymbolName (k := 42) rfl) (by decide) rfl ?_
            refine v_iload_n (am_Dk d_Sg_becomeSymbolName (k := 43) rfl) rfl ?_
            refine v_if_eq (tgt := 113) (am_Dk d_Sg_becomeSymbolName (k := 44) rfl) (by decide) (fun c54 => ?_) (fun c54 => ?_)
            · exact absurd c54 (by decide)
            · have Nc54 : ¬ 1 = 0 := fun z => c54 ((nI_eq (a := 1) (b := 0) (by omega) (by omega)).mpr z)
              refine v_iload_n (am_Dk d_Sg_becomeSymbolName (k := 45) rfl) rfl ?_
              refine v_iconst (v := (-1)) (am_Dk d_Sg_becomeSymbolName (k := 46) rfl) (by decide) ?_
              refine v_icmp_eq (tgt := 106) (am_Dk d_Sg_becomeSymbolName (k := 47) rfl) (by decide) (fun c55 => ?_) (fun c55 => ?_)
              · refine v_aload_n (am_Dk d_Sg_becomeSymbolName (k := 54) rfl) rfl ?_
                refine v_gets (v := .ref 35) (am_Dk d_Sg_becomeSymbolName (k := 55) rfl) s_Sg_143 (by decide +kernel) ?_
                refine v_put (am_Dk d_Sg_becomeSymbolName (k := 56) rfl) f_Sg_21 m21 (Nat.le_of_ble_eq_true rfl) rfl rfl ?_
                rw [am_uu0 (a := 1006)]
                exact v_return (am_Dk d_Sg_becomeSymbolName (k := 57) rfl) rfl (by omega) (by omega) (Or.inl ⟨⟨by assumption, by assumption, by first | exact Or.inl (by assumption) | exact Or.inr (Or.inl (by assumption)) | exact Or.inr (Or.inr (by assumption))⟩, rfl, rfl, rfl⟩)
              · refine v_iload_n (am_Dk d_Sg_becomeSymbolName (k := 48) rfl) rfl ?_
                refine v_bipush (v := 37) (am_Dk d_Sg_becomeSymbolName (k := 49) rfl) (by decide) ?_
                refine v_icmp_eq (tgt := 106) (am_Dk d_Sg_becomeSymbolName (k := 50) rfl) (by decide) (fun c56 => ?_) (fun c56 => ?_)
                · refine v_aload_n (am_Dk d_Sg_becomeSymbolName (k := 54) rfl) rfl ?_
                  refine v_gets (v := .ref 35) (am_Dk d_Sg_becomeSymbolName (k := 55) rfl) s_Sg_143 (by decide +kernel) ?_
                  refine v_put (am_Dk d_Sg_becomeSymbolName (k := 56) rfl) f_Sg_21 m21 (Nat.le_of_ble_eq_true rfl) rfl rfl ?_
                  rw [am_uu0 (a := 1006)]
                  exact v_return (am_Dk d_Sg_becomeSymbolName (k := 57) rfl) rfl (by omega) (by omega) (Or.inl ⟨⟨by assumption, by assumption, by first | exact Or.inl (by assumption) | exact Or.inr (Or.inl (by assumption)) | exact Or.inr (Or.inr (by assumption))⟩, rfl, rfl, rfl⟩)
                · refine v_iload_n (am_Dk d_Sg_becomeSymbolName (k := 51) rfl) rfl ?_
                  refine v_callS (rest := []) (As := [.int (tb f n i)]) (mc' := 0) (ms' := 0) (am_Dk d_Sg_becomeSymbolName (k := 52) rfl) c_Sg_140 (t_Sg_isBlank G (d := 0)) (by omega) (by omega) (by omega) (by simp [Value.category]) rfl (fun v57 M58 n59 h60 => ?_) (fun _ _ _ h60 => ?_)
                  rotate_left
                  · exact absurd h60.1 (by simp)
                  obtain ⟨h60, e61, e62⟩ := h60
                  replace e61 := e61.symm
                  replace e62 := e62.symm
                  subst e61
                  subst e62
                  cases h60
                  show am_V G _ _ _ _ _ 103 [(3, .int (tb f n i)), (2, .int 1), (1, .int (nI i)), (0, .ref 1006)] [.int (bi (blB (tb f n i)))] (am_up M 1006 (.inr (6, [.ref 1001, .ref 28, .int (nI p), .int (nI i), .long nu, .ref nm, .int (nI p), .int (nI i)]))) nx 0 0
                  refine v_if_eq (tgt := 113) (am_Dk d_Sg_becomeSymbolName (k := 53) rfl) (by decide) (fun c63 => ?_) (fun c63 => ?_)
                  · have Nc63 := bi0.mp c63
                    exact v_return (am_Dk d_Sg_becomeSymbolName (k := 57) rfl) rfl (by omega) (by omega) (Or.inr ⟨by first | exact fun z => absurd z.1 (by assumption) | exact fun z => absurd z.2.1 (by assumption) | (rintro ⟨z1, z2, z3⟩; simp_all), rfl, rfl, rfl⟩)
                  · have Nc63 := bi1 c63
                    refine v_aload_n (am_Dk d_Sg_becomeSymbolName (k := 54) rfl) rfl ?_
                    refine v_gets (v := .ref 35) (am_Dk d_Sg_becomeSymbolName (k := 55) rfl) s_Sg_143 (by decide +kernel) ?_
                    refine v_put (am_Dk d_Sg_becomeSymbolName (k := 56) rfl) f_Sg_21 m21 (Nat.le_of_ble_eq_true rfl) rfl rfl ?_
                    rw [am_uu0 (a := 1006)]
                    exact v_return (am_Dk d_Sg_becomeSymbolName (k := 57) rfl) rfl (by omega) (by omega) (Or.inl ⟨⟨by assumption, by assumption, by first | exact Or.inl (by assumption) | exact Or.inr (Or.inl (by assumption)) | exact Or.inr (Or.inr (by assumption))⟩, rfl, rfl, rfl⟩)
      · rw [if_pos (bi1 c14)] at he
        refine v_iinc (v := nI (i + 1)) (L1 := [(1, .int (nI (i + 1))), (0, .ref 1006)]) (am_Dk d_Sg_becomeSymbolName (k := 16) rfl) rfl (nI_1 _) (by decide) rfl ?_
        refine v_goto (tgt := 7) (am_Dk d_Sg_becomeSymbolName (k := 17) rfl) (by decide) ?_
        exact ih (i + 1) (by omega) he
set_option maxRecDepth 20000 in
theorem t_Sg_becomeSymbolName (G : am_G) {d nx : Nat} (hd : 1 ≤ d) {M : am_M} {f : Nat → Int32} {n : Nat} (h1 : M 1001 = some (.inr (1, [.ref 1002, .int (nI n)]))) (h2 : M 1002 = some (.inl (0, 4096, .inl f))) (hn : n ≤ 4096) {kd nm p : Nat} {af nf nt : Int32} {nu : Int64} (hp : p < n) (h6 : M 1006 = some (.inr (6, [.ref 1001, .ref kd, .int (nI p), .int af, .long nu, .ref nm, .int nf, .int nt]))) : am_Tr G m_Sg_becomeSymbolName d 0 0 [.ref 1006] M nx (fun r M1 nx1 => (((py (tb f n) n (p + 1)) = p + 1 ∧ tb f n p = 46 ∧ (tb f n (py (tb f n) n (p + 1)) = -1 ∨ tb f n (py (tb f n) n (p + 1)) = 37 ∨ blB (tb f n (py (tb f n) n (p + 1))) = true)) ∧ r = .inl none ∧ M1 = am_up M 1006 (.inr (6, [.ref 1001, .ref 35, .int (nI p), .int (nI (py (tb f n) n (p + 1))), .long nu, .ref nm, .int (nI p), .int (nI (py (tb f n) n (p + 1)))])) ∧ nx1 = nx) ∨ (¬ ((py (tb f n) n (p + 1)) = p + 1 ∧ tb f n p = 46 ∧ (tb f n (py (tb f n) n (p + 1)) = -1 ∨ tb f n (py (tb f n) n (p + 1)) = 37 ∨ blB (tb f n (py (tb f n) n (p + 1))) = true)) ∧ r = .inl none ∧ M1 = am_up M 1006 (.inr (6, [.ref 1001, .ref 28, .int (nI p), .int (nI (py (tb f n) n (p + 1))), .long nu, .ref nm, .int (nI p), .int (nI (py (tb f n) n (p + 1)))])) ∧ nx1 = nx)) := by
  refine am_TrOf (by decide) (Nat.le_of_ble_eq_true rfl) ?_
  show am_V G _ _ _ _ _ 0 [(0, .ref 1006)] [] M nx 0 0
  refine v_aload_n (am_Dk d_Sg_becomeSymbolName (k := 0) rfl) rfl ?_
  refine v_get (am_Dk d_Sg_becomeSymbolName (k := 1) rfl) f_Sg_44 h6 rfl ?_
  refine v_iconst (v := 1) (am_Dk d_Sg_becomeSymbolName (k := 2) rfl) (by decide) ?_
  refine v_iadd (am_Dk d_Sg_becomeSymbolName (k := 3) rfl) ?_
  rw [nI_1]
  refine v_istore_n (L1 := [(1, .int (nI (p + 1))), (0, .ref 1006)]) (am_Dk d_Sg_becomeSymbolName (k := 4) rfl) (by decide) rfl ?_
  exact l_Sg_becomeSymbolName1 G hd h1 h2 hn hp h6 (n - (p + 1)) (p + 1) (by omega) rfl
set_option maxRecDepth 20000 in
theorem t_Sg_becomeMark (G : am_G) {d nx : Nat} (hd : 1 ≤ d) {M : am_M} {f : Nat → Int32} {n : Nat} (h1 : M 1001 = some (.inr (1, [.ref 1002, .int (nI n)]))) (h2 : M 1002 = some (.inl (0, 4096, .inl f))) (hn : n ≤ 4096) {kd nm p : Nat} {af nf nt : Int32} {nu : Int64} {b : Int32} (hp : p ≤ n) (h6 : M 1006 = some (.inr (6, [.ref 1001, .ref kd, .int (nI p), .int af, .long nu, .ref nm, .int nf, .int nt]))) : am_Tr G m_Sg_becomeMark d 0 0 [.ref 1006, .int b] M nx (fun r M1 nx1 => ((b = 91 ∧ tb f n (p + 1) = 93) ∧ r = .inl none ∧ M1 = am_up M 1006 (.inr (6, [.ref 1001, .ref 28, .int (nI p), .int (nI (p + 2)), .long nu, .ref nm, .int (nI p), .int (nI (p + 2))])) ∧ nx1 = nx) ∨ ((b = 33 ∨ b = 59) ∧ r = .inl none ∧ M1 = am_up M 1006 (.inr (6, [.ref 1001, .ref 28, .int (nI p), .int (nI (p + 1)), .long nu, .ref nm, .int (nI p), .int (nI (p + 1))])) ∧ nx1 = nx) ∨ (b = -1 ∧ r = .inl none ∧ M1 = am_up M 1006 (.inr (6, [.ref 1001, .ref 36, .int (nI p), .int (nI p), .long nu, .ref nm, .int nf, .int nt])) ∧ nx1 = nx) ∨ ((¬ (b = 91 ∧ tb f n (p + 1) = 93) ∧ ¬ (b = 33 ∨ b = 59) ∧ ¬ b = -1) ∧ r = .inl none ∧ M1 = am_up M 1006 (.inr (6, [.ref 1001, .ref (mkK b), .int (nI p), .int (nI (p + 1)), .long nu, .ref nm, .int nf, .int nt])) ∧ nx1 = nx)) := by
  refine am_TrOf (by decide) (Nat.le_of_ble_eq_true rfl) ?_
  show am_V G _ _ _ _ _ 0 [(0, .ref 1006), (1, .int b)] [] M nx 0 0
  refine v_iload_n (am_Dk d_Sg_becomeMark (k := 0) rfl) rfl ?_
  refine v_bipush (v := 91) (am_Dk d_Sg_becomeMark (k := 1) rfl) (by decide) ?_
  refine v_icmp_ne (tgt := 37) (am_Dk d_Sg_becomeMark (k := 2) rfl) (by decide) (fun c1 => ?_) (fun c1 => ?_)
  · refine v_iload_n (am_Dk d_Sg_becomeMark (k := 19) rfl) rfl ?_
    refine v_bipush (v := 33) (am_Dk d_Sg_becomeMark (k := 20) rfl) (by decide) ?_
    refine v_icmp_eq (tgt := 49) (am_Dk d_Sg_becomeMark (k := 21) rfl) (by decide) (fun c2 => ?_) (fun c2 => ?_)
    · refine v_aload_n (am_Dk d_Sg_becomeMark (k := 25) rfl) rfl ?_
      refine v_aload_n (am_Dk d_Sg_becomeMark (k := 26) rfl) rfl ?_
      refine v_get (am_Dk d_Sg_becomeMark (k := 27) rfl) f_Sg_44 h6 rfl ?_
      refine v_iconst (v := 1) (am_Dk d_Sg_becomeMark (k := 28) rfl) (by decide) ?_
      refine v_iadd (am_Dk d_Sg_becomeMark (k := 29) rfl) ?_
      rw [nI_1]
      refine v_callV (rest := []) (As := [.int (nI (p + 1))]) (mc' := 0) (ms' := 0) (am_Dk d_Sg_becomeMark (k := 30) rfl) c_Sg_76 (Or.inl ⟨_, _, _, _, _, h6, cq_ok6⟩) (t_Sg_becomeName G (d := 0) (by omega) h6) (by omega) (by omega) (by omega) (by simp [Value.category]) rfl (fun v3 M4 n5 h6 => ?_) (fun _ _ _ h6 => ?_)
      rotate_left
      · exact absurd h6.1 (by simp)
      obtain ⟨h6, e7, e8⟩ := h6
      replace e7 := e7.symm
      replace e8 := e8.symm
      subst e7
      subst e8
      cases h6
      show am_V G _ _ _ _ _ 59 [(0, .ref 1006), (1, .int b)] [] (am_up M 1006 (.inr (6, [.ref 1001, .ref 28, .int (nI p), .int (nI (p + 1)), .long nu, .ref nm, .int (nI p), .int (nI (p + 1))]))) nx 0 0
      refine v_goto (tgt := 95) (am_Dk d_Sg_becomeMark (k := 31) rfl) (by decide) ?_
      exact v_return (am_Dk d_Sg_becomeMark (k := 49) rfl) rfl (by omega) (by omega) (Or.inr (Or.inl ⟨by first | exact Or.inl (by assumption) | exact Or.inr (by assumption), rfl, rfl, rfl⟩))
    · refine v_iload_n (am_Dk d_Sg_becomeMark (k := 22) rfl) rfl ?_
      refine v_bipush (v := 59) (am_Dk d_Sg_becomeMark (k := 23) rfl) (by decide) ?_
      refine v_icmp_ne (tgt := 62) (am_Dk d_Sg_becomeMark (k := 24) rfl) (by decide) (fun c9 => ?_) (fun c9 => ?_)
      · refine v_iload_n (am_Dk d_Sg_becomeMark (k := 32) rfl) rfl ?_
        refine v_iconst (v := (-1)) (am_Dk d_Sg_becomeMark (k := 33) rfl) (by decide) ?_
        refine v_icmp_ne (tgt := 81) (am_Dk d_Sg_becomeMark (k := 34) rfl) (by decide) (fun c10 => ?_) (fun c10 => ?_)
        · refine v_aload_n (am_Dk d_Sg_becomeMark (k := 41) rfl) rfl ?_
          refine v_iload_n (am_Dk d_Sg_becomeMark (k := 42) rfl) rfl ?_
          refine v_callS (rest := [.ref 1006]) (As := [.int b]) (mc' := 0) (ms' := 0) (am_Dk d_Sg_becomeMark (k := 43) rfl) c_Sg_146 (t_Sg_kindOfMark G (d := 0) (by omega)) (by omega) (by omega) (by omega) (by simp [Value.category]) rfl (fun v11 M12 n13 h14 => ?_) (fun _ _ _ h14 => ?_)
          rotate_left
          · exact absurd h14.1 (by simp)
          obtain ⟨h14, e15, e16⟩ := h14
          replace e15 := e15.symm
          replace e16 := e16.symm
          subst e15
          subst e16
          cases h14
          show am_V G _ _ _ _ _ 86 [(0, .ref 1006), (1, .int b)] [.ref (mkK b), .ref 1006] M nx 0 0
          refine v_aload_n (am_Dk d_Sg_becomeMark (k := 44) rfl) rfl ?_
          refine v_get (am_Dk d_Sg_becomeMark (k := 45) rfl) f_Sg_44 h6 rfl ?_
          refine v_iconst (v := 1) (am_Dk d_Sg_becomeMark (k := 46) rfl) (by decide) ?_
          refine v_iadd (am_Dk d_Sg_becomeMark (k := 47) rfl) ?_
          rw [nI_1]
          refine v_callV (rest := []) (As := [.ref (mkK b), .int (nI (p + 1))]) (mc' := 0) (ms' := 0) (am_Dk d_Sg_becomeMark (k := 48) rfl) c_Sg_63 (Or.inl ⟨_, _, _, _, _, h6, cq_ok6⟩) (t_Sg_become G (d := 0) (by omega) h6) (by omega) (by omega) (by omega) (by simp [Value.category]) rfl (fun v17 M18 n19 h20 => ?_) (fun _ _ _ h20 => ?_)
          rotate_left
          · exact absurd h20.1 (by simp)
          obtain ⟨h20, e21, e22⟩ := h20
          replace e21 := e21.symm
          replace e22 := e22.symm
          subst e21
          subst e22
          cases h20
          show am_V G _ _ _ _ _ 95 [(0, .ref 1006), (1, .int b)] [] (am_up M 1006 (.inr (6, [.ref 1001, .ref (mkK b), .int (nI p), .int (nI (p + 1)), .long nu, .ref nm, .int nf, .int nt]))) nx 0 0
          exact v_return (am_Dk d_Sg_becomeMark (k := 49) rfl) rfl (by omega) (by omega) (Or.inr (Or.inr (Or.inr ⟨by simp [*], rfl, rfl, rfl⟩)))
        · refine v_aload_n (am_Dk d_Sg_becomeMark (k := 35) rfl) rfl ?_
          refine v_gets (v := .ref 36) (am_Dk d_Sg_becomeMark (k := 36) rfl) s_Sg_15 (by decide +kernel) ?_
          refine v_aload_n (am_Dk d_Sg_becomeMark (k := 37) rfl) rfl ?_
          refine v_get (am_Dk d_Sg_becomeMark (k := 38) rfl) f_Sg_44 h6 rfl ?_
          refine v_callV (rest := []) (As := [.ref 36, .int (nI p)]) (mc' := 0) (ms' := 0) (am_Dk d_Sg_becomeMark (k := 39) rfl) c_Sg_63 (Or.inl ⟨_, _, _, _, _, h6, cq_ok6⟩) (t_Sg_become G (d := 0) (by omega) h6) (by omega) (by omega) (by omega) (by simp [Value.category]) rfl (fun v23 M24 n25 h26 => ?_) (fun _ _ _ h26 => ?_)
          rotate_left
          · exact absurd h26.1 (by simp)
          obtain ⟨h26, e27, e28⟩ := h26
          replace e27 := e27.symm
          replace e28 := e28.symm
          subst e27
          subst e28
          cases h26
          show am_V G _ _ _ _ _ 78 [(0, .ref 1006), (1, .int b)] [] (am_up M 1006 (.inr (6, [.ref 1001, .ref 36, .int (nI p), .int (nI p), .long nu, .ref nm, .int nf, .int nt]))) nx 0 0
          refine v_goto (tgt := 95) (am_Dk d_Sg_becomeMark (k := 40) rfl) (by decide) ?_
          exact v_return (am_Dk d_Sg_becomeMark (k := 49) rfl) rfl (by omega) (by omega) (Or.inr (Or.inr (Or.inl ⟨by assumption, rfl, rfl, rfl⟩)))
      · refine v_aload_n (am_Dk d_Sg_becomeMark (k := 25) rfl) rfl ?_
        refine v_aload_n (am_Dk d_Sg_becomeMark (k := 26) rfl) rfl ?_
        refine v_get (am_Dk d_Sg_becomeMark (k := 27) rfl) f_Sg_44 h6 rfl ?_
        refine v_iconst (v := 1) (am_Dk d_Sg_becomeMark (k := 28) rfl) (by decide) ?_
        refine v_iadd (am_Dk d_Sg_becomeMark (k := 29) rfl) ?_
        rw [nI_1]
        refine v_callV (rest := []) (As := [.int (nI (p + 1))]) (mc' := 0) (ms' := 0) (am_Dk d_Sg_becomeMark (k := 30) rfl) c_Sg_76 (Or.inl ⟨_, _, _, _, _, h6, cq_ok6⟩) (t_Sg_becomeName G (d := 0) (by omega) h6) (by omega) (by omega) (by omega) (by simp [Value.category]) rfl (fun v29 M30 n31 h32 => ?_) (fun _ _ _ h32 => ?_)
        rotate_left
        · exact absurd h32.1 (by simp)
        obtain ⟨h32, e33, e34⟩ := h32
        replace e33 := e33.symm
        replace e34 := e34.symm
        subst e33
        subst e34
        cases h32
        show am_V G _ _ _ _ _ 59 [(0, .ref 1006), (1, .int b)] [] (am_up M 1006 (.inr (6, [.ref 1001, .ref 28, .int (nI p), .int (nI (p + 1)), .long nu, .ref nm, .int (nI p), .int (nI (p + 1))]))) nx 0 0
        refine v_goto (tgt := 95) (am_Dk d_Sg_becomeMark (k := 31) rfl) (by decide) ?_
        exact v_return (am_Dk d_Sg_becomeMark (k := 49) rfl) rfl (by omega) (by omega) (Or.inr (Or.inl ⟨by first | exact Or.inl (by assumption) | exact Or.inr (by assumption), rfl, rfl, rfl⟩))
  · refine v_aload_n (am_Dk d_Sg_becomeMark (k := 3) rfl) rfl ?_
    refine v_get (am_Dk d_Sg_becomeMark (k := 4) rfl) f_Sg_9 h6 rfl ?_
    refine v_aload_n (am_Dk d_Sg_becomeMark (k := 5) rfl) rfl ?_
    refine v_get (am_Dk d_Sg_becomeMark (k := 6) rfl) f_Sg_44 h6 rfl ?_
    refine v_iconst (v := 1) (am_Dk d_Sg_becomeMark (k := 7) rfl) (by decide) ?_
    refine v_iadd (am_Dk d_Sg_becomeMark (k := 8) rfl) ?_
    rw [nI_1]
    refine v_callV (rest := []) (As := [.int (nI (p + 1))]) (mc' := 0) (ms' := 0) (am_Dk d_Sg_becomeMark (k := 9) rfl) c_Sg_47 (Or.inl ⟨_, _, _, _, _, h1, cq_ok1⟩) (t_Tape_at G (d := 0) (i := p + 1) (by omega) h1 h2 (by omega) (by omega)) (by omega) (by omega) (by omega) (by simp [Value.category]) rfl (fun v35 M36 n37 h38 => ?_) (fun _ _ _ h38 => ?_)
    rotate_left
    · exact absurd h38.1 (by simp)
    obtain ⟨h38, e39, e40⟩ := h38
    replace e39 := e39.symm
    replace e40 := e40.symm
    subst e39
    subst e40
    cases h38
    show am_V G _ _ _ _ _ 19 [(0, .ref 1006), (1, .int b)] [.int (tb f n (p + 1))] M nx 0 0
    refine v_bipush (v := 93) (am_Dk d_Sg_becomeMark (k := 10) rfl) (by decide) ?_
    refine v_icmp_ne (tgt := 37) (am_Dk d_Sg_becomeMark (k := 11) rfl) (by decide) (fun c41 => ?_) (fun c41 => ?_)
    · refine v_iload_n (am_Dk d_Sg_becomeMark (k := 19) rfl) rfl ?_
      refine v_bipush (v := 33) (am_Dk d_Sg_becomeMark (k := 20) rfl) (by decide) ?_
      refine v_icmp_eq (tgt := 49) (am_Dk d_Sg_becomeMark (k := 21) rfl) (by decide) (fun c42 => ?_) (fun c42 => ?_)
      · refine v_aload_n (am_Dk d_Sg_becomeMark (k := 25) rfl) rfl ?_
        refine v_aload_n (am_Dk d_Sg_becomeMark (k := 26) rfl) rfl ?_
        refine v_get (am_Dk d_Sg_becomeMark (k := 27) rfl) f_Sg_44 h6 rfl ?_
        refine v_iconst (v := 1) (am_Dk d_Sg_becomeMark (k := 28) rfl) (by decide) ?_
        refine v_iadd (am_Dk d_Sg_becomeMark (k := 29) rfl) ?_
        rw [nI_1]
        refine v_callV (rest := []) (As := [.int (nI (p + 1))]) (mc' := 0) (ms' := 0) (am_Dk d_Sg_becomeMark (k := 30) rfl) c_Sg_76 (Or.inl ⟨_, _, _, _, _, h6, cq_ok6⟩) (t_Sg_becomeName G (d := 0) (by omega) h6) (by omega) (by omega) (by omega) (by simp [Value.category]) rfl (fun v43 M44 n45 h46 => ?_) (fun _ _ _ h46 => ?_)
        rotate_left
        · exact absurd h46.1 (by simp)
        obtain ⟨h46, e47, e48⟩ := h46
        replace e47 := e47.symm
        replace e48 := e48.symm
        subst e47
        subst e48
        cases h46
        show am_V G _ _ _ _ _ 59 [(0, .ref 1006), (1, .int b)] [] (am_up M 1006 (.inr (6, [.ref 1001, .ref 28, .int (nI p), .int (nI (p + 1)), .long nu, .ref nm, .int (nI p), .int (nI (p + 1))]))) nx 0 0
        refine v_goto (tgt := 95) (am_Dk d_Sg_becomeMark (k := 31) rfl) (by decide) ?_
        exact v_return (am_Dk d_Sg_becomeMark (k := 49) rfl) rfl (by omega) (by omega) (Or.inr (Or.inl ⟨by first | exact Or.inl (by assumption) | exact Or.inr (by assumption), rfl, rfl, rfl⟩))
      · refine v_iload_n (am_Dk d_Sg_becomeMark (k := 22) rfl) rfl ?_
        refine v_bipush (v := 59) (am_Dk d_Sg_becomeMark (k := 23) rfl) (by decide) ?_
        refine v_icmp_ne (tgt := 62) (am_Dk d_Sg_becomeMark (k := 24) rfl) (by decide) (fun c49 => ?_) (fun c49 => ?_)
        · refine v_iload_n (am_Dk d_Sg_becomeMark (k := 32) rfl) rfl ?_
          refine v_iconst (v := (-1)) (am_Dk d_Sg_becomeMark (k := 33) rfl) (by decide) ?_
          refine v_icmp_ne (tgt := 81) (am_Dk d_Sg_becomeMark (k := 34) rfl) (by decide) (fun c50 => ?_) (fun c50 => ?_)
          · refine v_aload_n (am_Dk d_Sg_becomeMark (k := 41) rfl) rfl ?_
            refine v_iload_n (am_Dk d_Sg_becomeMark (k := 42) rfl) rfl ?_
            refine v_callS (rest := [.ref 1006]) (As := [.int b]) (mc' := 0) (ms' := 0) (am_Dk d_Sg_becomeMark (k := 43) rfl) c_Sg_146 (t_Sg_kindOfMark G (d := 0) (by omega)) (by omega) (by omega) (by omega) (by simp [Value.category]) rfl (fun v51 M52 n53 h54 => ?_) (fun _ _ _ h54 => ?_)
            rotate_left
            · exact absurd h54.1 (by simp)
            obtain ⟨h54, e55, e56⟩ := h54
            replace e55 := e55.symm
            replace e56 := e56.symm
            subst e55
            subst e56
            cases h54
            show am_V G _ _ _ _ _ 86 [(0, .ref 1006), (1, .int b)] [.ref (mkK b), .ref 1006] M nx 0 0
            refine v_aload_n (am_Dk d_Sg_becomeMark (k := 44) rfl) rfl ?_
            refine v_get (am_Dk d_Sg_becomeMark (k := 45) rfl) f_Sg_44 h6 rfl ?_
            refine v_iconst (v := 1) (am_Dk d_Sg_becomeMark (k := 46) rfl) (by decide) ?_
            refine v_iadd (am_Dk d_Sg_becomeMark (k := 47) rfl) ?_
            rw [nI_1]
            refine v_callV (rest := []) (As := [.ref (mkK b), .int (nI (p + 1))]) (mc' := 0) (ms' := 0) (am_Dk d_Sg_becomeMark (k := 48) rfl) c_Sg_63 (Or.inl ⟨_, _, _, _, _, h6, cq_ok6⟩) (t_Sg_become G (d := 0) (by omega) h6) (by omega) (by omega) (by omega) (by simp [Value.category]) rfl (fun v57 M58 n59 h60 => ?_) (fun _ _ _ h60 => ?_)
            rotate_left
            · exact absurd h60.1 (by simp)
            obtain ⟨h60, e61, e62⟩ := h60
            replace e61 := e61.symm
            replace e62 := e62.symm
            subst e61
            subst e62
            cases h60
            show am_V G _ _ _ _ _ 95 [(0, .ref 1006), (1, .int b)] [] (am_up M 1006 (.inr (6, [.ref 1001, .ref (mkK b), .int (nI p), .int (nI (p + 1)), .long nu, .ref nm, .int nf, .int nt]))) nx 0 0
            exact v_return (am_Dk d_Sg_becomeMark (k := 49) rfl) rfl (by omega) (by omega) (Or.inr (Or.inr (Or.inr ⟨by simp [*], rfl, rfl, rfl⟩)))
          · refine v_aload_n (am_Dk d_Sg_becomeMark (k := 35) rfl) rfl ?_
            refine v_gets (v := .ref 36) (am_Dk d_Sg_becomeMark (k := 36) rfl) s_Sg_15 (by decide +kernel) ?_
            refine v_aload_n (am_Dk d_Sg_becomeMark (k := 37) rfl) rfl ?_
            refine v_get (am_Dk d_Sg_becomeMark (k := 38) rfl) f_Sg_44 h6 rfl ?_
            refine v_callV (rest := []) (As := [.ref 36, .int (nI p)]) (mc' := 0) (ms' := 0) (am_Dk d_Sg_becomeMark (k := 39) rfl) c_Sg_63 (Or.inl ⟨_, _, _, _, _, h6, cq_ok6⟩) (t_Sg_become G (d := 0) (by omega) h6) (by omega) (by omega) (by omega) (by simp [Value.category]) rfl (fun v63 M64 n65 h66 => ?_) (fun _ _ _ h66 => ?_)
            rotate_left
            · exact absurd h66.1 (by simp)
            obtain ⟨h66, e67, e68⟩ := h66
            replace e67 := e67.symm
            replace e68 := e68.symm
            subst e67
            subst e68
            cases h66
            show am_V G _ _ _ _ _ 78 [(0, .ref 1006), (1, .int b)] [] (am_up M 1006 (.inr (6, [.ref 1001, .ref 36, .int (nI p), .int (nI p), .long nu, .ref nm, .int nf, .int nt]))) nx 0 0
            refine v_goto (tgt := 95) (am_Dk d_Sg_becomeMark (k := 40) rfl) (by decide) ?_
            exact v_return (am_Dk d_Sg_becomeMark (k := 49) rfl) rfl (by omega) (by omega) (Or.inr (Or.inr (Or.inl ⟨by assumption, rfl, rfl, rfl⟩)))
        · refine v_aload_n (am_Dk d_Sg_becomeMark (k := 25) rfl) rfl ?_
          refine v_aload_n (am_Dk d_Sg_becomeMark (k := 26) rfl) rfl ?_
          refine v_get (am_Dk d_Sg_becomeMark (k := 27) rfl) f_Sg_44 h6 rfl ?_
          refine v_iconst (v := 1) (am_Dk d_Sg_becomeMark (k := 28) rfl) (by decide) ?_
          refine v_iadd (am_Dk d_Sg_becomeMark (k := 29) rfl) ?_
          rw [nI_1]
          refine v_callV (rest := []) (As := [.int (nI (p + 1))]) (mc' := 0) (ms' := 0) (am_Dk d_Sg_becomeMark (k := 30) rfl) c_Sg_76 (Or.inl ⟨_, _, _, _, _, h6, cq_ok6⟩) (t_Sg_becomeName G (d := 0) (by omega) h6) (by omega) (by omega) (by omega) (by simp [Value.category]) rfl (fun v69 M70 n71 h72 => ?_) (fun _ _ _ h72 => ?_)
          rotate_left
          · exact absurd h72.1 (by simp)
          obtain ⟨h72, e73, e74⟩ := h72
          replace e73 := e73.symm
          replace e74 := e74.symm
          subst e73
          subst e74
          cases h72
          show am_V G _ _ _ _ _ 59 [(0, .ref 1006), (1, .int b)] [] (am_up M 1006 (.inr (6, [.ref 1001, .ref 28, .int (nI p), .int (nI (p + 1)), .long nu, .ref nm, .int (nI p), .int (nI (p + 1))]))) nx 0 0
          refine v_goto (tgt := 95) (am_Dk d_Sg_becomeMark (k := 31) rfl) (by decide) ?_
          exact v_return (am_Dk d_Sg_becomeMark (k := 49) rfl) rfl (by omega) (by omega) (Or.inr (Or.inl ⟨by first | exact Or.inl (by assumption) | exact Or.inr (by assumption), rfl, rfl, rfl⟩))
    · refine v_aload_n (am_Dk d_Sg_becomeMark (k := 12) rfl) rfl ?_
      refine v_aload_n (am_Dk d_Sg_becomeMark (k := 13) rfl) rfl ?_
      refine v_get (am_Dk d_Sg_becomeMark (k := 14) rfl) f_Sg_44 h6 rfl ?_
      refine v_iconst (v := 2) (am_Dk d_Sg_becomeMark (k := 15) rfl) (by decide) ?_
      refine v_iadd (am_Dk d_Sg_becomeMark (k := 16) rfl) ?_
      rw [show (nI p + 2 : Int32) = nI (p + 2) from nI_add p 2]
      refine v_callV (rest := []) (As := [.int (nI (p + 2))]) (mc' := 0) (ms' := 0) (am_Dk d_Sg_becomeMark (k := 17) rfl) c_Sg_76 (Or.inl ⟨_, _, _, _, _, h6, cq_ok6⟩) (t_Sg_becomeName G (d := 0) (by omega) h6) (by omega) (by omega) (by omega) (by simp [Value.category]) rfl (fun v75 M76 n77 h78 => ?_) (fun _ _ _ h78 => ?_)
      rotate_left
      · exact absurd h78.1 (by simp)
      obtain ⟨h78, e79, e80⟩ := h78
      replace e79 := e79.symm
      replace e80 := e80.symm
      subst e79
      subst e80
      cases h78
      show am_V G _ _ _ _ _ 34 [(0, .ref 1006), (1, .int b)] [] (am_up M 1006 (.inr (6, [.ref 1001, .ref 28, .int (nI p), .int (nI (p + 2)), .long nu, .ref nm, .int (nI p), .int (nI (p + 2))]))) nx 0 0
      refine v_goto (tgt := 95) (am_Dk d_Sg_becomeMark (k := 18) rfl) (by decide) ?_
      exact v_return (am_Dk d_Sg_becomeMark (k := 49) rfl) rfl (by omega) (by omega) (Or.inl ⟨⟨by assumption, by assumption⟩, rfl, rfl, rfl⟩)
