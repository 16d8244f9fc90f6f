/-! THE REFERENCE'S PARSER: NAMES (mine; rows laid by the walker) -/
theorem dv_I (g : Nat → Int32) (n : Nat) : ∀ m i u v, dgI u v → ∃ u', dgI u' (dvF g n m i v).2
  | 0, _, u, _, h => ⟨u, h⟩
  | m + 1, i, u, v, h => by
    rw [dvF]
    split
    · rename_i hd
      exact dv_I g n m (i + 1) _ _ (dg_step (of_decide_eq_true hd) h)
    · exact ⟨u, h⟩
theorem tok_num {f : Nat → Int32} {n a : Nat} (h : (tok f n a).1 = 1) : inR (tok f n a).2.2.2.1 ∧ inR (-(tok f n a).2.2.2.1) := by
  have hk : (9007199254740991 : Int64).toInt = 9007199254740991 := by decide
  obtain ⟨p, hp⟩ : ∃ p, pb (tb f n) n a = p := ⟨_, rfl⟩
  rw [tok, hp] at h ⊢
  have hd := tokA_dg.1 h
  have hc : ¬ cpB (tb f n p) = true := by
    have := of_decide_eq_true hd
    rw [cpB, decide_eq_true_iff]
    omega
  have h9 := h
  rw [tokAt, if_neg hc, if_pos hd] at h9 ⊢
  obtain ⟨u, hu⟩ := dv_I (tb f n) n (n - p) p 0 0 (Or.inl ⟨by decide, by decide, rfl⟩)
  split at h9
  · exact absurd (show 11 = 1 from h9) (by decide)
  · rename_i hlt
    rw [if_neg hlt]
    show inR (dv (tb f n) n p).2 ∧ inR (-(dv (tb f n) n p).2)
    have hu : dgI u (dv (tb f n) n p).2 := hu
    rcases hu with ⟨h0, h1, e⟩ | ⟨h0, e⟩
    · rw [e] at hlt ⊢
      rw [Int64.lt_iff_toInt_lt, hk] at hlt
      have hneg : (-u).toInt = -u.toInt := by
        rw [Int64.toInt_neg]
        exact bm_id (by omega) (by omega)
      exact ⟨⟨by omega, by omega⟩, ⟨by omega, by omega⟩⟩
    · rw [e] at hlt
      exact absurd (by decide) hlt
theorem set_R {v : Int64} (h : inR v) : setE v = 0 ∧ setN v = v := by
  have hf : fitP v = true := decide_eq_true ⟨Int64.le_iff_toInt_le.mpr h.2, Int64.le_iff_toInt_le.mpr h.1⟩
  rw [setE, setN, if_pos hf, if_pos hf]
  exact ⟨rfl, rfl⟩
theorem sp18 {l : Nat} {g : Nat → Int32} : spg l g = 18 ↔ l = 1 ∧ g 0 = 45 := by
  constructor
  · intro h
    rcases spg_of l g with h0 | ⟨_, _, h3⟩
    · rw [h0] at h
      exact absurd h (by decide)
    · rw [h] at h3
      have h3 := of_decide_eq_true h3
      exact ⟨h3.1.symm, (h3.2 0 (by decide)).symm⟩
  · intro ⟨h1, h2⟩
    refine spg_eq (by decide) (decide_eq_true ⟨h1.symm, fun i hi => ?_⟩)
    have hi : i < 1 := hi
    rw [show i = 0 from by omega, h2]
    decide
theorem pfN_c (k : Nat) (hk : k < 26) : (pfN k = -1 ∧ ¬ 0 < kn_pf k) ∨ (¬ pfN k = -1 ∧ 0 < kn_pf k ∧ pfN k = kn_pf k ∧ 200 ≤ kn_pf k) := by
  have : ∀ k, k < 26 → (pfN k = -1 ∧ ¬ 0 < kn_pf k) ∨ (¬ pfN k = -1 ∧ 0 < kn_pf k ∧ pfN k = kn_pf k ∧ 200 ≤ kn_pf k) := by decide +kernel
  exact this k hk
theorem rkN_m1 (k : Nat) (hk : k < 26) : rkN k = -1 ↔ kn_inf k = 0 := by
  have : ∀ k, k < 26 → (rkN k = -1 ↔ kn_inf k = 0) := by decide +kernel
  exact this k hk
theorem beg_can {f : Nat → Int32} {n a : Nat} {tk : Int32} {nu : Int64} {l : Nat} {g : Nat → Int32} (ha : a ≤ n) (h : scT f (tok f n a) tk nu l g) :
    (decide (¬ (tk = 5 ∨ tk = 7 ∨ tk = 9 ∨ tk = 10 ∨ tk = 11 ∨ tk = 0 ∨ tk = 13) ∧ ((if tk = 10 then 1000 else if tk = 3 then rkN (spg l g) else -1) = -1 ∨ ¬ (if tk = 3 then pfN (spg l g) else -1) = -1)) = true → c_can (tok f n a) = true) ∧ (decide (¬ (tk = 5 ∨ tk = 7 ∨ tk = 9 ∨ tk = 10 ∨ tk = 11 ∨ tk = 0 ∨ tk = 13) ∧ ((if tk = 10 then 1000 else if tk = 3 then rkN (spg l g) else -1) = -1 ∨ ¬ (if tk = 3 then pfN (spg l g) else -1) = -1)) = false → c_can (tok f n a) = false ∨ (tok f n a).1 = 10 ∨ (tok f n a).1 = 11) := by
  have t := tok_ok f ha
  obtain ⟨e10, e5, e7, e11, e0, e13, e2, e3⟩ := tkR_eq h.1 t.1
  by_cases hk : (tok f n a).1 = 2
  · have h3 := e3.mpr hk
    have hs := (h.2.2.2.2 hk).2
    rw [c_can, if_pos hk, h3, if_neg (by decide), if_pos rfl, if_pos rfl, hs]
    have hp := pfN_c _ t.2.2.2.2
    have hr := rkN_m1 _ t.2.2.2.2
    refine ⟨fun z => ?_, fun z => Or.inl ?_⟩
    · have z := of_decide_eq_true z
      refine decide_eq_true ?_
      rcases z.2 with z | z
      · exact Or.inr (hr.mp z)
      · rcases hp with ⟨p1, _⟩ | ⟨_, p2, _⟩
        · exact absurd p1 z
        · exact Or.inl p2
    · have z := of_decide_eq_false z
      refine decide_eq_false (fun y => z ⟨by decide, ?_⟩)
      rcases y with y | y
      · rcases hp with ⟨_, p1⟩ | ⟨p2, _⟩
        · exact absurd y p1
        · exact Or.inr p2
      · exact Or.inl (hr.mpr y)
  · have h3 : ¬ tk = 3 := fun z => hk (e3.mp z)
    rw [c_can, if_neg hk, if_neg h3, if_neg h3]
    refine ⟨fun z => ?_, fun z => ?_⟩
    · have z := (of_decide_eq_true z).1
      refine decide_eq_true (fun y => z ?_)
      rcases y with y | y | y | y | y
      · exact Or.inl (e5.mpr y)
      · exact Or.inr (Or.inl (e7.mpr y))
      · exact Or.inr (Or.inr (Or.inr (Or.inl (e10.mpr y))))
      · exact Or.inr (Or.inr (Or.inr (Or.inr (Or.inl (e11.mpr y)))))
      · exact Or.inr (Or.inr (Or.inr (Or.inr (Or.inr (Or.inl (e0.mpr y))))))
    · have z := of_decide_eq_false z
      by_cases h10 : tk = 10
      · exact Or.inl (decide_eq_false (fun y => y (Or.inr (Or.inr (Or.inl (e10.mp h10))))))
      · rw [if_neg h10] at z
        have z9 : (tk = 5 ∨ tk = 7 ∨ tk = 9 ∨ tk = 10 ∨ tk = 11 ∨ tk = 0 ∨ tk = 13) := Classical.byContradiction (fun y => z ⟨y, Or.inl rfl⟩)
        rcases z9 with y | y | y | y | y | y | y
        · exact Or.inl (decide_eq_false (fun x => x (Or.inl (e5.mp y))))
        · exact Or.inl (decide_eq_false (fun x => x (Or.inr (Or.inl (e7.mp y)))))
        · refine Or.inr (Or.inr ?_)
          by_cases hlt : (tok f n a).1 < 11
          · have e := (h.1.1 hlt).symm.trans y
            have : ∀ k, k < 11 → ¬ tkT k = 9 := by decide
            exact absurd e (this _ hlt)
          · omega
        · exact absurd y h10
        · exact Or.inl (decide_eq_false (fun x => x (Or.inr (Or.inr (Or.inr (Or.inl (e11.mp y)))))))
        · exact Or.inl (decide_eq_false (fun x => x (Or.inr (Or.inr (Or.inr (Or.inr (e0.mp y)))))))
        · exact Or.inr (Or.inl (e13.mp y))
set_option maxRecDepth 20000 in
theorem t_MR_named (G : am_G) {d nx : Nat} (hd : 7 ≤ d) {M : am_M} {f : Nat → Int32} {n : Nat} {LU : Nat → (Nat → Int32) → Option Int64} {lu : Nat → Nat → Option Int64} (hb : tbB f) (hn : n ≤ 4096) {mo : Int32} {a o tp : Nat} {S : Nat → Int32} {rk : Int32} {sz pt ns tx vb e1 e2 : Nat} {W : Gho} {On : Nat → Nat} {Vx : Nat → Option (Nat × (Nat → Int32))} (h : PS f n LU M a (o + 1) tp S 0 sz pt ns tx vb e1 e2 W On Vx) (ho : o < 100) (hk2 : (tok f n a).1 = 2) (h200 : 200 ≤ mo) {d0 : Nat} (IH : TermC G f n LU lu (o + 1) d0) (hd0 : d0 + 2 ≤ d) : am_Tr G m_MR_named d 0 0 [.ref 1225, .int mo] M nx (RQ f n LU lu M nx o mo a (o + 1) tp S sz pt ns W On (fun _ _ => True) (fun w => TBad f n lu o mo a w)) := by
  refine am_TrOf (by decide) (Nat.le_of_ble_eq_true rfl) ?_
  show am_V G _ _ _ _ _ 0 [(0, .ref 1225), (1, .int mo)] [] M nx 0 0
  have hPS := h
  obtain ⟨hpb, hm, hR, hS, ⟨kc, hkc⟩, tk, nu, l, g, pl, kn, hr, hsc, hw, hg⟩ := h
  replace hr : M 1225 = some (.inr (12, [.ref 1226, .ref 1227, .ref 1228, .ref 1213, .ref 1220, .ref 1212, .int (nI n), .int (nI ((tok f n a).2.1)), .int (nI ((tok f n a).2.2.1)), .int tk, .int (nI (o + 1)), .long nu, .ref 1229, .int (nI l), .ref 1230, .int (nI tp), .int pl, .ref 1231, .int (nI vb), .int kn, .int 0, .ref 1232])) := hr
  obtain ⟨pb_0, pb_1, pb_2, pb_3, pb_4, pb_5, pb_6, pb_7, pb_8, pb_9⟩ := hpb
  have k_hsc := tok_ok f pb_0
  have p_hsc := tok_pos f pb_0
  have l_hsc := hsc.2.2.1
  have fr0 : pf_fr M M := fun i hi => rfl
  obtain ⟨hl2, hsp⟩ := hsc.2.2.2.2 hk2
  have htk3 : tk = 3 := (tkR_eq hsc.1 (by omega)).2.2.2.2.2.2.2.mpr hk2
  have hp9 := p_hsc (by omega)
  have kb := tok_ok f (show (tok f n a).2.2.1 ≤ n from by omega)
  have hpfc := pfN_c _ k_hsc.2.2.2.2
  obtain ⟨sd, rkA, hsd, hsk, hra, hrk⟩ := hm.2.1
  refine v_aload_n (am_Dk d_MR_named (k := 0) rfl) rfl ?_
  refine v_aload_n (am_Dk d_MR_named (k := 1) rfl) rfl ?_
  refine v_get (am_Dk d_MR_named (k := 2) rfl) f_MR_96 hr rfl ?_
  refine v_callV (rest := []) (As := [.int (nI ((tok f n a).2.2.1))]) (mc' := 0) (ms' := 0) (am_Dk d_MR_named (k := 3) rfl) c_MR_148 (Or.inl ⟨_, _, _, _, _, hr, cq_ok12⟩) (t_MR_look G (d := 0) (i := (tok f n a).2.2.1) (by omega) hr hm.1 hn (by omega)) (by omega) (by omega) (by omega) (by simp [Value.category]) rfl (fun v1 M2 n3 h4 => ?_) (fun _ _ _ h4 => ?_)
  rotate_left
  · exact absurd h4.1 (by simp)
  obtain ⟨h4, e5, e6⟩ := h4
  replace e5 := e5.symm
  replace e6 := e6.symm
  subst e5
  subst e6
  cases h4
  show am_V G _ _ _ _ _ 8 [(0, .ref 1225), (1, .int mo)] [.int (lk f n ((tok f n a).2.2.1))] M nx 0 0
  refine v_bipush (v := 40) (am_Dk d_MR_named (k := 4) rfl) (by decide) ?_
  refine v_icmp_ne (tgt := 18) (am_Dk d_MR_named (k := 5) rfl) (by decide) (fun c7 => ?_) (fun c7 => ?_)
  · have n40 : ¬ ((tok f n (tok f n a).2.2.1).2.1 = (tok f n a).2.2.1 ∧ (tok f n (tok f n a).2.2.1).1 = 3) := fun z => c7 ((lk_c hb n _ (by decide)).mpr (tok_op.mp z))
    refine v_aload_n (am_Dk d_MR_named (k := 9) rfl) rfl ?_
    refine v_get (am_Dk d_MR_named (k := 10) rfl) f_MR_139 hr rfl ?_
    refine v_iconst (v := 1) (am_Dk d_MR_named (k := 11) rfl) (by decide) ?_
    refine v_icmp_ne (tgt := 91) (am_Dk d_MR_named (k := 12) rfl) (by decide) (fun c8 => ?_) (fun c8 => ?_)
    · have Nc8 : ¬ l = 1 := fun z => c8 ((nI_eq (a := l) (b := 1) (by omega) (by omega)).mpr z)
      have hcp2 : ¬ ((tok f n (tok f n a).2.2.1).2.1 = (tok f n a).2.2.1 ∧ (tok f n (tok f n a).2.2.1).1 = 1 ∧ (tok f n a).2.2.2.2 = 18) := fun z => Nc8 (sp18.mp (hsp.trans z.2.2)).1
      refine v_aload_n (am_Dk d_MR_named (k := 47) rfl) rfl ?_
      refine v_callV (rest := []) (As := []) (mc' := 0) (ms' := 0) (am_Dk d_MR_named (k := 48) rfl) c_MR_201 (Or.inl ⟨_, _, _, _, _, hr, cq_ok12⟩) (t_MR_prefix G (d := 5) (le := 0) (by omega) hr hw (by omega)) (by omega) (by omega) (by omega) (by simp [Value.category]) rfl (fun v9 M10 n11 h12 => ?_) (fun _ _ _ h12 => ?_)
      rotate_left
      · exact absurd h12.1 (by simp)
      obtain ⟨h12, e13, e14⟩ := h12
      replace e13 := e13.symm
      replace e14 := e14.symm
      subst e13
      subst e14
      cases h12
      show am_V G _ _ _ _ _ 95 [(0, .ref 1225), (1, .int mo)] [.int (if tk = 3 then pfN (spg l g) else -1)] M nx 0 0
      rw [show (if tk = 3 then pfN (spg l g) else -1) = pfN (tok f n a).2.2.2.2 from by rw [if_pos htk3, hsp]]
      show am_V G _ _ _ _ _ 95 [(0, .ref 1225), (1, .int mo)] [.int (pfN (tok f n a).2.2.2.2)] M nx 0 0
      refine v_istore_n (L1 := [(2, .int (pfN (tok f n a).2.2.2.2)), (0, .ref 1225), (1, .int mo)]) (am_Dk d_MR_named (k := 49) rfl) (by decide) rfl ?_
      refine v_aload_n (am_Dk d_MR_named (k := 50) rfl) rfl ?_
      obtain ⟨⟨Kd15, Nm15, Fi15, Ma15, Pa15, Nu15⟩, T15, F15, Va15, hX15⟩ := RS_fr (M1 := M) hR (fun i hi => rfl)
      refine v_callV (rest := []) (As := []) (mc' := 0) (ms' := 0) (am_Dk d_MR_named (k := 51) rfl) c_MR_212 (Or.inl ⟨_, _, _, _, _, hr, cq_ok12⟩) (t_MR_name G (d := 2) (le := 0) (l := l) (by omega) hr hw hg (by omega) hX15 (by omega) (by omega)) (by omega) (by omega) (by omega) (by simp [Value.category]) rfl (fun v16 M17 n18 h19 => ?_) (fun _ _ _ h19 => ?_)
      rotate_left
      · obtain ⟨_, _, _, _, _, _, hx9, _⟩ := h19; cases hx9
      obtain ⟨k20, ns21, tx22, On23, T9, F9, h19, ex9, q241, q242, q243, q244, q245, q246, q247⟩ := h19
      cases h19
      replace ex9 := ex9.symm
      subst ex9
      have b25 : M17 1225 = some (.inr (12, [.ref 1226, .ref 1227, .ref 1228, .ref 1213, .ref 1220, .ref 1212, .int (nI n), .int (nI ((tok f n a).2.1)), .int (nI ((tok f n a).2.2.1)), .int tk, .int (nI (o + 1)), .long nu, .ref 1229, .int (nI l), .ref 1230, .int (nI tp), .int pl, .ref 1231, .int (nI vb), .int kn, .int 0, .ref 1232])) := (q247 1225 (by omega)).trans (hr)
      have b26 : M17 1229 = some (.inl (0, 4096, .inl g)) := (q247 1229 (by omega)).trans (hw)
      have b27 : M17 1230 = some (.inl (1, 4200, .inl S)) := (q247 1230 (by omega)).trans (hS)
      have b28 : M17 1232 = some (.inl (0, 4096, .inl kc)) := (q247 1232 (by omega)).trans (hkc)
      have hm29 : mb f M17 := mb_fr hm (fun i hi => (q247 i (by omega)).trans (rfl))
      have fr30 : pf_fr M M17 := fun i hi => (q247 i (by omega)).trans ((fr0 i hi))
      have hR31 : RS LU M17 sz pt ns21 tx22 vb e1 e2 W On23 Vx := ⟨_, _, _, _, q241⟩
      show am_V G _ _ _ _ _ 100 [(2, .int (pfN (tok f n a).2.2.2.2)), (0, .ref 1225), (1, .int mo)] [.int (nI k20)] M17 nx 0 0
      refine v_istore_n (L1 := [(3, .int (nI k20)), (2, .int (pfN (tok f n a).2.2.2.2)), (0, .ref 1225), (1, .int mo)]) (am_Dk d_MR_named (k := 52) rfl) (by decide) rfl ?_
      refine v_aload_n (am_Dk d_MR_named (k := 53) rfl) rfl ?_
      refine v_callV (rest := []) (As := []) (mc' := 0) (ms' := 0) (am_Dk d_MR_named (k := 54) rfl) c_MR_113 (Or.inl ⟨_, _, _, _, _, b25, cq_ok12⟩) (t_MR_scan G (d := 5) (be := 0) (a := (tok f n a).2.2.1) (by omega) b25 hm29.1 hn hb (by omega) b26 hg) (by omega) (by omega) (by omega) (by simp [Value.category]) rfl (fun v32 M33 n34 h35 => ?_) (fun _ _ _ h35 => ?_)
      rotate_left
      · obtain ⟨_, _, _, _, hx9, _⟩ := h35; cases hx9
      obtain ⟨tk36, nu37, l38, g39, h35, ex9, e40, hs41, hg42⟩ := h35
      replace e40 := e40.symm
      replace ex9 := ex9.symm
      subst e40
      subst ex9
      cases h35
      have k_hs41 := tok_ok f (show (tok f n a).2.2.1 ≤ n from by omega)
      have p_hs41 := tok_pos f (show (tok f n a).2.2.1 ≤ n from by omega)
      have l_hs41 := hs41.2.2.1
      show am_V G _ _ _ _ _ 105 [(3, .int (nI k20)), (2, .int (pfN (tok f n a).2.2.2.2)), (0, .ref 1225), (1, .int mo)] [] (am_up (am_up M17 1229 (.inl (0, 4096, .inl g39))) 1225 (.inr (12, [.ref 1226, .ref 1227, .ref 1228, .ref 1213, .ref 1220, .ref 1212, .int (nI n), .int (nI (tok f n ((tok f n a).2.2.1)).2.1), .int (nI (tok f n ((tok f n a).2.2.1)).2.2.1), .int tk36, .int (nI (o + 1)), .long nu37, .ref 1229, .int (nI l38), .ref 1230, .int (nI tp), .int pl, .ref 1231, .int (nI vb), .int kn, .int 0, .ref 1232]))) nx 0 0
      refine v_iload_n (am_Dk d_MR_named (k := 55) rfl) rfl ?_
      refine v_iconst (v := (-1)) (am_Dk d_MR_named (k := 56) rfl) (by decide) ?_
      refine v_icmp_eq (tgt := 122) (am_Dk d_MR_named (k := 57) rfl) (by decide) (fun c43 => ?_) (fun c43 => ?_)
      · have hnpf : ¬ c_pf f n mo a := fun z => hpfc.elim (fun y => y.2 z.1) (fun y => y.1 c43)
        refine v_aload_n (am_Dk d_MR_named (k := 64) rfl) rfl ?_
        have m44 : (am_up (am_up M17 1229 (.inl (0, 4096, .inl g39))) 1225 (.inr (12, [.ref 1226, .ref 1227, .ref 1228, .ref 1213, .ref 1220, .ref 1212, .int (nI n), .int (nI (tok f n ((tok f n a).2.2.1)).2.1), .int (nI (tok f n ((tok f n a).2.2.1)).2.2.1), .int tk36, .int (nI (o + 1)), .long nu37, .ref 1229, .int (nI l38), .ref 1230, .int (nI tp), .int pl, .ref 1231, .int (nI vb), .int kn, .int 0, .ref 1232]))) 1225 = some (.inr (12, [.ref 1226, .ref 1227, .ref 1228, .ref 1213, .ref 1220, .ref 1212, .int (nI n), .int (nI (tok f n ((tok f n a).2.2.1)).2.1), .int (nI (tok f n ((tok f n a).2.2.1)).2.2.1), .int tk36, .int (nI (o + 1)), .long nu37, .ref 1229, .int (nI l38), .ref 1230, .int (nI tp), .int pl, .ref 1231, .int (nI vb), .int kn, .int 0, .ref 1232])) := am_up_eq _ _ _
        refine v_get (am_Dk d_MR_named (k := 65) rfl) f_MR_81 m44 rfl ?_
        refine v_iload_n (am_Dk d_MR_named (k := 66) rfl) rfl ?_
        obtain ⟨⟨Kd45, Nm45, Fi45, Ma45, Pa45, Nu45⟩, T45, F45, Va45, hX45⟩ := RS_fr (M1 := (am_up (am_up M17 1229 (.inl (0, 4096, .inl g39))) 1225 (.inr (12, [.ref 1226, .ref 1227, .ref 1228, .ref 1213, .ref 1220, .ref 1212, .int (nI n), .int (nI (tok f n ((tok f n a).2.2.1)).2.1), .int (nI (tok f n ((tok f n a).2.2.1)).2.2.1), .int tk36, .int (nI (o + 1)), .long nu37, .ref 1229, .int (nI l38), .ref 1230, .int (nI tp), .int pl, .ref 1231, .int (nI vb), .int kn, .int 0, .ref 1232])))) hR31 (fun i hi => (am_up_ne (show i ≠ 1225 from by omega)).trans ((am_up_ne (show i ≠ 1229 from by omega)).trans (rfl)))
        refine v_callV (rest := []) (As := [.int (nI k20)]) (mc' := 0) (ms' := 0) (am_Dk d_MR_named (k := 67) rfl) c_MR_252 (Or.inl ⟨_, _, _, _, _, (RS_o1213 (RS_fr (M1 := (am_up (am_up M17 1229 (.inl (0, 4096, .inl g39))) 1225 (.inr (12, [.ref 1226, .ref 1227, .ref 1228, .ref 1213, .ref 1220, .ref 1212, .int (nI n), .int (nI (tok f n ((tok f n a).2.2.1)).2.1), .int (nI (tok f n ((tok f n a).2.2.1)).2.2.1), .int tk36, .int (nI (o + 1)), .long nu37, .ref 1229, .int (nI l38), .ref 1230, .int (nI tp), .int pl, .ref 1231, .int (nI vb), .int kn, .int 0, .ref 1232])))) hR31 (fun i hi => (am_up_ne (show i ≠ 1225 from by omega)).trans ((am_up_ne (show i ≠ 1229 from by omega)).trans (rfl))))), cq_ok10⟩) (t_MT_atom G (d := 0) (by omega) hX45.1 (by omega)) (by omega) (by omega) (by omega) (by simp [Value.category]) rfl (fun v46 M47 n48 h49 => ?_) (fun _ _ _ h49 => ?_)
        rotate_left
        · exact absurd h49.1 (by simp)
        obtain ⟨h49, hA50, hf51, ex9⟩ := h49
        cases h49
        replace ex9 := ex9.symm
        subst ex9
        have hR52 := RS_atom hX45 (k := k20) (by omega) hA50 hf51
        obtain ⟨W53, hW54⟩ : ∃ W9, W9 = gu W sz (2, 0) (0, 0, 0) none := ⟨_, rfl⟩
        rw [← hW54] at hR52
        have ge55 : gh_eq sz W W53 := by rw [hW54]; exact gu_eq _ _ _ _ _
        have at56 := gu_at W sz (2, 0) (0, 0, 0) none
        rw [← hW54] at at56
        have b57 : M47 1225 = some (.inr (12, [.ref 1226, .ref 1227, .ref 1228, .ref 1213, .ref 1220, .ref 1212, .int (nI n), .int (nI (tok f n ((tok f n a).2.2.1)).2.1), .int (nI (tok f n ((tok f n a).2.2.1)).2.2.1), .int tk36, .int (nI (o + 1)), .long nu37, .ref 1229, .int (nI l38), .ref 1230, .int (nI tp), .int pl, .ref 1231, .int (nI vb), .int kn, .int 0, .ref 1232])) := (hf51 1225 (by omega)).trans (am_up_eq _ _ _)
        have b58 : M47 1229 = some (.inl (0, 4096, .inl g39)) := (hf51 1229 (by omega)).trans ((am_up_ne (show 1229 ≠ 1225 from by decide)).trans (am_up_eq _ _ _))
        have b59 : M47 1230 = some (.inl (1, 4200, .inl S)) := (hf51 1230 (by omega)).trans ((am_up_ne (show 1230 ≠ 1225 from by decide)).trans ((am_up_ne (show 1230 ≠ 1229 from by decide)).trans (b27)))
        have b60 : M47 1232 = some (.inl (0, 4096, .inl kc)) := (hf51 1232 (by omega)).trans ((am_up_ne (show 1232 ≠ 1225 from by decide)).trans ((am_up_ne (show 1232 ≠ 1229 from by decide)).trans (b28)))
        have hm61 : mb f M47 := mb_fr hm29 (fun i hi => (hf51 i (by omega)).trans ((am_up_ne (show i ≠ 1225 from by omega)).trans ((am_up_ne (show i ≠ 1229 from by omega)).trans (rfl))))
        have fr62 : pf_fr M M47 := fun i hi => (hf51 i (by omega)).trans ((am_up_ne (show i ≠ 1225 from by omega)).trans ((am_up_ne (show i ≠ 1229 from by omega)).trans ((fr30 i hi))))
        have hR63 : RS LU M47 (sz + 1) pt ns21 tx22 vb e1 e2 W53 On23 Vx := ⟨_, _, _, _, hR52⟩
        show am_V G _ _ _ _ _ 130 [(3, .int (nI k20)), (2, .int (pfN (tok f n a).2.2.2.2)), (0, .ref 1225), (1, .int mo)] [.int (nI sz)] M47 nx 0 0
        have hcpl : c_pl f n a := ⟨n40, hcp2⟩
        have hpx9 : (¬ c_pf f n mo a) ∨ (c_pf f n mo a ∧ ((tok f n (tok f n a).2.2.1).1 = 10 ∨ (tok f n (tok f n a).2.2.1).1 = 11)) := by first | exact Or.inl hnpf | exact hpx
        have hres : TRes f n lu o mo a sz W53 (tok f n a).2.2.1 0 (sz + 1) sz := by
          rcases hpx9 with z | ⟨z1, z2⟩
          · exact Or.inl ⟨_, _, _, _, by rw [Nat.add_sub_cancel_left]; exact q_atom pb_0 hk2 hcpl z, ⟨at56.1, by rw [at56.2.2]; exact (by decide : ¬ (0 : Int32) < 0)⟩, by rw [at56.2.1], fun z => absurd rfl z⟩
          · exact Or.inr ⟨z2, q_preX hn pb_0 hk2 hcpl z1 z2⟩
        exact v_ireturn (am_Dk d_MR_named (k := 68) rfl) rfl rfl (by omega) (by omega) ⟨rfl, (fun i hi => (fr62 i hi)), Or.inl ⟨sz, ((tok f n a).2.2.1), S, 0, (sz + 1), pt, ns21, tx22, vb, e1, e2, W53, On23, Vx, rfl, (show PS f n LU M47 ((tok f n a).2.2.1) (o + 1) tp S 0 (sz + 1) pt ns21 tx22 vb e1 e2 W53 On23 Vx from ⟨⟨by omega, by omega, by omega, by omega, by omega, by omega, by omega, by omega, by omega, by omega⟩, mb_fr hm61 (fun i hi => rfl), RS_fr hR63 (fun i hi => rfl), b59, ⟨_, b60⟩, tk36, nu37, l38, g39, pl, kn, b57, hs41, b58, hg42⟩), ⟨by omega, by omega, ge55, by omega, q245, fun _ _ => rfl, by omega, by omega, by omega⟩, hres, trivial⟩⟩
      · obtain ⟨hp0, hpk, hp2⟩ := (hpfc.resolve_left (fun y => c43 y.1)).2
        refine v_iload_n (am_Dk d_MR_named (k := 58) rfl) rfl ?_
        refine v_iload_n (am_Dk d_MR_named (k := 59) rfl) rfl ?_
        refine v_icmp_gt (tgt := 122) (am_Dk d_MR_named (k := 60) rfl) (by decide) (fun c64 => ?_) (fun c64 => ?_)
        · have hnpf : ¬ c_pf f n mo a := fun z => absurd z.2.1 (Int32.not_le.mpr (by rw [← hpk]; exact c64))
          refine v_aload_n (am_Dk d_MR_named (k := 64) rfl) rfl ?_
          have m65 : (am_up (am_up M17 1229 (.inl (0, 4096, .inl g39))) 1225 (.inr (12, [.ref 1226, .ref 1227, .ref 1228, .ref 1213, .ref 1220, .ref 1212, .int (nI n), .int (nI (tok f n ((tok f n a).2.2.1)).2.1), .int (nI (tok f n ((tok f n a).2.2.1)).2.2.1), .int tk36, .int (nI (o + 1)), .long nu37, .ref 1229, .int (nI l38), .ref 1230, .int (nI tp), .int pl, .ref 1231, .int (nI vb), .int kn, .int 0, .ref 1232]))) 1225 = some (.inr (12, [.ref 1226, .ref 1227, .ref 1228, .ref 1213, .ref 1220, .ref 1212, .int (nI n), .int (nI (tok f n ((tok f n a).2.2.1)).2.1), .int (nI (tok f n ((tok f n a).2.2.1)).2.2.1), .int tk36, .int (nI (o + 1)), .long nu37, .ref 1229, .int (nI l38), .ref 1230, .int (nI tp), .int pl, .ref 1231, .int (nI vb), .int kn, .int 0, .ref 1232])) := am_up_eq _ _ _
          refine v_get (am_Dk d_MR_named (k := 65) rfl) f_MR_81 m65 rfl ?_
          refine v_iload_n (am_Dk d_MR_named (k := 66) rfl) rfl ?_
          obtain ⟨⟨Kd66, Nm66, Fi66, Ma66, Pa66, Nu66⟩, T66, F66, Va66, hX66⟩ := RS_fr (M1 := (am_up (am_up M17 1229 (.inl (0, 4096, .inl g39))) 1225 (.inr (12, [.ref 1226, .ref 1227, .ref 1228, .ref 1213, .ref 1220, .ref 1212, .int (nI n), .int (nI (tok f n ((tok f n a).2.2.1)).2.1), .int (nI (tok f n ((tok f n a).2.2.1)).2.2.1), .int tk36, .int (nI (o + 1)), .long nu37, .ref 1229, .int (nI l38), .ref 1230, .int (nI tp), .int pl, .ref 1231, .int (nI vb), .int kn, .int 0, .ref 1232])))) hR31 (fun i hi => (am_up_ne (show i ≠ 1225 from by omega)).trans ((am_up_ne (show i ≠ 1229 from by omega)).trans (rfl)))
          refine v_callV (rest := []) (As := [.int (nI k20)]) (mc' := 0) (ms' := 0) (am_Dk d_MR_named (k := 67) rfl) c_MR_252 (Or.inl ⟨_, _, _, _, _, (RS_o1213 (RS_fr (M1 := (am_up (am_up M17 1229 (.inl (0, 4096, .inl g39))) 1225 (.inr (12, [.ref 1226, .ref 1227, .ref 1228, .ref 1213, .ref 1220, .ref 1212, .int (nI n), .int (nI (tok f n ((tok f n a).2.2.1)).2.1), .int (nI (tok f n ((tok f n a).2.2.1)).2.2.1), .int tk36, .int (nI (o + 1)), .long nu37, .ref 1229, .int (nI l38), .ref 1230, .int (nI tp), .int pl, .ref 1231, .int (nI vb), .int kn, .int 0, .ref 1232])))) hR31 (fun i hi => (am_up_ne (show i ≠ 1225 from by omega)).trans ((am_up_ne (show i ≠ 1229 from by omega)).trans (rfl))))), cq_ok10⟩) (t_MT_atom G (d := 0) (by omega) hX66.1 (by omega)) (by omega) (by omega) (by omega) (by simp [Value.category]) rfl (fun v67 M68 n69 h70 => ?_) (fun _ _ _ h70 => ?_)
          rotate_left
          · exact absurd h70.1 (by simp)
          obtain ⟨h70, hA71, hf72, ex9⟩ := h70
          cases h70
          replace ex9 := ex9.symm
          subst ex9
          have hR73 := RS_atom hX66 (k := k20) (by omega) hA71 hf72
          obtain ⟨W74, hW75⟩ : ∃ W9, W9 = gu W sz (2, 0) (0, 0, 0) none := ⟨_, rfl⟩
          rw [← hW75] at hR73
          have ge76 : gh_eq sz W W74 := by rw [hW75]; exact gu_eq _ _ _ _ _
          have at77 := gu_at W sz (2, 0) (0, 0, 0) none
          rw [← hW75] at at77
          have b78 : M68 1225 = some (.inr (12, [.ref 1226, .ref 1227, .ref 1228, .ref 1213, .ref 1220, .ref 1212, .int (nI n), .int (nI (tok f n ((tok f n a).2.2.1)).2.1), .int (nI (tok f n ((tok f n a).2.2.1)).2.2.1), .int tk36, .int (nI (o + 1)), .long nu37, .ref 1229, .int (nI l38), .ref 1230, .int (nI tp), .int pl, .ref 1231, .int (nI vb), .int kn, .int 0, .ref 1232])) := (hf72 1225 (by omega)).trans (am_up_eq _ _ _)
          have b79 : M68 1229 = some (.inl (0, 4096, .inl g39)) := (hf72 1229 (by omega)).trans ((am_up_ne (show 1229 ≠ 1225 from by decide)).trans (am_up_eq _ _ _))
          have b80 : M68 1230 = some (.inl (1, 4200, .inl S)) := (hf72 1230 (by omega)).trans ((am_up_ne (show 1230 ≠ 1225 from by decide)).trans ((am_up_ne (show 1230 ≠ 1229 from by decide)).trans (b27)))
          have b81 : M68 1232 = some (.inl (0, 4096, .inl kc)) := (hf72 1232 (by omega)).trans ((am_up_ne (show 1232 ≠ 1225 from by decide)).trans ((am_up_ne (show 1232 ≠ 1229 from by decide)).trans (b28)))
          have hm82 : mb f M68 := mb_fr hm29 (fun i hi => (hf72 i (by omega)).trans ((am_up_ne (show i ≠ 1225 from by omega)).trans ((am_up_ne (show i ≠ 1229 from by omega)).trans (rfl))))
          have fr83 : pf_fr M M68 := fun i hi => (hf72 i (by omega)).trans ((am_up_ne (show i ≠ 1225 from by omega)).trans ((am_up_ne (show i ≠ 1229 from by omega)).trans ((fr30 i hi))))
          have hR84 : RS LU M68 (sz + 1) pt ns21 tx22 vb e1 e2 W74 On23 Vx := ⟨_, _, _, _, hR73⟩
          show am_V G _ _ _ _ _ 130 [(3, .int (nI k20)), (2, .int (pfN (tok f n a).2.2.2.2)), (0, .ref 1225), (1, .int mo)] [.int (nI sz)] M68 nx 0 0
          have hcpl : c_pl f n a := ⟨n40, hcp2⟩
          have hpx9 : (¬ c_pf f n mo a) ∨ (c_pf f n mo a ∧ ((tok f n (tok f n a).2.2.1).1 = 10 ∨ (tok f n (tok f n a).2.2.1).1 = 11)) := by first | exact Or.inl hnpf | exact hpx
          have hres : TRes f n lu o mo a sz W74 (tok f n a).2.2.1 0 (sz + 1) sz := by
            rcases hpx9 with z | ⟨z1, z2⟩
            · exact Or.inl ⟨_, _, _, _, by rw [Nat.add_sub_cancel_left]; exact q_atom pb_0 hk2 hcpl z, ⟨at77.1, by rw [at77.2.2]; exact (by decide : ¬ (0 : Int32) < 0)⟩, by rw [at77.2.1], fun z => absurd rfl z⟩
            · exact Or.inr ⟨z2, q_preX hn pb_0 hk2 hcpl z1 z2⟩
          exact v_ireturn (am_Dk d_MR_named (k := 68) rfl) rfl rfl (by omega) (by omega) ⟨rfl, (fun i hi => (fr83 i hi)), Or.inl ⟨sz, ((tok f n a).2.2.1), S, 0, (sz + 1), pt, ns21, tx22, vb, e1, e2, W74, On23, Vx, rfl, (show PS f n LU M68 ((tok f n a).2.2.1) (o + 1) tp S 0 (sz + 1) pt ns21 tx22 vb e1 e2 W74 On23 Vx from ⟨⟨by omega, by omega, by omega, by omega, by omega, by omega, by omega, by omega, by omega, by omega⟩, mb_fr hm82 (fun i hi => rfl), RS_fr hR84 (fun i hi => rfl), b80, ⟨_, b81⟩, tk36, nu37, l38, g39, pl, kn, b78, hs41, b79, hg42⟩), ⟨by omega, by omega, ge76, by omega, q245, fun _ _ => rfl, by omega, by omega, by omega⟩, hres, trivial⟩⟩
        · have hle : kn_pf (tok f n a).2.2.2.2 ≤ mo := by rw [← hpk]; exact Int32.not_lt.mp c64
          refine v_aload_n (am_Dk d_MR_named (k := 61) rfl) rfl ?_
          obtain ⟨sd9, rkA9, hsd9, hsk9, hra9, hrk9⟩ := (mb_fr (M1 := (am_up (am_up M17 1229 (.inl (0, 4096, .inl g39))) 1225 (.inr (12, [.ref 1226, .ref 1227, .ref 1228, .ref 1213, .ref 1220, .ref 1212, .int (nI n), .int (nI (tok f n ((tok f n a).2.2.1)).2.1), .int (nI (tok f n ((tok f n a).2.2.1)).2.2.1), .int tk36, .int (nI (o + 1)), .long nu37, .ref 1229, .int (nI l38), .ref 1230, .int (nI tp), .int pl, .ref 1231, .int (nI vb), .int kn, .int 0, .ref 1232])))) hm29 (fun i hi => (am_up_ne (show i ≠ 1225 from by omega)).trans ((am_up_ne (show i ≠ 1229 from by omega)).trans (rfl)))).2.1
          have m85 : (am_up (am_up M17 1229 (.inl (0, 4096, .inl g39))) 1225 (.inr (12, [.ref 1226, .ref 1227, .ref 1228, .ref 1213, .ref 1220, .ref 1212, .int (nI n), .int (nI (tok f n ((tok f n a).2.2.1)).2.1), .int (nI (tok f n ((tok f n a).2.2.1)).2.2.1), .int tk36, .int (nI (o + 1)), .long nu37, .ref 1229, .int (nI l38), .ref 1230, .int (nI tp), .int pl, .ref 1231, .int (nI vb), .int kn, .int 0, .ref 1232]))) 1225 = some (.inr (12, [.ref 1226, .ref 1227, .ref 1228, .ref 1213, .ref 1220, .ref 1212, .int (nI n), .int (nI (tok f n ((tok f n a).2.2.1)).2.1), .int (nI (tok f n ((tok f n a).2.2.1)).2.2.1), .int tk36, .int (nI (o + 1)), .long nu37, .ref 1229, .int (nI l38), .ref 1230, .int (nI tp), .int pl, .ref 1231, .int (nI vb), .int kn, .int 0, .ref 1232])) := am_up_eq _ _ _
          have m86 : (am_up (am_up M17 1229 (.inl (0, 4096, .inl g39))) 1225 (.inr (12, [.ref 1226, .ref 1227, .ref 1228, .ref 1213, .ref 1220, .ref 1212, .int (nI n), .int (nI (tok f n ((tok f n a).2.2.1)).2.1), .int (nI (tok f n ((tok f n a).2.2.1)).2.2.1), .int tk36, .int (nI (o + 1)), .long nu37, .ref 1229, .int (nI l38), .ref 1230, .int (nI tp), .int pl, .ref 1231, .int (nI vb), .int kn, .int 0, .ref 1232]))) 1229 = some (.inl (0, 4096, .inl g39)) := (am_up_ne (show 1229 ≠ 1225 from by decide)).trans (am_up_eq _ _ _)
          refine v_callV (rest := []) (As := []) (mc' := 0) (ms' := 0) (am_Dk d_MR_named (k := 62) rfl) c_MR_248 (Or.inl ⟨_, _, _, _, _, m85, cq_ok12⟩) (t_MR_begins G (d := 6) (le := 0) (by omega) m85 m86 (by omega) hsd9 hsk9 hra9 hrk9) (by omega) (by omega) (by omega) (by simp [Value.category]) rfl (fun v87 M88 n89 h90 => ?_) (fun _ _ _ h90 => ?_)
          rotate_left
          · exact absurd h90.1 (by simp)
          obtain ⟨h90, e91, e92⟩ := h90
          replace e91 := e91.symm
          replace e92 := e92.symm
          subst e91
          subst e92
          cases h90
          show am_V G _ _ _ _ _ 119 [(3, .int (nI k20)), (2, .int (pfN (tok f n a).2.2.2.2)), (0, .ref 1225), (1, .int mo)] [.int (bi (decide (¬ (tk36 = 5 ∨ tk36 = 7 ∨ tk36 = 9 ∨ tk36 = 10 ∨ tk36 = 11 ∨ tk36 = 0 ∨ tk36 = 13) ∧ ((if tk36 = 10 then 1000 else if tk36 = 3 then rkN (spg l38 g39) else -1) = -1 ∨ ¬ (if tk36 = 3 then pfN (spg l38 g39) else -1) = -1))))] (am_up (am_up M17 1229 (.inl (0, 4096, .inl g39))) 1225 (.inr (12, [.ref 1226, .ref 1227, .ref 1228, .ref 1213, .ref 1220, .ref 1212, .int (nI n), .int (nI (tok f n ((tok f n a).2.2.1)).2.1), .int (nI (tok f n ((tok f n a).2.2.1)).2.2.1), .int tk36, .int (nI (o + 1)), .long nu37, .ref 1229, .int (nI l38), .ref 1230, .int (nI tp), .int pl, .ref 1231, .int (nI vb), .int kn, .int 0, .ref 1232]))) nx 0 0
          refine v_if_ne (tgt := 131) (am_Dk d_MR_named (k := 63) rfl) (by decide) (fun c93 => ?_) (fun c93 => ?_)
          · have hcan := (beg_can (by omega) hs41).1 (bi1 c93)
            have hcpf : c_pf f n mo a := ⟨hp0, hle, hcan⟩
            rw [hpk]
            refine v_aload_n (am_Dk d_MR_named (k := 69) rfl) rfl ?_
            refine v_get (am_Dk d_MR_named (k := 70) rfl) f_MR_102 m85 rfl ?_
            refine v_istore (L1 := [(4, .int (nI tp)), (3, .int (nI k20)), (2, .int (kn_pf (tok f n a).2.2.2.2)), (0, .ref 1225), (1, .int mo)]) (am_Dk d_MR_named (k := 71) rfl) (by decide) rfl ?_
            refine v_aload_n (am_Dk d_MR_named (k := 72) rfl) rfl ?_
            refine v_iload_n (am_Dk d_MR_named (k := 73) rfl) rfl ?_
            have ps94 := (show PS f n LU (am_up (am_up M17 1229 (.inl (0, 4096, .inl g39))) 1225 (.inr (12, [.ref 1226, .ref 1227, .ref 1228, .ref 1213, .ref 1220, .ref 1212, .int (nI n), .int (nI (tok f n ((tok f n a).2.2.1)).2.1), .int (nI (tok f n ((tok f n a).2.2.1)).2.2.1), .int tk36, .int (nI (o + 1)), .long nu37, .ref 1229, .int (nI l38), .ref 1230, .int (nI tp), .int pl, .ref 1231, .int (nI vb), .int kn, .int 0, .ref 1232]))) ((tok f n a).2.2.1) (o + 1) tp S 0 sz pt ns21 tx22 vb e1 e2 W On23 Vx from ⟨⟨by omega, by omega, by omega, by omega, by omega, by omega, by omega, by omega, by omega, by omega⟩, mb_fr hm29 (fun i hi => (am_up_ne (show i ≠ 1225 from by omega)).trans ((am_up_ne (show i ≠ 1229 from by omega)).trans (rfl))), RS_fr hR31 (fun i hi => (am_up_ne (show i ≠ 1225 from by omega)).trans ((am_up_ne (show i ≠ 1229 from by omega)).trans (rfl))), (am_up_ne (show 1230 ≠ 1225 from by decide)).trans ((am_up_ne (show 1230 ≠ 1229 from by decide)).trans (b27)), ⟨_, (am_up_ne (show 1232 ≠ 1225 from by decide)).trans ((am_up_ne (show 1232 ≠ 1229 from by decide)).trans (b28))⟩, tk36, nu37, l38, g39, pl, kn, am_up_eq _ _ _, hs41, (am_up_ne (show 1229 ≠ 1225 from by decide)).trans (am_up_eq _ _ _), hg42⟩)
            refine v_callV (rest := []) (As := [.int (kn_pf (tok f n a).2.2.2.2)]) (mc' := 0) (ms' := 0) (am_Dk d_MR_named (k := 74) rfl) c_MR_119 (Or.inl ⟨_, _, _, _, _, m85, cq_ok12⟩) (IH _ _ (kn_pf (tok f n a).2.2.2.2) _ _ _ _ _ _ _ _ _ _ _ _ _ _ ps94 hp2) (by omega) (by omega) (by omega) (by simp [Value.category]) rfl (fun v95 M96 n97 h98 => ?_) (fun x9 M96 n97 h98 => ?_)
            rotate_left
            · obtain ⟨ex9, pfT, hT⟩ := h98
              replace ex9 := ex9.symm
              subst ex9
              rcases hT with ⟨_, _, _, _, _, _, _, _, _, _, _, _, _, _, hx9, _⟩ | ⟨wT, hx9, pxT, bT⟩
              · cases hx9
              · cases hx9
                have hcpl : c_pl f n a := ⟨n40, hcp2⟩
                exact vt_leave (fun q hq => by cases hq) (by omega) (by omega) ⟨rfl, (fun i hi => (pfT i hi).trans ((am_up_ne (show i ≠ 1225 from by omega)).trans ((am_up_ne (show i ≠ 1229 from by omega)).trans ((fr30 i hi))))), Or.inr ⟨wT, rfl, pxT, q_preB hn pb_0 hk2 hcpl hcpf (bT.elim (fun z => Or.inl ⟨by omega, z.2⟩) (fun z => Or.inr ⟨z.1, z.2⟩))⟩⟩
            obtain ⟨ex9, pf113, hT⟩ := h98
            replace ex9 := ex9.symm
            subst ex9
            rcases hT with ⟨t99, a100, S101, rk102, sz103, pt104, ns105, tx106, vb107, e1108, e2109, W110, On111, Vx112, hx9, psx, pe114, tr115, ee116⟩ | ⟨_, hx9, _⟩
            rotate_left
            · cases hx9
            cases hx9
            obtain ⟨pb123, hm124, hR125, hS126, ⟨kc127, hk128⟩, tk117, nu118, l119, g120, pl121, kn122, hr129, hs130, hw131, hg132⟩ := psx
            obtain ⟨pb123_0, pb123_1, pb123_2, pb123_3, pb123_4, pb123_5, pb123_6, pb123_7, pb123_8, pb123_9⟩ := pb123
            obtain ⟨pe114_0, pe114_1, pe114_2, pe114_3, pe114_4, pe114_5, pe114_6, pe114_7, pe114_8⟩ := pe114
            replace hr129 : M96 1225 = some (.inr (12, [.ref 1226, .ref 1227, .ref 1228, .ref 1213, .ref 1220, .ref 1212, .int (nI n), .int (nI ((tok f n a100).2.1)), .int (nI ((tok f n a100).2.2.1)), .int tk117, .int (nI (o + 1)), .long nu118, .ref 1229, .int (nI l119), .ref 1230, .int (nI tp), .int pl121, .ref 1231, .int (nI vb107), .int kn122, .int rk102, .ref 1232])) := hr129
            have k_hs130 := tok_ok f pb123_0
            have p_hs130 := tok_pos f pb123_0
            have l_hs130 := hs130.2.2.1
            have fr133 : pf_fr M M96 := fun i hi => (pf113 i hi).trans ((am_up_ne (show i ≠ 1225 from by omega)).trans ((am_up_ne (show i ≠ 1229 from by omega)).trans ((fr30 i hi))))
            show am_V G _ _ _ _ _ 142 [(4, .int (nI tp)), (3, .int (nI k20)), (2, .int (kn_pf (tok f n a).2.2.2.2)), (0, .ref 1225), (1, .int mo)] [.int (nI t99)] M96 nx 0 0
            refine v_istore (L1 := [(5, .int (nI t99)), (4, .int (nI tp)), (3, .int (nI k20)), (2, .int (kn_pf (tok f n a).2.2.2.2)), (0, .ref 1225), (1, .int mo)]) (am_Dk d_MR_named (k := 75) rfl) (by decide) rfl ?_
            refine v_aload_n (am_Dk d_MR_named (k := 76) rfl) rfl ?_
            refine v_get (am_Dk d_MR_named (k := 77) rfl) f_MR_72 hr129 rfl ?_
            refine v_aload_n (am_Dk d_MR_named (k := 78) rfl) rfl ?_
            refine v_dup (am_Dk d_MR_named (k := 79) rfl) rfl ?_
            refine v_get (am_Dk d_MR_named (k := 80) rfl) f_MR_102 hr129 rfl ?_
            refine v_dup_x1 (am_Dk d_MR_named (k := 81) rfl) rfl rfl ?_
            refine v_iconst (v := 1) (am_Dk d_MR_named (k := 82) rfl) (by decide) ?_
            refine v_iadd (am_Dk d_MR_named (k := 83) rfl) ?_
            rw [nI_1]
            refine v_put (am_Dk d_MR_named (k := 84) rfl) f_MR_102 hr129 (Nat.le_of_ble_eq_true rfl) rfl rfl ?_
            refine v_iload (am_Dk d_MR_named (k := 85) rfl) rfl ?_
            have m134 : (am_up M96 1225 (.inr (12, [.ref 1226, .ref 1227, .ref 1228, .ref 1213, .ref 1220, .ref 1212, .int (nI n), .int (nI ((tok f n a100).2.1)), .int (nI ((tok f n a100).2.2.1)), .int tk117, .int (nI (o + 1)), .long nu118, .ref 1229, .int (nI l119), .ref 1230, .int (nI (tp + 1)), .int pl121, .ref 1231, .int (nI vb107), .int kn122, .int rk102, .ref 1232]))) 1230 = some (.inl (1, 4200, .inl S101)) := (am_up_ne (show 1230 ≠ 1225 from by decide)).trans (hS126)
            refine v_iast (am_Dk d_MR_named (k := 86) rfl) m134 rfl (vp_in_nI (by omega) (by omega)) ?_
            rw [nI_clamp (n := tp) (by omega)]
            refine v_aload_n (am_Dk d_MR_named (k := 87) rfl) rfl ?_
            have m135 : (am_up (am_up M96 1225 (.inr (12, [.ref 1226, .ref 1227, .ref 1228, .ref 1213, .ref 1220, .ref 1212, .int (nI n), .int (nI ((tok f n a100).2.1)), .int (nI ((tok f n a100).2.2.1)), .int tk117, .int (nI (o + 1)), .long nu118, .ref 1229, .int (nI l119), .ref 1230, .int (nI (tp + 1)), .int pl121, .ref 1231, .int (nI vb107), .int kn122, .int rk102, .ref 1232]))) 1230 (.inl (1, 4200, .inl (upd S101 (tp) (nI t99))))) 1225 = some (.inr (12, [.ref 1226, .ref 1227, .ref 1228, .ref 1213, .ref 1220, .ref 1212, .int (nI n), .int (nI ((tok f n a100).2.1)), .int (nI ((tok f n a100).2.2.1)), .int tk117, .int (nI (o + 1)), .long nu118, .ref 1229, .int (nI l119), .ref 1230, .int (nI (tp + 1)), .int pl121, .ref 1231, .int (nI vb107), .int kn122, .int rk102, .ref 1232])) := (am_up_ne (show 1225 ≠ 1230 from by decide)).trans (am_up_eq _ _ _)
            refine v_get (am_Dk d_MR_named (k := 88) rfl) f_MR_81 m135 rfl ?_
            refine v_iload_n (am_Dk d_MR_named (k := 89) rfl) rfl ?_
            refine v_aload_n (am_Dk d_MR_named (k := 90) rfl) rfl ?_
            refine v_get (am_Dk d_MR_named (k := 91) rfl) f_MR_72 m135 rfl ?_
            refine v_iload (am_Dk d_MR_named (k := 92) rfl) rfl ?_
            refine v_iconst (v := 1) (am_Dk d_MR_named (k := 93) rfl) (by decide) ?_
            obtain ⟨⟨Kd136, Nm136, Fi136, Ma136, Pa136, Nu136⟩, T136, F136, Va136, hX136⟩ := RS_fr (M1 := (am_up (am_up M96 1225 (.inr (12, [.ref 1226, .ref 1227, .ref 1228, .ref 1213, .ref 1220, .ref 1212, .int (nI n), .int (nI ((tok f n a100).2.1)), .int (nI ((tok f n a100).2.2.1)), .int tk117, .int (nI (o + 1)), .long nu118, .ref 1229, .int (nI l119), .ref 1230, .int (nI (tp + 1)), .int pl121, .ref 1231, .int (nI vb107), .int kn122, .int rk102, .ref 1232]))) 1230 (.inl (1, 4200, .inl (upd S101 (tp) (nI t99)))))) hR125 (fun i hi => (am_up_ne (show i ≠ 1230 from by omega)).trans ((am_up_ne (show i ≠ 1225 from by omega)).trans (rfl)))
            have m137 : (am_up (am_up M96 1225 (.inr (12, [.ref 1226, .ref 1227, .ref 1228, .ref 1213, .ref 1220, .ref 1212, .int (nI n), .int (nI ((tok f n a100).2.1)), .int (nI ((tok f n a100).2.2.1)), .int tk117, .int (nI (o + 1)), .long nu118, .ref 1229, .int (nI l119), .ref 1230, .int (nI (tp + 1)), .int pl121, .ref 1231, .int (nI vb107), .int kn122, .int rk102, .ref 1232]))) 1230 (.inl (1, 4200, .inl (upd S101 (tp) (nI t99))))) 1230 = some (.inl (1, 4200, .inl (upd S101 (tp) (nI t99)))) := am_up_eq _ _ _
            refine v_callV (rest := []) (As := [.int (nI k20), .ref 1230, .int (nI tp), .int 1]) (mc' := 0) (ms' := 0) (am_Dk d_MR_named (k := 94) rfl) c_MR_215 (Or.inl ⟨_, _, _, _, _, (RS_o1213 (RS_fr (M1 := (am_up (am_up M96 1225 (.inr (12, [.ref 1226, .ref 1227, .ref 1228, .ref 1213, .ref 1220, .ref 1212, .int (nI n), .int (nI ((tok f n a100).2.1)), .int (nI ((tok f n a100).2.2.1)), .int tk117, .int (nI (o + 1)), .long nu118, .ref 1229, .int (nI l119), .ref 1230, .int (nI (tp + 1)), .int pl121, .ref 1231, .int (nI vb107), .int kn122, .int rk102, .ref 1232]))) 1230 (.inl (1, 4200, .inl (upd S101 (tp) (nI t99)))))) hR125 (fun i hi => (am_up_ne (show i ≠ 1230 from by omega)).trans ((am_up_ne (show i ≠ 1225 from by omega)).trans (rfl))))), cq_ok10⟩) (t_MT_compound G (d := 0) (c := 1) (fr := tp) (by omega) hX136.1 (by omega) m137 (by omega) (by omega) (by omega)) (by omega) (by omega) (by omega) (by simp [Value.category]) rfl (fun v138 M139 n140 h141 => ?_) (fun _ _ _ h141 => ?_)
            rotate_left
            · exact absurd h141.1 (by simp)
            obtain ⟨h141, hA142, hf143, ex9⟩ := h141
            cases h141
            replace ex9 := ex9.symm
            subst ex9
            have hR144 := RS_comp hX136 (k := k20) (c := 1) (fr := tp) (y := (fun _ => t99)) (by omega) (by omega) (fun j hj => ⟨by omega, by rw [show tp + j = tp from by omega]; exact upd_at _ _ _⟩) hA142 hf143
            obtain ⟨W145, hW146⟩ : ∃ W9, W9 = gu W110 sz103 (if 1 = 1 then rk1 (On111 k20) (W110.1 ((fun _ => t99) 0)).1 (W110.1 ((fun _ => t99) 0)).2 else if 1 = 2 then rk2 (On111 k20) (W110.1 ((fun _ => t99) 0)).1 (W110.1 ((fun _ => t99) 0)).2 (W110.1 ((fun _ => t99) 1)).1 (W110.1 ((fun _ => t99) 1)).2 else (2, 0)) (if 1 = 2 then (On111 k20, (fun _ => t99) 0, (fun _ => t99) 1) else (0, 0, 0)) none := ⟨_, rfl⟩
            rw [← hW146] at hR144
            have ge147 : gh_eq sz103 W110 W145 := by rw [hW146]; exact gu_eq _ _ _ _ _
            have at148 := gu_at W110 sz103 (if 1 = 1 then rk1 (On111 k20) (W110.1 ((fun _ => t99) 0)).1 (W110.1 ((fun _ => t99) 0)).2 else if 1 = 2 then rk2 (On111 k20) (W110.1 ((fun _ => t99) 0)).1 (W110.1 ((fun _ => t99) 0)).2 (W110.1 ((fun _ => t99) 1)).1 (W110.1 ((fun _ => t99) 1)).2 else (2, 0)) (if 1 = 2 then (On111 k20, (fun _ => t99) 0, (fun _ => t99) 1) else (0, 0, 0)) none
            rw [← hW146] at at148
            have b149 : M139 1225 = some (.inr (12, [.ref 1226, .ref 1227, .ref 1228, .ref 1213, .ref 1220, .ref 1212, .int (nI n), .int (nI ((tok f n a100).2.1)), .int (nI ((tok f n a100).2.2.1)), .int tk117, .int (nI (o + 1)), .long nu118, .ref 1229, .int (nI l119), .ref 1230, .int (nI (tp + 1)), .int pl121, .ref 1231, .int (nI vb107), .int kn122, .int rk102, .ref 1232])) := (hf143 1225 (by omega)).trans ((am_up_ne (show 1225 ≠ 1230 from by decide)).trans (am_up_eq _ _ _))
            have b150 : M139 1229 = some (.inl (0, 4096, .inl g120)) := (hf143 1229 (by omega)).trans ((am_up_ne (show 1229 ≠ 1230 from by decide)).trans ((am_up_ne (show 1229 ≠ 1225 from by decide)).trans (hw131)))
            have b151 : M139 1230 = some (.inl (1, 4200, .inl (upd S101 (tp) (nI t99)))) := (hf143 1230 (by omega)).trans (am_up_eq _ _ _)
            have b152 : M139 1232 = some (.inl (0, 4096, .inl kc127)) := (hf143 1232 (by omega)).trans ((am_up_ne (show 1232 ≠ 1230 from by decide)).trans ((am_up_ne (show 1232 ≠ 1225 from by decide)).trans (hk128)))
            have hm153 : mb f M139 := mb_fr hm124 (fun i hi => (hf143 i (by omega)).trans ((am_up_ne (show i ≠ 1230 from by omega)).trans ((am_up_ne (show i ≠ 1225 from by omega)).trans (rfl))))
            have fr154 : pf_fr M M139 := fun i hi => (hf143 i (by omega)).trans ((am_up_ne (show i ≠ 1230 from by omega)).trans ((am_up_ne (show i ≠ 1225 from by omega)).trans ((fr133 i hi))))
            have hR155 : RS LU M139 (sz103 + 1) (pt104 + 1) ns105 tx106 vb107 e1108 e2109 W145 On111 Vx112 := ⟨_, _, _, _, hR144⟩
            show am_V G _ _ _ _ _ 177 [(5, .int (nI t99)), (4, .int (nI tp)), (3, .int (nI k20)), (2, .int (kn_pf (tok f n a).2.2.2.2)), (0, .ref 1225), (1, .int mo)] [.int (nI sz103)] M139 nx 0 0
            refine v_istore (L1 := [(6, .int (nI sz103)), (5, .int (nI t99)), (4, .int (nI tp)), (3, .int (nI k20)), (2, .int (kn_pf (tok f n a).2.2.2.2)), (0, .ref 1225), (1, .int mo)]) (am_Dk d_MR_named (k := 95) rfl) (by decide) rfl ?_
            refine v_aload_n (am_Dk d_MR_named (k := 96) rfl) rfl ?_
            refine v_iload (am_Dk d_MR_named (k := 97) rfl) rfl ?_
            refine v_put (am_Dk d_MR_named (k := 98) rfl) f_MR_102 b149 (Nat.le_of_ble_eq_true rfl) rfl rfl ?_
            refine v_aload_n (am_Dk d_MR_named (k := 99) rfl) rfl ?_
            refine v_iload_n (am_Dk d_MR_named (k := 100) rfl) rfl ?_
            have m156 : (am_up M139 1225 (.inr (12, [.ref 1226, .ref 1227, .ref 1228, .ref 1213, .ref 1220, .ref 1212, .int (nI n), .int (nI ((tok f n a100).2.1)), .int (nI ((tok f n a100).2.2.1)), .int tk117, .int (nI (o + 1)), .long nu118, .ref 1229, .int (nI l119), .ref 1230, .int (nI tp), .int pl121, .ref 1231, .int (nI vb107), .int kn122, .int rk102, .ref 1232]))) 1225 = some (.inr (12, [.ref 1226, .ref 1227, .ref 1228, .ref 1213, .ref 1220, .ref 1212, .int (nI n), .int (nI ((tok f n a100).2.1)), .int (nI ((tok f n a100).2.2.1)), .int tk117, .int (nI (o + 1)), .long nu118, .ref 1229, .int (nI l119), .ref 1230, .int (nI tp), .int pl121, .ref 1231, .int (nI vb107), .int kn122, .int rk102, .ref 1232])) := am_up_eq _ _ _
            refine v_put (am_Dk d_MR_named (k := 101) rfl) f_MR_204 m156 (Nat.le_of_ble_eq_true rfl) rfl rfl ?_
            rw [am_uu0 (a := 1225)]
            refine v_iload (am_Dk d_MR_named (k := 102) rfl) rfl ?_
            have hcpl : c_pl f n a := ⟨n40, hcp2⟩
            have hkO : On111 k20 = (tok f n a).2.2.2.2 := (pe114_4 k20 q242).trans (q243.trans hsp)
            have hat1 := at148.1
            rw [if_pos rfl, hkO] at hat1
            have hat2 := at148.2.1
            rw [if_neg (by decide)] at hat2
            have hres : TRes f n lu o mo a sz W145 a100 (kn_pf (tok f n a).2.2.2.2) (sz103 + 1) sz103 := by
              rcases tr115 with ⟨wT, roT, L9, R9, hTO, hOp, hro, hch⟩ | ⟨hk10, hTB⟩
              · have hTE := q_pre pb_0 hk2 hcpl hcpf ee116.1 hTO ee116.2
                rw [show sz103 - sz + 1 = sz103 + 1 - sz from by omega] at hTE
                have e1 : W110.1 t99 = (wT.1, wT.2.1) := hOp.1
                rw [e1] at hat1
                exact Or.inl ⟨_, _, _, _, hTE, ⟨hat1, by rw [at148.2.2]; exact (by decide : ¬ (0 : Int32) < 0)⟩, by rw [hat2], fun z => absurd rfl z⟩
              · exact Or.inr ⟨hk10, q_preB hn pb_0 hk2 hcpl hcpf (Or.inr ⟨ee116.1, hTB⟩)⟩
            exact v_ireturn (am_Dk d_MR_named (k := 103) rfl) rfl rfl (by omega) (by omega) ⟨rfl, (fun i hi => (am_up_ne (show i ≠ 1225 from by omega)).trans ((fr154 i hi))), Or.inl ⟨sz103, a100, (upd S101 (tp) (nI t99)), (kn_pf (tok f n a).2.2.2.2), (sz103 + 1), (pt104 + 1), ns105, tx106, vb107, e1108, e2109, W145, On111, Vx112, rfl, (show PS f n LU (am_up M139 1225 (.inr (12, [.ref 1226, .ref 1227, .ref 1228, .ref 1213, .ref 1220, .ref 1212, .int (nI n), .int (nI ((tok f n a100).2.1)), .int (nI ((tok f n a100).2.2.1)), .int tk117, .int (nI (o + 1)), .long nu118, .ref 1229, .int (nI l119), .ref 1230, .int (nI tp), .int pl121, .ref 1231, .int (nI vb107), .int kn122, .int (kn_pf (tok f n a).2.2.2.2), .ref 1232]))) a100 (o + 1) tp (upd S101 (tp) (nI t99)) (kn_pf (tok f n a).2.2.2.2) (sz103 + 1) (pt104 + 1) ns105 tx106 vb107 e1108 e2109 W145 On111 Vx112 from ⟨⟨by omega, by omega, by omega, by omega, by omega, by omega, by omega, by omega, by omega, by omega⟩, mb_fr hm153 (fun i hi => (am_up_ne (show i ≠ 1225 from by omega)).trans (rfl)), RS_fr hR155 (fun i hi => (am_up_ne (show i ≠ 1225 from by omega)).trans (rfl)), (am_up_ne (show 1230 ≠ 1225 from by decide)).trans (b151), ⟨_, (am_up_ne (show 1232 ≠ 1225 from by decide)).trans (b152)⟩, tk117, nu118, l119, g120, pl121, kn122, am_up_eq _ _ _, hs130, (am_up_ne (show 1229 ≠ 1225 from by decide)).trans (b150), hg132⟩), ⟨by omega, by omega, gh_trans pe114_2 ge147 (by omega), by omega, fun j hj => (pe114_4 j (by omega)).trans (q245 j hj), fun j hj => (upd_ne _ _ (by omega)).trans (pe114_5 j hj), by omega, by omega, by omega⟩, hres, trivial⟩⟩
          · have hcan := (beg_can (by omega) hs41).2 (bi0.mp c93)
            have hpx : (¬ c_pf f n mo a) ∨ (c_pf f n mo a ∧ ((tok f n (tok f n a).2.2.1).1 = 10 ∨ (tok f n (tok f n a).2.2.1).1 = 11)) := by rcases hcan with z | z; exact Or.inl (fun y => absurd (z.symm.trans y.2.2) (by decide)); exact Or.inr ⟨⟨hp0, hle, by rw [c_can, if_neg (by omega), decide_eq_true (by omega)]⟩, z⟩
            refine v_aload_n (am_Dk d_MR_named (k := 64) rfl) rfl ?_
            refine v_get (am_Dk d_MR_named (k := 65) rfl) f_MR_81 m85 rfl ?_
            refine v_iload_n (am_Dk d_MR_named (k := 66) rfl) rfl ?_
            obtain ⟨⟨Kd157, Nm157, Fi157, Ma157, Pa157, Nu157⟩, T157, F157, Va157, hX157⟩ := RS_fr (M1 := (am_up (am_up M17 1229 (.inl (0, 4096, .inl g39))) 1225 (.inr (12, [.ref 1226, .ref 1227, .ref 1228, .ref 1213, .ref 1220, .ref 1212, .int (nI n), .int (nI (tok f n ((tok f n a).2.2.1)).2.1), .int (nI (tok f n ((tok f n a).2.2.1)).2.2.1), .int tk36, .int (nI (o + 1)), .long nu37, .ref 1229, .int (nI l38), .ref 1230, .int (nI tp), .int pl, .ref 1231, .int (nI vb), .int kn, .int 0, .ref 1232])))) hR31 (fun i hi => (am_up_ne (show i ≠ 1225 from by omega)).trans ((am_up_ne (show i ≠ 1229 from by omega)).trans (rfl)))
            refine v_callV (rest := []) (As := [.int (nI k20)]) (mc' := 0) (ms' := 0) (am_Dk d_MR_named (k := 67) rfl) c_MR_252 (Or.inl ⟨_, _, _, _, _, (RS_o1213 (RS_fr (M1 := (am_up (am_up M17 1229 (.inl (0, 4096, .inl g39))) 1225 (.inr (12, [.ref 1226, .ref 1227, .ref 1228, .ref 1213, .ref 1220, .ref 1212, .int (nI n), .int (nI (tok f n ((tok f n a).2.2.1)).2.1), .int (nI (tok f n ((tok f n a).2.2.1)).2.2.1), .int tk36, .int (nI (o + 1)), .long nu37, .ref 1229, .int (nI l38), .ref 1230, .int (nI tp), .int pl, .ref 1231, .int (nI vb), .int kn, .int 0, .ref 1232])))) hR31 (fun i hi => (am_up_ne (show i ≠ 1225 from by omega)).trans ((am_up_ne (show i ≠ 1229 from by omega)).trans (rfl))))), cq_ok10⟩) (t_MT_atom G (d := 0) (by omega) hX157.1 (by omega)) (by omega) (by omega) (by omega) (by simp [Value.category]) rfl (fun v158 M159 n160 h161 => ?_) (fun _ _ _ h161 => ?_)
            rotate_left
            · exact absurd h161.1 (by simp)
            obtain ⟨h161, hA162, hf163, ex9⟩ := h161
            cases h161
            replace ex9 := ex9.symm
            subst ex9
            have hR164 := RS_atom hX157 (k := k20) (by omega) hA162 hf163
            obtain ⟨W165, hW166⟩ : ∃ W9, W9 = gu W sz (2, 0) (0, 0, 0) none := ⟨_, rfl⟩
            rw [← hW166] at hR164
            have ge167 : gh_eq sz W W165 := by rw [hW166]; exact gu_eq _ _ _ _ _
            have at168 := gu_at W sz (2, 0) (0, 0, 0) none
            rw [← hW166] at at168
            have b169 : M159 1225 = some (.inr (12, [.ref 1226, .ref 1227, .ref 1228, .ref 1213, .ref 1220, .ref 1212, .int (nI n), .int (nI (tok f n ((tok f n a).2.2.1)).2.1), .int (nI (tok f n ((tok f n a).2.2.1)).2.2.1), .int tk36, .int (nI (o + 1)), .long nu37, .ref 1229, .int (nI l38), .ref 1230, .int (nI tp), .int pl, .ref 1231, .int (nI vb), .int kn, .int 0, .ref 1232])) := (hf163 1225 (by omega)).trans (am_up_eq _ _ _)
            have b170 : M159 1229 = some (.inl (0, 4096, .inl g39)) := (hf163 1229 (by omega)).trans ((am_up_ne (show 1229 ≠ 1225 from by decide)).trans (am_up_eq _ _ _))
            have b171 : M159 1230 = some (.inl (1, 4200, .inl S)) := (hf163 1230 (by omega)).trans ((am_up_ne (show 1230 ≠ 1225 from by decide)).trans ((am_up_ne (show 1230 ≠ 1229 from by decide)).trans (b27)))
            have b172 : M159 1232 = some (.inl (0, 4096, .inl kc)) := (hf163 1232 (by omega)).trans ((am_up_ne (show 1232 ≠ 1225 from by decide)).trans ((am_up_ne (show 1232 ≠ 1229 from by decide)).trans (b28)))
            have hm173 : mb f M159 := mb_fr hm29 (fun i hi => (hf163 i (by omega)).trans ((am_up_ne (show i ≠ 1225 from by omega)).trans ((am_up_ne (show i ≠ 1229 from by omega)).trans (rfl))))
            have fr174 : pf_fr M M159 := fun i hi => (hf163 i (by omega)).trans ((am_up_ne (show i ≠ 1225 from by omega)).trans ((am_up_ne (show i ≠ 1229 from by omega)).trans ((fr30 i hi))))
            have hR175 : RS LU M159 (sz + 1) pt ns21 tx22 vb e1 e2 W165 On23 Vx := ⟨_, _, _, _, hR164⟩
            show am_V G _ _ _ _ _ 130 [(3, .int (nI k20)), (2, .int (pfN (tok f n a).2.2.2.2)), (0, .ref 1225), (1, .int mo)] [.int (nI sz)] M159 nx 0 0
            have hcpl : c_pl f n a := ⟨n40, hcp2⟩
            have hpx9 : (¬ c_pf f n mo a) ∨ (c_pf f n mo a ∧ ((tok f n (tok f n a).2.2.1).1 = 10 ∨ (tok f n (tok f n a).2.2.1).1 = 11)) := by first | exact Or.inl hnpf | exact hpx
            have hres : TRes f n lu o mo a sz W165 (tok f n a).2.2.1 0 (sz + 1) sz := by
              rcases hpx9 with z | ⟨z1, z2⟩
              · exact Or.inl ⟨_, _, _, _, by rw [Nat.add_sub_cancel_left]; exact q_atom pb_0 hk2 hcpl z, ⟨at168.1, by rw [at168.2.2]; exact (by decide : ¬ (0 : Int32) < 0)⟩, by rw [at168.2.1], fun z => absurd rfl z⟩
              · exact Or.inr ⟨z2, q_preX hn pb_0 hk2 hcpl z1 z2⟩
            exact v_ireturn (am_Dk d_MR_named (k := 68) rfl) rfl rfl (by omega) (by omega) ⟨rfl, (fun i hi => (fr174 i hi)), Or.inl ⟨sz, ((tok f n a).2.2.1), S, 0, (sz + 1), pt, ns21, tx22, vb, e1, e2, W165, On23, Vx, rfl, (show PS f n LU M159 ((tok f n a).2.2.1) (o + 1) tp S 0 (sz + 1) pt ns21 tx22 vb e1 e2 W165 On23 Vx from ⟨⟨by omega, by omega, by omega, by omega, by omega, by omega, by omega, by omega, by omega, by omega⟩, mb_fr hm173 (fun i hi => rfl), RS_fr hR175 (fun i hi => rfl), b171, ⟨_, b172⟩, tk36, nu37, l38, g39, pl, kn, b169, hs41, b170, hg42⟩), ⟨by omega, by omega, ge167, by omega, q245, fun _ _ => rfl, by omega, by omega, by omega⟩, hres, trivial⟩⟩
    · have Nc8 := (nI_eq (a := l) (b := 1) (by omega) (by omega)).mp c8
      have hl1 : l = 1 := by omega
      refine v_aload_n (am_Dk d_MR_named (k := 13) rfl) rfl ?_
      refine v_get (am_Dk d_MR_named (k := 14) rfl) f_MR_68 hr rfl ?_
      refine v_iconst (v := 0) (am_Dk d_MR_named (k := 15) rfl) (by decide) ?_
      refine v_bald (am_Dk d_MR_named (k := 16) rfl) hw rfl (vp_in_nI (n := 0) (by omega) (by omega)) ?_
      rw [show Int32.toNatClampNeg 0 = 0 from by decide]
      refine v_bipush (v := 45) (am_Dk d_MR_named (k := 17) rfl) (by decide) ?_
      refine v_icmp_ne (tgt := 91) (am_Dk d_MR_named (k := 18) rfl) (by decide) (fun c176 => ?_) (fun c176 => ?_)
      · have hcp2 : ¬ ((tok f n (tok f n a).2.2.1).2.1 = (tok f n a).2.2.1 ∧ (tok f n (tok f n a).2.2.1).1 = 1 ∧ (tok f n a).2.2.2.2 = 18) := fun z => c176 (sp18.mp (hsp.trans z.2.2)).2
        refine v_aload_n (am_Dk d_MR_named (k := 47) rfl) rfl ?_
        refine v_callV (rest := []) (As := []) (mc' := 0) (ms' := 0) (am_Dk d_MR_named (k := 48) rfl) c_MR_201 (Or.inl ⟨_, _, _, _, _, hr, cq_ok12⟩) (t_MR_prefix G (d := 5) (le := 0) (by omega) hr hw (by omega)) (by omega) (by omega) (by omega) (by simp [Value.category]) rfl (fun v177 M178 n179 h180 => ?_) (fun _ _ _ h180 => ?_)
        rotate_left
        · exact absurd h180.1 (by simp)
        obtain ⟨h180, e181, e182⟩ := h180
        replace e181 := e181.symm
        replace e182 := e182.symm
        subst e181
        subst e182
        cases h180
        show am_V G _ _ _ _ _ 95 [(0, .ref 1225), (1, .int mo)] [.int (if tk = 3 then pfN (spg l g) else -1)] M nx 0 0
        rw [show (if tk = 3 then pfN (spg l g) else -1) = pfN (tok f n a).2.2.2.2 from by rw [if_pos htk3, hsp]]
        show am_V G _ _ _ _ _ 95 [(0, .ref 1225), (1, .int mo)] [.int (pfN (tok f n a).2.2.2.2)] M nx 0 0
        refine v_istore_n (L1 := [(2, .int (pfN (tok f n a).2.2.2.2)), (0, .ref 1225), (1, .int mo)]) (am_Dk d_MR_named (k := 49) rfl) (by decide) rfl ?_
        refine v_aload_n (am_Dk d_MR_named (k := 50) rfl) rfl ?_
        obtain ⟨⟨Kd183, Nm183, Fi183, Ma183, Pa183, Nu183⟩, T183, F183, Va183, hX183⟩ := RS_fr (M1 := M) hR (fun i hi => rfl)
        refine v_callV (rest := []) (As := []) (mc' := 0) (ms' := 0) (am_Dk d_MR_named (k := 51) rfl) c_MR_212 (Or.inl ⟨_, _, _, _, _, hr, cq_ok12⟩) (t_MR_name G (d := 2) (le := 0) (l := l) (by omega) hr hw hg (by omega) hX183 (by omega) (by omega)) (by omega) (by omega) (by omega) (by simp [Value.category]) rfl (fun v184 M185 n186 h187 => ?_) (fun _ _ _ h187 => ?_)
        rotate_left
        · obtain ⟨_, _, _, _, _, _, hx9, _⟩ := h187; cases hx9
        obtain ⟨k188, ns189, tx190, On191, T9, F9, h187, ex9, q1921, q1922, q1923, q1924, q1925, q1926, q1927⟩ := h187
        cases h187
        replace ex9 := ex9.symm
        subst ex9
        have b193 : M185 1225 = some (.inr (12, [.ref 1226, .ref 1227, .ref 1228, .ref 1213, .ref 1220, .ref 1212, .int (nI n), .int (nI ((tok f n a).2.1)), .int (nI ((tok f n a).2.2.1)), .int tk, .int (nI (o + 1)), .long nu, .ref 1229, .int (nI l), .ref 1230, .int (nI tp), .int pl, .ref 1231, .int (nI vb), .int kn, .int 0, .ref 1232])) := (q1927 1225 (by omega)).trans (hr)
        have b194 : M185 1229 = some (.inl (0, 4096, .inl g)) := (q1927 1229 (by omega)).trans (hw)
        have b195 : M185 1230 = some (.inl (1, 4200, .inl S)) := (q1927 1230 (by omega)).trans (hS)
        have b196 : M185 1232 = some (.inl (0, 4096, .inl kc)) := (q1927 1232 (by omega)).trans (hkc)
        have hm197 : mb f M185 := mb_fr hm (fun i hi => (q1927 i (by omega)).trans (rfl))
        have fr198 : pf_fr M M185 := fun i hi => (q1927 i (by omega)).trans ((fr0 i hi))
        have hR199 : RS LU M185 sz pt ns189 tx190 vb e1 e2 W On191 Vx := ⟨_, _, _, _, q1921⟩
        show am_V G _ _ _ _ _ 100 [(2, .int (pfN (tok f n a).2.2.2.2)), (0, .ref 1225), (1, .int mo)] [.int (nI k188)] M185 nx 0 0
        refine v_istore_n (L1 := [(3, .int (nI k188)), (2, .int (pfN (tok f n a).2.2.2.2)), (0, .ref 1225), (1, .int mo)]) (am_Dk d_MR_named (k := 52) rfl) (by decide) rfl ?_
        refine v_aload_n (am_Dk d_MR_named (k := 53) rfl) rfl ?_
        refine v_callV (rest := []) (As := []) (mc' := 0) (ms' := 0) (am_Dk d_MR_named (k := 54) rfl) c_MR_113 (Or.inl ⟨_, _, _, _, _, b193, cq_ok12⟩) (t_MR_scan G (d := 5) (be := 0) (a := (tok f n a).2.2.1) (by omega) b193 hm197.1 hn hb (by omega) b194 hg) (by omega) (by omega) (by omega) (by simp [Value.category]) rfl (fun v200 M201 n202 h203 => ?_) (fun _ _ _ h203 => ?_)
        rotate_left
        · obtain ⟨_, _, _, _, hx9, _⟩ := h203; cases hx9
        obtain ⟨tk204, nu205, l206, g207, h203, ex9, e208, hs209, hg210⟩ := h203
        replace e208 := e208.symm
        replace ex9 := ex9.symm
        subst e208
        subst ex9
        cases h203
        have k_hs209 := tok_ok f (show (tok f n a).2.2.1 ≤ n from by omega)
        have p_hs209 := tok_pos f (show (tok f n a).2.2.1 ≤ n from by omega)
        have l_hs209 := hs209.2.2.1
        show am_V G _ _ _ _ _ 105 [(3, .int (nI k188)), (2, .int (pfN (tok f n a).2.2.2.2)), (0, .ref 1225), (1, .int mo)] [] (am_up (am_up M185 1229 (.inl (0, 4096, .inl g207))) 1225 (.inr (12, [.ref 1226, .ref 1227, .ref 1228, .ref 1213, .ref 1220, .ref 1212, .int (nI n), .int (nI (tok f n ((tok f n a).2.2.1)).2.1), .int (nI (tok f n ((tok f n a).2.2.1)).2.2.1), .int tk204, .int (nI (o + 1)), .long nu205, .ref 1229, .int (nI l206), .ref 1230, .int (nI tp), .int pl, .ref 1231, .int (nI vb), .int kn, .int 0, .ref 1232]))) nx 0 0
        refine v_iload_n (am_Dk d_MR_named (k := 55) rfl) rfl ?_
        refine v_iconst (v := (-1)) (am_Dk d_MR_named (k := 56) rfl) (by decide) ?_
        refine v_icmp_eq (tgt := 122) (am_Dk d_MR_named (k := 57) rfl) (by decide) (fun c211 => ?_) (fun c211 => ?_)
        · have hnpf : ¬ c_pf f n mo a := fun z => hpfc.elim (fun y => y.2 z.1) (fun y => y.1 c211)
          refine v_aload_n (am_Dk d_MR_named (k := 64) rfl) rfl ?_
          have m212 : (am_up (am_up M185 1229 (.inl (0, 4096, .inl g207))) 1225 (.inr (12, [.ref 1226, .ref 1227, .ref 1228, .ref 1213, .ref 1220, .ref 1212, .int (nI n), .int (nI (tok f n ((tok f n a).2.2.1)).2.1), .int (nI (tok f n ((tok f n a).2.2.1)).2.2.1), .int tk204, .int (nI (o + 1)), .long nu205, .ref 1229, .int (nI l206), .ref 1230, .int (nI tp), .int pl, .ref 1231, .int (nI vb), .int kn, .int 0, .ref 1232]))) 1225 = some (.inr (12, [.ref 1226, .ref 1227, .ref 1228, .ref 1213, .ref 1220, .ref 1212, .int (nI n), .int (nI (tok f n ((tok f n a).2.2.1)).2.1), .int (nI (tok f n ((tok f n a).2.2.1)).2.2.1), .int tk204, .int (nI (o + 1)), .long nu205, .ref 1229, .int (nI l206), .ref 1230, .int (nI tp), .int pl, .ref 1231, .int (nI vb), .int kn, .int 0, .ref 1232])) := am_up_eq _ _ _
          refine v_get (am_Dk d_MR_named (k := 65) rfl) f_MR_81 m212 rfl ?_
          refine v_iload_n (am_Dk d_MR_named (k := 66) rfl) rfl ?_
          obtain ⟨⟨Kd213, Nm213, Fi213, Ma213, Pa213, Nu213⟩, T213, F213, Va213, hX213⟩ := RS_fr (M1 := (am_up (am_up M185 1229 (.inl (0, 4096, .inl g207))) 1225 (.inr (12, [.ref 1226, .ref 1227, .ref 1228, .ref 1213, .ref 1220, .ref 1212, .int (nI n), .int (nI (tok f n ((tok f n a).2.2.1)).2.1), .int (nI (tok f n ((tok f n a).2.2.1)).2.2.1), .int tk204, .int (nI (o + 1)), .long nu205, .ref 1229, .int (nI l206), .ref 1230, .int (nI tp), .int pl, .ref 1231, .int (nI vb), .int kn, .int 0, .ref 1232])))) hR199 (fun i hi => (am_up_ne (show i ≠ 1225 from by omega)).trans ((am_up_ne (show i ≠ 1229 from by omega)).trans (rfl)))
          refine v_callV (rest := []) (As := [.int (nI k188)]) (mc' := 0) (ms' := 0) (am_Dk d_MR_named (k := 67) rfl) c_MR_252 (Or.inl ⟨_, _, _, _, _, (RS_o1213 (RS_fr (M1 := (am_up (am_up M185 1229 (.inl (0, 4096, .inl g207))) 1225 (.inr (12, [.ref 1226, .ref 1227, .ref 1228, .ref 1213, .ref 1220, .ref 1212, .int (nI n), .int (nI (tok f n ((tok f n a).2.2.1)).2.1), .int (nI (tok f n ((tok f n a).2.2.1)).2.2.1), .int tk204, .int (nI (o + 1)), .long nu205, .ref 1229, .int (nI l206), .ref 1230, .int (nI tp), .int pl, .ref 1231, .int (nI vb), .int kn, .int 0, .ref 1232])))) hR199 (fun i hi => (am_up_ne (show i ≠ 1225 from by omega)).trans ((am_up_ne (show i ≠ 1229 from by omega)).trans (rfl))))), cq_ok10⟩) (t_MT_atom G (d := 0) (by omega) hX213.1 (by omega)) (by omega) (by omega) (by omega) (by simp [Value.category]) rfl (fun v214 M215 n216 h217 => ?_) (fun _ _ _ h217 => ?_)
          rotate_left
          · exact absurd h217.1 (by simp)
          obtain ⟨h217, hA218, hf219, ex9⟩ := h217
          cases h217
          replace ex9 := ex9.symm
          subst ex9
          have hR220 := RS_atom hX213 (k := k188) (by omega) hA218 hf219
          obtain ⟨W221, hW222⟩ : ∃ W9, W9 = gu W sz (2, 0) (0, 0, 0) none := ⟨_, rfl⟩
          rw [← hW222] at hR220
          have ge223 : gh_eq sz W W221 := by rw [hW222]; exact gu_eq _ _ _ _ _
          have at224 := gu_at W sz (2, 0) (0, 0, 0) none
          rw [← hW222] at at224
          have b225 : M215 1225 = some (.inr (12, [.ref 1226, .ref 1227, .ref 1228, .ref 1213, .ref 1220, .ref 1212, .int (nI n), .int (nI (tok f n ((tok f n a).2.2.1)).2.1), .int (nI (tok f n ((tok f n a).2.2.1)).2.2.1), .int tk204, .int (nI (o + 1)), .long nu205, .ref 1229, .int (nI l206), .ref 1230, .int (nI tp), .int pl, .ref 1231, .int (nI vb), .int kn, .int 0, .ref 1232])) := (hf219 1225 (by omega)).trans (am_up_eq _ _ _)
          have b226 : M215 1229 = some (.inl (0, 4096, .inl g207)) := (hf219 1229 (by omega)).trans ((am_up_ne (show 1229 ≠ 1225 from by decide)).trans (am_up_eq _ _ _))
          have b227 : M215 1230 = some (.inl (1, 4200, .inl S)) := (hf219 1230 (by omega)).trans ((am_up_ne (show 1230 ≠ 1225 from by decide)).trans ((am_up_ne (show 1230 ≠ 1229 from by decide)).trans (b195)))
          have b228 : M215 1232 = some (.inl (0, 4096, .inl kc)) := (hf219 1232 (by omega)).trans ((am_up_ne (show 1232 ≠ 1225 from by decide)).trans ((am_up_ne (show 1232 ≠ 1229 from by decide)).trans (b196)))
          have hm229 : mb f M215 := mb_fr hm197 (fun i hi => (hf219 i (by omega)).trans ((am_up_ne (show i ≠ 1225 from by omega)).trans ((am_up_ne (show i ≠ 1229 from by omega)).trans (rfl))))
          have fr230 : pf_fr M M215 := fun i hi => (hf219 i (by omega)).trans ((am_up_ne (show i ≠ 1225 from by omega)).trans ((am_up_ne (show i ≠ 1229 from by omega)).trans ((fr198 i hi))))
          have hR231 : RS LU M215 (sz + 1) pt ns189 tx190 vb e1 e2 W221 On191 Vx := ⟨_, _, _, _, hR220⟩
          show am_V G _ _ _ _ _ 130 [(3, .int (nI k188)), (2, .int (pfN (tok f n a).2.2.2.2)), (0, .ref 1225), (1, .int mo)] [.int (nI sz)] M215 nx 0 0
          have hcpl : c_pl f n a := ⟨n40, hcp2⟩
          have hpx9 : (¬ c_pf f n mo a) ∨ (c_pf f n mo a ∧ ((tok f n (tok f n a).2.2.1).1 = 10 ∨ (tok f n (tok f n a).2.2.1).1 = 11)) := by first | exact Or.inl hnpf | exact hpx
          have hres : TRes f n lu o mo a sz W221 (tok f n a).2.2.1 0 (sz + 1) sz := by
            rcases hpx9 with z | ⟨z1, z2⟩
            · exact Or.inl ⟨_, _, _, _, by rw [Nat.add_sub_cancel_left]; exact q_atom pb_0 hk2 hcpl z, ⟨at224.1, by rw [at224.2.2]; exact (by decide : ¬ (0 : Int32) < 0)⟩, by rw [at224.2.1], fun z => absurd rfl z⟩
            · exact Or.inr ⟨z2, q_preX hn pb_0 hk2 hcpl z1 z2⟩
          exact v_ireturn (am_Dk d_MR_named (k := 68) rfl) rfl rfl (by omega) (by omega) ⟨rfl, (fun i hi => (fr230 i hi)), Or.inl ⟨sz, ((tok f n a).2.2.1), S, 0, (sz + 1), pt, ns189, tx190, vb, e1, e2, W221, On191, Vx, rfl, (show PS f n LU M215 ((tok f n a).2.2.1) (o + 1) tp S 0 (sz + 1) pt ns189 tx190 vb e1 e2 W221 On191 Vx from ⟨⟨by omega, by omega, by omega, by omega, by omega, by omega, by omega, by omega, by omega, by omega⟩, mb_fr hm229 (fun i hi => rfl), RS_fr hR231 (fun i hi => rfl), b227, ⟨_, b228⟩, tk204, nu205, l206, g207, pl, kn, b225, hs209, b226, hg210⟩), ⟨by omega, by omega, ge223, by omega, q1925, fun _ _ => rfl, by omega, by omega, by omega⟩, hres, trivial⟩⟩
        · obtain ⟨hp0, hpk, hp2⟩ := (hpfc.resolve_left (fun y => c211 y.1)).2
          refine v_iload_n (am_Dk d_MR_named (k := 58) rfl) rfl ?_
          refine v_iload_n (am_Dk d_MR_named (k := 59) rfl) rfl ?_
          refine v_icmp_gt (tgt := 122) (am_Dk d_MR_named (k := 60) rfl) (by decide) (fun c232 => ?_) (fun c232 => ?_)
          · have hnpf : ¬ c_pf f n mo a := fun z => absurd z.2.1 (Int32.not_le.mpr (by rw [← hpk]; exact c232))
            refine v_aload_n (am_Dk d_MR_named (k := 64) rfl) rfl ?_
            have m233 : (am_up (am_up M185 1229 (.inl (0, 4096, .inl g207))) 1225 (.inr (12, [.ref 1226, .ref 1227, .ref 1228, .ref 1213, .ref 1220, .ref 1212, .int (nI n), .int (nI (tok f n ((tok f n a).2.2.1)).2.1), .int (nI (tok f n ((tok f n a).2.2.1)).2.2.1), .int tk204, .int (nI (o + 1)), .long nu205, .ref 1229, .int (nI l206), .ref 1230, .int (nI tp), .int pl, .ref 1231, .int (nI vb), .int kn, .int 0, .ref 1232]))) 1225 = some (.inr (12, [.ref 1226, .ref 1227, .ref 1228, .ref 1213, .ref 1220, .ref 1212, .int (nI n), .int (nI (tok f n ((tok f n a).2.2.1)).2.1), .int (nI (tok f n ((tok f n a).2.2.1)).2.2.1), .int tk204, .int (nI (o + 1)), .long nu205, .ref 1229, .int (nI l206), .ref 1230, .int (nI tp), .int pl, .ref 1231, .int (nI vb), .int kn, .int 0, .ref 1232])) := am_up_eq _ _ _
            refine v_get (am_Dk d_MR_named (k := 65) rfl) f_MR_81 m233 rfl ?_
            refine v_iload_n (am_Dk d_MR_named (k := 66) rfl) rfl ?_
            obtain ⟨⟨Kd234, Nm234, Fi234, Ma234, Pa234, Nu234⟩, T234, F234, Va234, hX234⟩ := RS_fr (M1 := (am_up (am_up M185 1229 (.inl (0, 4096, .inl g207))) 1225 (.inr (12, [.ref 1226, .ref 1227, .ref 1228, .ref 1213, .ref 1220, .ref 1212, .int (nI n), .int (nI (tok f n ((tok f n a).2.2.1)).2.1), .int (nI (tok f n ((tok f n a).2.2.1)).2.2.1), .int tk204, .int (nI (o + 1)), .long nu205, .ref 1229, .int (nI l206), .ref 1230, .int (nI tp), .int pl, .ref 1231, .int (nI vb), .int kn, .int 0, .ref 1232])))) hR199 (fun i hi => (am_up_ne (show i ≠ 1225 from by omega)).trans ((am_up_ne (show i ≠ 1229 from by omega)).trans (rfl)))
            refine v_callV (rest := []) (As := [.int (nI k188)]) (mc' := 0) (ms' := 0) (am_Dk d_MR_named (k := 67) rfl) c_MR_252 (Or.inl ⟨_, _, _, _, _, (RS_o1213 (RS_fr (M1 := (am_up (am_up M185 1229 (.inl (0, 4096, .inl g207))) 1225 (.inr (12, [.ref 1226, .ref 1227, .ref 1228, .ref 1213, .ref 1220, .ref 1212, .int (nI n), .int (nI (tok f n ((tok f n a).2.2.1)).2.1), .int (nI (tok f n ((tok f n a).2.2.1)).2.2.1), .int tk204, .int (nI (o + 1)), .long nu205, .ref 1229, .int (nI l206), .ref 1230, .int (nI tp), .int pl, .ref 1231, .int (nI vb), .int kn, .int 0, .ref 1232])))) hR199 (fun i hi => (am_up_ne (show i ≠ 1225 from by omega)).trans ((am_up_ne (show i ≠ 1229 from by omega)).trans (rfl))))), cq_ok10⟩) (t_MT_atom G (d := 0) (by omega) hX234.1 (by omega)) (by omega) (by omega) (by omega) (by simp [Value.category]) rfl (fun v235 M236 n237 h238 => ?_) (fun _ _ _ h238 => ?_)
            rotate_left
            · exact absurd h238.1 (by simp)
            obtain ⟨h238, hA239, hf240, ex9⟩ := h238
            cases h238
            replace ex9 := ex9.symm
            subst ex9
            have hR241 := RS_atom hX234 (k := k188) (by omega) hA239 hf240
            obtain ⟨W242, hW243⟩ : ∃ W9, W9 = gu W sz (2, 0) (0, 0, 0) none := ⟨_, rfl⟩
            rw [← hW243] at hR241
            have ge244 : gh_eq sz W W242 := by rw [hW243]; exact gu_eq _ _ _ _ _
            have at245 := gu_at W sz (2, 0) (0, 0, 0) none
            rw [← hW243] at at245
            have b246 : M236 1225 = some (.inr (12, [.ref 1226, .ref 1227, .ref 1228, .ref 1213, .ref 1220, .ref 1212, .int (nI n), .int (nI (tok f n ((tok f n a).2.2.1)).2.1), .int (nI (tok f n ((tok f n a).2.2.1)).2.2.1), .int tk204, .int (nI (o + 1)), .long nu205, .ref 1229, .int (nI l206), .ref 1230, .int (nI tp), .int pl, .ref 1231, .int (nI vb), .int kn, .int 0, .ref 1232])) := (hf240 1225 (by omega)).trans (am_up_eq _ _ _)
            have b247 : M236 1229 = some (.inl (0, 4096, .inl g207)) := (hf240 1229 (by omega)).trans ((am_up_ne (show 1229 ≠ 1225 from by decide)).trans (am_up_eq _ _ _))
            have b248 : M236 1230 = some (.inl (1, 4200, .inl S)) := (hf240 1230 (by omega)).trans ((am_up_ne (show 1230 ≠ 1225 from by decide)).trans ((am_up_ne (show 1230 ≠ 1229 from by decide)).trans (b195)))
            have b249 : M236 1232 = some (.inl (0, 4096, .inl kc)) := (hf240 1232 (by omega)).trans ((am_up_ne (show 1232 ≠ 1225 from by decide)).trans ((am_up_ne (show 1232 ≠ 1229 from by decide)).trans (b196)))
            have hm250 : mb f M236 := mb_fr hm197 (fun i hi => (hf240 i (by omega)).trans ((am_up_ne (show i ≠ 1225 from by omega)).trans ((am_up_ne (show i ≠ 1229 from by omega)).trans (rfl))))
            have fr251 : pf_fr M M236 := fun i hi => (hf240 i (by omega)).trans ((am_up_ne (show i ≠ 1225 from by omega)).trans ((am_up_ne (show i ≠ 1229 from by omega)).trans ((fr198 i hi))))
            have hR252 : RS LU M236 (sz + 1) pt ns189 tx190 vb e1 e2 W242 On191 Vx := ⟨_, _, _, _, hR241⟩
            show am_V G _ _ _ _ _ 130 [(3, .int (nI k188)), (2, .int (pfN (tok f n a).2.2.2.2)), (0, .ref 1225), (1, .int mo)] [.int (nI sz)] M236 nx 0 0
            have hcpl : c_pl f n a := ⟨n40, hcp2⟩
            have hpx9 : (¬ c_pf f n mo a) ∨ (c_pf f n mo a ∧ ((tok f n (tok f n a).2.2.1).1 = 10 ∨ (tok f n (tok f n a).2.2.1).1 = 11)) := by first | exact Or.inl hnpf | exact hpx
            have hres : TRes f n lu o mo a sz W242 (tok f n a).2.2.1 0 (sz + 1) sz := by
              rcases hpx9 with z | ⟨z1, z2⟩
              · exact Or.inl ⟨_, _, _, _, by rw [Nat.add_sub_cancel_left]; exact q_atom pb_0 hk2 hcpl z, ⟨at245.1, by rw [at245.2.2]; exact (by decide : ¬ (0 : Int32) < 0)⟩, by rw [at245.2.1], fun z => absurd rfl z⟩
              · exact Or.inr ⟨z2, q_preX hn pb_0 hk2 hcpl z1 z2⟩
            exact v_ireturn (am_Dk d_MR_named (k := 68) rfl) rfl rfl (by omega) (by omega) ⟨rfl, (fun i hi => (fr251 i hi)), Or.inl ⟨sz, ((tok f n a).2.2.1), S, 0, (sz + 1), pt, ns189, tx190, vb, e1, e2, W242, On191, Vx, rfl, (show PS f n LU M236 ((tok f n a).2.2.1) (o + 1) tp S 0 (sz + 1) pt ns189 tx190 vb e1 e2 W242 On191 Vx from ⟨⟨by omega, by omega, by omega, by omega, by omega, by omega, by omega, by omega, by omega, by omega⟩, mb_fr hm250 (fun i hi => rfl), RS_fr hR252 (fun i hi => rfl), b248, ⟨_, b249⟩, tk204, nu205, l206, g207, pl, kn, b246, hs209, b247, hg210⟩), ⟨by omega, by omega, ge244, by omega, q1925, fun _ _ => rfl, by omega, by omega, by omega⟩, hres, trivial⟩⟩
          · have hle : kn_pf (tok f n a).2.2.2.2 ≤ mo := by rw [← hpk]; exact Int32.not_lt.mp c232
            refine v_aload_n (am_Dk d_MR_named (k := 61) rfl) rfl ?_
            obtain ⟨sd9, rkA9, hsd9, hsk9, hra9, hrk9⟩ := (mb_fr (M1 := (am_up (am_up M185 1229 (.inl (0, 4096, .inl g207))) 1225 (.inr (12, [.ref 1226, .ref 1227, .ref 1228, .ref 1213, .ref 1220, .ref 1212, .int (nI n), .int (nI (tok f n ((tok f n a).2.2.1)).2.1), .int (nI (tok f n ((tok f n a).2.2.1)).2.2.1), .int tk204, .int (nI (o + 1)), .long nu205, .ref 1229, .int (nI l206), .ref 1230, .int (nI tp), .int pl, .ref 1231, .int (nI vb), .int kn, .int 0, .ref 1232])))) hm197 (fun i hi => (am_up_ne (show i ≠ 1225 from by omega)).trans ((am_up_ne (show i ≠ 1229 from by omega)).trans (rfl)))).2.1
            have m253 : (am_up (am_up M185 1229 (.inl (0, 4096, .inl g207))) 1225 (.inr (12, [.ref 1226, .ref 1227, .ref 1228, .ref 1213, .ref 1220, .ref 1212, .int (nI n), .int (nI (tok f n ((tok f n a).2.2.1)).2.1), .int (nI (tok f n ((tok f n a).2.2.1)).2.2.1), .int tk204, .int (nI (o + 1)), .long nu205, .ref 1229, .int (nI l206), .ref 1230, .int (nI tp), .int pl, .ref 1231, .int (nI vb), .int kn, .int 0, .ref 1232]))) 1225 = some (.inr (12, [.ref 1226, .ref 1227, .ref 1228, .ref 1213, .ref 1220, .ref 1212, .int (nI n), .int (nI (tok f n ((tok f n a).2.2.1)).2.1), .int (nI (tok f n ((tok f n a).2.2.1)).2.2.1), .int tk204, .int (nI (o + 1)), .long nu205, .ref 1229, .int (nI l206), .ref 1230, .int (nI tp), .int pl, .ref 1231, .int (nI vb), .int kn, .int 0, .ref 1232])) := am_up_eq _ _ _
            have m254 : (am_up (am_up M185 1229 (.inl (0, 4096, .inl g207))) 1225 (.inr (12, [.ref 1226, .ref 1227, .ref 1228, .ref 1213, .ref 1220, .ref 1212, .int (nI n), .int (nI (tok f n ((tok f n a).2.2.1)).2.1), .int (nI (tok f n ((tok f n a).2.2.1)).2.2.1), .int tk204, .int (nI (o + 1)), .long nu205, .ref 1229, .int (nI l206), .ref 1230, .int (nI tp), .int pl, .ref 1231, .int (nI vb), .int kn, .int 0, .ref 1232]))) 1229 = some (.inl (0, 4096, .inl g207)) := (am_up_ne (show 1229 ≠ 1225 from by decide)).trans (am_up_eq _ _ _)
            refine v_callV (rest := []) (As := []) (mc' := 0) (ms' := 0) (am_Dk d_MR_named (k := 62) rfl) c_MR_248 (Or.inl ⟨_, _, _, _, _, m253, cq_ok12⟩) (t_MR_begins G (d := 6) (le := 0) (by omega) m253 m254 (by omega) hsd9 hsk9 hra9 hrk9) (by omega) (by omega) (by omega) (by simp [Value.category]) rfl (fun v255 M256 n257 h258 => ?_) (fun _ _ _ h258 => ?_)
            rotate_left
            · exact absurd h258.1 (by simp)
            obtain ⟨h258, e259, e260⟩ := h258
            replace e259 := e259.symm
            replace e260 := e260.symm
            subst e259
            subst e260
            cases h258
            show am_V G _ _ _ _ _ 119 [(3, .int (nI k188)), (2, .int (pfN (tok f n a).2.2.2.2)), (0, .ref 1225), (1, .int mo)] [.int (bi (decide (¬ (tk204 = 5 ∨ tk204 = 7 ∨ tk204 = 9 ∨ tk204 = 10 ∨ tk204 = 11 ∨ tk204 = 0 ∨ tk204 = 13) ∧ ((if tk204 = 10 then 1000 else if tk204 = 3 then rkN (spg l206 g207) else -1) = -1 ∨ ¬ (if tk204 = 3 then pfN (spg l206 g207) else -1) = -1))))] (am_up (am_up M185 1229 (.inl (0, 4096, .inl g207))) 1225 (.inr (12, [.ref 1226, .ref 1227, .ref 1228, .ref 1213, .ref 1220, .ref 1212, .int (nI n), .int (nI (tok f n ((tok f n a).2.2.1)).2.1), .int (nI (tok f n ((tok f n a).2.2.1)).2.2.1), .int tk204, .int (nI (o + 1)), .long nu205, .ref 1229, .int (nI l206), .ref 1230, .int (nI tp), .int pl, .ref 1231, .int (nI vb), .int kn, .int 0, .ref 1232]))) nx 0 0
            refine v_if_ne (tgt := 131) (am_Dk d_MR_named (k := 63) rfl) (by decide) (fun c261 => ?_) (fun c261 => ?_)
            · have hcan := (beg_can (by omega) hs209).1 (bi1 c261)
              have hcpf : c_pf f n mo a := ⟨hp0, hle, hcan⟩
              rw [hpk]
              refine v_aload_n (am_Dk d_MR_named (k := 69) rfl) rfl ?_
              refine v_get (am_Dk d_MR_named (k := 70) rfl) f_MR_102 m253 rfl ?_
              refine v_istore (L1 := [(4, .int (nI tp)), (3, .int (nI k188)), (2, .int (kn_pf (tok f n a).2.2.2.2)), (0, .ref 1225), (1, .int mo)]) (am_Dk d_MR_named (k := 71) rfl) (by decide) rfl ?_
              refine v_aload_n (am_Dk d_MR_named (k := 72) rfl) rfl ?_
              refine v_iload_n (am_Dk d_MR_named (k := 73) rfl) rfl ?_
              have ps262 := (show PS f n LU (am_up (am_up M185 1229 (.inl (0, 4096, .inl g207))) 1225 (.inr (12, [.ref 1226, .ref 1227, .ref 1228, .ref 1213, .ref 1220, .ref 1212, .int (nI n), .int (nI (tok f n ((tok f n a).2.2.1)).2.1), .int (nI (tok f n ((tok f n a).2.2.1)).2.2.1), .int tk204, .int (nI (o + 1)), .long nu205, .ref 1229, .int (nI l206), .ref 1230, .int (nI tp), .int pl, .ref 1231, .int (nI vb), .int kn, .int 0, .ref 1232]))) ((tok f n a).2.2.1) (o + 1) tp S 0 sz pt ns189 tx190 vb e1 e2 W On191 Vx from ⟨⟨by omega, by omega, by omega, by omega, by omega, by omega, by omega, by omega, by omega, by omega⟩, mb_fr hm197 (fun i hi => (am_up_ne (show i ≠ 1225 from by omega)).trans ((am_up_ne (show i ≠ 1229 from by omega)).trans (rfl))), RS_fr hR199 (fun i hi => (am_up_ne (show i ≠ 1225 from by omega)).trans ((am_up_ne (show i ≠ 1229 from by omega)).trans (rfl))), (am_up_ne (show 1230 ≠ 1225 from by decide)).trans ((am_up_ne (show 1230 ≠ 1229 from by decide)).trans (b195)), ⟨_, (am_up_ne (show 1232 ≠ 1225 from by decide)).trans ((am_up_ne (show 1232 ≠ 1229 from by decide)).trans (b196))⟩, tk204, nu205, l206, g207, pl, kn, am_up_eq _ _ _, hs209, (am_up_ne (show 1229 ≠ 1225 from by decide)).trans (am_up_eq _ _ _), hg210⟩)
              refine v_callV (rest := []) (As := [.int (kn_pf (tok f n a).2.2.2.2)]) (mc' := 0) (ms' := 0) (am_Dk d_MR_named (k := 74) rfl) c_MR_119 (Or.inl ⟨_, _, _, _, _, m253, cq_ok12⟩) (IH _ _ (kn_pf (tok f n a).2.2.2.2) _ _ _ _ _ _ _ _ _ _ _ _ _ _ ps262 hp2) (by omega) (by omega) (by omega) (by simp [Value.category]) rfl (fun v263 M264 n265 h266 => ?_) (fun x9 M264 n265 h266 => ?_)
              rotate_left
              · obtain ⟨ex9, pfT, hT⟩ := h266
                replace ex9 := ex9.symm
                subst ex9
                rcases hT with ⟨_, _, _, _, _, _, _, _, _, _, _, _, _, _, hx9, _⟩ | ⟨wT, hx9, pxT, bT⟩
                · cases hx9
                · cases hx9
                  have hcpl : c_pl f n a := ⟨n40, hcp2⟩
                  exact vt_leave (fun q hq => by cases hq) (by omega) (by omega) ⟨rfl, (fun i hi => (pfT i hi).trans ((am_up_ne (show i ≠ 1225 from by omega)).trans ((am_up_ne (show i ≠ 1229 from by omega)).trans ((fr198 i hi))))), Or.inr ⟨wT, rfl, pxT, q_preB hn pb_0 hk2 hcpl hcpf (bT.elim (fun z => Or.inl ⟨by omega, z.2⟩) (fun z => Or.inr ⟨z.1, z.2⟩))⟩⟩
              obtain ⟨ex9, pf281, hT⟩ := h266
              replace ex9 := ex9.symm
              subst ex9
              rcases hT with ⟨t267, a268, S269, rk270, sz271, pt272, ns273, tx274, vb275, e1276, e2277, W278, On279, Vx280, hx9, psx, pe282, tr283, ee284⟩ | ⟨_, hx9, _⟩
              rotate_left
              · cases hx9
              cases hx9
              obtain ⟨pb291, hm292, hR293, hS294, ⟨kc295, hk296⟩, tk285, nu286, l287, g288, pl289, kn290, hr297, hs298, hw299, hg300⟩ := psx
              obtain ⟨pb291_0, pb291_1, pb291_2, pb291_3, pb291_4, pb291_5, pb291_6, pb291_7, pb291_8, pb291_9⟩ := pb291
              obtain ⟨pe282_0, pe282_1, pe282_2, pe282_3, pe282_4, pe282_5, pe282_6, pe282_7, pe282_8⟩ := pe282
              replace hr297 : M264 1225 = some (.inr (12, [.ref 1226, .ref 1227, .ref 1228, .ref 1213, .ref 1220, .ref 1212, .int (nI n), .int (nI ((tok f n a268).2.1)), .int (nI ((tok f n a268).2.2.1)), .int tk285, .int (nI (o + 1)), .long nu286, .ref 1229, .int (nI l287), .ref 1230, .int (nI tp), .int pl289, .ref 1231, .int (nI vb275), .int kn290, .int rk270, .ref 1232])) := hr297
              have k_hs298 := tok_ok f pb291_0
              have p_hs298 := tok_pos f pb291_0
              have l_hs298 := hs298.2.2.1
              have fr301 : pf_fr M M264 := fun i hi => (pf281 i hi).trans ((am_up_ne (show i ≠ 1225 from by omega)).trans ((am_up_ne (show i ≠ 1229 from by omega)).trans ((fr198 i hi))))
              show am_V G _ _ _ _ _ 142 [(4, .int (nI tp)), (3, .int (nI k188)), (2, .int (kn_pf (tok f n a).2.2.2.2)), (0, .ref 1225), (1, .int mo)] [.int (nI t267)] M264 nx 0 0
              refine v_istore (L1 := [(5, .int (nI t267)), (4, .int (nI tp)), (3, .int (nI k188)), (2, .int (kn_pf (tok f n a).2.2.2.2)), (0, .ref 1225), (1, .int mo)]) (am_Dk d_MR_named (k := 75) rfl) (by decide) rfl ?_
              refine v_aload_n (am_Dk d_MR_named (k := 76) rfl) rfl ?_
              refine v_get (am_Dk d_MR_named (k := 77) rfl) f_MR_72 hr297 rfl ?_
              refine v_aload_n (am_Dk d_MR_named (k := 78) rfl) rfl ?_
              refine v_dup (am_Dk d_MR_named (k := 79) rfl) rfl ?_
              refine v_get (am_Dk d_MR_named (k := 80) rfl) f_MR_102 hr297 rfl ?_
              refine v_dup_x1 (am_Dk d_MR_named (k := 81) rfl) rfl rfl ?_
              refine v_iconst (v := 1) (am_Dk d_MR_named (k := 82) rfl) (by decide) ?_
              refine v_iadd (am_Dk d_MR_named (k := 83) rfl) ?_
              rw [nI_1]
              refine v_put (am_Dk d_MR_named (k := 84) rfl) f_MR_102 hr297 (Nat.le_of_ble_eq_true rfl) rfl rfl ?_
              refine v_iload (am_Dk d_MR_named (k := 85) rfl) rfl ?_
              have m302 : (am_up M264 1225 (.inr (12, [.ref 1226, .ref 1227, .ref 1228, .ref 1213, .ref 1220, .ref 1212, .int (nI n), .int (nI ((tok f n a268).2.1)), .int (nI ((tok f n a268).2.2.1)), .int tk285, .int (nI (o + 1)), .long nu286, .ref 1229, .int (nI l287), .ref 1230, .int (nI (tp + 1)), .int pl289, .ref 1231, .int (nI vb275), .int kn290, .int rk270, .ref 1232]))) 1230 = some (.inl (1, 4200, .inl S269)) := (am_up_ne (show 1230 ≠ 1225 from by decide)).trans (hS294)
              refine v_iast (am_Dk d_MR_named (k := 86) rfl) m302 rfl (vp_in_nI (by omega) (by omega)) ?_
              rw [nI_clamp (n := tp) (by omega)]
              refine v_aload_n (am_Dk d_MR_named (k := 87) rfl) rfl ?_
              have m303 : (am_up (am_up M264 1225 (.inr (12, [.ref 1226, .ref 1227, .ref 1228, .ref 1213, .ref 1220, .ref 1212, .int (nI n), .int (nI ((tok f n a268).2.1)), .int (nI ((tok f n a268).2.2.1)), .int tk285, .int (nI (o + 1)), .long nu286, .ref 1229, .int (nI l287), .ref 1230, .int (nI (tp + 1)), .int pl289, .ref 1231, .int (nI vb275), .int kn290, .int rk270, .ref 1232]))) 1230 (.inl (1, 4200, .inl (upd S269 (tp) (nI t267))))) 1225 = some (.inr (12, [.ref 1226, .ref 1227, .ref 1228, .ref 1213, .ref 1220, .ref 1212, .int (nI n), .int (nI ((tok f n a268).2.1)), .int (nI ((tok f n a268).2.2.1)), .int tk285, .int (nI (o + 1)), .long nu286, .ref 1229, .int (nI l287), .ref 1230, .int (nI (tp + 1)), .int pl289, .ref 1231, .int (nI vb275), .int kn290, .int rk270, .ref 1232])) := (am_up_ne (show 1225 ≠ 1230 from by decide)).trans (am_up_eq _ _ _)
              refine v_get (am_Dk d_MR_named (k := 88) rfl) f_MR_81 m303 rfl ?_
              refine v_iload_n (am_Dk d_MR_named (k := 89) rfl) rfl ?_
              refine v_aload_n (am_Dk d_MR_named (k := 90) rfl) rfl ?_
              refine v_get (am_Dk d_MR_named (k := 91) rfl) f_MR_72 m303 rfl ?_
              refine v_iload (am_Dk d_MR_named (k := 92) rfl) rfl ?_
              refine v_iconst (v := 1) (am_Dk d_MR_named (k := 93) rfl) (by decide) ?_
              obtain ⟨⟨Kd304, Nm304, Fi304, Ma304, Pa304, Nu304⟩, T304, F304, Va304, hX304⟩ := RS_fr (M1 := (am_up (am_up M264 1225 (.inr (12, [.ref 1226, .ref 1227, .ref 1228, .ref 1213, .ref 1220, .ref 1212, .int (nI n), .int (nI ((tok f n a268).2.1)), .int (nI ((tok f n a268).2.2.1)), .int tk285, .int (nI (o + 1)), .long nu286, .ref 1229, .int (nI l287), .ref 1230, .int (nI (tp + 1)), .int pl289, .ref 1231, .int (nI vb275), .int kn290, .int rk270, .ref 1232]))) 1230 (.inl (1, 4200, .inl (upd S269 (tp) (nI t267)))))) hR293 (fun i hi => (am_up_ne (show i ≠ 1230 from by omega)).trans ((am_up_ne (show i ≠ 1225 from by omega)).trans (rfl)))
              have m305 : (am_up (am_up M264 1225 (.inr (12, [.ref 1226, .ref 1227, .ref 1228, .ref 1213, .ref 1220, .ref 1212, .int (nI n), .int (nI ((tok f n a268).2.1)), .int (nI ((tok f n a268).2.2.1)), .int tk285, .int (nI (o + 1)), .long nu286, .ref 1229, .int (nI l287), .ref 1230, .int (nI (tp + 1)), .int pl289, .ref 1231, .int (nI vb275), .int kn290, .int rk270, .ref 1232]))) 1230 (.inl (1, 4200, .inl (upd S269 (tp) (nI t267))))) 1230 = some (.inl (1, 4200, .inl (upd S269 (tp) (nI t267)))) := am_up_eq _ _ _
              refine v_callV (rest := []) (As := [.int (nI k188), .ref 1230, .int (nI tp), .int 1]) (mc' := 0) (ms' := 0) (am_Dk d_MR_named (k := 94) rfl) c_MR_215 (Or.inl ⟨_, _, _, _, _, (RS_o1213 (RS_fr (M1 := (am_up (am_up M264 1225 (.inr (12, [.ref 1226, .ref 1227, .ref 1228, .ref 1213, .ref 1220, .ref 1212, .int (nI n), .int (nI ((tok f n a268).2.1)), .int (nI ((tok f n a268).2.2.1)), .int tk285, .int (nI (o + 1)), .long nu286, .ref 1229, .int (nI l287), .ref 1230, .int (nI (tp + 1)), .int pl289, .ref 1231, .int (nI vb275), .int kn290, .int rk270, .ref 1232]))) 1230 (.inl (1, 4200, .inl (upd S269 (tp) (nI t267)))))) hR293 (fun i hi => (am_up_ne (show i ≠ 1230 from by omega)).trans ((am_up_ne (show i ≠ 1225 from by omega)).trans (rfl))))), cq_ok10⟩) (t_MT_compound G (d := 0) (c := 1) (fr := tp) (by omega) hX304.1 (by omega) m305 (by omega) (by omega) (by omega)) (by omega) (by omega) (by omega) (by simp [Value.category]) rfl (fun v306 M307 n308 h309 => ?_) (fun _ _ _ h309 => ?_)
              rotate_left
              · exact absurd h309.1 (by simp)
              obtain ⟨h309, hA310, hf311, ex9⟩ := h309
              cases h309
              replace ex9 := ex9.symm
              subst ex9
              have hR312 := RS_comp hX304 (k := k188) (c := 1) (fr := tp) (y := (fun _ => t267)) (by omega) (by omega) (fun j hj => ⟨by omega, by rw [show tp + j = tp from by omega]; exact upd_at _ _ _⟩) hA310 hf311
              obtain ⟨W313, hW314⟩ : ∃ W9, W9 = gu W278 sz271 (if 1 = 1 then rk1 (On279 k188) (W278.1 ((fun _ => t267) 0)).1 (W278.1 ((fun _ => t267) 0)).2 else if 1 = 2 then rk2 (On279 k188) (W278.1 ((fun _ => t267) 0)).1 (W278.1 ((fun _ => t267) 0)).2 (W278.1 ((fun _ => t267) 1)).1 (W278.1 ((fun _ => t267) 1)).2 else (2, 0)) (if 1 = 2 then (On279 k188, (fun _ => t267) 0, (fun _ => t267) 1) else (0, 0, 0)) none := ⟨_, rfl⟩
              rw [← hW314] at hR312
              have ge315 : gh_eq sz271 W278 W313 := by rw [hW314]; exact gu_eq _ _ _ _ _
              have at316 := gu_at W278 sz271 (if 1 = 1 then rk1 (On279 k188) (W278.1 ((fun _ => t267) 0)).1 (W278.1 ((fun _ => t267) 0)).2 else if 1 = 2 then rk2 (On279 k188) (W278.1 ((fun _ => t267) 0)).1 (W278.1 ((fun _ => t267) 0)).2 (W278.1 ((fun _ => t267) 1)).1 (W278.1 ((fun _ => t267) 1)).2 else (2, 0)) (if 1 = 2 then (On279 k188, (fun _ => t267) 0, (fun _ => t267) 1) else (0, 0, 0)) none
              rw [← hW314] at at316
              have b317 : M307 1225 = some (.inr (12, [.ref 1226, .ref 1227, .ref 1228, .ref 1213, .ref 1220, .ref 1212, .int (nI n), .int (nI ((tok f n a268).2.1)), .int (nI ((tok f n a268).2.2.1)), .int tk285, .int (nI (o + 1)), .long nu286, .ref 1229, .int (nI l287), .ref 1230, .int (nI (tp + 1)), .int pl289, .ref 1231, .int (nI vb275), .int kn290, .int rk270, .ref 1232])) := (hf311 1225 (by omega)).trans ((am_up_ne (show 1225 ≠ 1230 from by decide)).trans (am_up_eq _ _ _))
              have b318 : M307 1229 = some (.inl (0, 4096, .inl g288)) := (hf311 1229 (by omega)).trans ((am_up_ne (show 1229 ≠ 1230 from by decide)).trans ((am_up_ne (show 1229 ≠ 1225 from by decide)).trans (hw299)))
              have b319 : M307 1230 = some (.inl (1, 4200, .inl (upd S269 (tp) (nI t267)))) := (hf311 1230 (by omega)).trans (am_up_eq _ _ _)
              have b320 : M307 1232 = some (.inl (0, 4096, .inl kc295)) := (hf311 1232 (by omega)).trans ((am_up_ne (show 1232 ≠ 1230 from by decide)).trans ((am_up_ne (show 1232 ≠ 1225 from by decide)).trans (hk296)))
              have hm321 : mb f M307 := mb_fr hm292 (fun i hi => (hf311 i (by omega)).trans ((am_up_ne (show i ≠ 1230 from by omega)).trans ((am_up_ne (show i ≠ 1225 from by omega)).trans (rfl))))
              have fr322 : pf_fr M M307 := fun i hi => (hf311 i (by omega)).trans ((am_up_ne (show i ≠ 1230 from by omega)).trans ((am_up_ne (show i ≠ 1225 from by omega)).trans ((fr301 i hi))))
              have hR323 : RS LU M307 (sz271 + 1) (pt272 + 1) ns273 tx274 vb275 e1276 e2277 W313 On279 Vx280 := ⟨_, _, _, _, hR312⟩
              show am_V G _ _ _ _ _ 177 [(5, .int (nI t267)), (4, .int (nI tp)), (3, .int (nI k188)), (2, .int (kn_pf (tok f n a).2.2.2.2)), (0, .ref 1225), (1, .int mo)] [.int (nI sz271)] M307 nx 0 0
              refine v_istore (L1 := [(6, .int (nI sz271)), (5, .int (nI t267)), (4, .int (nI tp)), (3, .int (nI k188)), (2, .int (kn_pf (tok f n a).2.2.2.2)), (0, .ref 1225), (1, .int mo)]) (am_Dk d_MR_named (k := 95) rfl) (by decide) rfl ?_
              refine v_aload_n (am_Dk d_MR_named (k := 96) rfl) rfl ?_
              refine v_iload (am_Dk d_MR_named (k := 97) rfl) rfl ?_
              refine v_put (am_Dk d_MR_named (k := 98) rfl) f_MR_102 b317 (Nat.le_of_ble_eq_true rfl) rfl rfl ?_
              refine v_aload_n (am_Dk d_MR_named (k := 99) rfl) rfl ?_
              refine v_iload_n (am_Dk d_MR_named (k := 100) rfl) rfl ?_
              have m324 : (am_up M307 1225 (.inr (12, [.ref 1226, .ref 1227, .ref 1228, .ref 1213, .ref 1220, .ref 1212, .int (nI n), .int (nI ((tok f n a268).2.1)), .int (nI ((tok f n a268).2.2.1)), .int tk285, .int (nI (o + 1)), .long nu286, .ref 1229, .int (nI l287), .ref 1230, .int (nI tp), .int pl289, .ref 1231, .int (nI vb275), .int kn290, .int rk270, .ref 1232]))) 1225 = some (.inr (12, [.ref 1226, .ref 1227, .ref 1228, .ref 1213, .ref 1220, .ref 1212, .int (nI n), .int (nI ((tok f n a268).2.1)), .int (nI ((tok f n a268).2.2.1)), .int tk285, .int (nI (o + 1)), .long nu286, .ref 1229, .int (nI l287), .ref 1230, .int (nI tp), .int pl289, .ref 1231, .int (nI vb275), .int kn290, .int rk270, .ref 1232])) := am_up_eq _ _ _
              refine v_put (am_Dk d_MR_named (k := 101) rfl) f_MR_204 m324 (Nat.le_of_ble_eq_true rfl) rfl rfl ?_
              rw [am_uu0 (a := 1225)]
              refine v_iload (am_Dk d_MR_named (k := 102) rfl) rfl ?_
              have hcpl : c_pl f n a := ⟨n40, hcp2⟩
              have hkO : On279 k188 = (tok f n a).2.2.2.2 := (pe282_4 k188 q1922).trans (q1923.trans hsp)
              have hat1 := at316.1
              rw [if_pos rfl, hkO] at hat1
              have hat2 := at316.2.1
              rw [if_neg (by decide)] at hat2
              have hres : TRes f n lu o mo a sz W313 a268 (kn_pf (tok f n a).2.2.2.2) (sz271 + 1) sz271 := by
                rcases tr283 with ⟨wT, roT, L9, R9, hTO, hOp, hro, hch⟩ | ⟨hk10, hTB⟩
                · have hTE := q_pre pb_0 hk2 hcpl hcpf ee284.1 hTO ee284.2
                  rw [show sz271 - sz + 1 = sz271 + 1 - sz from by omega] at hTE
                  have e1 : W278.1 t267 = (wT.1, wT.2.1) := hOp.1
                  rw [e1] at hat1
                  exact Or.inl ⟨_, _, _, _, hTE, ⟨hat1, by rw [at316.2.2]; exact (by decide : ¬ (0 : Int32) < 0)⟩, by rw [hat2], fun z => absurd rfl z⟩
                · exact Or.inr ⟨hk10, q_preB hn pb_0 hk2 hcpl hcpf (Or.inr ⟨ee284.1, hTB⟩)⟩
              exact v_ireturn (am_Dk d_MR_named (k := 103) rfl) rfl rfl (by omega) (by omega) ⟨rfl, (fun i hi => (am_up_ne (show i ≠ 1225 from by omega)).trans ((fr322 i hi))), Or.inl ⟨sz271, a268, (upd S269 (tp) (nI t267)), (kn_pf (tok f n a).2.2.2.2), (sz271 + 1), (pt272 + 1), ns273, tx274, vb275, e1276, e2277, W313, On279, Vx280, rfl, (show PS f n LU (am_up M307 1225 (.inr (12, [.ref 1226, .ref 1227, .ref 1228, .ref 1213, .ref 1220, .ref 1212, .int (nI n), .int (nI ((tok f n a268).2.1)), .int (nI ((tok f n a268).2.2.1)), .int tk285, .int (nI (o + 1)), .long nu286, .ref 1229, .int (nI l287), .ref 1230, .int (nI tp), .int pl289, .ref 1231, .int (nI vb275), .int kn290, .int (kn_pf (tok f n a).2.2.2.2), .ref 1232]))) a268 (o + 1) tp (upd S269 (tp) (nI t267)) (kn_pf (tok f n a).2.2.2.2) (sz271 + 1) (pt272 + 1) ns273 tx274 vb275 e1276 e2277 W313 On279 Vx280 from ⟨⟨by omega, by omega, by omega, by omega, by omega, by omega, by omega, by omega, by omega, by omega⟩, mb_fr hm321 (fun i hi => (am_up_ne (show i ≠ 1225 from by omega)).trans (rfl)), RS_fr hR323 (fun i hi => (am_up_ne (show i ≠ 1225 from by omega)).trans (rfl)), (am_up_ne (show 1230 ≠ 1225 from by decide)).trans (b319), ⟨_, (am_up_ne (show 1232 ≠ 1225 from by decide)).trans (b320)⟩, tk285, nu286, l287, g288, pl289, kn290, am_up_eq _ _ _, hs298, (am_up_ne (show 1229 ≠ 1225 from by decide)).trans (b318), hg300⟩), ⟨by omega, by omega, gh_trans pe282_2 ge315 (by omega), by omega, fun j hj => (pe282_4 j (by omega)).trans (q1925 j hj), fun j hj => (upd_ne _ _ (by omega)).trans (pe282_5 j hj), by omega, by omega, by omega⟩, hres, trivial⟩⟩
            · have hcan := (beg_can (by omega) hs209).2 (bi0.mp c261)
              have hpx : (¬ c_pf f n mo a) ∨ (c_pf f n mo a ∧ ((tok f n (tok f n a).2.2.1).1 = 10 ∨ (tok f n (tok f n a).2.2.1).1 = 11)) := by rcases hcan with z | z; exact Or.inl (fun y => absurd (z.symm.trans y.2.2) (by decide)); exact Or.inr ⟨⟨hp0, hle, by rw [c_can, if_neg (by omega), decide_eq_true (by omega)]⟩, z⟩
              refine v_aload_n (am_Dk d_MR_named (k := 64) rfl) rfl ?_
              refine v_get (am_Dk d_MR_named (k := 65) rfl) f_MR_81 m253 rfl ?_
              refine v_iload_n (am_Dk d_MR_named (k := 66) rfl) rfl ?_
              obtain ⟨⟨Kd325, Nm325, Fi325, Ma325, Pa325, Nu325⟩, T325, F325, Va325, hX325⟩ := RS_fr (M1 := (am_up (am_up M185 1229 (.inl (0, 4096, .inl g207))) 1225 (.inr (12, [.ref 1226, .ref 1227, .ref 1228, .ref 1213, .ref 1220, .ref 1212, .int (nI n), .int (nI (tok f n ((tok f n a).2.2.1)).2.1), .int (nI (tok f n ((tok f n a).2.2.1)).2.2.1), .int tk204, .int (nI (o + 1)), .long nu205, .ref 1229, .int (nI l206), .ref 1230, .int (nI tp), .int pl, .ref 1231, .int (nI vb), .int kn, .int 0, .ref 1232])))) hR199 (fun i hi => (am_up_ne (show i ≠ 1225 from by omega)).trans ((am_up_ne (show i ≠ 1229 from by omega)).trans (rfl)))
              refine v_callV (rest := []) (As := [.int (nI k188)]) (mc' := 0) (ms' := 0) (am_Dk d_MR_named (k := 67) rfl) c_MR_252 (Or.inl ⟨_, _, _, _, _, (RS_o1213 (RS_fr (M1 := (am_up (am_up M185 1229 (.inl (0, 4096, .inl g207))) 1225 (.inr (12, [.ref 1226, .ref 1227, .ref 1228, .ref 1213, .ref 1220, .ref 1212, .int (nI n), .int (nI (tok f n ((tok f n a).2.2.1)).2.1), .int (nI (tok f n ((tok f n a).2.2.1)).2.2.1), .int tk204, .int (nI (o + 1)), .long nu205, .ref 1229, .int (nI l206), .ref 1230, .int (nI tp), .int pl, .ref 1231, .int (nI vb), .int kn, .int 0, .ref 1232])))) hR199 (fun i hi => (am_up_ne (show i ≠ 1225 from by omega)).trans ((am_up_ne (show i ≠ 1229 from by omega)).trans (rfl))))), cq_ok10⟩) (t_MT_atom G (d := 0) (by omega) hX325.1 (by omega)) (by omega) (by omega) (by omega) (by simp [Value.category]) rfl (fun v326 M327 n328 h329 => ?_) (fun _ _ _ h329 => ?_)
              rotate_left
              · exact absurd h329.1 (by simp)
              obtain ⟨h329, hA330, hf331, ex9⟩ := h329
              cases h329
              replace ex9 := ex9.symm
              subst ex9
              have hR332 := RS_atom hX325 (k := k188) (by omega) hA330 hf331
              obtain ⟨W333, hW334⟩ : ∃ W9, W9 = gu W sz (2, 0) (0, 0, 0) none := ⟨_, rfl⟩
              rw [← hW334] at hR332
              have ge335 : gh_eq sz W W333 := by rw [hW334]; exact gu_eq _ _ _ _ _
              have at336 := gu_at W sz (2, 0) (0, 0, 0) none
              rw [← hW334] at at336
              have b337 : M327 1225 = some (.inr (12, [.ref 1226, .ref 1227, .ref 1228, .ref 1213, .ref 1220, .ref 1212, .int (nI n), .int (nI (tok f n ((tok f n a).2.2.1)).2.1), .int (nI (tok f n ((tok f n a).2.2.1)).2.2.1), .int tk204, .int (nI (o + 1)), .long nu205, .ref 1229, .int (nI l206), .ref 1230, .int (nI tp), .int pl, .ref 1231, .int (nI vb), .int kn, .int 0, .ref 1232])) := (hf331 1225 (by omega)).trans (am_up_eq _ _ _)
              have b338 : M327 1229 = some (.inl (0, 4096, .inl g207)) := (hf331 1229 (by omega)).trans ((am_up_ne (show 1229 ≠ 1225 from by decide)).trans (am_up_eq _ _ _))
              have b339 : M327 1230 = some (.inl (1, 4200, .inl S)) := (hf331 1230 (by omega)).trans ((am_up_ne (show 1230 ≠ 1225 from by decide)).trans ((am_up_ne (show 1230 ≠ 1229 from by decide)).trans (b195)))
              have b340 : M327 1232 = some (.inl (0, 4096, .inl kc)) := (hf331 1232 (by omega)).trans ((am_up_ne (show 1232 ≠ 1225 from by decide)).trans ((am_up_ne (show 1232 ≠ 1229 from by decide)).trans (b196)))
              have hm341 : mb f M327 := mb_fr hm197 (fun i hi => (hf331 i (by omega)).trans ((am_up_ne (show i ≠ 1225 from by omega)).trans ((am_up_ne (show i ≠ 1229 from by omega)).trans (rfl))))
              have fr342 : pf_fr M M327 := fun i hi => (hf331 i (by omega)).trans ((am_up_ne (show i ≠ 1225 from by omega)).trans ((am_up_ne (show i ≠ 1229 from by omega)).trans ((fr198 i hi))))
              have hR343 : RS LU M327 (sz + 1) pt ns189 tx190 vb e1 e2 W333 On191 Vx := ⟨_, _, _, _, hR332⟩
              show am_V G _ _ _ _ _ 130 [(3, .int (nI k188)), (2, .int (pfN (tok f n a).2.2.2.2)), (0, .ref 1225), (1, .int mo)] [.int (nI sz)] M327 nx 0 0
              have hcpl : c_pl f n a := ⟨n40, hcp2⟩
              have hpx9 : (¬ c_pf f n mo a) ∨ (c_pf f n mo a ∧ ((tok f n (tok f n a).2.2.1).1 = 10 ∨ (tok f n (tok f n a).2.2.1).1 = 11)) := by first | exact Or.inl hnpf | exact hpx
              have hres : TRes f n lu o mo a sz W333 (tok f n a).2.2.1 0 (sz + 1) sz := by
                rcases hpx9 with z | ⟨z1, z2⟩
                · exact Or.inl ⟨_, _, _, _, by rw [Nat.add_sub_cancel_left]; exact q_atom pb_0 hk2 hcpl z, ⟨at336.1, by rw [at336.2.2]; exact (by decide : ¬ (0 : Int32) < 0)⟩, by rw [at336.2.1], fun z => absurd rfl z⟩
                · exact Or.inr ⟨z2, q_preX hn pb_0 hk2 hcpl z1 z2⟩
              exact v_ireturn (am_Dk d_MR_named (k := 68) rfl) rfl rfl (by omega) (by omega) ⟨rfl, (fun i hi => (fr342 i hi)), Or.inl ⟨sz, ((tok f n a).2.2.1), S, 0, (sz + 1), pt, ns189, tx190, vb, e1, e2, W333, On191, Vx, rfl, (show PS f n LU M327 ((tok f n a).2.2.1) (o + 1) tp S 0 (sz + 1) pt ns189 tx190 vb e1 e2 W333 On191 Vx from ⟨⟨by omega, by omega, by omega, by omega, by omega, by omega, by omega, by omega, by omega, by omega⟩, mb_fr hm341 (fun i hi => rfl), RS_fr hR343 (fun i hi => rfl), b339, ⟨_, b340⟩, tk204, nu205, l206, g207, pl, kn, b337, hs209, b338, hg210⟩), ⟨by omega, by omega, ge335, by omega, q1925, fun _ _ => rfl, by omega, by omega, by omega⟩, hres, trivial⟩⟩
      · have h18 : (tok f n a).2.2.2.2 = 18 := hsp.symm.trans (sp18.mpr ⟨hl1, c176⟩)
        refine v_aload_n (am_Dk d_MR_named (k := 19) rfl) rfl ?_
        refine v_aload_n (am_Dk d_MR_named (k := 20) rfl) rfl ?_
        refine v_get (am_Dk d_MR_named (k := 21) rfl) f_MR_96 hr rfl ?_
        refine v_callV (rest := []) (As := [.int (nI ((tok f n a).2.2.1))]) (mc' := 0) (ms' := 0) (am_Dk d_MR_named (k := 22) rfl) c_MR_148 (Or.inl ⟨_, _, _, _, _, hr, cq_ok12⟩) (t_MR_look G (d := 0) (i := (tok f n a).2.2.1) (by omega) hr hm.1 hn (by omega)) (by omega) (by omega) (by omega) (by simp [Value.category]) rfl (fun v344 M345 n346 h347 => ?_) (fun _ _ _ h347 => ?_)
        rotate_left
        · exact absurd h347.1 (by simp)
        obtain ⟨h347, e348, e349⟩ := h347
        replace e348 := e348.symm
        replace e349 := e349.symm
        subst e348
        subst e349
        cases h347
        show am_V G _ _ _ _ _ 45 [(0, .ref 1225), (1, .int mo)] [.int (lk f n ((tok f n a).2.2.1))] M nx 0 0
        refine v_callS (rest := []) (As := [.int (lk f n ((tok f n a).2.2.1))]) (mc' := 0) (ms' := 0) (am_Dk d_MR_named (k := 23) rfl) c_MR_151 (t_MR_digit G (d := 0)) (by omega) (by omega) (by omega) (by simp [Value.category]) rfl (fun v350 M351 n352 h353 => ?_) (fun _ _ _ h353 => ?_)
        rotate_left
        · exact absurd h353.1 (by simp)
        obtain ⟨h353, e354, e355⟩ := h353
        replace e354 := e354.symm
        replace e355 := e355.symm
        subst e354
        subst e355
        cases h353
        show am_V G _ _ _ _ _ 48 [(0, .ref 1225), (1, .int mo)] [.int (bi (dgB (lk f n ((tok f n a).2.2.1))))] M nx 0 0
        refine v_if_eq (tgt := 91) (am_Dk d_MR_named (k := 24) rfl) (by decide) (fun c356 => ?_) (fun c356 => ?_)
        · have hcp2 : ¬ ((tok f n (tok f n a).2.2.1).2.1 = (tok f n a).2.2.1 ∧ (tok f n (tok f n a).2.2.1).1 = 1 ∧ (tok f n a).2.2.2.2 = 18) := fun z => absurd (tok_dg1 ⟨z.1, z.2.1⟩) (ne_true_of_eq_false (by rw [← lk_dg hb]; exact bi0.mp c356))
          refine v_aload_n (am_Dk d_MR_named (k := 47) rfl) rfl ?_
          refine v_callV (rest := []) (As := []) (mc' := 0) (ms' := 0) (am_Dk d_MR_named (k := 48) rfl) c_MR_201 (Or.inl ⟨_, _, _, _, _, hr, cq_ok12⟩) (t_MR_prefix G (d := 5) (le := 0) (by omega) hr hw (by omega)) (by omega) (by omega) (by omega) (by simp [Value.category]) rfl (fun v357 M358 n359 h360 => ?_) (fun _ _ _ h360 => ?_)
          rotate_left
          · exact absurd h360.1 (by simp)
          obtain ⟨h360, e361, e362⟩ := h360
          replace e361 := e361.symm
          replace e362 := e362.symm
          subst e361
          subst e362
          cases h360
          show am_V G _ _ _ _ _ 95 [(0, .ref 1225), (1, .int mo)] [.int (if tk = 3 then pfN (spg l g) else -1)] M nx 0 0
          rw [show (if tk = 3 then pfN (spg l g) else -1) = pfN (tok f n a).2.2.2.2 from by rw [if_pos htk3, hsp]]
          show am_V G _ _ _ _ _ 95 [(0, .ref 1225), (1, .int mo)] [.int (pfN (tok f n a).2.2.2.2)] M nx 0 0
          refine v_istore_n (L1 := [(2, .int (pfN (tok f n a).2.2.2.2)), (0, .ref 1225), (1, .int mo)]) (am_Dk d_MR_named (k := 49) rfl) (by decide) rfl ?_
          refine v_aload_n (am_Dk d_MR_named (k := 50) rfl) rfl ?_
          obtain ⟨⟨Kd363, Nm363, Fi363, Ma363, Pa363, Nu363⟩, T363, F363, Va363, hX363⟩ := RS_fr (M1 := M) hR (fun i hi => rfl)
          refine v_callV (rest := []) (As := []) (mc' := 0) (ms' := 0) (am_Dk d_MR_named (k := 51) rfl) c_MR_212 (Or.inl ⟨_, _, _, _, _, hr, cq_ok12⟩) (t_MR_name G (d := 2) (le := 0) (l := l) (by omega) hr hw hg (by omega) hX363 (by omega) (by omega)) (by omega) (by omega) (by omega) (by simp [Value.category]) rfl (fun v364 M365 n366 h367 => ?_) (fun _ _ _ h367 => ?_)
          rotate_left
          · obtain ⟨_, _, _, _, _, _, hx9, _⟩ := h367; cases hx9
          obtain ⟨k368, ns369, tx370, On371, T9, F9, h367, ex9, q3721, q3722, q3723, q3724, q3725, q3726, q3727⟩ := h367
          cases h367
          replace ex9 := ex9.symm
          subst ex9
          have b373 : M365 1225 = some (.inr (12, [.ref 1226, .ref 1227, .ref 1228, .ref 1213, .ref 1220, .ref 1212, .int (nI n), .int (nI ((tok f n a).2.1)), .int (nI ((tok f n a).2.2.1)), .int tk, .int (nI (o + 1)), .long nu, .ref 1229, .int (nI l), .ref 1230, .int (nI tp), .int pl, .ref 1231, .int (nI vb), .int kn, .int 0, .ref 1232])) := (q3727 1225 (by omega)).trans (hr)
          have b374 : M365 1229 = some (.inl (0, 4096, .inl g)) := (q3727 1229 (by omega)).trans (hw)
          have b375 : M365 1230 = some (.inl (1, 4200, .inl S)) := (q3727 1230 (by omega)).trans (hS)
          have b376 : M365 1232 = some (.inl (0, 4096, .inl kc)) := (q3727 1232 (by omega)).trans (hkc)
          have hm377 : mb f M365 := mb_fr hm (fun i hi => (q3727 i (by omega)).trans (rfl))
          have fr378 : pf_fr M M365 := fun i hi => (q3727 i (by omega)).trans ((fr0 i hi))
          have hR379 : RS LU M365 sz pt ns369 tx370 vb e1 e2 W On371 Vx := ⟨_, _, _, _, q3721⟩
          show am_V G _ _ _ _ _ 100 [(2, .int (pfN (tok f n a).2.2.2.2)), (0, .ref 1225), (1, .int mo)] [.int (nI k368)] M365 nx 0 0
          refine v_istore_n (L1 := [(3, .int (nI k368)), (2, .int (pfN (tok f n a).2.2.2.2)), (0, .ref 1225), (1, .int mo)]) (am_Dk d_MR_named (k := 52) rfl) (by decide) rfl ?_
          refine v_aload_n (am_Dk d_MR_named (k := 53) rfl) rfl ?_
          refine v_callV (rest := []) (As := []) (mc' := 0) (ms' := 0) (am_Dk d_MR_named (k := 54) rfl) c_MR_113 (Or.inl ⟨_, _, _, _, _, b373, cq_ok12⟩) (t_MR_scan G (d := 5) (be := 0) (a := (tok f n a).2.2.1) (by omega) b373 hm377.1 hn hb (by omega) b374 hg) (by omega) (by omega) (by omega) (by simp [Value.category]) rfl (fun v380 M381 n382 h383 => ?_) (fun _ _ _ h383 => ?_)
          rotate_left
          · obtain ⟨_, _, _, _, hx9, _⟩ := h383; cases hx9
          obtain ⟨tk384, nu385, l386, g387, h383, ex9, e388, hs389, hg390⟩ := h383
          replace e388 := e388.symm
          replace ex9 := ex9.symm
          subst e388
          subst ex9
          cases h383
          have k_hs389 := tok_ok f (show (tok f n a).2.2.1 ≤ n from by omega)
          have p_hs389 := tok_pos f (show (tok f n a).2.2.1 ≤ n from by omega)
          have l_hs389 := hs389.2.2.1
          show am_V G _ _ _ _ _ 105 [(3, .int (nI k368)), (2, .int (pfN (tok f n a).2.2.2.2)), (0, .ref 1225), (1, .int mo)] [] (am_up (am_up M365 1229 (.inl (0, 4096, .inl g387))) 1225 (.inr (12, [.ref 1226, .ref 1227, .ref 1228, .ref 1213, .ref 1220, .ref 1212, .int (nI n), .int (nI (tok f n ((tok f n a).2.2.1)).2.1), .int (nI (tok f n ((tok f n a).2.2.1)).2.2.1), .int tk384, .int (nI (o + 1)), .long nu385, .ref 1229, .int (nI l386), .ref 1230, .int (nI tp), .int pl, .ref 1231, .int (nI vb), .int kn, .int 0, .ref 1232]))) nx 0 0
          refine v_iload_n (am_Dk d_MR_named (k := 55) rfl) rfl ?_
          refine v_iconst (v := (-1)) (am_Dk d_MR_named (k := 56) rfl) (by decide) ?_
          refine v_icmp_eq (tgt := 122) (am_Dk d_MR_named (k := 57) rfl) (by decide) (fun c391 => ?_) (fun c391 => ?_)
          · have hnpf : ¬ c_pf f n mo a := fun z => hpfc.elim (fun y => y.2 z.1) (fun y => y.1 c391)
            refine v_aload_n (am_Dk d_MR_named (k := 64) rfl) rfl ?_
            have m392 : (am_up (am_up M365 1229 (.inl (0, 4096, .inl g387))) 1225 (.inr (12, [.ref 1226, .ref 1227, .ref 1228, .ref 1213, .ref 1220, .ref 1212, .int (nI n), .int (nI (tok f n ((tok f n a).2.2.1)).2.1), .int (nI (tok f n ((tok f n a).2.2.1)).2.2.1), .int tk384, .int (nI (o + 1)), .long nu385, .ref 1229, .int (nI l386), .ref 1230, .int (nI tp), .int pl, .ref 1231, .int (nI vb), .int kn, .int 0, .ref 1232]))) 1225 = some (.inr (12, [.ref 1226, .ref 1227, .ref 1228, .ref 1213, .ref 1220, .ref 1212, .int (nI n), .int (nI (tok f n ((tok f n a).2.2.1)).2.1), .int (nI (tok f n ((tok f n a).2.2.1)).2.2.1), .int tk384, .int (nI (o + 1)), .long nu385, .ref 1229, .int (nI l386), .ref 1230, .int (nI tp), .int pl, .ref 1231, .int (nI vb), .int kn, .int 0, .ref 1232])) := am_up_eq _ _ _
            refine v_get (am_Dk d_MR_named (k := 65) rfl) f_MR_81 m392 rfl ?_
            refine v_iload_n (am_Dk d_MR_named (k := 66) rfl) rfl ?_
            obtain ⟨⟨Kd393, Nm393, Fi393, Ma393, Pa393, Nu393⟩, T393, F393, Va393, hX393⟩ := RS_fr (M1 := (am_up (am_up M365 1229 (.inl (0, 4096, .inl g387))) 1225 (.inr (12, [.ref 1226, .ref 1227, .ref 1228, .ref 1213, .ref 1220, .ref 1212, .int (nI n), .int (nI (tok f n ((tok f n a).2.2.1)).2.1), .int (nI (tok f n ((tok f n a).2.2.1)).2.2.1), .int tk384, .int (nI (o + 1)), .long nu385, .ref 1229, .int (nI l386), .ref 1230, .int (nI tp), .int pl, .ref 1231, .int (nI vb), .int kn, .int 0, .ref 1232])))) hR379 (fun i hi => (am_up_ne (show i ≠ 1225 from by omega)).trans ((am_up_ne (show i ≠ 1229 from by omega)).trans (rfl)))
            refine v_callV (rest := []) (As := [.int (nI k368)]) (mc' := 0) (ms' := 0) (am_Dk d_MR_named (k := 67) rfl) c_MR_252 (Or.inl ⟨_, _, _, _, _, (RS_o1213 (RS_fr (M1 := (am_up (am_up M365 1229 (.inl (0, 4096, .inl g387))) 1225 (.inr (12, [.ref 1226, .ref 1227, .ref 1228, .ref 1213, .ref 1220, .ref 1212, .int (nI n), .int (nI (tok f n ((tok f n a).2.2.1)).2.1), .int (nI (tok f n ((tok f n a).2.2.1)).2.2.1), .int tk384, .int (nI (o + 1)), .long nu385, .ref 1229, .int (nI l386), .ref 1230, .int (nI tp), .int pl, .ref 1231, .int (nI vb), .int kn, .int 0, .ref 1232])))) hR379 (fun i hi => (am_up_ne (show i ≠ 1225 from by omega)).trans ((am_up_ne (show i ≠ 1229 from by omega)).trans (rfl))))), cq_ok10⟩) (t_MT_atom G (d := 0) (by omega) hX393.1 (by omega)) (by omega) (by omega) (by omega) (by simp [Value.category]) rfl (fun v394 M395 n396 h397 => ?_) (fun _ _ _ h397 => ?_)
            rotate_left
            · exact absurd h397.1 (by simp)
            obtain ⟨h397, hA398, hf399, ex9⟩ := h397
            cases h397
            replace ex9 := ex9.symm
            subst ex9
            have hR400 := RS_atom hX393 (k := k368) (by omega) hA398 hf399
            obtain ⟨W401, hW402⟩ : ∃ W9, W9 = gu W sz (2, 0) (0, 0, 0) none := ⟨_, rfl⟩
            rw [← hW402] at hR400
            have ge403 : gh_eq sz W W401 := by rw [hW402]; exact gu_eq _ _ _ _ _
            have at404 := gu_at W sz (2, 0) (0, 0, 0) none
            rw [← hW402] at at404
            have b405 : M395 1225 = some (.inr (12, [.ref 1226, .ref 1227, .ref 1228, .ref 1213, .ref 1220, .ref 1212, .int (nI n), .int (nI (tok f n ((tok f n a).2.2.1)).2.1), .int (nI (tok f n ((tok f n a).2.2.1)).2.2.1), .int tk384, .int (nI (o + 1)), .long nu385, .ref 1229, .int (nI l386), .ref 1230, .int (nI tp), .int pl, .ref 1231, .int (nI vb), .int kn, .int 0, .ref 1232])) := (hf399 1225 (by omega)).trans (am_up_eq _ _ _)
            have b406 : M395 1229 = some (.inl (0, 4096, .inl g387)) := (hf399 1229 (by omega)).trans ((am_up_ne (show 1229 ≠ 1225 from by decide)).trans (am_up_eq _ _ _))
            have b407 : M395 1230 = some (.inl (1, 4200, .inl S)) := (hf399 1230 (by omega)).trans ((am_up_ne (show 1230 ≠ 1225 from by decide)).trans ((am_up_ne (show 1230 ≠ 1229 from by decide)).trans (b375)))
            have b408 : M395 1232 = some (.inl (0, 4096, .inl kc)) := (hf399 1232 (by omega)).trans ((am_up_ne (show 1232 ≠ 1225 from by decide)).trans ((am_up_ne (show 1232 ≠ 1229 from by decide)).trans (b376)))
            have hm409 : mb f M395 := mb_fr hm377 (fun i hi => (hf399 i (by omega)).trans ((am_up_ne (show i ≠ 1225 from by omega)).trans ((am_up_ne (show i ≠ 1229 from by omega)).trans (rfl))))
            have fr410 : pf_fr M M395 := fun i hi => (hf399 i (by omega)).trans ((am_up_ne (show i ≠ 1225 from by omega)).trans ((am_up_ne (show i ≠ 1229 from by omega)).trans ((fr378 i hi))))
            have hR411 : RS LU M395 (sz + 1) pt ns369 tx370 vb e1 e2 W401 On371 Vx := ⟨_, _, _, _, hR400⟩
            show am_V G _ _ _ _ _ 130 [(3, .int (nI k368)), (2, .int (pfN (tok f n a).2.2.2.2)), (0, .ref 1225), (1, .int mo)] [.int (nI sz)] M395 nx 0 0
            have hcpl : c_pl f n a := ⟨n40, hcp2⟩
            have hpx9 : (¬ c_pf f n mo a) ∨ (c_pf f n mo a ∧ ((tok f n (tok f n a).2.2.1).1 = 10 ∨ (tok f n (tok f n a).2.2.1).1 = 11)) := by first | exact Or.inl hnpf | exact hpx
            have hres : TRes f n lu o mo a sz W401 (tok f n a).2.2.1 0 (sz + 1) sz := by
              rcases hpx9 with z | ⟨z1, z2⟩
              · exact Or.inl ⟨_, _, _, _, by rw [Nat.add_sub_cancel_left]; exact q_atom pb_0 hk2 hcpl z, ⟨at404.1, by rw [at404.2.2]; exact (by decide : ¬ (0 : Int32) < 0)⟩, by rw [at404.2.1], fun z => absurd rfl z⟩
              · exact Or.inr ⟨z2, q_preX hn pb_0 hk2 hcpl z1 z2⟩
            exact v_ireturn (am_Dk d_MR_named (k := 68) rfl) rfl rfl (by omega) (by omega) ⟨rfl, (fun i hi => (fr410 i hi)), Or.inl ⟨sz, ((tok f n a).2.2.1), S, 0, (sz + 1), pt, ns369, tx370, vb, e1, e2, W401, On371, Vx, rfl, (show PS f n LU M395 ((tok f n a).2.2.1) (o + 1) tp S 0 (sz + 1) pt ns369 tx370 vb e1 e2 W401 On371 Vx from ⟨⟨by omega, by omega, by omega, by omega, by omega, by omega, by omega, by omega, by omega, by omega⟩, mb_fr hm409 (fun i hi => rfl), RS_fr hR411 (fun i hi => rfl), b407, ⟨_, b408⟩, tk384, nu385, l386, g387, pl, kn, b405, hs389, b406, hg390⟩), ⟨by omega, by omega, ge403, by omega, q3725, fun _ _ => rfl, by omega, by omega, by omega⟩, hres, trivial⟩⟩
          · obtain ⟨hp0, hpk, hp2⟩ := (hpfc.resolve_left (fun y => c391 y.1)).2
            refine v_iload_n (am_Dk d_MR_named (k := 58) rfl) rfl ?_
            refine v_iload_n (am_Dk d_MR_named (k := 59) rfl) rfl ?_
            refine v_icmp_gt (tgt := 122) (am_Dk d_MR_named (k := 60) rfl) (by decide) (fun c412 => ?_) (fun c412 => ?_)
            · have hnpf : ¬ c_pf f n mo a := fun z => absurd z.2.1 (Int32.not_le.mpr (by rw [← hpk]; exact c412))
              refine v_aload_n (am_Dk d_MR_named (k := 64) rfl) rfl ?_
              have m413 : (am_up (am_up M365 1229 (.inl (0, 4096, .inl g387))) 1225 (.inr (12, [.ref 1226, .ref 1227, .ref 1228, .ref 1213, .ref 1220, .ref 1212, .int (nI n), .int (nI (tok f n ((tok f n a).2.2.1)).2.1), .int (nI (tok f n ((tok f n a).2.2.1)).2.2.1), .int tk384, .int (nI (o + 1)), .long nu385, .ref 1229, .int (nI l386), .ref 1230, .int (nI tp), .int pl, .ref 1231, .int (nI vb), .int kn, .int 0, .ref 1232]))) 1225 = some (.inr (12, [.ref 1226, .ref 1227, .ref 1228, .ref 1213, .ref 1220, .ref 1212, .int (nI n), .int (nI (tok f n ((tok f n a).2.2.1)).2.1), .int (nI (tok f n ((tok f n a).2.2.1)).2.2.1), .int tk384, .int (nI (o + 1)), .long nu385, .ref 1229, .int (nI l386), .ref 1230, .int (nI tp), .int pl, .ref 1231, .int (nI vb), .int kn, .int 0, .ref 1232])) := am_up_eq _ _ _
              refine v_get (am_Dk d_MR_named (k := 65) rfl) f_MR_81 m413 rfl ?_
              refine v_iload_n (am_Dk d_MR_named (k := 66) rfl) rfl ?_
              obtain ⟨⟨Kd414, Nm414, Fi414, Ma414, Pa414, Nu414⟩, T414, F414, Va414, hX414⟩ := RS_fr (M1 := (am_up (am_up M365 1229 (.inl (0, 4096, .inl g387))) 1225 (.inr (12, [.ref 1226, .ref 1227, .ref 1228, .ref 1213, .ref 1220, .ref 1212, .int (nI n), .int (nI (tok f n ((tok f n a).2.2.1)).2.1), .int (nI (tok f n ((tok f n a).2.2.1)).2.2.1), .int tk384, .int (nI (o + 1)), .long nu385, .ref 1229, .int (nI l386), .ref 1230, .int (nI tp), .int pl, .ref 1231, .int (nI vb), .int kn, .int 0, .ref 1232])))) hR379 (fun i hi => (am_up_ne (show i ≠ 1225 from by omega)).trans ((am_up_ne (show i ≠ 1229 from by omega)).trans (rfl)))
              refine v_callV (rest := []) (As := [.int (nI k368)]) (mc' := 0) (ms' := 0) (am_Dk d_MR_named (k := 67) rfl) c_MR_252 (Or.inl ⟨_, _, _, _, _, (RS_o1213 (RS_fr (M1 := (am_up (am_up M365 1229 (.inl (0, 4096, .inl g387))) 1225 (.inr (12, [.ref 1226, .ref 1227, .ref 1228, .ref 1213, .ref 1220, .ref 1212, .int (nI n), .int (nI (tok f n ((tok f n a).2.2.1)).2.1), .int (nI (tok f n ((tok f n a).2.2.1)).2.2.1), .int tk384, .int (nI (o + 1)), .long nu385, .ref 1229, .int (nI l386), .ref 1230, .int (nI tp), .int pl, .ref 1231, .int (nI vb), .int kn, .int 0, .ref 1232])))) hR379 (fun i hi => (am_up_ne (show i ≠ 1225 from by omega)).trans ((am_up_ne (show i ≠ 1229 from by omega)).trans (rfl))))), cq_ok10⟩) (t_MT_atom G (d := 0) (by omega) hX414.1 (by omega)) (by omega) (by omega) (by omega) (by simp [Value.category]) rfl (fun v415 M416 n417 h418 => ?_) (fun _ _ _ h418 => ?_)
              rotate_left
              · exact absurd h418.1 (by simp)
              obtain ⟨h418, hA419, hf420, ex9⟩ := h418
              cases h418
              replace ex9 := ex9.symm
              subst ex9
              have hR421 := RS_atom hX414 (k := k368) (by omega) hA419 hf420
              obtain ⟨W422, hW423⟩ : ∃ W9, W9 = gu W sz (2, 0) (0, 0, 0) none := ⟨_, rfl⟩
              rw [← hW423] at hR421
              have ge424 : gh_eq sz W W422 := by rw [hW423]; exact gu_eq _ _ _ _ _
              have at425 := gu_at W sz (2, 0) (0, 0, 0) none
              rw [← hW423] at at425
              have b426 : M416 1225 = some (.inr (12, [.ref 1226, .ref 1227, .ref 1228, .ref 1213, .ref 1220, .ref 1212, .int (nI n), .int (nI (tok f n ((tok f n a).2.2.1)).2.1), .int (nI (tok f n ((tok f n a).2.2.1)).2.2.1), .int tk384, .int (nI (o + 1)), .long nu385, .ref 1229, .int (nI l386), .ref 1230, .int (nI tp), .int pl, .ref 1231, .int (nI vb), .int kn, .int 0, .ref 1232])) := (hf420 1225 (by omega)).trans (am_up_eq _ _ _)
              have b427 : M416 1229 = some (.inl (0, 4096, .inl g387)) := (hf420 1229 (by omega)).trans ((am_up_ne (show 1229 ≠ 1225 from by decide)).trans (am_up_eq _ _ _))
              have b428 : M416 1230 = some (.inl (1, 4200, .inl S)) := (hf420 1230 (by omega)).trans ((am_up_ne (show 1230 ≠ 1225 from by decide)).trans ((am_up_ne (show 1230 ≠ 1229 from by decide)).trans (b375)))
              have b429 : M416 1232 = some (.inl (0, 4096, .inl kc)) := (hf420 1232 (by omega)).trans ((am_up_ne (show 1232 ≠ 1225 from by decide)).trans ((am_up_ne (show 1232 ≠ 1229 from by decide)).trans (b376)))
              have hm430 : mb f M416 := mb_fr hm377 (fun i hi => (hf420 i (by omega)).trans ((am_up_ne (show i ≠ 1225 from by omega)).trans ((am_up_ne (show i ≠ 1229 from by omega)).trans (rfl))))
              have fr431 : pf_fr M M416 := fun i hi => (hf420 i (by omega)).trans ((am_up_ne (show i ≠ 1225 from by omega)).trans ((am_up_ne (show i ≠ 1229 from by omega)).trans ((fr378 i hi))))
              have hR432 : RS LU M416 (sz + 1) pt ns369 tx370 vb e1 e2 W422 On371 Vx := ⟨_, _, _, _, hR421⟩
              show am_V G _ _ _ _ _ 130 [(3, .int (nI k368)), (2, .int (pfN (tok f n a).2.2.2.2)), (0, .ref 1225), (1, .int mo)] [.int (nI sz)] M416 nx 0 0
              have hcpl : c_pl f n a := ⟨n40, hcp2⟩
              have hpx9 : (¬ c_pf f n mo a) ∨ (c_pf f n mo a ∧ ((tok f n (tok f n a).2.2.1).1 = 10 ∨ (tok f n (tok f n a).2.2.1).1 = 11)) := by first | exact Or.inl hnpf | exact hpx
              have hres : TRes f n lu o mo a sz W422 (tok f n a).2.2.1 0 (sz + 1) sz := by
                rcases hpx9 with z | ⟨z1, z2⟩
                · exact Or.inl ⟨_, _, _, _, by rw [Nat.add_sub_cancel_left]; exact q_atom pb_0 hk2 hcpl z, ⟨at425.1, by rw [at425.2.2]; exact (by decide : ¬ (0 : Int32) < 0)⟩, by rw [at425.2.1], fun z => absurd rfl z⟩
                · exact Or.inr ⟨z2, q_preX hn pb_0 hk2 hcpl z1 z2⟩
              exact v_ireturn (am_Dk d_MR_named (k := 68) rfl) rfl rfl (by omega) (by omega) ⟨rfl, (fun i hi => (fr431 i hi)), Or.inl ⟨sz, ((tok f n a).2.2.1), S, 0, (sz + 1), pt, ns369, tx370, vb, e1, e2, W422, On371, Vx, rfl, (show PS f n LU M416 ((tok f n a).2.2.1) (o + 1) tp S 0 (sz + 1) pt ns369 tx370 vb e1 e2 W422 On371 Vx from ⟨⟨by omega, by omega, by omega, by omega, by omega, by omega, by omega, by omega, by omega, by omega⟩, mb_fr hm430 (fun i hi => rfl), RS_fr hR432 (fun i hi => rfl), b428, ⟨_, b429⟩, tk384, nu385, l386, g387, pl, kn, b426, hs389, b427, hg390⟩), ⟨by omega, by omega, ge424, by omega, q3725, fun _ _ => rfl, by omega, by omega, by omega⟩, hres, trivial⟩⟩
            · have hle : kn_pf (tok f n a).2.2.2.2 ≤ mo := by rw [← hpk]; exact Int32.not_lt.mp c412
              refine v_aload_n (am_Dk d_MR_named (k := 61) rfl) rfl ?_
              obtain ⟨sd9, rkA9, hsd9, hsk9, hra9, hrk9⟩ := (mb_fr (M1 := (am_up (am_up M365 1229 (.inl (0, 4096, .inl g387))) 1225 (.inr (12, [.ref 1226, .ref 1227, .ref 1228, .ref 1213, .ref 1220, .ref 1212, .int (nI n), .int (nI (tok f n ((tok f n a).2.2.1)).2.1), .int (nI (tok f n ((tok f n a).2.2.1)).2.2.1), .int tk384, .int (nI (o + 1)), .long nu385, .ref 1229, .int (nI l386), .ref 1230, .int (nI tp), .int pl, .ref 1231, .int (nI vb), .int kn, .int 0, .ref 1232])))) hm377 (fun i hi => (am_up_ne (show i ≠ 1225 from by omega)).trans ((am_up_ne (show i ≠ 1229 from by omega)).trans (rfl)))).2.1
              have m433 : (am_up (am_up M365 1229 (.inl (0, 4096, .inl g387))) 1225 (.inr (12, [.ref 1226, .ref 1227, .ref 1228, .ref 1213, .ref 1220, .ref 1212, .int (nI n), .int (nI (tok f n ((tok f n a).2.2.1)).2.1), .int (nI (tok f n ((tok f n a).2.2.1)).2.2.1), .int tk384, .int (nI (o + 1)), .long nu385, .ref 1229, .int (nI l386), .ref 1230, .int (nI tp), .int pl, .ref 1231, .int (nI vb), .int kn, .int 0, .ref 1232]))) 1225 = some (.inr (12, [.ref 1226, .ref 1227, .ref 1228, .ref 1213, .ref 1220, .ref 1212, .int (nI n), .int (nI (tok f n ((tok f n a).2.2.1)).2.1), .int (nI (tok f n ((tok f n a).2.2.1)).2.2.1), .int tk384, .int (nI (o + 1)), .long nu385, .ref 1229, .int (nI l386), .ref 1230, .int (nI tp), .int pl, .ref 1231, .int (nI vb), .int kn, .int 0, .ref 1232])) := am_up_eq _ _ _
              have m434 : (am_up (am_up M365 1229 (.inl (0, 4096, .inl g387))) 1225 (.inr (12, [.ref 1226, .ref 1227, .ref 1228, .ref 1213, .ref 1220, .ref 1212, .int (nI n), .int (nI (tok f n ((tok f n a).2.2.1)).2.1), .int (nI (tok f n ((tok f n a).2.2.1)).2.2.1), .int tk384, .int (nI (o + 1)), .long nu385, .ref 1229, .int (nI l386), .ref 1230, .int (nI tp), .int pl, .ref 1231, .int (nI vb), .int kn, .int 0, .ref 1232]))) 1229 = some (.inl (0, 4096, .inl g387)) := (am_up_ne (show 1229 ≠ 1225 from by decide)).trans (am_up_eq _ _ _)
              refine v_callV (rest := []) (As := []) (mc' := 0) (ms' := 0) (am_Dk d_MR_named (k := 62) rfl) c_MR_248 (Or.inl ⟨_, _, _, _, _, m433, cq_ok12⟩) (t_MR_begins G (d := 6) (le := 0) (by omega) m433 m434 (by omega) hsd9 hsk9 hra9 hrk9) (by omega) (by omega) (by omega) (by simp [Value.category]) rfl (fun v435 M436 n437 h438 => ?_) (fun _ _ _ h438 => ?_)
              rotate_left
              · exact absurd h438.1 (by simp)
              obtain ⟨h438, e439, e440⟩ := h438
              replace e439 := e439.symm
              replace e440 := e440.symm
              subst e439
              subst e440
              cases h438
              show am_V G _ _ _ _ _ 119 [(3, .int (nI k368)), (2, .int (pfN (tok f n a).2.2.2.2)), (0, .ref 1225), (1, .int mo)] [.int (bi (decide (¬ (tk384 = 5 ∨ tk384 = 7 ∨ tk384 = 9 ∨ tk384 = 10 ∨ tk384 = 11 ∨ tk384 = 0 ∨ tk384 = 13) ∧ ((if tk384 = 10 then 1000 else if tk384 = 3 then rkN (spg l386 g387) else -1) = -1 ∨ ¬ (if tk384 = 3 then pfN (spg l386 g387) else -1) = -1))))] (am_up (am_up M365 1229 (.inl (0, 4096, .inl g387))) 1225 (.inr (12, [.ref 1226, .ref 1227, .ref 1228, .ref 1213, .ref 1220, .ref 1212, .int (nI n), .int (nI (tok f n ((tok f n a).2.2.1)).2.1), .int (nI (tok f n ((tok f n a).2.2.1)).2.2.1), .int tk384, .int (nI (o + 1)), .long nu385, .ref 1229, .int (nI l386), .ref 1230, .int (nI tp), .int pl, .ref 1231, .int (nI vb), .int kn, .int 0, .ref 1232]))) nx 0 0
              refine v_if_ne (tgt := 131) (am_Dk d_MR_named (k := 63) rfl) (by decide) (fun c441 => ?_) (fun c441 => ?_)
              · have hcan := (beg_can (by omega) hs389).1 (bi1 c441)
                have hcpf : c_pf f n mo a := ⟨hp0, hle, hcan⟩
                rw [hpk]
                refine v_aload_n (am_Dk d_MR_named (k := 69) rfl) rfl ?_
                refine v_get (am_Dk d_MR_named (k := 70) rfl) f_MR_102 m433 rfl ?_
                refine v_istore (L1 := [(4, .int (nI tp)), (3, .int (nI k368)), (2, .int (kn_pf (tok f n a).2.2.2.2)), (0, .ref 1225), (1, .int mo)]) (am_Dk d_MR_named (k := 71) rfl) (by decide) rfl ?_
                refine v_aload_n (am_Dk d_MR_named (k := 72) rfl) rfl ?_
                refine v_iload_n (am_Dk d_MR_named (k := 73) rfl) rfl ?_
                have ps442 := (show PS f n LU (am_up (am_up M365 1229 (.inl (0, 4096, .inl g387))) 1225 (.inr (12, [.ref 1226, .ref 1227, .ref 1228, .ref 1213, .ref 1220, .ref 1212, .int (nI n), .int (nI (tok f n ((tok f n a).2.2.1)).2.1), .int (nI (tok f n ((tok f n a).2.2.1)).2.2.1), .int tk384, .int (nI (o + 1)), .long nu385, .ref 1229, .int (nI l386), .ref 1230, .int (nI tp), .int pl, .ref 1231, .int (nI vb), .int kn, .int 0, .ref 1232]))) ((tok f n a).2.2.1) (o + 1) tp S 0 sz pt ns369 tx370 vb e1 e2 W On371 Vx from ⟨⟨by omega, by omega, by omega, by omega, by omega, by omega, by omega, by omega, by omega, by omega⟩, mb_fr hm377 (fun i hi => (am_up_ne (show i ≠ 1225 from by omega)).trans ((am_up_ne (show i ≠ 1229 from by omega)).trans (rfl))), RS_fr hR379 (fun i hi => (am_up_ne (show i ≠ 1225 from by omega)).trans ((am_up_ne (show i ≠ 1229 from by omega)).trans (rfl))), (am_up_ne (show 1230 ≠ 1225 from by decide)).trans ((am_up_ne (show 1230 ≠ 1229 from by decide)).trans (b375)), ⟨_, (am_up_ne (show 1232 ≠ 1225 from by decide)).trans ((am_up_ne (show 1232 ≠ 1229 from by decide)).trans (b376))⟩, tk384, nu385, l386, g387, pl, kn, am_up_eq _ _ _, hs389, (am_up_ne (show 1229 ≠ 1225 from by decide)).trans (am_up_eq _ _ _), hg390⟩)
                refine v_callV (rest := []) (As := [.int (kn_pf (tok f n a).2.2.2.2)]) (mc' := 0) (ms' := 0) (am_Dk d_MR_named (k := 74) rfl) c_MR_119 (Or.inl ⟨_, _, _, _, _, m433, cq_ok12⟩) (IH _ _ (kn_pf (tok f n a).2.2.2.2) _ _ _ _ _ _ _ _ _ _ _ _ _ _ ps442 hp2) (by omega) (by omega) (by omega) (by simp [Value.category]) rfl (fun v443 M444 n445 h446 => ?_) (fun x9 M444 n445 h446 => ?_)
                rotate_left
                · obtain ⟨ex9, pfT, hT⟩ := h446
                  replace ex9 := ex9.symm
                  subst ex9
                  rcases hT with ⟨_, _, _, _, _, _, _, _, _, _, _, _, _, _, hx9, _⟩ | ⟨wT, hx9, pxT, bT⟩
                  · cases hx9
                  · cases hx9
                    have hcpl : c_pl f n a := ⟨n40, hcp2⟩
                    exact vt_leave (fun q hq => by cases hq) (by omega) (by omega) ⟨rfl, (fun i hi => (pfT i hi).trans ((am_up_ne (show i ≠ 1225 from by omega)).trans ((am_up_ne (show i ≠ 1229 from by omega)).trans ((fr378 i hi))))), Or.inr ⟨wT, rfl, pxT, q_preB hn pb_0 hk2 hcpl hcpf (bT.elim (fun z => Or.inl ⟨by omega, z.2⟩) (fun z => Or.inr ⟨z.1, z.2⟩))⟩⟩
                obtain ⟨ex9, pf461, hT⟩ := h446
                replace ex9 := ex9.symm
                subst ex9
                rcases hT with ⟨t447, a448, S449, rk450, sz451, pt452, ns453, tx454, vb455, e1456, e2457, W458, On459, Vx460, hx9, psx, pe462, tr463, ee464⟩ | ⟨_, hx9, _⟩
                rotate_left
                · cases hx9
                cases hx9
                obtain ⟨pb471, hm472, hR473, hS474, ⟨kc475, hk476⟩, tk465, nu466, l467, g468, pl469, kn470, hr477, hs478, hw479, hg480⟩ := psx
                obtain ⟨pb471_0, pb471_1, pb471_2, pb471_3, pb471_4, pb471_5, pb471_6, pb471_7, pb471_8, pb471_9⟩ := pb471
                obtain ⟨pe462_0, pe462_1, pe462_2, pe462_3, pe462_4, pe462_5, pe462_6, pe462_7, pe462_8⟩ := pe462
                replace hr477 : M444 1225 = some (.inr (12, [.ref 1226, .ref 1227, .ref 1228, .ref 1213, .ref 1220, .ref 1212, .int (nI n), .int (nI ((tok f n a448).2.1)), .int (nI ((tok f n a448).2.2.1)), .int tk465, .int (nI (o + 1)), .long nu466, .ref 1229, .int (nI l467), .ref 1230, .int (nI tp), .int pl469, .ref 1231, .int (nI vb455), .int kn470, .int rk450, .ref 1232])) := hr477
                have k_hs478 := tok_ok f pb471_0
                have p_hs478 := tok_pos f pb471_0
                have l_hs478 := hs478.2.2.1
                have fr481 : pf_fr M M444 := fun i hi => (pf461 i hi).trans ((am_up_ne (show i ≠ 1225 from by omega)).trans ((am_up_ne (show i ≠ 1229 from by omega)).trans ((fr378 i hi))))
                show am_V G _ _ _ _ _ 142 [(4, .int (nI tp)), (3, .int (nI k368)), (2, .int (kn_pf (tok f n a).2.2.2.2)), (0, .ref 1225), (1, .int mo)] [.int (nI t447)] M444 nx 0 0
                refine v_istore (L1 := [(5, .int (nI t447)), (4, .int (nI tp)), (3, .int (nI k368)), (2, .int (kn_pf (tok f n a).2.2.2.2)), (0, .ref 1225), (1, .int mo)]) (am_Dk d_MR_named (k := 75) rfl) (by decide) rfl ?_
                refine v_aload_n (am_Dk d_MR_named (k := 76) rfl) rfl ?_
                refine v_get (am_Dk d_MR_named (k := 77) rfl) f_MR_72 hr477 rfl ?_
                refine v_aload_n (am_Dk d_MR_named (k := 78) rfl) rfl ?_
                refine v_dup (am_Dk d_MR_named (k := 79) rfl) rfl ?_
                refine v_get (am_Dk d_MR_named (k := 80) rfl) f_MR_102 hr477 rfl ?_
                refine v_dup_x1 (am_Dk d_MR_named (k := 81) rfl) rfl rfl ?_
                refine v_iconst (v := 1) (am_Dk d_MR_named (k := 82) rfl) (by decide) ?_
                refine v_iadd (am_Dk d_MR_named (k := 83) rfl) ?_
                rw [nI_1]
                refine v_put (am_Dk d_MR_named (k := 84) rfl) f_MR_102 hr477 (Nat.le_of_ble_eq_true rfl) rfl rfl ?_
                refine v_iload (am_Dk d_MR_named (k := 85) rfl) rfl ?_
                have m482 : (am_up M444 1225 (.inr (12, [.ref 1226, .ref 1227, .ref 1228, .ref 1213, .ref 1220, .ref 1212, .int (nI n), .int (nI ((tok f n a448).2.1)), .int (nI ((tok f n a448).2.2.1)), .int tk465, .int (nI (o + 1)), .long nu466, .ref 1229, .int (nI l467), .ref 1230, .int (nI (tp + 1)), .int pl469, .ref 1231, .int (nI vb455), .int kn470, .int rk450, .ref 1232]))) 1230 = some (.inl (1, 4200, .inl S449)) := (am_up_ne (show 1230 ≠ 1225 from by decide)).trans (hS474)
                refine v_iast (am_Dk d_MR_named (k := 86) rfl) m482 rfl (vp_in_nI (by omega) (by omega)) ?_
                rw [nI_clamp (n := tp) (by omega)]
                refine v_aload_n (am_Dk d_MR_named (k := 87) rfl) rfl ?_
                have m483 : (am_up (am_up M444 1225 (.inr (12, [.ref 1226, .ref 1227, .ref 1228, .ref 1213, .ref 1220, .ref 1212, .int (nI n), .int (nI ((tok f n a448).2.1)), .int (nI ((tok f n a448).2.2.1)), .int tk465, .int (nI (o + 1)), .long nu466, .ref 1229, .int (nI l467), .ref 1230, .int (nI (tp + 1)), .int pl469, .ref 1231, .int (nI vb455), .int kn470, .int rk450, .ref 1232]))) 1230 (.inl (1, 4200, .inl (upd S449 (tp) (nI t447))))) 1225 = some (.inr (12, [.ref 1226, .ref 1227, .ref 1228, .ref 1213, .ref 1220, .ref 1212, .int (nI n), .int (nI ((tok f n a448).2.1)), .int (nI ((tok f n a448).2.2.1)), .int tk465, .int (nI (o + 1)), .long nu466, .ref 1229, .int (nI l467), .ref 1230, .int (nI (tp + 1)), .int pl469, .ref 1231, .int (nI vb455), .int kn470, .int rk450, .ref 1232])) := (am_up_ne (show 1225 ≠ 1230 from by decide)).trans (am_up_eq _ _ _)
                refine v_get (am_Dk d_MR_named (k := 88) rfl) f_MR_81 m483 rfl ?_
                refine v_iload_n (am_Dk d_MR_named (k := 89) rfl) rfl ?_
                refine v_aload_n (am_Dk d_MR_named (k := 90) rfl) rfl ?_
                refine v_get (am_Dk d_MR_named (k := 91) rfl) f_MR_72 m483 rfl ?_
                refine v_iload (am_Dk d_MR_named (k := 92) rfl) rfl ?_
                refine v_iconst (v := 1) (am_Dk d_MR_named (k := 93) rfl) (by decide) ?_
                obtain ⟨⟨Kd484, Nm484, Fi484, Ma484, Pa484, Nu484⟩, T484, F484, Va484, hX484⟩ := RS_fr (M1 := (am_up (am_up M444 1225 (.inr (12, [.ref 1226, .ref 1227, .ref 1228, .ref 1213, .ref 1220, .ref 1212, .int (nI n), .int (nI ((tok f n a448).2.1)), .int (nI ((tok f n a448).2.2.1)), .int tk465, .int (nI (o + 1)), .long nu466, .ref 1229, .int (nI l467), .ref 1230, .int (nI (tp + 1)), .int pl469, .ref 1231, .int (nI vb455), .int kn470, .int rk450, .ref 1232]))) 1230 (.inl (1, 4200, .inl (upd S449 (tp) (nI t447)))))) hR473 (fun i hi => (am_up_ne (show i ≠ 1230 from by omega)).trans ((am_up_ne (show i ≠ 1225 from by omega)).trans (rfl)))
                have m485 : (am_up (am_up M444 1225 (.inr (12, [.ref 1226, .ref 1227, .ref 1228, .ref 1213, .ref 1220, .ref 1212, .int (nI n), .int (nI ((tok f n a448).2.1)), .int (nI ((tok f n a448).2.2.1)), .int tk465, .int (nI (o + 1)), .long nu466, .ref 1229, .int (nI l467), .ref 1230, .int (nI (tp + 1)), .int pl469, .ref 1231, .int (nI vb455), .int kn470, .int rk450, .ref 1232]))) 1230 (.inl (1, 4200, .inl (upd S449 (tp) (nI t447))))) 1230 = some (.inl (1, 4200, .inl (upd S449 (tp) (nI t447)))) := am_up_eq _ _ _
                refine v_callV (rest := []) (As := [.int (nI k368), .ref 1230, .int (nI tp), .int 1]) (mc' := 0) (ms' := 0) (am_Dk d_MR_named (k := 94) rfl) c_MR_215 (Or.inl ⟨_, _, _, _, _, (RS_o1213 (RS_fr (M1 := (am_up (am_up M444 1225 (.inr (12, [.ref 1226, .ref 1227, .ref 1228, .ref 1213, .ref 1220, .ref 1212, .int (nI n), .int (nI ((tok f n a448).2.1)), .int (nI ((tok f n a448).2.2.1)), .int tk465, .int (nI (o + 1)), .long nu466, .ref 1229, .int (nI l467), .ref 1230, .int (nI (tp + 1)), .int pl469, .ref 1231, .int (nI vb455), .int kn470, .int rk450, .ref 1232]))) 1230 (.inl (1, 4200, .inl (upd S449 (tp) (nI t447)))))) hR473 (fun i hi => (am_up_ne (show i ≠ 1230 from by omega)).trans ((am_up_ne (show i ≠ 1225 from by omega)).trans (rfl))))), cq_ok10⟩) (t_MT_compound G (d := 0) (c := 1) (fr := tp) (by omega) hX484.1 (by omega) m485 (by omega) (by omega) (by omega)) (by omega) (by omega) (by omega) (by simp [Value.category]) rfl (fun v486 M487 n488 h489 => ?_) (fun _ _ _ h489 => ?_)
                rotate_left
                · exact absurd h489.1 (by simp)
                obtain ⟨h489, hA490, hf491, ex9⟩ := h489
                cases h489
                replace ex9 := ex9.symm
                subst ex9
                have hR492 := RS_comp hX484 (k := k368) (c := 1) (fr := tp) (y := (fun _ => t447)) (by omega) (by omega) (fun j hj => ⟨by omega, by rw [show tp + j = tp from by omega]; exact upd_at _ _ _⟩) hA490 hf491
                obtain ⟨W493, hW494⟩ : ∃ W9, W9 = gu W458 sz451 (if 1 = 1 then rk1 (On459 k368) (W458.1 ((fun _ => t447) 0)).1 (W458.1 ((fun _ => t447) 0)).2 else if 1 = 2 then rk2 (On459 k368) (W458.1 ((fun _ => t447) 0)).1 (W458.1 ((fun _ => t447) 0)).2 (W458.1 ((fun _ => t447) 1)).1 (W458.1 ((fun _ => t447) 1)).2 else (2, 0)) (if 1 = 2 then (On459 k368, (fun _ => t447) 0, (fun _ => t447) 1) else (0, 0, 0)) none := ⟨_, rfl⟩
                rw [← hW494] at hR492
                have ge495 : gh_eq sz451 W458 W493 := by rw [hW494]; exact gu_eq _ _ _ _ _
                have at496 := gu_at W458 sz451 (if 1 = 1 then rk1 (On459 k368) (W458.1 ((fun _ => t447) 0)).1 (W458.1 ((fun _ => t447) 0)).2 else if 1 = 2 then rk2 (On459 k368) (W458.1 ((fun _ => t447) 0)).1 (W458.1 ((fun _ => t447) 0)).2 (W458.1 ((fun _ => t447) 1)).1 (W458.1 ((fun _ => t447) 1)).2 else (2, 0)) (if 1 = 2 then (On459 k368, (fun _ => t447) 0, (fun _ => t447) 1) else (0, 0, 0)) none
                rw [← hW494] at at496
                have b497 : M487 1225 = some (.inr (12, [.ref 1226, .ref 1227, .ref 1228, .ref 1213, .ref 1220, .ref 1212, .int (nI n), .int (nI ((tok f n a448).2.1)), .int (nI ((tok f n a448).2.2.1)), .int tk465, .int (nI (o + 1)), .long nu466, .ref 1229, .int (nI l467), .ref 1230, .int (nI (tp + 1)), .int pl469, .ref 1231, .int (nI vb455), .int kn470, .int rk450, .ref 1232])) := (hf491 1225 (by omega)).trans ((am_up_ne (show 1225 ≠ 1230 from by decide)).trans (am_up_eq _ _ _))
                have b498 : M487 1229 = some (.inl (0, 4096, .inl g468)) := (hf491 1229 (by omega)).trans ((am_up_ne (show 1229 ≠ 1230 from by decide)).trans ((am_up_ne (show 1229 ≠ 1225 from by decide)).trans (hw479)))
                have b499 : M487 1230 = some (.inl (1, 4200, .inl (upd S449 (tp) (nI t447)))) := (hf491 1230 (by omega)).trans (am_up_eq _ _ _)
                have b500 : M487 1232 = some (.inl (0, 4096, .inl kc475)) := (hf491 1232 (by omega)).trans ((am_up_ne (show 1232 ≠ 1230 from by decide)).trans ((am_up_ne (show 1232 ≠ 1225 from by decide)).trans (hk476)))
                have hm501 : mb f M487 := mb_fr hm472 (fun i hi => (hf491 i (by omega)).trans ((am_up_ne (show i ≠ 1230 from by omega)).trans ((am_up_ne (show i ≠ 1225 from by omega)).trans (rfl))))
                have fr502 : pf_fr M M487 := fun i hi => (hf491 i (by omega)).trans ((am_up_ne (show i ≠ 1230 from by omega)).trans ((am_up_ne (show i ≠ 1225 from by omega)).trans ((fr481 i hi))))
                have hR503 : RS LU M487 (sz451 + 1) (pt452 + 1) ns453 tx454 vb455 e1456 e2457 W493 On459 Vx460 := ⟨_, _, _, _, hR492⟩
                show am_V G _ _ _ _ _ 177 [(5, .int (nI t447)), (4, .int (nI tp)), (3, .int (nI k368)), (2, .int (kn_pf (tok f n a).2.2.2.2)), (0, .ref 1225), (1, .int mo)] [.int (nI sz451)] M487 nx 0 0
                refine v_istore (L1 := [(6, .int (nI sz451)), (5, .int (nI t447)), (4, .int (nI tp)), (3, .int (nI k368)), (2, .int (kn_pf (tok f n a).2.2.2.2)), (0, .ref 1225), (1, .int mo)]) (am_Dk d_MR_named (k := 95) rfl) (by decide) rfl ?_
                refine v_aload_n (am_Dk d_MR_named (k := 96) rfl) rfl ?_
                refine v_iload (am_Dk d_MR_named (k := 97) rfl) rfl ?_
                refine v_put (am_Dk d_MR_named (k := 98) rfl) f_MR_102 b497 (Nat.le_of_ble_eq_true rfl) rfl rfl ?_
                refine v_aload_n (am_Dk d_MR_named (k := 99) rfl) rfl ?_
                refine v_iload_n (am_Dk d_MR_named (k := 100) rfl) rfl ?_
                have m504 : (am_up M487 1225 (.inr (12, [.ref 1226, .ref 1227, .ref 1228, .ref 1213, .ref 1220, .ref 1212, .int (nI n), .int (nI ((tok f n a448).2.1)), .int (nI ((tok f n a448).2.2.1)), .int tk465, .int (nI (o + 1)), .long nu466, .ref 1229, .int (nI l467), .ref 1230, .int (nI tp), .int pl469, .ref 1231, .int (nI vb455), .int kn470, .int rk450, .ref 1232]))) 1225 = some (.inr (12, [.ref 1226, .ref 1227, .ref 1228, .ref 1213, .ref 1220, .ref 1212, .int (nI n), .int (nI ((tok f n a448).2.1)), .int (nI ((tok f n a448).2.2.1)), .int tk465, .int (nI (o + 1)), .long nu466, .ref 1229, .int (nI l467), .ref 1230, .int (nI tp), .int pl469, .ref 1231, .int (nI vb455), .int kn470, .int rk450, .ref 1232])) := am_up_eq _ _ _
                refine v_put (am_Dk d_MR_named (k := 101) rfl) f_MR_204 m504 (Nat.le_of_ble_eq_true rfl) rfl rfl ?_
                rw [am_uu0 (a := 1225)]
                refine v_iload (am_Dk d_MR_named (k := 102) rfl) rfl ?_
                have hcpl : c_pl f n a := ⟨n40, hcp2⟩
                have hkO : On459 k368 = (tok f n a).2.2.2.2 := (pe462_4 k368 q3722).trans (q3723.trans hsp)
                have hat1 := at496.1
                rw [if_pos rfl, hkO] at hat1
                have hat2 := at496.2.1
                rw [if_neg (by decide)] at hat2
                have hres : TRes f n lu o mo a sz W493 a448 (kn_pf (tok f n a).2.2.2.2) (sz451 + 1) sz451 := by
                  rcases tr463 with ⟨wT, roT, L9, R9, hTO, hOp, hro, hch⟩ | ⟨hk10, hTB⟩
                  · have hTE := q_pre pb_0 hk2 hcpl hcpf ee464.1 hTO ee464.2
                    rw [show sz451 - sz + 1 = sz451 + 1 - sz from by omega] at hTE
                    have e1 : W458.1 t447 = (wT.1, wT.2.1) := hOp.1
                    rw [e1] at hat1
                    exact Or.inl ⟨_, _, _, _, hTE, ⟨hat1, by rw [at496.2.2]; exact (by decide : ¬ (0 : Int32) < 0)⟩, by rw [hat2], fun z => absurd rfl z⟩
                  · exact Or.inr ⟨hk10, q_preB hn pb_0 hk2 hcpl hcpf (Or.inr ⟨ee464.1, hTB⟩)⟩
                exact v_ireturn (am_Dk d_MR_named (k := 103) rfl) rfl rfl (by omega) (by omega) ⟨rfl, (fun i hi => (am_up_ne (show i ≠ 1225 from by omega)).trans ((fr502 i hi))), Or.inl ⟨sz451, a448, (upd S449 (tp) (nI t447)), (kn_pf (tok f n a).2.2.2.2), (sz451 + 1), (pt452 + 1), ns453, tx454, vb455, e1456, e2457, W493, On459, Vx460, rfl, (show PS f n LU (am_up M487 1225 (.inr (12, [.ref 1226, .ref 1227, .ref 1228, .ref 1213, .ref 1220, .ref 1212, .int (nI n), .int (nI ((tok f n a448).2.1)), .int (nI ((tok f n a448).2.2.1)), .int tk465, .int (nI (o + 1)), .long nu466, .ref 1229, .int (nI l467), .ref 1230, .int (nI tp), .int pl469, .ref 1231, .int (nI vb455), .int kn470, .int (kn_pf (tok f n a).2.2.2.2), .ref 1232]))) a448 (o + 1) tp (upd S449 (tp) (nI t447)) (kn_pf (tok f n a).2.2.2.2) (sz451 + 1) (pt452 + 1) ns453 tx454 vb455 e1456 e2457 W493 On459 Vx460 from ⟨⟨by omega, by omega, by omega, by omega, by omega, by omega, by omega, by omega, by omega, by omega⟩, mb_fr hm501 (fun i hi => (am_up_ne (show i ≠ 1225 from by omega)).trans (rfl)), RS_fr hR503 (fun i hi => (am_up_ne (show i ≠ 1225 from by omega)).trans (rfl)), (am_up_ne (show 1230 ≠ 1225 from by decide)).trans (b499), ⟨_, (am_up_ne (show 1232 ≠ 1225 from by decide)).trans (b500)⟩, tk465, nu466, l467, g468, pl469, kn470, am_up_eq _ _ _, hs478, (am_up_ne (show 1229 ≠ 1225 from by decide)).trans (b498), hg480⟩), ⟨by omega, by omega, gh_trans pe462_2 ge495 (by omega), by omega, fun j hj => (pe462_4 j (by omega)).trans (q3725 j hj), fun j hj => (upd_ne _ _ (by omega)).trans (pe462_5 j hj), by omega, by omega, by omega⟩, hres, trivial⟩⟩
              · have hcan := (beg_can (by omega) hs389).2 (bi0.mp c441)
                have hpx : (¬ c_pf f n mo a) ∨ (c_pf f n mo a ∧ ((tok f n (tok f n a).2.2.1).1 = 10 ∨ (tok f n (tok f n a).2.2.1).1 = 11)) := by rcases hcan with z | z; exact Or.inl (fun y => absurd (z.symm.trans y.2.2) (by decide)); exact Or.inr ⟨⟨hp0, hle, by rw [c_can, if_neg (by omega), decide_eq_true (by omega)]⟩, z⟩
                refine v_aload_n (am_Dk d_MR_named (k := 64) rfl) rfl ?_
                refine v_get (am_Dk d_MR_named (k := 65) rfl) f_MR_81 m433 rfl ?_
                refine v_iload_n (am_Dk d_MR_named (k := 66) rfl) rfl ?_
                obtain ⟨⟨Kd505, Nm505, Fi505, Ma505, Pa505, Nu505⟩, T505, F505, Va505, hX505⟩ := RS_fr (M1 := (am_up (am_up M365 1229 (.inl (0, 4096, .inl g387))) 1225 (.inr (12, [.ref 1226, .ref 1227, .ref 1228, .ref 1213, .ref 1220, .ref 1212, .int (nI n), .int (nI (tok f n ((tok f n a).2.2.1)).2.1), .int (nI (tok f n ((tok f n a).2.2.1)).2.2.1), .int tk384, .int (nI (o + 1)), .long nu385, .ref 1229, .int (nI l386), .ref 1230, .int (nI tp), .int pl, .ref 1231, .int (nI vb), .int kn, .int 0, .ref 1232])))) hR379 (fun i hi => (am_up_ne (show i ≠ 1225 from by omega)).trans ((am_up_ne (show i ≠ 1229 from by omega)).trans (rfl)))
                refine v_callV (rest := []) (As := [.int (nI k368)]) (mc' := 0) (ms' := 0) (am_Dk d_MR_named (k := 67) rfl) c_MR_252 (Or.inl ⟨_, _, _, _, _, (RS_o1213 (RS_fr (M1 := (am_up (am_up M365 1229 (.inl (0, 4096, .inl g387))) 1225 (.inr (12, [.ref 1226, .ref 1227, .ref 1228, .ref 1213, .ref 1220, .ref 1212, .int (nI n), .int (nI (tok f n ((tok f n a).2.2.1)).2.1), .int (nI (tok f n ((tok f n a).2.2.1)).2.2.1), .int tk384, .int (nI (o + 1)), .long nu385, .ref 1229, .int (nI l386), .ref 1230, .int (nI tp), .int pl, .ref 1231, .int (nI vb), .int kn, .int 0, .ref 1232])))) hR379 (fun i hi => (am_up_ne (show i ≠ 1225 from by omega)).trans ((am_up_ne (show i ≠ 1229 from by omega)).trans (rfl))))), cq_ok10⟩) (t_MT_atom G (d := 0) (by omega) hX505.1 (by omega)) (by omega) (by omega) (by omega) (by simp [Value.category]) rfl (fun v506 M507 n508 h509 => ?_) (fun _ _ _ h509 => ?_)
                rotate_left
                · exact absurd h509.1 (by simp)
                obtain ⟨h509, hA510, hf511, ex9⟩ := h509
                cases h509
                replace ex9 := ex9.symm
                subst ex9
                have hR512 := RS_atom hX505 (k := k368) (by omega) hA510 hf511
                obtain ⟨W513, hW514⟩ : ∃ W9, W9 = gu W sz (2, 0) (0, 0, 0) none := ⟨_, rfl⟩
                rw [← hW514] at hR512
                have ge515 : gh_eq sz W W513 := by rw [hW514]; exact gu_eq _ _ _ _ _
                have at516 := gu_at W sz (2, 0) (0, 0, 0) none
                rw [← hW514] at at516
                have b517 : M507 1225 = some (.inr (12, [.ref 1226, .ref 1227, .ref 1228, .ref 1213, .ref 1220, .ref 1212, .int (nI n), .int (nI (tok f n ((tok f n a).2.2.1)).2.1), .int (nI (tok f n ((tok f n a).2.2.1)).2.2.1), .int tk384, .int (nI (o + 1)), .long nu385, .ref 1229, .int (nI l386), .ref 1230, .int (nI tp), .int pl, .ref 1231, .int (nI vb), .int kn, .int 0, .ref 1232])) := (hf511 1225 (by omega)).trans (am_up_eq _ _ _)
                have b518 : M507 1229 = some (.inl (0, 4096, .inl g387)) := (hf511 1229 (by omega)).trans ((am_up_ne (show 1229 ≠ 1225 from by decide)).trans (am_up_eq _ _ _))
                have b519 : M507 1230 = some (.inl (1, 4200, .inl S)) := (hf511 1230 (by omega)).trans ((am_up_ne (show 1230 ≠ 1225 from by decide)).trans ((am_up_ne (show 1230 ≠ 1229 from by decide)).trans (b375)))
                have b520 : M507 1232 = some (.inl (0, 4096, .inl kc)) := (hf511 1232 (by omega)).trans ((am_up_ne (show 1232 ≠ 1225 from by decide)).trans ((am_up_ne (show 1232 ≠ 1229 from by decide)).trans (b376)))
                have hm521 : mb f M507 := mb_fr hm377 (fun i hi => (hf511 i (by omega)).trans ((am_up_ne (show i ≠ 1225 from by omega)).trans ((am_up_ne (show i ≠ 1229 from by omega)).trans (rfl))))
                have fr522 : pf_fr M M507 := fun i hi => (hf511 i (by omega)).trans ((am_up_ne (show i ≠ 1225 from by omega)).trans ((am_up_ne (show i ≠ 1229 from by omega)).trans ((fr378 i hi))))
                have hR523 : RS LU M507 (sz + 1) pt ns369 tx370 vb e1 e2 W513 On371 Vx := ⟨_, _, _, _, hR512⟩
                show am_V G _ _ _ _ _ 130 [(3, .int (nI k368)), (2, .int (pfN (tok f n a).2.2.2.2)), (0, .ref 1225), (1, .int mo)] [.int (nI sz)] M507 nx 0 0
                have hcpl : c_pl f n a := ⟨n40, hcp2⟩
                have hpx9 : (¬ c_pf f n mo a) ∨ (c_pf f n mo a ∧ ((tok f n (tok f n a).2.2.1).1 = 10 ∨ (tok f n (tok f n a).2.2.1).1 = 11)) := by first | exact Or.inl hnpf | exact hpx
                have hres : TRes f n lu o mo a sz W513 (tok f n a).2.2.1 0 (sz + 1) sz := by
                  rcases hpx9 with z | ⟨z1, z2⟩
                  · exact Or.inl ⟨_, _, _, _, by rw [Nat.add_sub_cancel_left]; exact q_atom pb_0 hk2 hcpl z, ⟨at516.1, by rw [at516.2.2]; exact (by decide : ¬ (0 : Int32) < 0)⟩, by rw [at516.2.1], fun z => absurd rfl z⟩
                  · exact Or.inr ⟨z2, q_preX hn pb_0 hk2 hcpl z1 z2⟩
                exact v_ireturn (am_Dk d_MR_named (k := 68) rfl) rfl rfl (by omega) (by omega) ⟨rfl, (fun i hi => (fr522 i hi)), Or.inl ⟨sz, ((tok f n a).2.2.1), S, 0, (sz + 1), pt, ns369, tx370, vb, e1, e2, W513, On371, Vx, rfl, (show PS f n LU M507 ((tok f n a).2.2.1) (o + 1) tp S 0 (sz + 1) pt ns369 tx370 vb e1 e2 W513 On371 Vx from ⟨⟨by omega, by omega, by omega, by omega, by omega, by omega, by omega, by omega, by omega, by omega⟩, mb_fr hm521 (fun i hi => rfl), RS_fr hR523 (fun i hi => rfl), b519, ⟨_, b520⟩, tk384, nu385, l386, g387, pl, kn, b517, hs389, b518, hg390⟩), ⟨by omega, by omega, ge515, by omega, q3725, fun _ _ => rfl, by omega, by omega, by omega⟩, hres, trivial⟩⟩
        · have hdg := tok_dg (f := f) (n := n) (e := (tok f n a).2.2.1) (by rw [← lk_dg hb]; exact bi1 c356)
          refine v_aload_n (am_Dk d_MR_named (k := 25) rfl) rfl ?_
          refine v_callV (rest := []) (As := []) (mc' := 0) (ms' := 0) (am_Dk d_MR_named (k := 26) rfl) c_MR_113 (Or.inl ⟨_, _, _, _, _, hr, cq_ok12⟩) (t_MR_scan G (d := 5) (be := 0) (a := (tok f n a).2.2.1) (by omega) hr hm.1 hn hb (by omega) hw hg) (by omega) (by omega) (by omega) (by simp [Value.category]) rfl (fun v524 M525 n526 h527 => ?_) (fun _ _ _ h527 => ?_)
          rotate_left
          · obtain ⟨_, _, _, _, hx9, _⟩ := h527; cases hx9
          obtain ⟨tk528, nu529, l530, g531, h527, ex9, e532, hs533, hg534⟩ := h527
          replace e532 := e532.symm
          replace ex9 := ex9.symm
          subst e532
          subst ex9
          cases h527
          have k_hs533 := tok_ok f (show (tok f n a).2.2.1 ≤ n from by omega)
          have p_hs533 := tok_pos f (show (tok f n a).2.2.1 ≤ n from by omega)
          have l_hs533 := hs533.2.2.1
          show am_V G _ _ _ _ _ 55 [(0, .ref 1225), (1, .int mo)] [] (am_up (am_up M 1229 (.inl (0, 4096, .inl g531))) 1225 (.inr (12, [.ref 1226, .ref 1227, .ref 1228, .ref 1213, .ref 1220, .ref 1212, .int (nI n), .int (nI (tok f n ((tok f n a).2.2.1)).2.1), .int (nI (tok f n ((tok f n a).2.2.1)).2.2.1), .int tk528, .int (nI (o + 1)), .long nu529, .ref 1229, .int (nI l530), .ref 1230, .int (nI tp), .int pl, .ref 1231, .int (nI vb), .int kn, .int 0, .ref 1232]))) nx 0 0
          refine v_aload_n (am_Dk d_MR_named (k := 27) rfl) rfl ?_
          have m535 : (am_up (am_up M 1229 (.inl (0, 4096, .inl g531))) 1225 (.inr (12, [.ref 1226, .ref 1227, .ref 1228, .ref 1213, .ref 1220, .ref 1212, .int (nI n), .int (nI (tok f n ((tok f n a).2.2.1)).2.1), .int (nI (tok f n ((tok f n a).2.2.1)).2.2.1), .int tk528, .int (nI (o + 1)), .long nu529, .ref 1229, .int (nI l530), .ref 1230, .int (nI tp), .int pl, .ref 1231, .int (nI vb), .int kn, .int 0, .ref 1232]))) 1225 = some (.inr (12, [.ref 1226, .ref 1227, .ref 1228, .ref 1213, .ref 1220, .ref 1212, .int (nI n), .int (nI (tok f n ((tok f n a).2.2.1)).2.1), .int (nI (tok f n ((tok f n a).2.2.1)).2.2.1), .int tk528, .int (nI (o + 1)), .long nu529, .ref 1229, .int (nI l530), .ref 1230, .int (nI tp), .int pl, .ref 1231, .int (nI vb), .int kn, .int 0, .ref 1232])) := am_up_eq _ _ _
          refine v_get (am_Dk d_MR_named (k := 28) rfl) f_MR_123 m535 rfl ?_
          refine v_iconst (v := 2) (am_Dk d_MR_named (k := 29) rfl) (by decide) ?_
          refine v_icmp_eq (tgt := 72) (am_Dk d_MR_named (k := 30) rfl) (by decide) (fun c536 => ?_) (fun c536 => ?_)
          · have hk1 : (tok f n (tok f n a).2.2.1).1 = 1 := (tkR_eq hs533.1 (by omega)).2.2.2.2.2.2.1.mp c536
            have hnu := hs533.2.1 hk1
            have hnR := (tok_num hk1).2
            rw [← hnu] at hnR
            refine v_aload_n (am_Dk d_MR_named (k := 36) rfl) rfl ?_
            refine v_get (am_Dk d_MR_named (k := 37) rfl) f_MR_81 m535 rfl ?_
            refine v_aload_n (am_Dk d_MR_named (k := 38) rfl) rfl ?_
            refine v_get (am_Dk d_MR_named (k := 39) rfl) f_MR_174 m535 rfl ?_
            refine v_lneg (am_Dk d_MR_named (k := 40) rfl) ?_
            obtain ⟨⟨Kd537, Nm537, Fi537, Ma537, Pa537, Nu537⟩, T537, F537, Va537, hX537⟩ := RS_fr (M1 := (am_up (am_up M 1229 (.inl (0, 4096, .inl g531))) 1225 (.inr (12, [.ref 1226, .ref 1227, .ref 1228, .ref 1213, .ref 1220, .ref 1212, .int (nI n), .int (nI (tok f n ((tok f n a).2.2.1)).2.1), .int (nI (tok f n ((tok f n a).2.2.1)).2.2.1), .int tk528, .int (nI (o + 1)), .long nu529, .ref 1229, .int (nI l530), .ref 1230, .int (nI tp), .int pl, .ref 1231, .int (nI vb), .int kn, .int 0, .ref 1232])))) hR (fun i hi => (am_up_ne (show i ≠ 1225 from by omega)).trans ((am_up_ne (show i ≠ 1229 from by omega)).trans (rfl)))
            refine v_callV (rest := []) (As := [.long (-nu529)]) (mc' := 0) (ms' := 0) (am_Dk d_MR_named (k := 41) rfl) c_MR_228 (Or.inl ⟨_, _, _, _, _, (RS_o1213 (RS_fr (M1 := (am_up (am_up M 1229 (.inl (0, 4096, .inl g531))) 1225 (.inr (12, [.ref 1226, .ref 1227, .ref 1228, .ref 1213, .ref 1220, .ref 1212, .int (nI n), .int (nI (tok f n ((tok f n a).2.2.1)).2.1), .int (nI (tok f n ((tok f n a).2.2.1)).2.2.1), .int tk528, .int (nI (o + 1)), .long nu529, .ref 1229, .int (nI l530), .ref 1230, .int (nI tp), .int pl, .ref 1231, .int (nI vb), .int kn, .int 0, .ref 1232])))) hR (fun i hi => (am_up_ne (show i ≠ 1225 from by omega)).trans ((am_up_ne (show i ≠ 1229 from by omega)).trans (rfl))))), cq_ok10⟩) (t_MT_integer G (d := 0) (by omega) hX537.1 (by omega)) (by omega) (by omega) (by omega) (by simp [Value.category]) rfl (fun v538 M539 n540 h541 => ?_) (fun _ _ _ h541 => ?_)
            rotate_left
            · exact absurd h541.1 (by simp)
            obtain ⟨h541, hA542, hf543, ex9⟩ := h541
            cases h541
            replace ex9 := ex9.symm
            subst ex9
            have hR544 := RS_int hX537 hnR hA542 hf543
            obtain ⟨W545, hW546⟩ : ∃ W9, W9 = gu W sz (0, (-nu529)) (0, 0, 0) none := ⟨_, rfl⟩
            rw [← hW546] at hR544
            have ge547 : gh_eq sz W W545 := by rw [hW546]; exact gu_eq _ _ _ _ _
            have at548 := gu_at W sz (0, (-nu529)) (0, 0, 0) none
            rw [← hW546] at at548
            have b549 : M539 1225 = some (.inr (12, [.ref 1226, .ref 1227, .ref 1228, .ref 1213, .ref 1220, .ref 1212, .int (nI n), .int (nI (tok f n ((tok f n a).2.2.1)).2.1), .int (nI (tok f n ((tok f n a).2.2.1)).2.2.1), .int tk528, .int (nI (o + 1)), .long nu529, .ref 1229, .int (nI l530), .ref 1230, .int (nI tp), .int pl, .ref 1231, .int (nI vb), .int kn, .int 0, .ref 1232])) := (hf543 1225 (by omega)).trans (am_up_eq _ _ _)
            have b550 : M539 1229 = some (.inl (0, 4096, .inl g531)) := (hf543 1229 (by omega)).trans ((am_up_ne (show 1229 ≠ 1225 from by decide)).trans (am_up_eq _ _ _))
            have b551 : M539 1230 = some (.inl (1, 4200, .inl S)) := (hf543 1230 (by omega)).trans ((am_up_ne (show 1230 ≠ 1225 from by decide)).trans ((am_up_ne (show 1230 ≠ 1229 from by decide)).trans (hS)))
            have b552 : M539 1232 = some (.inl (0, 4096, .inl kc)) := (hf543 1232 (by omega)).trans ((am_up_ne (show 1232 ≠ 1225 from by decide)).trans ((am_up_ne (show 1232 ≠ 1229 from by decide)).trans (hkc)))
            have hm553 : mb f M539 := mb_fr hm (fun i hi => (hf543 i (by omega)).trans ((am_up_ne (show i ≠ 1225 from by omega)).trans ((am_up_ne (show i ≠ 1229 from by omega)).trans (rfl))))
            have fr554 : pf_fr M M539 := fun i hi => (hf543 i (by omega)).trans ((am_up_ne (show i ≠ 1225 from by omega)).trans ((am_up_ne (show i ≠ 1229 from by omega)).trans ((fr0 i hi))))
            have hR555 : RS LU M539 (sz + 1) pt ns tx vb e1 e2 W545 On Vx := ⟨_, _, _, _, hR544⟩
            show am_V G _ _ _ _ _ 84 [(0, .ref 1225), (1, .int mo)] [.int (nI sz)] M539 nx 0 0
            refine v_istore_n (L1 := [(2, .int (nI sz)), (0, .ref 1225), (1, .int mo)]) (am_Dk d_MR_named (k := 42) rfl) (by decide) rfl ?_
            refine v_aload_n (am_Dk d_MR_named (k := 43) rfl) rfl ?_
            refine v_callV (rest := []) (As := []) (mc' := 0) (ms' := 0) (am_Dk d_MR_named (k := 44) rfl) c_MR_113 (Or.inl ⟨_, _, _, _, _, b549, cq_ok12⟩) (t_MR_scan G (d := 5) (be := 0) (a := (tok f n ((tok f n a).2.2.1)).2.2.1) (by omega) b549 hm553.1 hn hb (by omega) b550 hg534) (by omega) (by omega) (by omega) (by simp [Value.category]) rfl (fun v556 M557 n558 h559 => ?_) (fun _ _ _ h559 => ?_)
            rotate_left
            · obtain ⟨_, _, _, _, hx9, _⟩ := h559; cases hx9
            obtain ⟨tk560, nu561, l562, g563, h559, ex9, e564, hs565, hg566⟩ := h559
            replace e564 := e564.symm
            replace ex9 := ex9.symm
            subst e564
            subst ex9
            cases h559
            have k_hs565 := tok_ok f (show (tok f n ((tok f n a).2.2.1)).2.2.1 ≤ n from by omega)
            have p_hs565 := tok_pos f (show (tok f n ((tok f n a).2.2.1)).2.2.1 ≤ n from by omega)
            have l_hs565 := hs565.2.2.1
            show am_V G _ _ _ _ _ 89 [(2, .int (nI sz)), (0, .ref 1225), (1, .int mo)] [] (am_up (am_up M539 1229 (.inl (0, 4096, .inl g563))) 1225 (.inr (12, [.ref 1226, .ref 1227, .ref 1228, .ref 1213, .ref 1220, .ref 1212, .int (nI n), .int (nI (tok f n ((tok f n ((tok f n a).2.2.1)).2.2.1)).2.1), .int (nI (tok f n ((tok f n ((tok f n a).2.2.1)).2.2.1)).2.2.1), .int tk560, .int (nI (o + 1)), .long nu561, .ref 1229, .int (nI l562), .ref 1230, .int (nI tp), .int pl, .ref 1231, .int (nI vb), .int kn, .int 0, .ref 1232]))) nx 0 0
            refine v_iload_n (am_Dk d_MR_named (k := 45) rfl) rfl ?_
            have hTE := q_neg (lu := lu) (o := o) (mo := mo) pb_0 hk2 hdg.1 hk1 h18
            rw [← hnu, (set_R hnR).1, (set_R hnR).2] at hTE
            have hres : TRes f n lu o mo a sz W545 (tok f n (tok f n a).2.2.1).2.2.1 0 (sz + 1) sz := Or.inl ⟨_, _, _, _, by rw [Nat.add_sub_cancel_left]; exact hTE, ⟨at548.1, by rw [at548.2.2]; exact (by decide : ¬ (0 : Int32) < 0)⟩, by rw [at548.2.1], fun z => absurd rfl z⟩
            exact v_ireturn (am_Dk d_MR_named (k := 46) rfl) rfl rfl (by omega) (by omega) ⟨rfl, (fun i hi => (am_up_ne (show i ≠ 1225 from by omega)).trans ((am_up_ne (show i ≠ 1229 from by omega)).trans ((fr554 i hi)))), Or.inl ⟨sz, ((tok f n ((tok f n a).2.2.1)).2.2.1), S, 0, (sz + 1), pt, ns, tx, vb, e1, e2, W545, On, Vx, rfl, (show PS f n LU (am_up (am_up M539 1229 (.inl (0, 4096, .inl g563))) 1225 (.inr (12, [.ref 1226, .ref 1227, .ref 1228, .ref 1213, .ref 1220, .ref 1212, .int (nI n), .int (nI (tok f n ((tok f n ((tok f n a).2.2.1)).2.2.1)).2.1), .int (nI (tok f n ((tok f n ((tok f n a).2.2.1)).2.2.1)).2.2.1), .int tk560, .int (nI (o + 1)), .long nu561, .ref 1229, .int (nI l562), .ref 1230, .int (nI tp), .int pl, .ref 1231, .int (nI vb), .int kn, .int 0, .ref 1232]))) ((tok f n ((tok f n a).2.2.1)).2.2.1) (o + 1) tp S 0 (sz + 1) pt ns tx vb e1 e2 W545 On Vx from ⟨⟨by omega, by omega, by omega, by omega, by omega, by omega, by omega, by omega, by omega, by omega⟩, mb_fr hm553 (fun i hi => (am_up_ne (show i ≠ 1225 from by omega)).trans ((am_up_ne (show i ≠ 1229 from by omega)).trans (rfl))), RS_fr hR555 (fun i hi => (am_up_ne (show i ≠ 1225 from by omega)).trans ((am_up_ne (show i ≠ 1229 from by omega)).trans (rfl))), (am_up_ne (show 1230 ≠ 1225 from by decide)).trans ((am_up_ne (show 1230 ≠ 1229 from by decide)).trans (b551)), ⟨_, (am_up_ne (show 1232 ≠ 1225 from by decide)).trans ((am_up_ne (show 1232 ≠ 1229 from by decide)).trans (b552))⟩, tk560, nu561, l562, g563, pl, kn, am_up_eq _ _ _, hs565, (am_up_ne (show 1229 ≠ 1225 from by decide)).trans (am_up_eq _ _ _), hg566⟩), ⟨by omega, by omega, ge547, Nat.le_refl _, fun _ _ => rfl, fun _ _ => rfl, by omega, by omega, by omega⟩, hres, trivial⟩⟩
          · have hk11 : (tok f n (tok f n a).2.2.1).1 = 11 := by have := fun z => c536 ((tkR_eq hs533.1 (by omega)).2.2.2.2.2.2.1.mpr z); exact hdg.2.resolve_left this
            refine v_aload_n (am_Dk d_MR_named (k := 31) rfl) rfl ?_
            refine v_aload_n (am_Dk d_MR_named (k := 32) rfl) rfl ?_
            refine v_get (am_Dk d_MR_named (k := 33) rfl) f_MR_116 m535 rfl ?_
            refine v_callV (rest := []) (As := [.int (nI (tok f n ((tok f n a).2.2.1)).2.1)]) (mc' := 0) (ms' := 0) (am_Dk d_MR_named (k := 34) rfl) c_MR_126 (Or.inl ⟨_, _, _, _, _, m535, cq_ok12⟩) (t_MR_bad G (d := 0) (by omega) m535) (by omega) (by omega) (by omega) (by simp [Value.category]) rfl (fun v567 M568 n569 h570 => ?_) (fun _ _ _ h570 => ?_)
            rotate_left
            · exact absurd h570.1 (by simp)
            obtain ⟨h570, e571, e572⟩ := h570
            replace e571 := e571.symm
            replace e572 := e572.symm
            subst e571
            subst e572
            cases h570
            rw [am_uu0 (a := 1225)]
            show am_V G _ _ _ _ _ 71 [(0, .ref 1225), (1, .int mo)] [.ref 1228] (am_up (am_up M 1229 (.inl (0, 4096, .inl g531))) 1225 (.inr (12, [.ref 1226, .ref 1227, .ref 1228, .ref 1213, .ref 1220, .ref 1212, .int (nI n), .int (nI (tok f n ((tok f n a).2.2.1)).2.1), .int (nI (tok f n ((tok f n a).2.2.1)).2.2.1), .int tk528, .int (nI (o + 1)), .long nu529, .ref 1229, .int (nI l530), .ref 1230, .int (nI tp), .int (nI (tok f n ((tok f n a).2.2.1)).2.1), .ref 1231, .int (nI vb), .int kn, .int 0, .ref 1232]))) nx 0 0
            refine v_athrow (am_Dk d_MR_named (k := 35) rfl) ?_
            have hcpl : c_pl f n a := ⟨n40, fun z => absurd (z.2.1.symm.trans hk11) (by decide)⟩
            have hcpf : c_pf f n mo a := by
              rw [c_pf, h18]
              exact ⟨by decide, h200, by rw [c_can, if_neg (by rw [hk11]; decide), hk11]; decide⟩
            have hB9 : TBad f n lu o mo a (tok f n ((tok f n a).2.2.1)).2.1 := q_preX hn (by omega) hk2 hcpl hcpf (Or.inr hk11)
            exact vt_leave (fun q hq => by cases hq) (by omega) (by omega) ⟨rfl, (fun i hi => (am_up_ne (show i ≠ 1225 from by omega)).trans ((am_up_ne (show i ≠ 1229 from by omega)).trans ((fr0 i hi)))), Or.inr ⟨(tok f n ((tok f n a).2.2.1)).2.1, rfl, (show PX f n (am_up (am_up M 1229 (.inl (0, 4096, .inl g531))) 1225 (.inr (12, [.ref 1226, .ref 1227, .ref 1228, .ref 1213, .ref 1220, .ref 1212, .int (nI n), .int (nI (tok f n ((tok f n a).2.2.1)).2.1), .int (nI (tok f n ((tok f n a).2.2.1)).2.2.1), .int tk528, .int (nI (o + 1)), .long nu529, .ref 1229, .int (nI l530), .ref 1230, .int (nI tp), .int (nI (tok f n ((tok f n a).2.2.1)).2.1), .ref 1231, .int (nI vb), .int kn, .int 0, .ref 1232]))) ((tok f n ((tok f n a).2.2.1)).2.1) from ⟨RS_rx (mb_fr hm (fun i hi => (am_up_ne (show i ≠ 1225 from by omega)).trans ((am_up_ne (show i ≠ 1229 from by omega)).trans (rfl)))) (RS_fr hR (fun i hi => (am_up_ne (show i ≠ 1225 from by omega)).trans ((am_up_ne (show i ≠ 1229 from by omega)).trans (rfl)))) ((am_up_ne (show 1229 ≠ 1225 from by decide)).trans (am_up_eq _ _ _)) hg534 ((am_up_ne (show 1230 ≠ 1225 from by decide)).trans ((am_up_ne (show 1230 ≠ 1229 from by decide)).trans (hS))) ⟨_, (am_up_ne (show 1232 ≠ 1225 from by decide)).trans ((am_up_ne (show 1232 ≠ 1229 from by decide)).trans (hkc))⟩, _, _, _, _, _, _, _, _, _, _, am_up_eq _ _ _⟩), hB9⟩⟩
  · have h40 : tb f n (tok f n a).2.2.1 = 40 := (lk_c hb n _ (by decide)).mp c7
    refine v_aload_n (am_Dk d_MR_named (k := 6) rfl) rfl ?_
    refine v_callV (rest := []) (As := []) (mc' := 0) (ms' := 0) (am_Dk d_MR_named (k := 7) rfl) c_MR_246 (Or.inl ⟨_, _, _, _, _, hr, cq_ok12⟩) (t_MR_compound G (mo := mo) (d := d - 1) (by omega) hb hn hPS ho hk2 h40 IH (by omega)) (by omega) (by omega) (by omega) (by simp [Value.category]) rfl (fun v573 M574 n575 h576 => ?_) (fun x9 M574 n575 h576 => ?_)
    rotate_left
    · have hq9 := h576
      obtain ⟨ex9, _, hT⟩ := h576
      replace ex9 := ex9.symm
      subst ex9
      rcases hT with ⟨_, _, _, _, _, _, _, _, _, _, _, _, _, _, hx9, _⟩ | ⟨wT, hx9, _⟩
      · cases hx9
      · cases hx9
        exact vt_leave (fun q hq => by cases hq) (by omega) (by omega) hq9
    have hq9 := h576
    obtain ⟨ex9, _, hT⟩ := h576
    replace ex9 := ex9.symm
    subst ex9
    rcases hT with ⟨tT, _, _, _, _, _, _, _, _, _, _, _, _, _, hx9, _⟩ | ⟨_, hx9, _⟩
    rotate_left
    · cases hx9
    cases hx9
    show am_V G _ _ _ _ _ 17 [(0, .ref 1225), (1, .int mo)] [.int (nI tT)] M574 nx 0 0
    exact v_ireturn (am_Dk d_MR_named (k := 8) rfl) rfl rfl (by omega) (by omega) hq9
