/-! THE REFERENCE'S PARSER: NAMES (mine; rows laid by the walker) -/
theorem dv_I (g : Nat → Int32) (n : Nat) : ∀ m i u v, dgI u v → ∃ u', dgI u' (dvF g n m i v).2
  | 0, _, u, _, h => ⟨u, h⟩
  | m + 1, i, u, v, h => by
    rw [dvF]
    split
    · rename_i hd
      exact dv_I g n m (i + 1) _ _ (dg_step (of_decide_eq_true hd) h)
    · exact ⟨u, h⟩
theorem tok_num {f : Nat → Int32} {n a : Nat} (h : (tok f n a).1 = 1) : inR (tok f n a).2.2.2.1 ∧ inR (-(tok f n a).2.2.2.1) := by
  have hk : (9007199254740991 : Int64).toInt = 9007199254740991 := by decide
  obtain ⟨p, hp⟩ : ∃ p, pb (tb f n) n a = p := ⟨_, rfl⟩
  rw [tok, hp] at h ⊢
  have hd := tokA_dg.1 h
  have hc : ¬ cpB (tb f n p) = true := by
    have := of_decide_eq_true hd
    rw [cpB, decide_eq_true_iff]
    omega
  have h9 := h
  rw [tokAt, if_neg hc, if_pos hd] at h9 ⊢
  obtain ⟨u, hu⟩ := dv_I (tb f n) n (n - p) p 0 0 (Or.inl ⟨by decide, by decide, rfl⟩)
  split at h9
  · exact absurd (show 11 = 1 from h9) (by decide)
  · rename_i hlt
    rw [if_neg hlt]
    show inR (dv (tb f n) n p).2 ∧ inR (-(dv (tb f n) n p).2)
    have hu : dgI u (dv (tb f n) n p).2 := hu
    rcases hu with ⟨h0, h1, e⟩ | ⟨h0, e⟩
    · rw [e] at hlt ⊢
      rw [Int64.lt_iff_toInt_lt, hk] at hlt
      have hneg : (-u).toInt = -u.toInt := by
        rw [Int64.toInt_neg]
        exact bm_id (by omega) (by omega)
      exact ⟨⟨by omega, by omega⟩, ⟨by omega, by omega⟩⟩
    · rw [e] at hlt
      exact absurd (by decide) hlt
theorem set_R {v : Int64} (h : inR v) : setE v = 0 ∧ setN v = v := by
  have hf : fitP v = true := decide_eq_true ⟨Int64.le_iff_toInt_le.mpr h.2, Int64.le_iff_toInt_le.mpr h.1⟩
  rw [setE, setN, if_pos hf, if_pos hf]
  exact ⟨rfl, rfl⟩
theorem sp18 {l : Nat} {g : Nat → Int32} : spg l g = 18 ↔ l = 1 ∧ g 0 = 45 := by
  constructor
  · intro h
    rcases spg_of l g with h0 | ⟨_, _, h3⟩
    · rw [h0] at h
      exact absurd h (by decide)
    · rw [h] at h3
      have h3 := of_decide_eq_true h3
      exact ⟨h3.1.symm, (h3.2 0 (by decide)).symm⟩
  · intro ⟨h1, h2⟩
    refine spg_eq (by decide) (decide_eq_true ⟨h1.symm, fun i hi => ?_⟩)
    have hi : i < 1 := hi
    rw [show i = 0 from by omega, h2]
    decide
theorem pfN_c (k : Nat) (hk : k < 26) : (pfN k = -1 ∧ ¬ 0 < kn_pf k) ∨ (¬ pfN k = -1 ∧ 0 < kn_pf k ∧ pfN k = kn_pf k ∧ 200 ≤ kn_pf k) := by
  have : ∀ k, k < 26 → (pfN k = -1 ∧ ¬ 0 < kn_pf k) ∨ (¬ pfN k = -1 ∧ 0 < kn_pf k ∧ pfN k = kn_pf k ∧ 200 ≤ kn_pf k) := by decide +kernel
  exact this k hk
theorem rkN_m1 (k : Nat) (hk : k < 26) : rkN k = -1 ↔ kn_inf k = 0 := by
  have : ∀ k, k < 26 → (rkN k = -1 ↔ kn_inf k = 0) := by decide +kernel
  exact this k hk
theorem beg_can {f : Nat → Int32} {n a : Nat} {tk : Int32} {nu : Int64} {l : Nat} {g : Nat → Int32} (ha : a ≤ n) (h : scT f (tok f n a) tk nu l g) :
    (decide (¬ (tk = 5 ∨ tk = 7 ∨ tk = 9 ∨ tk = 10 ∨ tk = 11 ∨ tk = 0 ∨ tk = 13) ∧ ((if tk = 10 then 1000 else if tk = 3 then rkN (spg l g) else -1) = -1 ∨ ¬ (if tk = 3 then pfN (spg l g) else -1) = -1)) = true → c_can (tok f n a) = true) ∧ (decide (¬ (tk = 5 ∨ tk = 7 ∨ tk = 9 ∨ tk = 10 ∨ tk = 11 ∨ tk = 0 ∨ tk = 13) ∧ ((if tk = 10 then 1000 else if tk = 3 then rkN (spg l g) else -1) = -1 ∨ ¬ (if tk = 3 then pfN (spg l g) else -1) = -1)) = false → c_can (tok f n a) = false ∨ (tok f n a).1 = 10 ∨ (tok f n a).1 = 11) := by
  have t := tok_ok f ha
  obtain ⟨e10, e5, e7, e11, e0, e13, e2, e3⟩ := tkR_eq h.1 t.1
  by_cases hk : (tok f n a).1 = 2
  · have h3 := e3.mpr hk
    have hs := (h.2.2.2.2 hk).2
    rw [c_can, if_pos hk, h3, if_neg (by decide), if_pos rfl, if_pos rfl, hs]
    have hp := pfN_c _ t.2.2.2.2
    have hr := rkN_m1 _ t.2.2.2.2
    refine ⟨fun z => ?_, fun z => Or.inl ?_⟩
    · have z := of_decide_eq_true z
      refine decide_eq_true ?_
      rcases z.2 with z | z
      · exact Or.inr (hr.mp z)
      · rcases hp with ⟨p1, _⟩ | ⟨_, p2, _⟩
        · exact absurd p1 z
        · exact Or.inl p2
    · have z := of_decide_eq_false z
      refine decide_eq_false (fun y => z ⟨by decide, ?_⟩)
      rcases y with y | y
      · rcases hp with ⟨_, p1⟩ | ⟨p2, _⟩
        · exact absurd y p1
        · exact Or.inr p2
      · exact Or.inl (hr.mpr y)
  · have h3 : ¬ tk = 3 := fun z => hk (e3.mp z)
    rw [c_can, if_neg hk, if_neg h3, if_neg h3]
    refine ⟨fun z => ?_, fun z => ?_⟩
    · have z := (of_decide_eq_true z).1
      refine decide_eq_true (fun y => z ?_)
      rcases y with y | y | y | y | y
      · exact Or.inl (e5.mpr y)
      · exact Or.inr (Or.inl (e7.mpr y))
      · exact Or.inr (Or.inr (Or.inr (Or.inl (e10.mpr y))))
      · exact Or.inr (Or.inr (Or.inr (Or.inr (Or.inl (e11.mpr y)))))
      · exact Or.inr (Or.inr (Or.inr (Or.inr (Or.inr (Or.inl (e0.mpr y))))))
    · have z := of_decide_eq_false z
      by_cases h10 : tk = 10
      · exact Or.inl (decide_eq_false (fun y => y (Or.inr (Or.inr (Or.inl (e10.mp h10))))))
      · rw [if_neg h10] at z
        have z9 : (tk = 5 ∨ tk = 7 ∨ tk = 9 ∨ tk = 10 ∨ tk = 11 ∨ tk = 0 ∨ tk = 13) := Classical.byContradiction (fun y => z ⟨y, Or.inl rfl⟩)
        rcases z9 with y | y | y | y | y | y | y
        · exact Or.inl (decide_eq_false (fun x => x (Or.inl (e5.mp y))))
        · exact Or.inl (decide_eq_false (fun x => x (Or.inr (Or.inl (e7.mp y)))))
        · refine Or.inr (Or.inr ?_)
          by_cases hlt : (tok f n a).1 < 11
          · have e := (h.1.1 hlt).symm.trans y
            have : ∀ k, k < 11 → ¬ tkT k = 9 := by decide
            exact absurd e (this _ hlt)
          · omega
        · exact absurd y h10
        · exact Or.inl (decide_eq_false (fun x => x (Or.inr (Or.inr (Or.inr (Or.inl (e11.mp y)))))))
        · exact Or.inl (decide_eq_false (fun x => x (Or.inr (Or.inr (Or.inr (Or.inr (e0.mp y)))))))
        · exact Or.inr (Or.inl (e13.mp y))
set_option maxRecDepth 20000 in
theorem t_MR_named (G : am_G) {d nx : Nat} (hd : 7 ≤ d) {M : am_M} {f : Nat → Int32} {n : Nat} {LU : Nat → (Nat → Int32) → Option Int64} {lu : Nat → Nat → Option Int64} (hb : tbB f) (hn : n ≤ 4096) {mo : Int32} {a o tp : Nat} {S : Nat → Int32} {rk : Int32} {sz pt ns tx vb e1 e2 : Nat} {W : Gho} {On : Nat → Nat} {Vx : Nat → Option (Nat × (Nat → Int32))} (h : PS f n LU M a (o + 1) tp S 0 sz pt ns tx vb e1 e2 W On Vx) (ho : o < 100) (hk2 : (tok f n a).1 = 2) (h200 : 200 ≤ mo) {d0 : Nat} (IH : TermC G f n LU lu (o + 1) d0) (hd0 : d0 + 2 ≤ d) : am_Tr G m_MR_named d 0 0 [.ref 1225, .int mo] M nx (RQ f n LU lu M nx o mo a (o + 1) tp S sz pt ns W On (fun _ _ => True) (fun w => TBad f n lu o mo a w)) := by
  refine am_TrOf (by decide) (Nat.le_of_ble_eq_true rfl) ?_
  show am_V G _ _ _ _ _ 0 [(0, .ref 1225), (1, .int mo)] [] M nx 0 0
  have hPS := h
  obtain ⟨hpb, hm, hR, hS, ⟨kc, hkc⟩, tk, nu, l, g, kn, hr, hsc, hw, hg⟩ := h
  replace hr : M 1225 = some (.inr (12, [.ref 1226, .ref 1227, .ref 1228, .ref 1213, .ref 1220, .ref 1212, .int (nI n), .int (nI ((tok f n a).2.1)), .int (nI ((tok f n a).2.2.1)), .int tk, .int (nI (o + 1)), .long nu, .ref 1229, .int (nI l), .ref 1230, .int (nI tp), .int (-1), .ref 1231, .int (nI vb), .int kn, .int 0, .ref 1232])) := hr
  obtain ⟨pb_0, pb_1, pb_2, pb_3, pb_4, pb_5, pb_6, pb_7, pb_8, pb_9⟩ := hpb
  have k_hsc := tok_ok f pb_0
  have p_hsc := tok_pos f pb_0
  have l_hsc := hsc.2.2.1
  have fr0 : pf_fr M M := fun i hi => rfl
  obtain ⟨hl2, hsp⟩ := hsc.2.2.2.2 hk2
  have htk3 : tk = 3 := (tkR_eq hsc.1 (by omega)).2.2.2.2.2.2.2.mpr hk2
  have hp9 := p_hsc (by omega)
  have kb := tok_ok f (show (tok f n a).2.2.1 ≤ n from by omega)
  have hpfc := pfN_c _ k_hsc.2.2.2.2
  obtain ⟨sd, rkA, hsd, hsk, hra, hrk⟩ := hm.2.1
  refine v_aload_n (am_Dk d_MR_named (k := 0) rfl) rfl ?_
  refine v_aload_n (am_Dk d_MR_named (k := 1) rfl) rfl ?_
  refine v_get (am_Dk d_MR_named (k := 2) rfl) f_MR_96 hr rfl ?_
  refine v_callV (rest := []) (As := [.int (nI ((tok f n a).2.2.1))]) (mc' := 0) (ms' := 0) (am_Dk d_MR_named (k := 3) rfl) c_MR_148 (Or.inl ⟨_, _, _, _, _, hr, cq_ok12⟩) (t_MR_look G (d := 0) (i := (tok f n a).2.2.1) (by omega) hr hm.1 hn (by omega)) (by omega) (by omega) (by omega) (by simp [Value.category]) rfl (fun v1 M2 n3 h4 => ?_) (fun _ _ _ h4 => ?_)
  rotate_left
  · exact absurd h4.1 (by simp)
  obtain ⟨h4, e5, e6⟩ := h4
  replace e5 := e5.symm
  replace e6 := e6.symm
  subst e5
  subst e6
  cases h4
  show am_V G _ _ _ _ _ 8 [(0, .ref 1225), (1, .int mo)] [.int (lk f n ((tok f n a).2.2.1))] M nx 0 0
  refine v_bipush (v := 40) (am_Dk d_MR_named (k := 4) rfl) (by decide) ?_
  refine v_icmp_ne (tgt := 18) (am_Dk d_MR_named (k := 5) rfl) (by decide) (fun c7 => ?_) (fun c7 => ?_)
  · have n40 : ¬ ((tok f n (tok f n a).2.2.1).2.1 = (tok f n a).2.2.1 ∧ (tok f n (tok f n a).2.2.1).1 = 3) := fun z => c7 ((lk_c hb n _ (by decide)).mpr (tok_op.mp z))
    refine v_aload_n (am_Dk d_MR_named (k := 9) rfl) rfl ?_
    refine v_get (am_Dk d_MR_named (k := 10) rfl) f_MR_139 hr rfl ?_
    refine v_iconst (v := 1) (am_Dk d_MR_named (k := 11) rfl) (by decide) ?_
    refine v_icmp_ne (tgt := 91) (am_Dk d_MR_named (k := 12) rfl) (by decide) (fun c8 => ?_) (fun c8 => ?_)
    · have Nc8 : ¬ l = 1 := fun z => c8 ((nI_eq (a := l) (b := 1) (by omega) (by omega)).mpr z)
      have hcp2 : ¬ ((tok f n (tok f n a).2.2.1).2.1 = (tok f n a).2.2.1 ∧ (tok f n (tok f n a).2.2.1).1 = 1 ∧ (tok f n a).2.2.2.2 = 18) := fun z => Nc8 (sp18.mp (hsp.trans z.2.2)).1
      refine v_aload_n (am_Dk d_MR_named (k := 47) rfl) rfl ?_
      refine v_callV (rest := []) (As := []) (mc' := 0) (ms' := 0) (am_Dk d_MR_named (k := 48) rfl) c_MR_201 (Or.inl ⟨_, _, _, _, _, hr, cq_ok12⟩) (t_MR_prefix G (d := 5) (le := 0) (by omega) hr hw (by omega)) (by omega) (by omega) (by omega) (by simp [Value.category]) rfl (fun v9 M10 n11 h12 => ?_) (fun _ _ _ h12 => ?_)
      rotate_left
      · exact absurd h12.1 (by simp)
      obtain ⟨h12, e13, e14⟩ := h12
      replace e13 := e13.symm
      replace e14 := e14.symm
      subst e13
      subst e14
      cases h12
      show am_V G _ _ _ _ _ 95 [(0, .ref 1225), (1, .int mo)] [.int (if tk = 3 then pfN (spg l g) else -1)] M nx 0 0
      rw [show (if tk = 3 then pfN (spg l g) else -1) = pfN (tok f n a).2.2.2.2 from by rw [if_pos htk3, hsp]]
      show am_V G _ _ _ _ _ 95 [(0, .ref 1225), (1, .int mo)] [.int (pfN (tok f n a).2.2.2.2)] M nx 0 0
      refine v_istore_n (L1 := [(2, .int (pfN (tok f n a).2.2.2.2)), (0, .ref 1225), (1, .int mo)]) (am_Dk d_MR_named (k := 49) rfl) (by decide) rfl ?_
      refine v_aload_n (am_Dk d_MR_named (k := 50) rfl) rfl ?_
      obtain ⟨⟨Kd15, Nm15, Fi15, Ma15, Pa15, Nu15⟩, T15, F15, Va15, hX15⟩ := RS_fr (M1 := M) hR (fun i hi => rfl)
      refine v_callV (rest := []) (As := []) (mc' := 0) (ms' := 0) (am_Dk d_MR_named (k := 51) rfl) c_MR_212 (Or.inl ⟨_, _, _, _, _, hr, cq_ok12⟩) (t_MR_name G (d := 2) (le := 0) (l := l) (by omega) hr hw hg (by omega) hX15 (by omega) (by omega)) (by omega) (by omega) (by omega) (by simp [Value.category]) rfl (fun v16 M17 n18 h19 => ?_) (fun _ _ _ h19 => ?_)
      rotate_left
      · obtain ⟨_, _, _, _, _, _, hx9, _⟩ := h19; cases hx9
      obtain ⟨k20, ns21, tx22, On23, T9, F9, h19, ex9, q241, q242, q243, q244, q245, q246, q247⟩ := h19
      cases h19
      replace ex9 := ex9.symm
      subst ex9
      have b25 : M17 1225 = some (.inr (12, [.ref 1226, .ref 1227, .ref 1228, .ref 1213, .ref 1220, .ref 1212, .int (nI n), .int (nI ((tok f n a).2.1)), .int (nI ((tok f n a).2.2.1)), .int tk, .int (nI (o + 1)), .long nu, .ref 1229, .int (nI l), .ref 1230, .int (nI tp), .int (-1), .ref 1231, .int (nI vb), .int kn, .int 0, .ref 1232])) := (q247 1225 (by omega)).trans (hr)
      have b26 : M17 1229 = some (.inl (0, 4096, .inl g)) := (q247 1229 (by omega)).trans (hw)
      have b27 : M17 1230 = some (.inl (1, 4200, .inl S)) := (q247 1230 (by omega)).trans (hS)
      have b28 : M17 1232 = some (.inl (0, 4096, .inl kc)) := (q247 1232 (by omega)).trans (hkc)
      have hm29 : mb f M17 := mb_fr hm (fun i hi => (q247 i (by omega)).trans (rfl))
      have fr30 : pf_fr M M17 := fun i hi => (q247 i (by omega)).trans ((fr0 i hi))
      have hR31 : RS LU M17 sz pt ns21 tx22 vb e1 e2 W On23 Vx := ⟨_, _, _, _, q241⟩
      show am_V G _ _ _ _ _ 100 [(2, .int (pfN (tok f n a).2.2.2.2)), (0, .ref 1225), (1, .int mo)] [.int (nI k20)] M17 nx 0 0
      refine v_istore_n (L1 := [(3, .int (nI k20)), (2, .int (pfN (tok f n a).2.2.2.2)), (0, .ref 1225), (1, .int mo)]) (am_Dk d_MR_named (k := 52) rfl) (by decide) rfl ?_
      refine v_aload_n (am_Dk d_MR_named (k := 53) rfl) rfl ?_
      refine v_callV (rest := []) (As := []) (mc' := 0) (ms' := 0) (am_Dk d_MR_named (k := 54) rfl) c_MR_113 (Or.inl ⟨_, _, _, _, _, b25, cq_ok12⟩) (t_MR_scan G (d := 5) (be := 0) (a := (tok f n a).2.2.1) (by omega) b25 hm29.1 hn hb (by omega) b26 hg) (by omega) (by omega) (by omega) (by simp [Value.category]) rfl (fun v32 M33 n34 h35 => ?_) (fun _ _ _ h35 => ?_)
      rotate_left
      · obtain ⟨_, _, _, _, hx9, _⟩ := h35; cases hx9
      obtain ⟨tk36, nu37, l38, g39, h35, ex9, e40, hs41, hg42⟩ := h35
      replace e40 := e40.symm
      replace ex9 := ex9.symm
      subst e40
      subst ex9
      cases h35
      have k_hs41 := tok_ok f (show (tok f n a).2.2.1 ≤ n from by omega)
      have p_hs41 := tok_pos f (show (tok f n a).2.2.1 ≤ n from by omega)
      have l_hs41 := hs41.2.2.1
      show am_V G _ _ _ _ _ 105 [(3, .int (nI k20)), (2, .int (pfN (tok f n a).2.2.2.2)), (0, .ref 1225), (1, .int mo)] [] (am_up (am_up M17 1229 (.inl (0, 4096, .inl g39))) 1225 (.inr (12, [.ref 1226, .ref 1227, .ref 1228, .ref 1213, .ref 1220, .ref 1212, .int (nI n), .int (nI (tok f n ((tok f n a).2.2.1)).2.1), .int (nI (tok f n ((tok f n a).2.2.1)).2.2.1), .int tk36, .int (nI (o + 1)), .long nu37, .ref 1229, .int (nI l38), .ref 1230, .int (nI tp), .int (-1), .ref 1231, .int (nI vb), .int kn, .int 0, .ref 1232]))) nx 0 0
      refine v_iload_n (am_Dk d_MR_named (k := 55) rfl) rfl ?_
      refine v_iconst (v := (-1)) (am_Dk d_MR_named (k := 56) rfl) (by decide) ?_
      refine v_icmp_eq (tgt := 122) (am_Dk d_MR_named (k := 57) rfl) (by decide) (fun c43 => ?_) (fun c43 => ?_)
      · have hnpf : ¬ c_pf f n mo a := fun z => hpfc.elim (fun y => y.2 z.1) (fun y => y.1 c43)
        refine v_aload_n (am_Dk d_MR_named (k := 64) rfl) rfl ?_
        have m44 : (am_up (am_up M17 1229 (.inl (0, 4096, .inl g39))) 1225 (.inr (12, [.ref 1226, .ref 1227, .ref 1228, .ref 1213, .ref 1220, .ref 1212, .int (nI n), .int (nI (tok f n ((tok f n a).2.2.1)).2.1), .int (nI (tok f n ((tok f n a).2.2.1)).2.2.1), .int tk36, .int (nI (o + 1)), .long nu37, .ref 1229, .int (nI l38), .ref 1230, .int (nI tp), .int (-1), .ref 1231, .int (nI vb), .int kn, .int 0, .ref 1232]))) 1225 = some (.inr (12, [.ref 1226, .ref 1227, .ref 1228, .ref 1213, .ref 1220, .ref 1212, .int (nI n), .int (nI (tok f n ((tok f n a).2.2.1)).2.1), .int (nI (tok f n ((tok f n a).2.2.1)).2.2.1), .int tk36, .int (nI (o + 1)), .long nu37, .ref 1229, .int (nI l38), .ref 1230, .int (nI tp), .int (-1), .ref 1231, .int (nI vb), .int kn, .int 0, .ref 1232])) := am_up_eq _ _ _
        refine v_get (am_Dk d_MR_named (k := 65) rfl) f_MR_81 m44 rfl ?_
        refine v_iload_n (am_Dk d_MR_named (k := 66) rfl) rfl ?_
        obtain ⟨⟨Kd45, Nm45, Fi45, Ma45, Pa45, Nu45⟩, T45, F45, Va45, hX45⟩ := RS_fr (M1 := (am_up (am_up M17 1229 (.inl (0, 4096, .inl g39))) 1225 (.inr (12, [.ref 1226, .ref 1227, .ref 1228, .ref 1213, .ref 1220, .ref 1212, .int (nI n), .int (nI (tok f n ((tok f n a).2.2.1)).2.1), .int (nI (tok f n ((tok f n a).2.2.1)).2.2.1), .int tk36, .int (nI (o + 1)), .long nu37, .ref 1229, .int (nI l38), .ref 1230, .int (nI tp), .int (-1), .ref 1231, .int (nI vb), .int kn, .int 0, .ref 1232])))) hR31 (fun i hi => (am_up_ne (show i ≠ 1225 from by omega)).trans ((am_up_ne (show i ≠ 1229 from by omega)).trans (rfl)))
        refine v_callV (rest := []) (As := [.int (nI k20)]) (mc' := 0) (ms' := 0) (am_Dk d_MR_named (k := 67) rfl) c_MR_252 (Or.inl ⟨_, _, _, _, _, (RS_o1213 (RS_fr (M1 := (am_up (am_up M17 1229 (.inl (0, 4096, .inl g39))) 1225 (.inr (12, [.ref 1226, .ref 1227, .ref 1228, .ref 1213, .ref 1220, .ref 1212, .int (nI n), .int (nI (tok f n ((tok f n a).2.2.1)).2.1), .int (nI (tok f n ((tok f n a).2.2.1)).2.2.1), .int tk36, .int (nI (o + 1)), .long nu37, .ref 1229, .int (nI l38), .ref 1230, .int (nI tp), .int (-1), .ref 1231, .int (nI vb), .int kn, .int 0, .ref 1232])))) hR31 (fun i hi => (am_up_ne (show i ≠ 1225 from by omega)).trans ((am_up_ne (show i ≠ 1229 from by omega)).trans (rfl))))), cq_ok10⟩) (t_MT_atom G (d := 0) (by omega) hX45.1 (by omega)) (by omega) (by omega) (by omega) (by simp [Value.category]) rfl (fun v46 M47 n48 h49 => ?_) (fun _ _ _ h49 => ?_)
        rotate_left
        · exact absurd h49.1 (by simp)
        obtain ⟨h49, hA50, hf51, ex9⟩ := h49
        cases h49
        replace ex9 := ex9.symm
        subst ex9
        have hR52 := RS_atom hX45 (k := k20) (by omega) hA50 hf51
        obtain ⟨W53, hW54⟩ : ∃ W9, W9 = gu W sz (2, 0) (0, 0, 0) none := ⟨_, rfl⟩
        rw [← hW54] at hR52
        have ge55 : gh_eq sz W W53 := by rw [hW54]; exact gu_eq _ _ _ _ _
        have at56 := gu_at W sz (2, 0) (0, 0, 0) none
        rw [← hW54] at at56
        have b57 : M47 1225 = some (.inr (12, [.ref 1226, .ref 1227, .ref 1228, .ref 1213, .ref 1220, .ref 1212, .int (nI n), .int (nI (tok f n ((tok f n a).2.2.1)).2.1), .int (nI (tok f n ((tok f n a).2.2.1)).2.2.1), .int tk36, .int (nI (o + 1)), .long nu37, .ref 1229, .int (nI l38), .ref 1230, .int (nI tp), .int (-1), .ref 1231, .int (nI vb), .int kn, .int 0, .ref 1232])) := (hf51 1225 (by omega)).trans (am_up_eq _ _ _)
        have b58 : M47 1229 = some (.inl (0, 4096, .inl g39)) := (hf51 1229 (by omega)).trans ((am_up_ne (show 1229 ≠ 1225 from by decide)).trans (am_up_eq _ _ _))
        have b59 : M47 1230 = some (.inl (1, 4200, .inl S)) := (hf51 1230 (by omega)).trans ((am_up_ne (show 1230 ≠ 1225 from by decide)).trans ((am_up_ne (show 1230 ≠ 1229 from by decide)).trans (b27)))
        have b60 : M47 1232 = some (.inl (0, 4096, .inl kc)) := (hf51 1232 (by omega)).trans ((am_up_ne (show 1232 ≠ 1225 from by decide)).trans ((am_up_ne (show 1232 ≠ 1229 from by decide)).trans (b28)))
        have hm61 : mb f M47 := mb_fr hm29 (fun i hi => (hf51 i (by omega)).trans ((am_up_ne (show i ≠ 1225 from by omega)).trans ((am_up_ne (show i ≠ 1229 from by omega)).trans (rfl))))
        have fr62 : pf_fr M M47 := fun i hi => (hf51 i (by omega)).trans ((am_up_ne (show i ≠ 1225 from by omega)).trans ((am_up_ne (show i ≠ 1229 from by omega)).trans ((fr30 i hi))))
        have hR63 : RS LU M47 (sz + 1) pt ns21 tx22 vb e1 e2 W53 On23 Vx := ⟨_, _, _, _, hR52⟩
        show am_V G _ _ _ _ _ 130 [(3, .int (nI k20)), (2, .int (pfN (tok f n a).2.2.2.2)), (0, .ref 1225), (1, .int mo)] [.int (nI sz)] M47 nx 0 0
        have hcpl : c_pl f n a := ⟨n40, hcp2⟩
        have hpx9 : (¬ c_pf f n mo a) ∨ (c_pf f n mo a ∧ ((tok f n (tok f n a).2.2.1).1 = 10 ∨ (tok f n (tok f n a).2.2.1).1 = 11)) := by first | exact Or.inl hnpf | exact hpx
        have hres : TRes f n lu o mo a sz W53 (tok f n a).2.2.1 0 (sz + 1) sz := by
          rcases hpx9 with z | ⟨z1, z2⟩
          · exact Or.inl ⟨_, _, _, _, by rw [Nat.add_sub_cancel_left]; exact q_atom pb_0 hk2 hcpl z, ⟨at56.1, by rw [at56.2.2]; exact (by decide : ¬ (0 : Int32) < 0)⟩, by rw [at56.2.1], fun z => absurd rfl z⟩
          · exact Or.inr ⟨z2, q_preX hn pb_0 hk2 hcpl z1 z2⟩
        exact v_ireturn (am_Dk d_MR_named (k := 68) rfl) rfl rfl (by omega) (by omega) ⟨rfl, (fun i hi => (fr62 i hi)), Or.inl ⟨sz, ((tok f n a).2.2.1), S, 0, (sz + 1), pt, ns21, tx22, vb, e1, e2, W53, On23, Vx, rfl, (show PS f n LU M47 ((tok f n a).2.2.1) (o + 1) tp S 0 (sz + 1) pt ns21 tx22 vb e1 e2 W53 On23 Vx from ⟨⟨by omega, by omega, by omega, by omega, by omega, by omega, by omega, by omega, by omega, by omega⟩, mb_fr hm61 (fun i hi => rfl), RS_fr hR63 (fun i hi => rfl), b59, ⟨_, b60⟩, tk36, nu37, l38, g39, kn, b57, hs41, b58, hg42⟩), ⟨by omega, by omega, ge55, by omega, q245, fun _ _ => rfl, by omega, by omega, by omega⟩, hres, trivial⟩⟩
      · obtain ⟨hp0, hpk, hp2⟩ := (hpfc.resolve_left (fun y => c43 y.1)).2
        refine v_iload_n (am_Dk d_MR_named (k := 58) rfl) rfl ?_
        refine v_iload_n (am_Dk d_MR_named (k := 59) rfl) rfl ?_
        refine v_icmp_gt (tgt := 122) (am_Dk d_MR_named (k := 60) rfl) (by decide) (fun c64 => ?_) (fun c64 => ?_)
        · have hnpf : ¬ c_pf f n mo a := fun z => absurd z.2.1 (Int32.not_le.mpr (by rw [← hpk]; exact c64))
          refine v_aload_n (am_Dk d_MR_named (k := 64) rfl) rfl ?_
          have m65 : (am_up (am_up M17 1229 (.inl (0, 4096, .inl g39))) 1225 (.inr (12, [.ref 1226, .ref 1227, .ref 1228, .ref 1213, .ref 1220, .ref 1212, .int (nI n), .int (nI (tok f n ((tok f n a).2.2.1)).2.1), .int (nI (tok f n ((tok f n a).2.2.1)).2.2.1), .int tk36, .int (nI (o + 1)), .long nu37, .ref 1229, .int (nI l38), .ref 1230, .int (nI tp), .int (-1), .ref 1231, .int (nI vb), .int kn, .int 0, .ref 1232]))) 1225 = some (.inr (12, [.ref 1226, .ref 1227, .ref 1228, .ref 1213, .ref 1220, .ref 1212, .int (nI n), .int (nI (tok f n ((tok f n a).2.2.1)).2.1), .int (nI (tok f n ((tok f n a).2.2.1)).2.2.1), .int tk36, .int (nI (o + 1)), .long nu37, .ref 1229, .int (nI l38), .ref 1230, .int (nI tp), .int (-1), .ref 1231, .int (nI vb), .int kn, .int 0, .ref 1232])) := am_up_eq _ _ _
          refine v_get (am_Dk d_MR_named (k := 65) rfl) f_MR_81 m65 rfl ?_
          refine v_iload_n (am_Dk d_MR_named (k := 66) rfl) rfl ?_
          obtain ⟨⟨Kd66, Nm66, Fi66, Ma66, Pa66, Nu66⟩, T66, F66, Va66, hX66⟩ := RS_fr (M1 := (am_up (am_up M17 1229 (.inl (0, 4096, .inl g39))) 1225 (.inr (12, [.ref 1226, .ref 1227, .ref 1228, .ref 1213, .ref 1220, .ref 1212, .int (nI n), .int (nI (tok f n ((tok f n a).2.2.1)).2.1), .int (nI (tok f n ((tok f n a).2.2.1)).2.2.1), .int tk36, .int (nI (o + 1)), .long nu37, .ref 1229, .int (nI l38), .ref 1230, .int (nI tp), .int (-1), .ref 1231, .int (nI vb), .int kn, .int 0, .ref 1232])))) hR31 (fun i hi => (am_up_ne (show i ≠ 1225 from by omega)).trans ((am_up_ne (show i ≠ 1229 from by omega)).trans (rfl)))
          refine v_callV (rest := []) (As := [.int (nI k20)]) (mc' := 0) (ms' := 0) (am_Dk d_MR_named (k := 67) rfl) c_MR_252 (Or.inl ⟨_, _, _, _, _, (RS_o1213 (RS_fr (M1 := (am_up (am_up M17 1229 (.inl (0, 4096, .inl g39))) 1225 (.inr (12, [.ref 1226, .ref 1227, .ref 1228, .ref 1213, .ref 1220, .ref 1212, .int (nI n), .int (nI (tok f n ((tok f n a).2.2.1)).2.1), .int (nI (tok f n ((tok f n a).2.2.1)).2.2.1), .int tk36, .int (nI (o + 1)), .long nu37, .ref 1229, .int (nI l38), .ref 1230, .int (nI tp), .int (-1), .ref 1231, .int (nI vb), .int kn, .int 0, .ref 1232])))) hR31 (fun i hi => (am_up_ne (show i ≠ 1225 from by omega)).trans ((am_up_ne (show i ≠ 1229 from by omega)).trans (rfl))))), cq_ok10⟩) (t_MT_atom G (d := 0) (by omega) hX66.1 (by omega)) (by omega) (by omega) (by omega) (by simp [Value.category]) rfl (fun v67 M68 n69 h70 => ?_) (fun _ _ _ h70 => ?_)
          rotate_left
          · exact absurd h70.1 (by simp)
          obtain ⟨h70, hA71, hf72, ex9⟩ := h70
          cases h70
          replace ex9 := ex9.symm
          subst ex9
          have hR73 := RS_atom hX66 (k := k20) (by omega) hA71 hf72
          obtain ⟨W74, hW75⟩ : ∃ W9, W9 = gu W sz (2, 0) (0, 0, 0) none := ⟨_, rfl⟩
          rw [← hW75] at hR73
          have ge76 : gh_eq sz W W74 := by rw [hW75]; exact gu_eq _ _ _ _ _
          have at77 := gu_at W sz (2, 0) (0, 0, 0) none
          rw [← hW75] at at77
          have b78 : M68 1225 = some (.inr (12, [.ref 1226, .ref 1227, .ref 1228, .ref 1213, .ref 1220, .ref 1212, .int (nI n), .int (nI (tok f n ((tok f n a).2.2.1)).2.1), .int (nI (tok f n ((tok f n a).2.2.1)).2.2.1), .int tk36, .int (nI (o + 1)), .long nu37, .ref 1229, .int (nI l38), .ref 1230, .int (nI tp), .int (-1), .ref 1231, .int (nI vb), .int kn, .int 0, .ref 1232])) := (hf72 1225 (by omega)).trans (am_up_eq _ _ _)
          have b79 : M68 1229 = some (.inl (0, 4096, .inl g39)) := (hf72 1229 (by omega)).trans ((am_up_ne (show 1229 ≠ 1225 from by decide)).trans (am_up_eq _ _ _))
          have b80 : M68 1230 = some (.inl (1, 4200, .inl S)) := (hf72 1230 (by omega)).trans ((am_up_ne (show 1230 ≠ 1225 from by decide)).trans ((am_up_ne (show 1230 ≠ 1229 from by decide)).trans (b27)))
          have b81 : M68 1232 = some (.inl (0, 4096, .inl kc)) := (hf72 1232 (by omega)).trans ((am_up_ne (show 1232 ≠ 1225 from by decide)).trans ((am_up_ne (show 1232 ≠ 1229 from by decide)).trans (b28)))
          have hm82 : mb f M68 := mb_fr hm29 (fun i hi => (hf72 i (by omega)).trans ((am_up_ne (show i ≠ 1225 from by omega)).trans ((am_up_ne (show i ≠ 1229 from by omega)).trans (rfl))))
          have fr83 : pf_fr M M68 := fun i hi => (hf72 i (by omega)).trans ((am_up_ne (show i ≠ 1225 from by omega)).trans ((am_up_ne (show i ≠ 1229 from by omega)).trans ((fr30 i hi))))
          have hR84 : RS LU M68 (sz + 1) pt ns21 tx22 vb e1 e2 W74 On23 Vx := ⟨_, _, _, _, hR73⟩
          show am_V G _ _ _ _ _ 130 [(3, .int (nI k20)), (2, .int (pfN (tok f n a).2.2.2.2)), (0, .ref 1225), (1, .int mo)] [.int (nI sz)] M68 nx 0 0
          have hcpl : c_pl f n a := ⟨n40, hcp2⟩
          have hpx9 : (¬ c_pf f n mo a) ∨ (c_pf f n mo a ∧ ((tok f n (tok f n a).2.2.1).1 = 10 ∨ (tok f n (tok f n a).2.2.1).1 = 11)) := by first | exact Or.inl hnpf | exact hpx
          have hres : TRes f n lu o mo a sz W74 (tok f n a).2.2.1 0 (sz + 1) sz := by
            rcases hpx9 with z | ⟨z1, z2⟩
            · exact Or.inl ⟨_, _, _, _, by rw [Nat.add_sub_cancel_left]; exact q_atom pb_0 hk2 hcpl z, ⟨at77.1, by rw [at77.2.2]; exact (by decide : ¬ (0 : Int32) < 0)⟩, by rw [at77.2.1], fun z => absurd rfl z⟩
            · exact Or.inr ⟨z2, q_preX hn pb_0 hk2 hcpl z1 z2⟩
          exact v_ireturn (am_Dk d_MR_named (k := 68) rfl) rfl rfl (by omega) (by omega) ⟨rfl, (fun i hi => (fr83 i hi)), Or.inl ⟨sz, ((tok f n a).2.2.1), S, 0, (sz + 1), pt, ns21, tx22, vb, e1, e2, W74, On23, Vx, rfl, (show PS f n LU M68 ((tok f n a).2.2.1) (o + 1) tp S 0 (sz + 1) pt ns21 tx22 vb e1 e2 W74 On23 Vx from ⟨⟨by omega, by omega, by omega, by omega, by omega, by omega, by omega, by omega, by omega, by omega⟩, mb_fr hm82 (fun i hi => rfl), RS_fr hR84 (fun i hi => rfl), b80, ⟨_, b81⟩, tk36, nu37, l38, g39, kn, b78, hs41, b79, hg42⟩), ⟨by omega, by omega, ge76, by omega, q245, fun _ _ => rfl, by omega, by omega, by omega⟩, hres, trivial⟩⟩
        · have hle : kn_pf (tok f n a).2.2.2.2 ≤ mo := by rw [← hpk]; exact Int32.not_lt.mp c64
          refine v_aload_n (am_Dk d_MR_named (k := 61) rfl) rfl ?_
          obtain ⟨sd9, rkA9, hsd9, hsk9, hra9, hrk9⟩ := (mb_fr (M1 := (am_up (am_up M17 1229 (.inl (0, 4096, .inl g39))) 1225 (.inr (12, [.ref 1226, .ref 1227, .ref 1228, .ref 1213, .ref 1220, .ref 1212, .int (nI n), .int (nI (tok f n ((tok f n a).2.2.1)).2.1), .int (nI (tok f n ((tok f n a).2.2.1)).2.2.1), .int tk36, .int (nI (o + 1)), .long nu37, .ref 1229, .int (nI l38), .ref 1230, .int (nI tp), .int (-1), .ref 1231, .int (nI vb), .int kn, .int 0, .ref 1232])))) hm29 (fun i hi => (am_up_ne (show i ≠ 1225 from by omega)).trans ((am_up_ne (show i ≠ 1229 from by omega)).trans (rfl)))).2.1
          have m85 : (am_up (am_up M17 1229 (.inl (0, 4096, .inl g39))) 1225 (.inr (12, [.ref 1226, .ref 1227, .ref 1228, .ref 1213, .ref 1220, .ref 1212, .int (nI n), .int (nI (tok f n ((tok f n a).2.2.1)).2.1), .int (nI (tok f n ((tok f n a).2.2.1)).2.2.1), .int tk36, .int (nI (o + 1)), .long nu37, .ref 1229, .int (nI l38), .ref 1230, .int (nI tp), .int (-1), .ref 1231, .int (nI vb), .int kn, .int 0, .ref 1232]))) 1225 = some (.inr (12, [.ref 1226, .ref 1227, .ref 1228, .ref 1213, .ref 1220, .ref 1212, .int (nI n), .int (nI (tok f n ((tok f n a).2.2.1)).2.1), .int (nI (tok f n ((tok f n a).2.2.1)).2.2.1), .int tk36, .int (nI (o + 1)), .long nu37, .ref 1229, .int (nI l38), .ref 1230, .int (nI tp), .int (-1), .ref 1231, .int (nI vb), .int kn, .int 0, .ref 1232])) := am_up_eq _ _ _
          have m86 : (am_up (am_up M17 1229 (.inl (0, 4096, .inl g39))) 1225 (.inr (12, [.ref 1226, .ref 1227, .ref 1228, .ref 1213, .ref 1220, .ref 1212, .int (nI n), .int (nI (tok f n ((tok f n a).2.2.1)).2.1), .int (nI (tok f n ((tok f n a).2.2.1)).2.2.1), .int tk36, .int (nI (o + 1)), .long nu37, .ref 1229, .int (nI l38), .ref 1230, .int (nI tp), .int (-1), .ref 1231, .int (nI vb), .int kn, .int 0, .ref 1232]))) 1229 = some (.inl (0, 4096, .inl g39)) := (am_up_ne (show 1229 ≠ 1225 from by decide)).trans (am_up_eq _ _ _)
          refine v_callV (rest := []) (As := []) (mc' := 0) (ms' := 0) (am_Dk d_MR_named (k := 62) rfl) c_MR_248 (Or.inl ⟨_, _, _, _, _, m85, cq_ok12⟩) (t_MR_begins G (d := 6) (le := 0) (by omega) m85 m86 (by omega) hsd9 hsk9 hra9 hrk9) (by omega) (by omega) (by omega) (by simp [Value.category]) rfl (fun v87 M88 n89 h90 => ?_) (fun _ _ _ h90 => ?_)
          rotate_left
          · exact absurd h90.1 (by simp)
          obtain ⟨h90, e91, e92⟩ := h90
          replace e91 := e91.symm
          replace e92 := e92.symm
          subst e91
          subst e92
          cases h90
          show am_V G _ _ _ _ _ 119 [(3, .int (nI k20)), (2, .int (pfN (tok f n a).2.2.2.2)), (0, .ref 1225), (1, .int mo)] [.int (bi (decide (¬ (tk36 = 5 ∨ tk36 = 7 ∨ tk36 = 9 ∨ tk36 = 10 ∨ tk36 = 11 ∨ tk36 = 0 ∨ tk36 = 13) ∧ ((if tk36 = 10 then 1000 else if tk36 = 3 then rkN (spg l38 g39) else -1) = -1 ∨ ¬ (if tk36 = 3 then pfN (spg l38 g39) else -1) = -1))))] (am_up (am_up M17 1229 (.inl (0, 4096, .inl g39))) 1225 (.inr (12, [.ref 1226, .ref 1227, .ref 1228, .ref 1213, .ref 1220, .ref 1212, .int (nI n), .int (nI (tok f n ((tok f n a).2.2.1)).2.1), .int (nI (tok f n ((tok f n a).2.2.1)).2.2.1), .int tk36, .int (nI (o + 1)), .long nu37, .ref 1229, .int (nI l38), .ref 1230, .int (nI tp), .int (-1), .ref 1231, .int (nI vb), .int kn, .int 0, .ref 1232]))) nx 0 0
          refine v_if_ne (tgt := 131) (am_Dk d_MR_named (k := 63) rfl) (by decide) (fun c93 => ?_) (fun c93 => ?_)
          · have hcan := (beg_can (by omega) hs41).1 (bi1 c93)
            have hcpf : c_pf f n mo a := ⟨hp0, hle, hcan⟩
            rw [hpk]
            refine v_aload_n (am_Dk d_MR_named (k := 69) rfl) rfl ?_
            refine v_get (am_Dk d_MR_named (k := 70) rfl) f_MR_102 m85 rfl ?_
            refine v_istore (L1 := [(4, .int (nI tp)), (3, .int (nI k20)), (2, .int (kn_pf (tok f n a).2.2.2.2)), (0, .ref 1225), (1, .int mo)]) (am_Dk d_MR_named (k := 71) rfl) (by decide) rfl ?_
            refine v_aload_n (am_Dk d_MR_named (k := 72) rfl) rfl ?_
            refine v_iload_n (am_Dk d_MR_named (k := 73) rfl) rfl ?_
            have ps94 := (show PS f n LU (am_up (am_up M17 1229 (.inl (0, 4096, .inl g39))) 1225 (.inr (12, [.ref 1226, .ref 1227, .ref 1228, .ref 1213, .ref 1220, .ref 1212, .int (nI n), .int (nI (tok f n ((tok f n a).2.2.1)).2.1), .int (nI (tok f n ((tok f n a).2.2.1)).2.2.1), .int tk36, .int (nI (o + 1)), .long nu37, .ref 1229, .int (nI l38), .ref 1230, .int (nI tp), .int (-1), .ref 1231, .int (nI vb), .int kn, .int 0, .ref 1232]))) ((tok f n a).2.2.1) (o + 1) tp S 0 sz pt ns21 tx22 vb e1 e2 W On23 Vx from ⟨⟨by omega, by omega, by omega, by omega, by omega, by omega, by omega, by omega, by omega, by omega⟩, mb_fr hm29 (fun i hi => (am_up_ne (show i ≠ 1225 from by omega)).trans ((am_up_ne (show i ≠ 1229 from by omega)).trans (rfl))), RS_fr hR31 (fun i hi => (am_up_ne (show i ≠ 1225 from by omega)).trans ((am_up_ne (show i ≠ 1229 from by omega)).trans (rfl))), (am_up_ne (show 1230 ≠ 1225 from by decide)).trans ((am_up_ne (show 1230 ≠ 1229 from by decide)).trans (b27)), ⟨_, (am_up_ne (show 1232 ≠ 1225 from by decide)).trans ((am_up_ne (show 1232 ≠ 1229 from by decide)).trans (b28))⟩, tk36, nu37, l38, g39, kn, am_up_eq _ _ _, hs41, (am_up_ne (show 1229 ≠ 1225 from by decide)).trans (am_up_eq _ _ _), hg42⟩)
            refine v_callV (rest := []) (As := [.int (kn_pf (tok f n a).2.2.2.2)]) (mc' := 0) (ms' := 0) (am_Dk d_MR_named (k := 74) rfl) c_MR_119 (Or.inl ⟨_, _, _, _, _, m85, cq_ok12⟩) (IH _ _ (kn_pf (tok f n a).2.2.2.2) _ _ _ _ _ _ _ _ _ _ _ _ _ _ ps94 hp2) (by omega) (by omega) (by omega) (by simp [Value.category]) rfl (fun v95 M96 n97 h98 => ?_) (fun x9 M96 n97 h98 => ?_)
            rotate_left
            · obtain ⟨ex9, pfT, hT⟩ := h98
              replace ex9 := ex9.symm
              subst ex9
              rcases hT with ⟨_, _, _, _, _, _, _, _, _, _, _, _, _, _, hx9, _⟩ | ⟨wT, hx9, pxT, bT⟩
              · cases hx9
              · cases hx9
                have hcpl : c_pl f n a := ⟨n40, hcp2⟩
                exact vt_leave (fun q hq => by cases hq) (by omega) (by omega) ⟨rfl, (fun i hi => (pfT i hi).trans ((am_up_ne (show i ≠ 1225 from by omega)).trans ((am_up_ne (show i ≠ 1229 from by omega)).trans ((fr30 i hi))))), Or.inr ⟨wT, rfl, pxT, q_preB hn pb_0 hk2 hcpl hcpf (bT.elim (fun z => Or.inl ⟨by omega, z.2⟩) (fun z => Or.inr ⟨z.1, z.2⟩))⟩⟩
            obtain ⟨ex9, pf113, hT⟩ := h98
            replace ex9 := ex9.symm
            subst ex9
            rcases hT with ⟨t99, a100, S101, rk102, sz103, pt104, ns105, tx106, vb107, e1108, e2109, W110, On111, Vx112, hx9, psx, pe114, tr115, ee116⟩ | ⟨_, hx9, _⟩
            rotate_left
            · cases hx9
            cases hx9
            obtain ⟨pb122, hm123, hR124, hS125, ⟨kc126, hk127⟩, tk117, nu118, l119, g120, kn121, hr128, hs129, hw130, hg131⟩ := psx
            obtain ⟨pb122_0, pb122_1, pb122_2, pb122_3, pb122_4, pb122_5, pb122_6, pb122_7, pb122_8, pb122_9⟩ := pb122
            obtain ⟨pe114_0, pe114_1, pe114_2, pe114_3, pe114_4, pe114_5, pe114_6, pe114_7, pe114_8⟩ := pe114
            replace hr128 : M96 1225 = some (.inr (12, [.ref 1226, .ref 1227, .ref 1228, .ref 1213, .ref 1220, .ref 1212, .int (nI n), .int (nI ((tok f n a100).2.1)), .int (nI ((tok f n a100).2.2.1)), .int tk117, .int (nI (o + 1)), .long nu118, .ref 1229, .int (nI l119), .ref 1230, .int (nI tp), .int (-1), .ref 1231, .int (nI vb107), .int kn121, .int rk102, .ref 1232])) := hr128
            have k_hs129 := tok_ok f pb122_0
            have p_hs129 := tok_pos f pb122_0
            have l_hs129 := hs129.2.2.1
            have fr132 : pf_fr M M96 := fun i hi => (pf113 i hi).trans ((am_up_ne (show i ≠ 1225 from by omega)).trans ((am_up_ne (show i ≠ 1229 from by omega)).trans ((fr30 i hi))))
            show am_V G _ _ _ _ _ 142 [(4, .int (nI tp)), (3, .int (nI k20)), (2, .int (kn_pf (tok f n a).2.2.2.2)), (0, .ref 1225), (1, .int mo)] [.int (nI t99)] M96 nx 0 0
            refine v_istore (L1 := [(5, .int (nI t99)), (4, .int (nI tp)), (3, .int (nI k20)), (2, .int (kn_pf (tok f n a).2.2.2.2)), (0, .ref 1225), (1, .int mo)]) (am_Dk d_MR_named (k := 75) rfl) (by decide) rfl ?_
            refine v_aload_n (am_Dk d_MR_named (k := 76) rfl) rfl ?_
            refine v_get (am_Dk d_MR_named (k := 77) rfl) f_MR_72 hr128 rfl ?_
            refine v_aload_n (am_Dk d_MR_named (k := 78) rfl) rfl ?_
            refine v_dup (am_Dk d_MR_named (k := 79) rfl) rfl ?_
            refine v_get (am_Dk d_MR_named (k := 80) rfl) f_MR_102 hr128 rfl ?_
            refine v_dup_x1 (am_Dk d_MR_named (k := 81) rfl) rfl rfl ?_
            refine v_iconst (v := 1) (am_Dk d_MR_named (k := 82) rfl) (by decide) ?_
            refine v_iadd (am_Dk d_MR_named (k := 83) rfl) ?_
            rw [nI_1]
            refine v_put (am_Dk d_MR_named (k := 84) rfl) f_MR_102 hr128 (Nat.le_of_ble_eq_true rfl) rfl rfl ?_
            refine v_iload (am_Dk d_MR_named (k := 85) rfl) rfl ?_
            have m133 : (am_up M96 1225 (.inr (12, [.ref 1226, .ref 1227, .ref 1228, .ref 1213, .ref 1220, .ref 1212, .int (nI n), .int (nI ((tok f n a100).2.1)), .int (nI ((tok f n a100).2.2.1)), .int tk117, .int (nI (o + 1)), .long nu118, .ref 1229, .int (nI l119), .ref 1230, .int (nI (tp + 1)), .int (-1), .ref 1231, .int (nI vb107), .int kn121, .int rk102, .ref 1232]))) 1230 = some (.inl (1, 4200, .inl S101)) := (am_up_ne (show 1230 ≠ 1225 from by decide)).trans (hS125)
            refine v_iast (am_Dk d_MR_named (k := 86) rfl) m133 rfl (vp_in_nI (by omega) (by omega)) ?_
            rw [nI_clamp (n := tp) (by omega)]
            refine v_aload_n (am_Dk d_MR_named (k := 87) rfl) rfl ?_
            have m134 : (am_up (am_up M96 1225 (.inr (12, [.ref 1226, .ref 1227, .ref 1228, .ref 1213, .ref 1220, .ref 1212, .int (nI n), .int (nI ((tok f n a100).2.1)), .int (nI ((tok f n a100).2.2.1)), .int tk117, .int (nI (o + 1)), .long nu118, .ref 1229, .int (nI l119), .ref 1230, .int (nI (tp + 1)), .int (-1), .ref 1231, .int (nI vb107), .int kn121, .int rk102, .ref 1232]))) 1230 (.inl (1, 4200, .inl (upd S101 (tp) (nI t99))))) 1225 = some (.inr (12, [.ref 1226, .ref 1227, .ref 1228, .ref 1213, .ref 1220, .ref 1212, .int (nI n), .int (nI ((tok f n a100).2.1)), .int (nI ((tok f n a100).2.2.1)), .int tk117, .int (nI (o + 1)), .long nu118, .ref 1229, .int (nI l119), .ref 1230, .int (nI (tp + 1)), .int (-1), .ref 1231, .int (nI vb107), .int kn121, .int rk102, .ref 1232])) := (am_up_ne (show 1225 ≠ 1230 from by decide)).trans (am_up_eq _ _ _)
            refine v_get (am_Dk d_MR_named (k := 88) rfl) f_MR_81 m134 rfl ?_
            refine v_iload_n (am_Dk d_MR_named (k := 89) rfl) rfl ?_
            refine v_aload_n (am_Dk d_MR_named (k := 90) rfl) rfl ?_
            refine v_get (am_Dk d_MR_named (k := 91) rfl) f_MR_72 m134 rfl ?_
            refine v_iload (am_Dk d_MR_named (k := 92) rfl) rfl ?_
            refine v_iconst (v := 1) (am_Dk d_MR_named (k := 93) rfl) (by decide) ?_
            obtain ⟨⟨Kd135, Nm135, Fi135, Ma135, Pa135, Nu135⟩, T135, F135, Va135, hX135⟩ := RS_fr (M1 := (am_up (am_up M96 1225 (.inr (12, [.ref 1226, .ref 1227, .ref 1228, .ref 1213, .ref 1220, .ref 1212, .int (nI n), .int (nI ((tok f n a100).2.1)), .int (nI ((tok f n a100).2.2.1)), .int tk117, .int (nI (o + 1)), .long nu118, .ref 1229, .int (nI l119), .ref 1230, .int (nI (tp + 1)), .int (-1), .ref 1231, .int (nI vb107), .int kn121, .int rk102, .ref 1232]))) 1230 (.inl (1, 4200, .inl (upd S101 (tp) (nI t99)))))) hR124 (fun i hi => (am_up_ne (show i ≠ 1230 from by omega)).trans ((am_up_ne (show i ≠ 1225 from by omega)).trans (rfl)))
            have m136 : (am_up (am_up M96 1225 (.inr (12, [.ref 1226, .ref 1227, .ref 1228, .ref 1213, .ref 1220, .ref 1212, .int (nI n), .int (nI ((tok f n a100).2.1)), .int (nI ((tok f n a100).2.2.1)), .int tk117, .int (nI (o + 1)), .long nu118, .ref 1229, .int (nI l119), .ref 1230, .int (nI (tp + 1)), .int (-1), .ref 1231, .int (nI vb107), .int kn121, .int rk102, .ref 1232]))) 1230 (.inl (1, 4200, .inl (upd S101 (tp) (nI t99))))) 1230 = some (.inl (1, 4200, .inl (upd S101 (tp) (nI t99)))) := am_up_eq _ _ _
            refine v_callV (rest := []) (As := [.int (nI k20), .ref 1230, .int (nI tp), .int 1]) (mc' := 0) (ms' := 0) (am_Dk d_MR_named (k := 94) rfl) c_MR_215 (Or.inl ⟨_, _, _, _, _, (RS_o1213 (RS_fr (M1 := (am_up (am_up M96 1225 (.inr (12, [.ref 1226, .ref 1227, .ref 1228, .ref 1213, .ref 1220, .ref 1212, .int (nI n), .int (nI ((tok f n a100).2.1)), .int (nI ((tok f n a100).2.2.1)), .int tk117, .int (nI (o + 1)), .long nu118, .ref 1229, .int (nI l119), .ref 1230, .int (nI (tp + 1)), .int (-1), .ref 1231, .int (nI vb107), .int kn121, .int rk102, .ref 1232]))) 1230 (.inl (1, 4200, .inl (upd S101 (tp) (nI t99)))))) hR124 (fun i hi => (am_up_ne (show i ≠ 1230 from by omega)).trans ((am_up_ne (show i ≠ 1225 from by omega)).trans (rfl))))), cq_ok10⟩) (t_MT_compound G (d := 0) (c := 1) (fr := tp) (by omega) hX135.1 (by omega) m136 (by omega) (by omega) (by omega)) (by omega) (by omega) (by omega) (by simp [Value.category]) rfl (fun v137 M138 n139 h140 => ?_) (fun _ _ _ h140 => ?_)
            rotate_left
            · exact absurd h140.1 (by simp)
            obtain ⟨h140, hA141, hf142, ex9⟩ := h140
            cases h140
            replace ex9 := ex9.symm
            subst ex9
            have hR143 := RS_comp hX135 (k := k20) (c := 1) (fr := tp) (y := (fun _ => t99)) (by omega) (by omega) (fun j hj => ⟨by omega, by rw [show tp + j = tp from by omega]; exact upd_at _ _ _⟩) hA141 hf142
            obtain ⟨W144, hW145⟩ : ∃ W9, W9 = gu W110 sz103 (if 1 = 1 then rk1 (On111 k20) (W110.1 ((fun _ => t99) 0)).1 (W110.1 ((fun _ => t99) 0)).2 else if 1 = 2 then rk2 (On111 k20) (W110.1 ((fun _ => t99) 0)).1 (W110.1 ((fun _ => t99) 0)).2 (W110.1 ((fun _ => t99) 1)).1 (W110.1 ((fun _ => t99) 1)).2 else (2, 0)) (if 1 = 2 then (On111 k20, (fun _ => t99) 0, (fun _ => t99) 1) else (0, 0, 0)) none := ⟨_, rfl⟩
            rw [← hW145] at hR143
            have ge146 : gh_eq sz103 W110 W144 := by rw [hW145]; exact gu_eq _ _ _ _ _
            have at147 := gu_at W110 sz103 (if 1 = 1 then rk1 (On111 k20) (W110.1 ((fun _ => t99) 0)).1 (W110.1 ((fun _ => t99) 0)).2 else if 1 = 2 then rk2 (On111 k20) (W110.1 ((fun _ => t99) 0)).1 (W110.1 ((fun _ => t99) 0)).2 (W110.1 ((fun _ => t99) 1)).1 (W110.1 ((fun _ => t99) 1)).2 else (2, 0)) (if 1 = 2 then (On111 k20, (fun _ => t99) 0, (fun _ => t99) 1) else (0, 0, 0)) none
            rw [← hW145] at at147
            have b148 : M138 1225 = some (.inr (12, [.ref 1226, .ref 1227, .ref 1228, .ref 1213, .ref 1220, .ref 1212, .int (nI n), .int (nI ((tok f n a100).2.1)), .int (nI ((tok f n a100).2.2.1)), .int tk117, .int (nI (o + 1)), .long nu118, .ref 1229, .int (nI l119), .ref 1230, .int (nI (tp + 1)), .int (-1), .ref 1231, .int (nI vb107), .int kn121, .int rk102, .ref 1232])) := (hf142 1225 (by omega)).trans ((am_up_ne (show 1225 ≠ 1230 from by decide)).trans (am_up_eq _ _ _))
            have b149 : M138 1229 = some (.inl (0, 4096, .inl g120)) := (hf142 1229 (by omega)).trans ((am_up_ne (show 1229 ≠ 1230 from by decide)).trans ((am_up_ne (show 1229 ≠ 1225 from by decide)).trans (hw130)))
            have b150 : M138 1230 = some (.inl (1, 4200, .inl (upd S101 (tp) (nI t99)))) := (hf142 1230 (by omega)).trans (am_up_eq _ _ _)
            have b151 : M138 1232 = some (.inl (0, 4096, .inl kc126)) := (hf142 1232 (by omega)).trans ((am_up_ne (show 1232 ≠ 1230 from by decide)).trans ((am_up_ne (show 1232 ≠ 1225 from by decide)).trans (hk127)))
            have hm152 : mb f M138 := mb_fr hm123 (fun i hi => (hf142 i (by omega)).trans ((am_up_ne (show i ≠ 1230 from by omega)).trans ((am_up_ne (show i ≠ 1225 from by omega)).trans (rfl))))
            have fr153 : pf_fr M M138 := fun i hi => (hf142 i (by omega)).trans ((am_up_ne (show i ≠ 1230 from by omega)).trans ((am_up_ne (show i ≠ 1225 from by omega)).trans ((fr132 i hi))))
            have hR154 : RS LU M138 (sz103 + 1) (pt104 + 1) ns105 tx106 vb107 e1108 e2109 W144 On111 Vx112 := ⟨_, _, _, _, hR143⟩
            show am_V G _ _ _ _ _ 177 [(5, .int (nI t99)), (4, .int (nI tp)), (3, .int (nI k20)), (2, .int (kn_pf (tok f n a).2.2.2.2)), (0, .ref 1225), (1, .int mo)] [.int (nI sz103)] M138 nx 0 0
            refine v_istore (L1 := [(6, .int (nI sz103)), (5, .int (nI t99)), (4, .int (nI tp)), (3, .int (nI k20)), (2, .int (kn_pf (tok f n a).2.2.2.2)), (0, .ref 1225), (1, .int mo)]) (am_Dk d_MR_named (k := 95) rfl) (by decide) rfl ?_
            refine v_aload_n (am_Dk d_MR_named (k := 96) rfl) rfl ?_
            refine v_iload (am_Dk d_MR_named (k := 97) rfl) rfl ?_
            refine v_put (am_Dk d_MR_named (k := 98) rfl) f_MR_102 b148 (Nat.le_of_ble_eq_true rfl) rfl rfl ?_
            refine v_aload_n (am_Dk d_MR_named (k := 99) rfl) rfl ?_
            refine v_iload_n (am_Dk d_MR_named (k := 100) rfl) rfl ?_
            have m155 : (am_up M138 1225 (.inr (12, [.ref 1226, .ref 1227, .ref 1228, .ref 1213, .ref 1220, .ref 1212, .int (nI n), .int (nI ((tok f n a100).2.1)), .int (nI ((tok f n a100).2.2.1)), .int tk117, .int (nI (o + 1)), .long nu118, .ref 1229, .int (nI l119), .ref 1230, .int (nI tp), .int (-1), .ref 1231, .int (nI vb107), .int kn121, .int rk102, .ref 1232]))) 1225 = some (.inr (12, [.ref 1226, .ref 1227, .ref 1228, .ref 1213, .ref 1220, .ref 1212, .int (nI n), .int (nI ((tok f n a100).2.1)), .int (nI ((tok f n a100).2.2.1)), .int tk117, .int (nI (o + 1)), .long nu118, .ref 1229, .int (nI l119), .ref 1230, .int (nI tp), .int (-1), .ref 1231, .int (nI vb107), .int kn121, .int rk102, .ref 1232])) := am_up_eq _ _ _
            refine v_put (am_Dk d_MR_named (k := 101) rfl) f_MR_204 m155 (Nat.le_of_ble_eq_true rfl) rfl rfl ?_
            rw [am_uu0 (a := 1225)]
            refine v_iload (am_Dk d_MR_named (k := 102) rfl) rfl ?_
            have hcpl : c_pl f n a := ⟨n40, hcp2⟩
            have hkO : On111 k20 = (tok f n a).2.2.2.2 := (pe114_4 k20 q242).trans (q243.trans hsp)
            have hat1 := at147.1
            rw [if_pos rfl, hkO] at hat1
            have hat2 := at147.2.1
            rw [if_neg (by decide)] at hat2
            have hres : TRes f n lu o mo a sz W144 a100 (kn_pf (tok f n a).2.2.2.2) (sz103 + 1) sz103 := by
              rcases tr115 with ⟨wT, roT, L9, R9, hTO, hOp, hro, hch⟩ | ⟨hk10, hTB⟩
              · have hTE := q_pre pb_0 hk2 hcpl hcpf ee116.1 hTO ee116.2
                rw [show sz103 - sz + 1 = sz103 + 1 - sz from by omega] at hTE
                have e1 : W110.1 t99 = (wT.1, wT.2.1) := hOp.1
                rw [e1] at hat1
                exact Or.inl ⟨_, _, _, _, hTE, ⟨hat1, by rw [at147.2.2]; exact (by decide : ¬ (0 : Int32) < 0)⟩, by rw [hat2], fun z => absurd rfl z⟩
              · exact Or.inr ⟨hk10, q_preB hn pb_0 hk2 hcpl hcpf (Or.inr ⟨ee116.1, hTB⟩)⟩
            exact v_ireturn (am_Dk d_MR_named (k := 103) rfl) rfl rfl (by omega) (by omega) ⟨rfl, (fun i hi => (am_up_ne (show i ≠ 1225 from by omega)).trans ((fr153 i hi))), Or.inl ⟨sz103, a100, (upd S101 (tp) (nI t99)), (kn_pf (tok f n a).2.2.2.2), (sz103 + 1), (pt104 + 1), ns105, tx106, vb107, e1108, e2109, W144, On111, Vx112, rfl, (show PS f n LU (am_up M138 1225 (.inr (12, [.ref 1226, .ref 1227, .ref 1228, .ref 1213, .ref 1220, .ref 1212, .int (nI n), .int (nI ((tok f n a100).2.1)), .int (nI ((tok f n a100).2.2.1)), .int tk117, .int (nI (o + 1)), .long nu118, .ref 1229, .int (nI l119), .ref 1230, .int (nI tp), .int (-1), .ref 1231, .int (nI vb107), .int kn121, .int (kn_pf (tok f n a).2.2.2.2), .ref 1232]))) a100 (o + 1) tp (upd S101 (tp) (nI t99)) (kn_pf (tok f n a).2.2.2.2) (sz103 + 1) (pt104 + 1) ns105 tx106 vb107 e1108 e2109 W144 On111 Vx112 from ⟨⟨by omega, by omega, by omega, by omega, by omega, by omega, by omega, by omega, by omega, by omega⟩, mb_fr hm152 (fun i hi => (am_up_ne (show i ≠ 1225 from by omega)).trans (rfl)), RS_fr hR154 (fun i hi => (am_up_ne (show i ≠ 1225 from by omega)).trans (rfl)), (am_up_ne (show 1230 ≠ 1225 from by decide)).trans (b150), ⟨_, (am_up_ne (show 1232 ≠ 1225 from by decide)).trans (b151)⟩, tk117, nu118, l119, g120, kn121, am_up_eq _ _ _, hs129, (am_up_ne (show 1229 ≠ 1225 from by decide)).trans (b149), hg131⟩), ⟨by omega, by omega, gh_trans pe114_2 ge146 (by omega), by omega, fun j hj => (pe114_4 j (by omega)).trans (q245 j hj), fun j hj => (upd_ne _ _ (by omega)).trans (pe114_5 j hj), by omega, by omega, by omega⟩, hres, trivial⟩⟩
          · have hcan := (beg_can (by omega) hs41).2 (bi0.mp c93)
            have hpx : (¬ c_pf f n mo a) ∨ (c_pf f n mo a ∧ ((tok f n (tok f n a).2.2.1).1 = 10 ∨ (tok f n (tok f n a).2.2.1).1 = 11)) := by rcases hcan with z | z; exact Or.inl (fun y => absurd (z.symm.trans y.2.2) (by decide)); exact Or.inr ⟨⟨hp0, hle, by rw [c_can, if_neg (by omega), decide_eq_true (by omega)]⟩, z⟩
            refine v_aload_n (am_Dk d_MR_named (k := 64) rfl) rfl ?_
            refine v_get (am_Dk d_MR_named (k := 65) rfl) f_MR_81 m85 rfl ?_
            refine v_iload_n (am_Dk d_MR_named (k := 66) rfl) rfl ?_
            obtain ⟨⟨Kd156, Nm156, Fi156, Ma156, Pa156, Nu156⟩, T156, F156, Va156, hX156⟩ := RS_fr (M1 := (am_up (am_up M17 1229 (.inl (0, 4096, .inl g39))) 1225 (.inr (12, [.ref 1226, .ref 1227, .ref 1228, .ref 1213, .ref 1220, .ref 1212, .int (nI n), .int (nI (tok f n ((tok f n a).2.2.1)).2.1), .int (nI (tok f n ((tok f n a).2.2.1)).2.2.1), .int tk36, .int (nI (o + 1)), .long nu37, .ref 1229, .int (nI l38), .ref 1230, .int (nI tp), .int (-1), .ref 1231, .int (nI vb), .int kn, .int 0, .ref 1232])))) hR31 (fun i hi => (am_up_ne (show i ≠ 1225 from by omega)).trans ((am_up_ne (show i ≠ 1229 from by omega)).trans (rfl)))
            refine v_callV (rest := []) (As := [.int (nI k20)]) (mc' := 0) (ms' := 0) (am_Dk d_MR_named (k := 67) rfl) c_MR_252 (Or.inl ⟨_, _, _, _, _, (RS_o1213 (RS_fr (M1 := (am_up (am_up M17 1229 (.inl (0, 4096, .inl g39))) 1225 (.inr (12, [.ref 1226, .ref 1227, .ref 1228, .ref 1213, .ref 1220, .ref 1212, .int (nI n), .int (nI (tok f n ((tok f n a).2.2.1)).2.1), .int (nI (tok f n ((tok f n a).2.2.1)).2.2.1), .int tk36, .int (nI (o + 1)), .long nu37, .ref 1229, .int (nI l38), .ref 1230, .int (nI tp), .int (-1), .ref 1231, .int (nI vb), .int kn, .int 0, .ref 1232])))) hR31 (fun i hi => (am_up_ne (show i ≠ 1225 from by omega)).trans ((am_up_ne (show i ≠ 1229 from by omega)).trans (rfl))))), cq_ok10⟩) (t_MT_atom G (d := 0) (by omega) hX156.1 (by omega)) (by omega) (by omega) (by omega) (by simp [Value.category]) rfl (fun v157 M158 n159 h160 => ?_) (fun _ _ _ h160 => ?_)
            rotate_left
            · exact absurd h160.1 (by simp)
            obtain ⟨h160, hA161, hf162, ex9⟩ := h160
            cases h160
            replace ex9 := ex9.symm
            subst ex9
            have hR163 := RS_atom hX156 (k := k20) (by omega) hA161 hf162
            obtain ⟨W164, hW165⟩ : ∃ W9, W9 = gu W sz (2, 0) (0, 0, 0) none := ⟨_, rfl⟩
            rw [← hW165] at hR163
            have ge166 : gh_eq sz W W164 := by rw [hW165]; exact gu_eq _ _ _ _ _
            have at167 := gu_at W sz (2, 0) (0, 0, 0) none
            rw [← hW165] at at167
            have b168 : M158 1225 = some (.inr (12, [.ref 1226, .ref 1227, .ref 1228, .ref 1213, .ref 1220, .ref 1212, .int (nI n), .int (nI (tok f n ((tok f n a).2.2.1)).2.1), .int (nI (tok f n ((tok f n a).2.2.1)).2.2.1), .int tk36, .int (nI (o + 1)), .long nu37, .ref 1229, .int (nI l38), .ref 1230, .int (nI tp), .int (-1), .ref 1231, .int (nI vb), .int kn, .int 0, .ref 1232])) := (hf162 1225 (by omega)).trans (am_up_eq _ _ _)
            have b169 : M158 1229 = some (.inl (0, 4096, .inl g39)) := (hf162 1229 (by omega)).trans ((am_up_ne (show 1229 ≠ 1225 from by decide)).trans (am_up_eq _ _ _))
            have b170 : M158 1230 = some (.inl (1, 4200, .inl S)) := (hf162 1230 (by omega)).trans ((am_up_ne (show 1230 ≠ 1225 from by decide)).trans ((am_up_ne (show 1230 ≠ 1229 from by decide)).trans (b27)))
            have b171 : M158 1232 = some (.inl (0, 4096, .inl kc)) := (hf162 1232 (by omega)).trans ((am_up_ne (show 1232 ≠ 1225 from by decide)).trans ((am_up_ne (show 1232 ≠ 1229 from by decide)).trans (b28)))
            have hm172 : mb f M158 := mb_fr hm29 (fun i hi => (hf162 i (by omega)).trans ((am_up_ne (show i ≠ 1225 from by omega)).trans ((am_up_ne (show i ≠ 1229 from by omega)).trans (rfl))))
            have fr173 : pf_fr M M158 := fun i hi => (hf162 i (by omega)).trans ((am_up_ne (show i ≠ 1225 from by omega)).trans ((am_up_ne (show i ≠ 1229 from by omega)).trans ((fr30 i hi))))
            have hR174 : RS LU M158 (sz + 1) pt ns21 tx22 vb e1 e2 W164 On23 Vx := ⟨_, _, _, _, hR163⟩
            show am_V G _ _ _ _ _ 130 [(3, .int (nI k20)), (2, .int (pfN (tok f n a).2.2.2.2)), (0, .ref 1225), (1, .int mo)] [.int (nI sz)] M158 nx 0 0
            have hcpl : c_pl f n a := ⟨n40, hcp2⟩
            have hpx9 : (¬ c_pf f n mo a) ∨ (c_pf f n mo a ∧ ((tok f n (tok f n a).2.2.1).1 = 10 ∨ (tok f n (tok f n a).2.2.1).1 = 11)) := by first | exact Or.inl hnpf | exact hpx
            have hres : TRes f n lu o mo a sz W164 (tok f n a).2.2.1 0 (sz + 1) sz := by
              rcases hpx9 with z | ⟨z1, z2⟩
              · exact Or.inl ⟨_, _, _, _, by rw [Nat.add_sub_cancel_left]; exact q_atom pb_0 hk2 hcpl z, ⟨at167.1, by rw [at167.2.2]; exact (by decide : ¬ (0 : Int32) < 0)⟩, by rw [at167.2.1], fun z => absurd rfl z⟩
              · exact Or.inr ⟨z2, q_preX hn pb_0 hk2 hcpl z1 z2⟩
            exact v_ireturn (am_Dk d_MR_named (k := 68) rfl) rfl rfl (by omega) (by omega) ⟨rfl, (fun i hi => (fr173 i hi)), Or.inl ⟨sz, ((tok f n a).2.2.1), S, 0, (sz + 1), pt, ns21, tx22, vb, e1, e2, W164, On23, Vx, rfl, (show PS f n LU M158 ((tok f n a).2.2.1) (o + 1) tp S 0 (sz + 1) pt ns21 tx22 vb e1 e2 W164 On23 Vx from ⟨⟨by omega, by omega, by omega, by omega, by omega, by omega, by omega, by omega, by omega, by omega⟩, mb_fr hm172 (fun i hi => rfl), RS_fr hR174 (fun i hi => rfl), b170, ⟨_, b171⟩, tk36, nu37, l38, g39, kn, b168, hs41, b169, hg42⟩), ⟨by omega, by omega, ge166, by omega, q245, fun _ _ => rfl, by omega, by omega, by omega⟩, hres, trivial⟩⟩
    · have Nc8 := (nI_eq (a := l) (b := 1) (by omega) (by omega)).mp c8
      have hl1 : l = 1 := by omega
      refine v_aload_n (am_Dk d_MR_named (k := 13) rfl) rfl ?_
      refine v_get (am_Dk d_MR_named (k := 14) rfl) f_MR_68 hr rfl ?_
      refine v_iconst (v := 0) (am_Dk d_MR_named (k := 15) rfl) (by decide) ?_
      refine v_bald (am_Dk d_MR_named (k := 16) rfl) hw rfl (vp_in_nI (n := 0) (by omega) (by omega)) ?_
      rw [show Int32.toNatClampNeg 0 = 0 from by decide]
      refine v_bipush (v := 45) (am_Dk d_MR_named (k := 17) rfl) (by decide) ?_
      refine v_icmp_ne (tgt := 91) (am_Dk d_MR_named (k := 18) rfl) (by decide) (fun c175 => ?_) (fun c175 => ?_)
      · have hcp2 : ¬ ((tok f n (tok f n a).2.2.1).2.1 = (tok f n a).2.2.1 ∧ (tok f n (tok f n a).2.2.1).1 = 1 ∧ (tok f n a).2.2.2.2 = 18) := fun z => c175 (sp18.mp (hsp.trans z.2.2)).2
        refine v_aload_n (am_Dk d_MR_named (k := 47) rfl) rfl ?_
        refine v_callV (rest := []) (As := []) (mc' := 0) (ms' := 0) (am_Dk d_MR_named (k := 48) rfl) c_MR_201 (Or.inl ⟨_, _, _, _, _, hr, cq_ok12⟩) (t_MR_prefix G (d := 5) (le := 0) (by omega) hr hw (by omega)) (by omega) (by omega) (by omega) (by simp [Value.category]) rfl (fun v176 M177 n178 h179 => ?_) (fun _ _ _ h179 => ?_)
        rotate_left
        · exact absurd h179.1 (by simp)
        obtain ⟨h179, e180, e181⟩ := h179
        replace e180 := e180.symm
        replace e181 := e181.symm
        subst e180
        subst e181
        cases h179
        show am_V G _ _ _ _ _ 95 [(0, .ref 1225), (1, .int mo)] [.int (if tk = 3 then pfN (spg l g) else -1)] M nx 0 0
        rw [show (if tk = 3 then pfN (spg l g) else -1) = pfN (tok f n a).2.2.2.2 from by rw [if_pos htk3, hsp]]
        show am_V G _ _ _ _ _ 95 [(0, .ref 1225), (1, .int mo)] [.int (pfN (tok f n a).2.2.2.2)] M nx 0 0
        refine v_istore_n (L1 := [(2, .int (pfN (tok f n a).2.2.2.2)), (0, .ref 1225), (1, .int mo)]) (am_Dk d_MR_named (k := 49) rfl) (by decide) rfl ?_
        refine v_aload_n (am_Dk d_MR_named (k := 50) rfl) rfl ?_
        obtain ⟨⟨Kd182, Nm182, Fi182, Ma182, Pa182, Nu182⟩, T182, F182, Va182, hX182⟩ := RS_fr (M1 := M) hR (fun i hi => rfl)
        refine v_callV (rest := []) (As := []) (mc' := 0) (ms' := 0) (am_Dk d_MR_named (k := 51) rfl) c_MR_212 (Or.inl ⟨_, _, _, _, _, hr, cq_ok12⟩) (t_MR_name G (d := 2) (le := 0) (l := l) (by omega) hr hw hg (by omega) hX182 (by omega) (by omega)) (by omega) (by omega) (by omega) (by simp [Value.category]) rfl (fun v183 M184 n185 h186 => ?_) (fun _ _ _ h186 => ?_)
        rotate_left
        · obtain ⟨_, _, _, _, _, _, hx9, _⟩ := h186; cases hx9
        obtain ⟨k187, ns188, tx189, On190, T9, F9, h186, ex9, q1911, q1912, q1913, q1914, q1915, q1916, q1917⟩ := h186
        cases h186
        replace ex9 := ex9.symm
        subst ex9
        have b192 : M184 1225 = some (.inr (12, [.ref 1226, .ref 1227, .ref 1228, .ref 1213, .ref 1220, .ref 1212, .int (nI n), .int (nI ((tok f n a).2.1)), .int (nI ((tok f n a).2.2.1)), .int tk, .int (nI (o + 1)), .long nu, .ref 1229, .int (nI l), .ref 1230, .int (nI tp), .int (-1), .ref 1231, .int (nI vb), .int kn, .int 0, .ref 1232])) := (q1917 1225 (by omega)).trans (hr)
        have b193 : M184 1229 = some (.inl (0, 4096, .inl g)) := (q1917 1229 (by omega)).trans (hw)
        have b194 : M184 1230 = some (.inl (1, 4200, .inl S)) := (q1917 1230 (by omega)).trans (hS)
        have b195 : M184 1232 = some (.inl (0, 4096, .inl kc)) := (q1917 1232 (by omega)).trans (hkc)
        have hm196 : mb f M184 := mb_fr hm (fun i hi => (q1917 i (by omega)).trans (rfl))
        have fr197 : pf_fr M M184 := fun i hi => (q1917 i (by omega)).trans ((fr0 i hi))
        have hR198 : RS LU M184 sz pt ns188 tx189 vb e1 e2 W On190 Vx := ⟨_, _, _, _, q1911⟩
        show am_V G _ _ _ _ _ 100 [(2, .int (pfN (tok f n a).2.2.2.2)), (0, .ref 1225), (1, .int mo)] [.int (nI k187)] M184 nx 0 0
        refine v_istore_n (L1 := [(3, .int (nI k187)), (2, .int (pfN (tok f n a).2.2.2.2)), (0, .ref 1225), (1, .int mo)]) (am_Dk d_MR_named (k := 52) rfl) (by decide) rfl ?_
        refine v_aload_n (am_Dk d_MR_named (k := 53) rfl) rfl ?_
        refine v_callV (rest := []) (As := []) (mc' := 0) (ms' := 0) (am_Dk d_MR_named (k := 54) rfl) c_MR_113 (Or.inl ⟨_, _, _, _, _, b192, cq_ok12⟩) (t_MR_scan G (d := 5) (be := 0) (a := (tok f n a).2.2.1) (by omega) b192 hm196.1 hn hb (by omega) b193 hg) (by omega) (by omega) (by omega) (by simp [Value.category]) rfl (fun v199 M200 n201 h202 => ?_) (fun _ _ _ h202 => ?_)
        rotate_left
        · obtain ⟨_, _, _, _, hx9, _⟩ := h202; cases hx9
        obtain ⟨tk203, nu204, l205, g206, h202, ex9, e207, hs208, hg209⟩ := h202
        replace e207 := e207.symm
        replace ex9 := ex9.symm
        subst e207
        subst ex9
        cases h202
        have k_hs208 := tok_ok f (show (tok f n a).2.2.1 ≤ n from by omega)
        have p_hs208 := tok_pos f (show (tok f n a).2.2.1 ≤ n from by omega)
        have l_hs208 := hs208.2.2.1
        show am_V G _ _ _ _ _ 105 [(3, .int (nI k187)), (2, .int (pfN (tok f n a).2.2.2.2)), (0, .ref 1225), (1, .int mo)] [] (am_up (am_up M184 1229 (.inl (0, 4096, .inl g206))) 1225 (.inr (12, [.ref 1226, .ref 1227, .ref 1228, .ref 1213, .ref 1220, .ref 1212, .int (nI n), .int (nI (tok f n ((tok f n a).2.2.1)).2.1), .int (nI (tok f n ((tok f n a).2.2.1)).2.2.1), .int tk203, .int (nI (o + 1)), .long nu204, .ref 1229, .int (nI l205), .ref 1230, .int (nI tp), .int (-1), .ref 1231, .int (nI vb), .int kn, .int 0, .ref 1232]))) nx 0 0
        refine v_iload_n (am_Dk d_MR_named (k := 55) rfl) rfl ?_
        refine v_iconst (v := (-1)) (am_Dk d_MR_named (k := 56) rfl) (by decide) ?_
        refine v_icmp_eq (tgt := 122) (am_Dk d_MR_named (k := 57) rfl) (by decide) (fun c210 => ?_) (fun c210 => ?_)
        · have hnpf : ¬ c_pf f n mo a := fun z => hpfc.elim (fun y => y.2 z.1) (fun y => y.1 c210)
          refine v_aload_n (am_Dk d_MR_named (k := 64) rfl) rfl ?_
          have m211 : (am_up (am_up M184 1229 (.inl (0, 4096, .inl g206))) 1225 (.inr (12, [.ref 1226, .ref 1227, .ref 1228, .ref 1213, .ref 1220, .ref 1212, .int (nI n), .int (nI (tok f n ((tok f n a).2.2.1)).2.1), .int (nI (tok f n ((tok f n a).2.2.1)).2.2.1), .int tk203, .int (nI (o + 1)), .long nu204, .ref 1229, .int (nI l205), .ref 1230, .int (nI tp), .int (-1), .ref 1231, .int (nI vb), .int kn, .int 0, .ref 1232]))) 1225 = some (.inr (12, [.ref 1226, .ref 1227, .ref 1228, .ref 1213, .ref 1220, .ref 1212, .int (nI n), .int (nI (tok f n ((tok f n a).2.2.1)).2.1), .int (nI (tok f n ((tok f n a).2.2.1)).2.2.1), .int tk203, .int (nI (o + 1)), .long nu204, .ref 1229, .int (nI l205), .ref 1230, .int (nI tp), .int (-1), .ref 1231, .int (nI vb), .int kn, .int 0, .ref 1232])) := am_up_eq _ _ _
          refine v_get (am_Dk d_MR_named (k := 65) rfl) f_MR_81 m211 rfl ?_
          refine v_iload_n (am_Dk d_MR_named (k := 66) rfl) rfl ?_
          obtain ⟨⟨Kd212, Nm212, Fi212, Ma212, Pa212, Nu212⟩, T212, F212, Va212, hX212⟩ := RS_fr (M1 := (am_up (am_up M184 1229 (.inl (0, 4096, .inl g206))) 1225 (.inr (12, [.ref 1226, .ref 1227, .ref 1228, .ref 1213, .ref 1220, .ref 1212, .int (nI n), .int (nI (tok f n ((tok f n a).2.2.1)).2.1), .int (nI (tok f n ((tok f n a).2.2.1)).2.2.1), .int tk203, .int (nI (o + 1)), .long nu204, .ref 1229, .int (nI l205), .ref 1230, .int (nI tp), .int (-1), .ref 1231, .int (nI vb), .int kn, .int 0, .ref 1232])))) hR198 (fun i hi => (am_up_ne (show i ≠ 1225 from by omega)).trans ((am_up_ne (show i ≠ 1229 from by omega)).trans (rfl)))
          refine v_callV (rest := []) (As := [.int (nI k187)]) (mc' := 0) (ms' := 0) (am_Dk d_MR_named (k := 67) rfl) c_MR_252 (Or.inl ⟨_, _, _, _, _, (RS_o1213 (RS_fr (M1 := (am_up (am_up M184 1229 (.inl (0, 4096, .inl g206))) 1225 (.inr (12, [.ref 1226, .ref 1227, .ref 1228, .ref 1213, .ref 1220, .ref 1212, .int (nI n), .int (nI (tok f n ((tok f n a).2.2.1)).2.1), .int (nI (tok f n ((tok f n a).2.2.1)).2.2.1), .int tk203, .int (nI (o + 1)), .long nu204, .ref 1229, .int (nI l205), .ref 1230, .int (nI tp), .int (-1), .ref 1231, .int (nI vb), .int kn, .int 0, .ref 1232])))) hR198 (fun i hi => (am_up_ne (show i ≠ 1225 from by omega)).trans ((am_up_ne (show i ≠ 1229 from by omega)).trans (rfl))))), cq_ok10⟩) (t_MT_atom G (d := 0) (by omega) hX212.1 (by omega)) (by omega) (by omega) (by omega) (by simp [Value.category]) rfl (fun v213 M214 n215 h216 => ?_) (fun _ _ _ h216 => ?_)
          rotate_left
          · exact absurd h216.1 (by simp)
          obtain ⟨h216, hA217, hf218, ex9⟩ := h216
          cases h216
          replace ex9 := ex9.symm
          subst ex9
          have hR219 := RS_atom hX212 (k := k187) (by omega) hA217 hf218
          obtain ⟨W220, hW221⟩ : ∃ W9, W9 = gu W sz (2, 0) (0, 0, 0) none := ⟨_, rfl⟩
          rw [← hW221] at hR219
          have ge222 : gh_eq sz W W220 := by rw [hW221]; exact gu_eq _ _ _ _ _
          have at223 := gu_at W sz (2, 0) (0, 0, 0) none
          rw [← hW221] at at223
          have b224 : M214 1225 = some (.inr (12, [.ref 1226, .ref 1227, .ref 1228, .ref 1213, .ref 1220, .ref 1212, .int (nI n), .int (nI (tok f n ((tok f n a).2.2.1)).2.1), .int (nI (tok f n ((tok f n a).2.2.1)).2.2.1), .int tk203, .int (nI (o + 1)), .long nu204, .ref 1229, .int (nI l205), .ref 1230, .int (nI tp), .int (-1), .ref 1231, .int (nI vb), .int kn, .int 0, .ref 1232])) := (hf218 1225 (by omega)).trans (am_up_eq _ _ _)
          have b225 : M214 1229 = some (.inl (0, 4096, .inl g206)) := (hf218 1229 (by omega)).trans ((am_up_ne (show 1229 ≠ 1225 from by decide)).trans (am_up_eq _ _ _))
          have b226 : M214 1230 = some (.inl (1, 4200, .inl S)) := (hf218 1230 (by omega)).trans ((am_up_ne (show 1230 ≠ 1225 from by decide)).trans ((am_up_ne (show 1230 ≠ 1229 from by decide)).trans (b194)))
          have b227 : M214 1232 = some (.inl (0, 4096, .inl kc)) := (hf218 1232 (by omega)).trans ((am_up_ne (show 1232 ≠ 1225 from by decide)).trans ((am_up_ne (show 1232 ≠ 1229 from by decide)).trans (b195)))
          have hm228 : mb f M214 := mb_fr hm196 (fun i hi => (hf218 i (by omega)).trans ((am_up_ne (show i ≠ 1225 from by omega)).trans ((am_up_ne (show i ≠ 1229 from by omega)).trans (rfl))))
          have fr229 : pf_fr M M214 := fun i hi => (hf218 i (by omega)).trans ((am_up_ne (show i ≠ 1225 from by omega)).trans ((am_up_ne (show i ≠ 1229 from by omega)).trans ((fr197 i hi))))
          have hR230 : RS LU M214 (sz + 1) pt ns188 tx189 vb e1 e2 W220 On190 Vx := ⟨_, _, _, _, hR219⟩
          show am_V G _ _ _ _ _ 130 [(3, .int (nI k187)), (2, .int (pfN (tok f n a).2.2.2.2)), (0, .ref 1225), (1, .int mo)] [.int (nI sz)] M214 nx 0 0
          have hcpl : c_pl f n a := ⟨n40, hcp2⟩
          have hpx9 : (¬ c_pf f n mo a) ∨ (c_pf f n mo a ∧ ((tok f n (tok f n a).2.2.1).1 = 10 ∨ (tok f n (tok f n a).2.2.1).1 = 11)) := by first | exact Or.inl hnpf | exact hpx
          have hres : TRes f n lu o mo a sz W220 (tok f n a).2.2.1 0 (sz + 1) sz := by
            rcases hpx9 with z | ⟨z1, z2⟩
            · exact Or.inl ⟨_, _, _, _, by rw [Nat.add_sub_cancel_left]; exact q_atom pb_0 hk2 hcpl z, ⟨at223.1, by rw [at223.2.2]; exact (by decide : ¬ (0 : Int32) < 0)⟩, by rw [at223.2.1], fun z => absurd rfl z⟩
            · exact Or.inr ⟨z2, q_preX hn pb_0 hk2 hcpl z1 z2⟩
          exact v_ireturn (am_Dk d_MR_named (k := 68) rfl) rfl rfl (by omega) (by omega) ⟨rfl, (fun i hi => (fr229 i hi)), Or.inl ⟨sz, ((tok f n a).2.2.1), S, 0, (sz + 1), pt, ns188, tx189, vb, e1, e2, W220, On190, Vx, rfl, (show PS f n LU M214 ((tok f n a).2.2.1) (o + 1) tp S 0 (sz + 1) pt ns188 tx189 vb e1 e2 W220 On190 Vx from ⟨⟨by omega, by omega, by omega, by omega, by omega, by omega, by omega, by omega, by omega, by omega⟩, mb_fr hm228 (fun i hi => rfl), RS_fr hR230 (fun i hi => rfl), b226, ⟨_, b227⟩, tk203, nu204, l205, g206, kn, b224, hs208, b225, hg209⟩), ⟨by omega, by omega, ge222, by omega, q1915, fun _ _ => rfl, by omega, by omega, by omega⟩, hres, trivial⟩⟩
        · obtain ⟨hp0, hpk, hp2⟩ := (hpfc.resolve_left (fun y => c210 y.1)).2
          refine v_iload_n (am_Dk d_MR_named (k := 58) rfl) rfl ?_
          refine v_iload_n (am_Dk d_MR_named (k := 59) rfl) rfl ?_
          refine v_icmp_gt (tgt := 122) (am_Dk d_MR_named (k := 60) rfl) (by decide) (fun c231 => ?_) (fun c231 => ?_)
          · have hnpf : ¬ c_pf f n mo a := fun z => absurd z.2.1 (Int32.not_le.mpr (by rw [← hpk]; exact c231))
            refine v_aload_n (am_Dk d_MR_named (k := 64) rfl) rfl ?_
            have m232 : (am_up (am_up M184 1229 (.inl (0, 4096, .inl g206))) 1225 (.inr (12, [.ref 1226, .ref 1227, .ref 1228, .ref 1213, .ref 1220, .ref 1212, .int (nI n), .int (nI (tok f n ((tok f n a).2.2.1)).2.1), .int (nI (tok f n ((tok f n a).2.2.1)).2.2.1), .int tk203, .int (nI (o + 1)), .long nu204, .ref 1229, .int (nI l205), .ref 1230, .int (nI tp), .int (-1), .ref 1231, .int (nI vb), .int kn, .int 0, .ref 1232]))) 1225 = some (.inr (12, [.ref 1226, .ref 1227, .ref 1228, .ref 1213, .ref 1220, .ref 1212, .int (nI n), .int (nI (tok f n ((tok f n a).2.2.1)).2.1), .int (nI (tok f n ((tok f n a).2.2.1)).2.2.1), .int tk203, .int (nI (o + 1)), .long nu204, .ref 1229, .int (nI l205), .ref 1230, .int (nI tp), .int (-1), .ref 1231, .int (nI vb), .int kn, .int 0, .ref 1232])) := am_up_eq _ _ _
            refine v_get (am_Dk d_MR_named (k := 65) rfl) f_MR_81 m232 rfl ?_
            refine v_iload_n (am_Dk d_MR_named (k := 66) rfl) rfl ?_
            obtain ⟨⟨Kd233, Nm233, Fi233, Ma233, Pa233, Nu233⟩, T233, F233, Va233, hX233⟩ := RS_fr (M1 := (am_up (am_up M184 1229 (.inl (0, 4096, .inl g206))) 1225 (.inr (12, [.ref 1226, .ref 1227, .ref 1228, .ref 1213, .ref 1220, .ref 1212, .int (nI n), .int (nI (tok f n ((tok f n a).2.2.1)).2.1), .int (nI (tok f n ((tok f n a).2.2.1)).2.2.1), .int tk203, .int (nI (o + 1)), .long nu204, .ref 1229, .int (nI l205), .ref 1230, .int (nI tp), .int (-1), .ref 1231, .int (nI vb), .int kn, .int 0, .ref 1232])))) hR198 (fun i hi => (am_up_ne (show i ≠ 1225 from by omega)).trans ((am_up_ne (show i ≠ 1229 from by omega)).trans (rfl)))
            refine v_callV (rest := []) (As := [.int (nI k187)]) (mc' := 0) (ms' := 0) (am_Dk d_MR_named (k := 67) rfl) c_MR_252 (Or.inl ⟨_, _, _, _, _, (RS_o1213 (RS_fr (M1 := (am_up (am_up M184 1229 (.inl (0, 4096, .inl g206))) 1225 (.inr (12, [.ref 1226, .ref 1227, .ref 1228, .ref 1213, .ref 1220, .ref 1212, .int (nI n), .int (nI (tok f n ((tok f n a).2.2.1)).2.1), .int (nI (tok f n ((tok f n a).2.2.1)).2.2.1), .int tk203, .int (nI (o + 1)), .long nu204, .ref 1229, .int (nI l205), .ref 1230, .int (nI tp), .int (-1), .ref 1231, .int (nI vb), .int kn, .int 0, .ref 1232])))) hR198 (fun i hi => (am_up_ne (show i ≠ 1225 from by omega)).trans ((am_up_ne (show i ≠ 1229 from by omega)).trans (rfl))))), cq_ok10⟩) (t_MT_atom G (d := 0) (by omega) hX233.1 (by omega)) (by omega) (by omega) (by omega) (by simp [Value.category]) rfl (fun v234 M235 n236 h237 => ?_) (fun _ _ _ h237 => ?_)
            rotate_left
            · exact absurd h237.1 (by simp)
            obtain ⟨h237, hA238, hf239, ex9⟩ := h237
            cases h237
            replace ex9 := ex9.symm
            subst ex9
            have hR240 := RS_atom hX233 (k := k187) (by omega) hA238 hf239
            obtain ⟨W241, hW242⟩ : ∃ W9, W9 = gu W sz (2, 0) (0, 0, 0) none := ⟨_, rfl⟩
            rw [← hW242] at hR240
            have ge243 : gh_eq sz W W241 := by rw [hW242]; exact gu_eq _ _ _ _ _
            have at244 := gu_at W sz (2, 0) (0, 0, 0) none
            rw [← hW242] at at244
            have b245 : M235 1225 = some (.inr (12, [.ref 1226, .ref 1227, .ref 1228, .ref 1213, .ref 1220, .ref 1212, .int (nI n), .int (nI (tok f n ((tok f n a).2.2.1)).2.1), .int (nI (tok f n ((tok f n a).2.2.1)).2.2.1), .int tk203, .int (nI (o + 1)), .long nu204, .ref 1229, .int (nI l205), .ref 1230, .int (nI tp), .int (-1), .ref 1231, .int (nI vb), .int kn, .int 0, .ref 1232])) := (hf239 1225 (by omega)).trans (am_up_eq _ _ _)
            have b246 : M235 1229 = some (.inl (0, 4096, .inl g206)) := (hf239 1229 (by omega)).trans ((am_up_ne (show 1229 ≠ 1225 from by decide)).trans (am_up_eq _ _ _))
            have b247 : M235 1230 = some (.inl (1, 4200, .inl S)) := (hf239 1230 (by omega)).trans ((am_up_ne (show 1230 ≠ 1225 from by decide)).trans ((am_up_ne (show 1230 ≠ 1229 from by decide)).trans (b194)))
            have b248 : M235 1232 = some (.inl (0, 4096, .inl kc)) := (hf239 1232 (by omega)).trans ((am_up_ne (show 1232 ≠ 1225 from by decide)).trans ((am_up_ne (show 1232 ≠ 1229 from by decide)).trans (b195)))
            have hm249 : mb f M235 := mb_fr hm196 (fun i hi => (hf239 i (by omega)).trans ((am_up_ne (show i ≠ 1225 from by omega)).trans ((am_up_ne (show i ≠ 1229 from by omega)).trans (rfl))))
            have fr250 : pf_fr M M235 := fun i hi => (hf239 i (by omega)).trans ((am_up_ne (show i ≠ 1225 from by omega)).trans ((am_up_ne (show i ≠ 1229 from by omega)).trans ((fr197 i hi))))
            have hR251 : RS LU M235 (sz + 1) pt ns188 tx189 vb e1 e2 W241 On190 Vx := ⟨_, _, _, _, hR240⟩
            show am_V G _ _ _ _ _ 130 [(3, .int (nI k187)), (2, .int (pfN (tok f n a).2.2.2.2)), (0, .ref 1225), (1, .int mo)] [.int (nI sz)] M235 nx 0 0
            have hcpl : c_pl f n a := ⟨n40, hcp2⟩
            have hpx9 : (¬ c_pf f n mo a) ∨ (c_pf f n mo a ∧ ((tok f n (tok f n a).2.2.1).1 = 10 ∨ (tok f n (tok f n a).2.2.1).1 = 11)) := by first | exact Or.inl hnpf | exact hpx
            have hres : TRes f n lu o mo a sz W241 (tok f n a).2.2.1 0 (sz + 1) sz := by
              rcases hpx9 with z | ⟨z1, z2⟩
              · exact Or.inl ⟨_, _, _, _, by rw [Nat.add_sub_cancel_left]; exact q_atom pb_0 hk2 hcpl z, ⟨at244.1, by rw [at244.2.2]; exact (by decide : ¬ (0 : Int32) < 0)⟩, by rw [at244.2.1], fun z => absurd rfl z⟩
              · exact Or.inr ⟨z2, q_preX hn pb_0 hk2 hcpl z1 z2⟩
            exact v_ireturn (am_Dk d_MR_named (k := 68) rfl) rfl rfl (by omega) (by omega) ⟨rfl, (fun i hi => (fr250 i hi)), Or.inl ⟨sz, ((tok f n a).2.2.1), S, 0, (sz + 1), pt, ns188, tx189, vb, e1, e2, W241, On190, Vx, rfl, (show PS f n LU M235 ((tok f n a).2.2.1) (o + 1) tp S 0 (sz + 1) pt ns188 tx189 vb e1 e2 W241 On190 Vx from ⟨⟨by omega, by omega, by omega, by omega, by omega, by omega, by omega, by omega, by omega, by omega⟩, mb_fr hm249 (fun i hi => rfl), RS_fr hR251 (fun i hi => rfl), b247, ⟨_, b248⟩, tk203, nu204, l205, g206, kn, b245, hs208, b246, hg209⟩), ⟨by omega, by omega, ge243, by omega, q1915, fun _ _ => rfl, by omega, by omega, by omega⟩, hres, trivial⟩⟩
          · have hle : kn_pf (tok f n a).2.2.2.2 ≤ mo := by rw [← hpk]; exact Int32.not_lt.mp c231
            refine v_aload_n (am_Dk d_MR_named (k := 61) rfl) rfl ?_
            obtain ⟨sd9, rkA9, hsd9, hsk9, hra9, hrk9⟩ := (mb_fr (M1 := (am_up (am_up M184 1229 (.inl (0, 4096, .inl g206))) 1225 (.inr (12, [.ref 1226, .ref 1227, .ref 1228, .ref 1213, .ref 1220, .ref 1212, .int (nI n), .int (nI (tok f n ((tok f n a).2.2.1)).2.1), .int (nI (tok f n ((tok f n a).2.2.1)).2.2.1), .int tk203, .int (nI (o + 1)), .long nu204, .ref 1229, .int (nI l205), .ref 1230, .int (nI tp), .int (-1), .ref 1231, .int (nI vb), .int kn, .int 0, .ref 1232])))) hm196 (fun i hi => (am_up_ne (show i ≠ 1225 from by omega)).trans ((am_up_ne (show i ≠ 1229 from by omega)).trans (rfl)))).2.1
            have m252 : (am_up (am_up M184 1229 (.inl (0, 4096, .inl g206))) 1225 (.inr (12, [.ref 1226, .ref 1227, .ref 1228, .ref 1213, .ref 1220, .ref 1212, .int (nI n), .int (nI (tok f n ((tok f n a).2.2.1)).2.1), .int (nI (tok f n ((tok f n a).2.2.1)).2.2.1), .int tk203, .int (nI (o + 1)), .long nu204, .ref 1229, .int (nI l205), .ref 1230, .int (nI tp), .int (-1), .ref 1231, .int (nI vb), .int kn, .int 0, .ref 1232]))) 1225 = some (.inr (12, [.ref 1226, .ref 1227, .ref 1228, .ref 1213, .ref 1220, .ref 1212, .int (nI n), .int (nI (tok f n ((tok f n a).2.2.1)).2.1), .int (nI (tok f n ((tok f n a).2.2.1)).2.2.1), .int tk203, .int (nI (o + 1)), .long nu204, .ref 1229, .int (nI l205), .ref 1230, .int (nI tp), .int (-1), .ref 1231, .int (nI vb), .int kn, .int 0, .ref 1232])) := am_up_eq _ _ _
            have m253 : (am_up (am_up M184 1229 (.inl (0, 4096, .inl g206))) 1225 (.inr (12, [.ref 1226, .ref 1227, .ref 1228, .ref 1213, .ref 1220, .ref 1212, .int (nI n), .int (nI (tok f n ((tok f n a).2.2.1)).2.1), .int (nI (tok f n ((tok f n a).2.2.1)).2.2.1), .int tk203, .int (nI (o + 1)), .long nu204, .ref 1229, .int (nI l205), .ref 1230, .int (nI tp), .int (-1), .ref 1231, .int (nI vb), .int kn, .int 0, .ref 1232]))) 1229 = some (.inl (0, 4096, .inl g206)) := (am_up_ne (show 1229 ≠ 1225 from by decide)).trans (am_up_eq _ _ _)
            refine v_callV (rest := []) (As := []) (mc' := 0) (ms' := 0) (am_Dk d_MR_named (k := 62) rfl) c_MR_248 (Or.inl ⟨_, _, _, _, _, m252, cq_ok12⟩) (t_MR_begins G (d := 6) (le := 0) (by omega) m252 m253 (by omega) hsd9 hsk9 hra9 hrk9) (by omega) (by omega) (by omega) (by simp [Value.category]) rfl (fun v254 M255 n256 h257 => ?_) (fun _ _ _ h257 => ?_)
            rotate_left
            · exact absurd h257.1 (by simp)
            obtain ⟨h257, e258, e259⟩ := h257
            replace e258 := e258.symm
            replace e259 := e259.symm
            subst e258
            subst e259
            cases h257
            show am_V G _ _ _ _ _ 119 [(3, .int (nI k187)), (2, .int (pfN (tok f n a).2.2.2.2)), (0, .ref 1225), (1, .int mo)] [.int (bi (decide (¬ (tk203 = 5 ∨ tk203 = 7 ∨ tk203 = 9 ∨ tk203 = 10 ∨ tk203 = 11 ∨ tk203 = 0 ∨ tk203 = 13) ∧ ((if tk203 = 10 then 1000 else if tk203 = 3 then rkN (spg l205 g206) else -1) = -1 ∨ ¬ (if tk203 = 3 then pfN (spg l205 g206) else -1) = -1))))] (am_up (am_up M184 1229 (.inl (0, 4096, .inl g206))) 1225 (.inr (12, [.ref 1226, .ref 1227, .ref 1228, .ref 1213, .ref 1220, .ref 1212, .int (nI n), .int (nI (tok f n ((tok f n a).2.2.1)).2.1), .int (nI (tok f n ((tok f n a).2.2.1)).2.2.1), .int tk203, .int (nI (o + 1)), .long nu204, .ref 1229, .int (nI l205), .ref 1230, .int (nI tp), .int (-1), .ref 1231, .int (nI vb), .int kn, .int 0, .ref 1232]))) nx 0 0
            refine v_if_ne (tgt := 131) (am_Dk d_MR_named (k := 63) rfl) (by decide) (fun c260 => ?_) (fun c260 => ?_)
            · have hcan := (beg_can (by omega) hs208).1 (bi1 c260)
              have hcpf : c_pf f n mo a := ⟨hp0, hle, hcan⟩
              rw [hpk]
              refine v_aload_n (am_Dk d_MR_named (k := 69) rfl) rfl ?_
              refine v_get (am_Dk d_MR_named (k := 70) rfl) f_MR_102 m252 rfl ?_
              refine v_istore (L1 := [(4, .int (nI tp)), (3, .int (nI k187)), (2, .int (kn_pf (tok f n a).2.2.2.2)), (0, .ref 1225), (1, .int mo)]) (am_Dk d_MR_named (k := 71) rfl) (by decide) rfl ?_
              refine v_aload_n (am_Dk d_MR_named (k := 72) rfl) rfl ?_
              refine v_iload_n (am_Dk d_MR_named (k := 73) rfl) rfl ?_
              have ps261 := (show PS f n LU (am_up (am_up M184 1229 (.inl (0, 4096, .inl g206))) 1225 (.inr (12, [.ref 1226, .ref 1227, .ref 1228, .ref 1213, .ref 1220, .ref 1212, .int (nI n), .int (nI (tok f n ((tok f n a).2.2.1)).2.1), .int (nI (tok f n ((tok f n a).2.2.1)).2.2.1), .int tk203, .int (nI (o + 1)), .long nu204, .ref 1229, .int (nI l205), .ref 1230, .int (nI tp), .int (-1), .ref 1231, .int (nI vb), .int kn, .int 0, .ref 1232]))) ((tok f n a).2.2.1) (o + 1) tp S 0 sz pt ns188 tx189 vb e1 e2 W On190 Vx from ⟨⟨by omega, by omega, by omega, by omega, by omega, by omega, by omega, by omega, by omega, by omega⟩, mb_fr hm196 (fun i hi => (am_up_ne (show i ≠ 1225 from by omega)).trans ((am_up_ne (show i ≠ 1229 from by omega)).trans (rfl))), RS_fr hR198 (fun i hi => (am_up_ne (show i ≠ 1225 from by omega)).trans ((am_up_ne (show i ≠ 1229 from by omega)).trans (rfl))), (am_up_ne (show 1230 ≠ 1225 from by decide)).trans ((am_up_ne (show 1230 ≠ 1229 from by decide)).trans (b194)), ⟨_, (am_up_ne (show 1232 ≠ 1225 from by decide)).trans ((am_up_ne (show 1232 ≠ 1229 from by decide)).trans (b195))⟩, tk203, nu204, l205, g206, kn, am_up_eq _ _ _, hs208, (am_up_ne (show 1229 ≠ 1225 from by decide)).trans (am_up_eq _ _ _), hg209⟩)
              refine v_callV (rest := []) (As := [.int (kn_pf (tok f n a).2.2.2.2)]) (mc' := 0) (ms' := 0) (am_Dk d_MR_named (k := 74) rfl) c_MR_119 (Or.inl ⟨_, _, _, _, _, m252, cq_ok12⟩) (IH _ _ (kn_pf (tok f n a).2.2.2.2) _ _ _ _ _ _ _ _ _ _ _ _ _ _ ps261 hp2) (by omega) (by omega) (by omega) (by simp [Value.category]) rfl (fun v262 M263 n264 h265 => ?_) (fun x9 M263 n264 h265 => ?_)
              rotate_left
              · obtain ⟨ex9, pfT, hT⟩ := h265
                replace ex9 := ex9.symm
                subst ex9
                rcases hT with ⟨_, _, _, _, _, _, _, _, _, _, _, _, _, _, hx9, _⟩ | ⟨wT, hx9, pxT, bT⟩
                · cases hx9
                · cases hx9
                  have hcpl : c_pl f n a := ⟨n40, hcp2⟩
                  exact vt_leave (fun q hq => by cases hq) (by omega) (by omega) ⟨rfl, (fun i hi => (pfT i hi).trans ((am_up_ne (show i ≠ 1225 from by omega)).trans ((am_up_ne (show i ≠ 1229 from by omega)).trans ((fr197 i hi))))), Or.inr ⟨wT, rfl, pxT, q_preB hn pb_0 hk2 hcpl hcpf (bT.elim (fun z => Or.inl ⟨by omega, z.2⟩) (fun z => Or.inr ⟨z.1, z.2⟩))⟩⟩
              obtain ⟨ex9, pf280, hT⟩ := h265
              replace ex9 := ex9.symm
              subst ex9
              rcases hT with ⟨t266, a267, S268, rk269, sz270, pt271, ns272, tx273, vb274, e1275, e2276, W277, On278, Vx279, hx9, psx, pe281, tr282, ee283⟩ | ⟨_, hx9, _⟩
              rotate_left
              · cases hx9
              cases hx9
              obtain ⟨pb289, hm290, hR291, hS292, ⟨kc293, hk294⟩, tk284, nu285, l286, g287, kn288, hr295, hs296, hw297, hg298⟩ := psx
              obtain ⟨pb289_0, pb289_1, pb289_2, pb289_3, pb289_4, pb289_5, pb289_6, pb289_7, pb289_8, pb289_9⟩ := pb289
              obtain ⟨pe281_0, pe281_1, pe281_2, pe281_3, pe281_4, pe281_5, pe281_6, pe281_7, pe281_8⟩ := pe281
              replace hr295 : M263 1225 = some (.inr (12, [.ref 1226, .ref 1227, .ref 1228, .ref 1213, .ref 1220, .ref 1212, .int (nI n), .int (nI ((tok f n a267).2.1)), .int (nI ((tok f n a267).2.2.1)), .int tk284, .int (nI (o + 1)), .long nu285, .ref 1229, .int (nI l286), .ref 1230, .int (nI tp), .int (-1), .ref 1231, .int (nI vb274), .int kn288, .int rk269, .ref 1232])) := hr295
              have k_hs296 := tok_ok f pb289_0
              have p_hs296 := tok_pos f pb289_0
              have l_hs296 := hs296.2.2.1
              have fr299 : pf_fr M M263 := fun i hi => (pf280 i hi).trans ((am_up_ne (show i ≠ 1225 from by omega)).trans ((am_up_ne (show i ≠ 1229 from by omega)).trans ((fr197 i hi))))
              show am_V G _ _ _ _ _ 142 [(4, .int (nI tp)), (3, .int (nI k187)), (2, .int (kn_pf (tok f n a).2.2.2.2)), (0, .ref 1225), (1, .int mo)] [.int (nI t266)] M263 nx 0 0
              refine v_istore (L1 := [(5, .int (nI t266)), (4, .int (nI tp)), (3, .int (nI k187)), (2, .int (kn_pf (tok f n a).2.2.2.2)), (0, .ref 1225), (1, .int mo)]) (am_Dk d_MR_named (k := 75) rfl) (by decide) rfl ?_
              refine v_aload_n (am_Dk d_MR_named (k := 76) rfl) rfl ?_
              refine v_get (am_Dk d_MR_named (k := 77) rfl) f_MR_72 hr295 rfl ?_
              refine v_aload_n (am_Dk d_MR_named (k := 78) rfl) rfl ?_
              refine v_dup (am_Dk d_MR_named (k := 79) rfl) rfl ?_
              refine v_get (am_Dk d_MR_named (k := 80) rfl) f_MR_102 hr295 rfl ?_
              refine v_dup_x1 (am_Dk d_MR_named (k := 81) rfl) rfl rfl ?_
              refine v_iconst (v := 1) (am_Dk d_MR_named (k := 82) rfl) (by decide) ?_
              refine v_iadd (am_Dk d_MR_named (k := 83) rfl) ?_
              rw [nI_1]
              refine v_put (am_Dk d_MR_named (k := 84) rfl) f_MR_102 hr295 (Nat.le_of_ble_eq_true rfl) rfl rfl ?_
              refine v_iload (am_Dk d_MR_named (k := 85) rfl) rfl ?_
              have m300 : (am_up M263 1225 (.inr (12, [.ref 1226, .ref 1227, .ref 1228, .ref 1213, .ref 1220, .ref 1212, .int (nI n), .int (nI ((tok f n a267).2.1)), .int (nI ((tok f n a267).2.2.1)), .int tk284, .int (nI (o + 1)), .long nu285, .ref 1229, .int (nI l286), .ref 1230, .int (nI (tp + 1)), .int (-1), .ref 1231, .int (nI vb274), .int kn288, .int rk269, .ref 1232]))) 1230 = some (.inl (1, 4200, .inl S268)) := (am_up_ne (show 1230 ≠ 1225 from by decide)).trans (hS292)
              refine v_iast (am_Dk d_MR_named (k := 86) rfl) m300 rfl (vp_in_nI (by omega) (by omega)) ?_
              rw [nI_clamp (n := tp) (by omega)]
              refine v_aload_n (am_Dk d_MR_named (k := 87) rfl) rfl ?_
              have m301 : (am_up (am_up M263 1225 (.inr (12, [.ref 1226, .ref 1227, .ref 1228, .ref 1213, .ref 1220, .ref 1212, .int (nI n), .int (nI ((tok f n a267).2.1)), .int (nI ((tok f n a267).2.2.1)), .int tk284, .int (nI (o + 1)), .long nu285, .ref 1229, .int (nI l286), .ref 1230, .int (nI (tp + 1)), .int (-1), .ref 1231, .int (nI vb274), .int kn288, .int rk269, .ref 1232]))) 1230 (.inl (1, 4200, .inl (upd S268 (tp) (nI t266))))) 1225 = some (.inr (12, [.ref 1226, .ref 1227, .ref 1228, .ref 1213, .ref 1220, .ref 1212, .int (nI n), .int (nI ((tok f n a267).2.1)), .int (nI ((tok f n a267).2.2.1)), .int tk284, .int (nI (o + 1)), .long nu285, .ref 1229, .int (nI l286), .ref 1230, .int (nI (tp + 1)), .int (-1), .ref 1231, .int (nI vb274), .int kn288, .int rk269, .ref 1232])) := (am_up_ne (show 1225 ≠ 1230 from by decide)).trans (am_up_eq _ _ _)
              refine v_get (am_Dk d_MR_named (k := 88) rfl) f_MR_81 m301 rfl ?_
              refine v_iload_n (am_Dk d_MR_named (k := 89) rfl) rfl ?_
              refine v_aload_n (am_Dk d_MR_named (k := 90) rfl) rfl ?_
              refine v_get (am_Dk d_MR_named (k := 91) rfl) f_MR_72 m301 rfl ?_
              refine v_iload (am_Dk d_MR_named (k := 92) rfl) rfl ?_
              refine v_iconst (v := 1) (am_Dk d_MR_named (k := 93) rfl) (by decide) ?_
              obtain ⟨⟨Kd302, Nm302, Fi302, Ma302, Pa302, Nu302⟩, T302, F302, Va302, hX302⟩ := RS_fr (M1 := (am_up (am_up M263 1225 (.inr (12, [.ref 1226, .ref 1227, .ref 1228, .ref 1213, .ref 1220, .ref 1212, .int (nI n), .int (nI ((tok f n a267).2.1)), .int (nI ((tok f n a267).2.2.1)), .int tk284, .int (nI (o + 1)), .long nu285, .ref 1229, .int (nI l286), .ref 1230, .int (nI (tp + 1)), .int (-1), .ref 1231, .int (nI vb274), .int kn288, .int rk269, .ref 1232]))) 1230 (.inl (1, 4200, .inl (upd S268 (tp) (nI t266)))))) hR291 (fun i hi => (am_up_ne (show i ≠ 1230 from by omega)).trans ((am_up_ne (show i ≠ 1225 from by omega)).trans (rfl)))
              have m303 : (am_up (am_up M263 1225 (.inr (12, [.ref 1226, .ref 1227, .ref 1228, .ref 1213, .ref 1220, .ref 1212, .int (nI n), .int (nI ((tok f n a267).2.1)), .int (nI ((tok f n a267).2.2.1)), .int tk284, .int (nI (o + 1)), .long nu285, .ref 1229, .int (nI l286), .ref 1230, .int (nI (tp + 1)), .int (-1), .ref 1231, .int (nI vb274), .int kn288, .int rk269, .ref 1232]))) 1230 (.inl (1, 4200, .inl (upd S268 (tp) (nI t266))))) 1230 = some (.inl (1, 4200, .inl (upd S268 (tp) (nI t266)))) := am_up_eq _ _ _
              refine v_callV (rest := []) (As := [.int (nI k187), .ref 1230, .int (nI tp), .int 1]) (mc' := 0) (ms' := 0) (am_Dk d_MR_named (k := 94) rfl) c_MR_215 (Or.inl ⟨_, _, _, _, _, (RS_o1213 (RS_fr (M1 := (am_up (am_up M263 1225 (.inr (12, [.ref 1226, .ref 1227, .ref 1228, .ref 1213, .ref 1220, .ref 1212, .int (nI n), .int (nI ((tok f n a267).2.1)), .int (nI ((tok f n a267).2.2.1)), .int tk284, .int (nI (o + 1)), .long nu285, .ref 1229, .int (nI l286), .ref 1230, .int (nI (tp + 1)), .int (-1), .ref 1231, .int (nI vb274), .int kn288, .int rk269, .ref 1232]))) 1230 (.inl (1, 4200, .inl (upd S268 (tp) (nI t266)))))) hR291 (fun i hi => (am_up_ne (show i ≠ 1230 from by omega)).trans ((am_up_ne (show i ≠ 1225 from by omega)).trans (rfl))))), cq_ok10⟩) (t_MT_compound G (d := 0) (c := 1) (fr := tp) (by omega) hX302.1 (by omega) m303 (by omega) (by omega) (by omega)) (by omega) (by omega) (by omega) (by simp [Value.category]) rfl (fun v304 M305 n306 h307 => ?_) (fun _ _ _ h307 => ?_)
              rotate_left
              · exact absurd h307.1 (by simp)
              obtain ⟨h307, hA308, hf309, ex9⟩ := h307
              cases h307
              replace ex9 := ex9.symm
              subst ex9
              have hR310 := RS_comp hX302 (k := k187) (c := 1) (fr := tp) (y := (fun _ => t266)) (by omega) (by omega) (fun j hj => ⟨by omega, by rw [show tp + j = tp from by omega]; exact upd_at _ _ _⟩) hA308 hf309
              obtain ⟨W311, hW312⟩ : ∃ W9, W9 = gu W277 sz270 (if 1 = 1 then rk1 (On278 k187) (W277.1 ((fun _ => t266) 0)).1 (W277.1 ((fun _ => t266) 0)).2 else if 1 = 2 then rk2 (On278 k187) (W277.1 ((fun _ => t266) 0)).1 (W277.1 ((fun _ => t266) 0)).2 (W277.1 ((fun _ => t266) 1)).1 (W277.1 ((fun _ => t266) 1)).2 else (2, 0)) (if 1 = 2 then (On278 k187, (fun _ => t266) 0, (fun _ => t266) 1) else (0, 0, 0)) none := ⟨_, rfl⟩
              rw [← hW312] at hR310
              have ge313 : gh_eq sz270 W277 W311 := by rw [hW312]; exact gu_eq _ _ _ _ _
              have at314 := gu_at W277 sz270 (if 1 = 1 then rk1 (On278 k187) (W277.1 ((fun _ => t266) 0)).1 (W277.1 ((fun _ => t266) 0)).2 else if 1 = 2 then rk2 (On278 k187) (W277.1 ((fun _ => t266) 0)).1 (W277.1 ((fun _ => t266) 0)).2 (W277.1 ((fun _ => t266) 1)).1 (W277.1 ((fun _ => t266) 1)).2 else (2, 0)) (if 1 = 2 then (On278 k187, (fun _ => t266) 0, (fun _ => t266) 1) else (0, 0, 0)) none
              rw [← hW312] at at314
              have b315 : M305 1225 = some (.inr (12, [.ref 1226, .ref 1227, .ref 1228, .ref 1213, .ref 1220, .ref 1212, .int (nI n), .int (nI ((tok f n a267).2.1)), .int (nI ((tok f n a267).2.2.1)), .int tk284, .int (nI (o + 1)), .long nu285, .ref 1229, .int (nI l286), .ref 1230, .int (nI (tp + 1)), .int (-1), .ref 1231, .int (nI vb274), .int kn288, .int rk269, .ref 1232])) := (hf309 1225 (by omega)).trans ((am_up_ne (show 1225 ≠ 1230 from by decide)).trans (am_up_eq _ _ _))
              have b316 : M305 1229 = some (.inl (0, 4096, .inl g287)) := (hf309 1229 (by omega)).trans ((am_up_ne (show 1229 ≠ 1230 from by decide)).trans ((am_up_ne (show 1229 ≠ 1225 from by decide)).trans (hw297)))
              have b317 : M305 1230 = some (.inl (1, 4200, .inl (upd S268 (tp) (nI t266)))) := (hf309 1230 (by omega)).trans (am_up_eq _ _ _)
              have b318 : M305 1232 = some (.inl (0, 4096, .inl kc293)) := (hf309 1232 (by omega)).trans ((am_up_ne (show 1232 ≠ 1230 from by decide)).trans ((am_up_ne (show 1232 ≠ 1225 from by decide)).trans (hk294)))
              have hm319 : mb f M305 := mb_fr hm290 (fun i hi => (hf309 i (by omega)).trans ((am_up_ne (show i ≠ 1230 from by omega)).trans ((am_up_ne (show i ≠ 1225 from by omega)).trans (rfl))))
              have fr320 : pf_fr M M305 := fun i hi => (hf309 i (by omega)).trans ((am_up_ne (show i ≠ 1230 from by omega)).trans ((am_up_ne (show i ≠ 1225 from by omega)).trans ((fr299 i hi))))
              have hR321 : RS LU M305 (sz270 + 1) (pt271 + 1) ns272 tx273 vb274 e1275 e2276 W311 On278 Vx279 := ⟨_, _, _, _, hR310⟩
              show am_V G _ _ _ _ _ 177 [(5, .int (nI t266)), (4, .int (nI tp)), (3, .int (nI k187)), (2, .int (kn_pf (tok f n a).2.2.2.2)), (0, .ref 1225), (1, .int mo)] [.int (nI sz270)] M305 nx 0 0
              refine v_istore (L1 := [(6, .int (nI sz270)), (5, .int (nI t266)), (4, .int (nI tp)), (3, .int (nI k187)), (2, .int (kn_pf (tok f n a).2.2.2.2)), (0, .ref 1225), (1, .int mo)]) (am_Dk d_MR_named (k := 95) rfl) (by decide) rfl ?_
              refine v_aload_n (am_Dk d_MR_named (k := 96) rfl) rfl ?_
              refine v_iload (am_Dk d_MR_named (k := 97) rfl) rfl ?_
              refine v_put (am_Dk d_MR_named (k := 98) rfl) f_MR_102 b315 (Nat.le_of_ble_eq_true rfl) rfl rfl ?_
              refine v_aload_n (am_Dk d_MR_named (k := 99) rfl) rfl ?_
              refine v_iload_n (am_Dk d_MR_named (k := 100) rfl) rfl ?_
              have m322 : (am_up M305 1225 (.inr (12, [.ref 1226, .ref 1227, .ref 1228, .ref 1213, .ref 1220, .ref 1212, .int (nI n), .int (nI ((tok f n a267).2.1)), .int (nI ((tok f n a267).2.2.1)), .int tk284, .int (nI (o + 1)), .long nu285, .ref 1229, .int (nI l286), .ref 1230, .int (nI tp), .int (-1), .ref 1231, .int (nI vb274), .int kn288, .int rk269, .ref 1232]))) 1225 = some (.inr (12, [.ref 1226, .ref 1227, .ref 1228, .ref 1213, .ref 1220, .ref 1212, .int (nI n), .int (nI ((tok f n a267).2.1)), .int (nI ((tok f n a267).2.2.1)), .int tk284, .int (nI (o + 1)), .long nu285, .ref 1229, .int (nI l286), .ref 1230, .int (nI tp), .int (-1), .ref 1231, .int (nI vb274), .int kn288, .int rk269, .ref 1232])) := am_up_eq _ _ _
              refine v_put (am_Dk d_MR_named (k := 101) rfl) f_MR_204 m322 (Nat.le_of_ble_eq_true rfl) rfl rfl ?_
              rw [am_uu0 (a := 1225)]
              refine v_iload (am_Dk d_MR_named (k := 102) rfl) rfl ?_
              have hcpl : c_pl f n a := ⟨n40, hcp2⟩
              have hkO : On278 k187 = (tok f n a).2.2.2.2 := (pe281_4 k187 q1912).trans (q1913.trans hsp)
              have hat1 := at314.1
              rw [if_pos rfl, hkO] at hat1
              have hat2 := at314.2.1
              rw [if_neg (by decide)] at hat2
              have hres : TRes f n lu o mo a sz W311 a267 (kn_pf (tok f n a).2.2.2.2) (sz270 + 1) sz270 := by
                rcases tr282 with ⟨wT, roT, L9, R9, hTO, hOp, hro, hch⟩ | ⟨hk10, hTB⟩
                · have hTE := q_pre pb_0 hk2 hcpl hcpf ee283.1 hTO ee283.2
                  rw [show sz270 - sz + 1 = sz270 + 1 - sz from by omega] at hTE
                  have e1 : W277.1 t266 = (wT.1, wT.2.1) := hOp.1
                  rw [e1] at hat1
                  exact Or.inl ⟨_, _, _, _, hTE, ⟨hat1, by rw [at314.2.2]; exact (by decide : ¬ (0 : Int32) < 0)⟩, by rw [hat2], fun z => absurd rfl z⟩
                · exact Or.inr ⟨hk10, q_preB hn pb_0 hk2 hcpl hcpf (Or.inr ⟨ee283.1, hTB⟩)⟩
              exact v_ireturn (am_Dk d_MR_named (k := 103) rfl) rfl rfl (by omega) (by omega) ⟨rfl, (fun i hi => (am_up_ne (show i ≠ 1225 from by omega)).trans ((fr320 i hi))), Or.inl ⟨sz270, a267, (upd S268 (tp) (nI t266)), (kn_pf (tok f n a).2.2.2.2), (sz270 + 1), (pt271 + 1), ns272, tx273, vb274, e1275, e2276, W311, On278, Vx279, rfl, (show PS f n LU (am_up M305 1225 (.inr (12, [.ref 1226, .ref 1227, .ref 1228, .ref 1213, .ref 1220, .ref 1212, .int (nI n), .int (nI ((tok f n a267).2.1)), .int (nI ((tok f n a267).2.2.1)), .int tk284, .int (nI (o + 1)), .long nu285, .ref 1229, .int (nI l286), .ref 1230, .int (nI tp), .int (-1), .ref 1231, .int (nI vb274), .int kn288, .int (kn_pf (tok f n a).2.2.2.2), .ref 1232]))) a267 (o + 1) tp (upd S268 (tp) (nI t266)) (kn_pf (tok f n a).2.2.2.2) (sz270 + 1) (pt271 + 1) ns272 tx273 vb274 e1275 e2276 W311 On278 Vx279 from ⟨⟨by omega, by omega, by omega, by omega, by omega, by omega, by omega, by omega, by omega, by omega⟩, mb_fr hm319 (fun i hi => (am_up_ne (show i ≠ 1225 from by omega)).trans (rfl)), RS_fr hR321 (fun i hi => (am_up_ne (show i ≠ 1225 from by omega)).trans (rfl)), (am_up_ne (show 1230 ≠ 1225 from by decide)).trans (b317), ⟨_, (am_up_ne (show 1232 ≠ 1225 from by decide)).trans (b318)⟩, tk284, nu285, l286, g287, kn288, am_up_eq _ _ _, hs296, (am_up_ne (show 1229 ≠ 1225 from by decide)).trans (b316), hg298⟩), ⟨by omega, by omega, gh_trans pe281_2 ge313 (by omega), by omega, fun j hj => (pe281_4 j (by omega)).trans (q1915 j hj), fun j hj => (upd_ne _ _ (by omega)).trans (pe281_5 j hj), by omega, by omega, by omega⟩, hres, trivial⟩⟩
            · have hcan := (beg_can (by omega) hs208).2 (bi0.mp c260)
              have hpx : (¬ c_pf f n mo a) ∨ (c_pf f n mo a ∧ ((tok f n (tok f n a).2.2.1).1 = 10 ∨ (tok f n (tok f n a).2.2.1).1 = 11)) := by rcases hcan with z | z; exact Or.inl (fun y => absurd (z.symm.trans y.2.2) (by decide)); exact Or.inr ⟨⟨hp0, hle, by rw [c_can, if_neg (by omega), decide_eq_true (by omega)]⟩, z⟩
              refine v_aload_n (am_Dk d_MR_named (k := 64) rfl) rfl ?_
              refine v_get (am_Dk d_MR_named (k := 65) rfl) f_MR_81 m252 rfl ?_
              refine v_iload_n (am_Dk d_MR_named (k := 66) rfl) rfl ?_
              obtain ⟨⟨Kd323, Nm323, Fi323, Ma323, Pa323, Nu323⟩, T323, F323, Va323, hX323⟩ := RS_fr (M1 := (am_up (am_up M184 1229 (.inl (0, 4096, .inl g206))) 1225 (.inr (12, [.ref 1226, .ref 1227, .ref 1228, .ref 1213, .ref 1220, .ref 1212, .int (nI n), .int (nI (tok f n ((tok f n a).2.2.1)).2.1), .int (nI (tok f n ((tok f n a).2.2.1)).2.2.1), .int tk203, .int (nI (o + 1)), .long nu204, .ref 1229, .int (nI l205), .ref 1230, .int (nI tp), .int (-1), .ref 1231, .int (nI vb), .int kn, .int 0, .ref 1232])))) hR198 (fun i hi => (am_up_ne (show i ≠ 1225 from by omega)).trans ((am_up_ne (show i ≠ 1229 from by omega)).trans (rfl)))
              refine v_callV (rest := []) (As := [.int (nI k187)]) (mc' := 0) (ms' := 0) (am_Dk d_MR_named (k := 67) rfl) c_MR_252 (Or.inl ⟨_, _, _, _, _, (RS_o1213 (RS_fr (M1 := (am_up (am_up M184 1229 (.inl (0, 4096, .inl g206))) 1225 (.inr (12, [.ref 1226, .ref 1227, .ref 1228, .ref 1213, .ref 1220, .ref 1212, .int (nI n), .int (nI (tok f n ((tok f n a).2.2.1)).2.1), .int (nI (tok f n ((tok f n a).2.2.1)).2.2.1), .int tk203, .int (nI (o + 1)), .long nu204, .ref 1229, .int (nI l205), .ref 1230, .int (nI tp), .int (-1), .ref 1231, .int (nI vb), .int kn, .int 0, .ref 1232])))) hR198 (fun i hi => (am_up_ne (show i ≠ 1225 from by omega)).trans ((am_up_ne (show i ≠ 1229 from by omega)).trans (rfl))))), cq_ok10⟩) (t_MT_atom G (d := 0) (by omega) hX323.1 (by omega)) (by omega) (by omega) (by omega) (by simp [Value.category]) rfl (fun v324 M325 n326 h327 => ?_) (fun _ _ _ h327 => ?_)
              rotate_left
              · exact absurd h327.1 (by simp)
              obtain ⟨h327, hA328, hf329, ex9⟩ := h327
              cases h327
              replace ex9 := ex9.symm
              subst ex9
              have hR330 := RS_atom hX323 (k := k187) (by omega) hA328 hf329
              obtain ⟨W331, hW332⟩ : ∃ W9, W9 = gu W sz (2, 0) (0, 0, 0) none := ⟨_, rfl⟩
              rw [← hW332] at hR330
              have ge333 : gh_eq sz W W331 := by rw [hW332]; exact gu_eq _ _ _ _ _
              have at334 := gu_at W sz (2, 0) (0, 0, 0) none
              rw [← hW332] at at334
              have b335 : M325 1225 = some (.inr (12, [.ref 1226, .ref 1227, .ref 1228, .ref 1213, .ref 1220, .ref 1212, .int (nI n), .int (nI (tok f n ((tok f n a).2.2.1)).2.1), .int (nI (tok f n ((tok f n a).2.2.1)).2.2.1), .int tk203, .int (nI (o + 1)), .long nu204, .ref 1229, .int (nI l205), .ref 1230, .int (nI tp), .int (-1), .ref 1231, .int (nI vb), .int kn, .int 0, .ref 1232])) := (hf329 1225 (by omega)).trans (am_up_eq _ _ _)
              have b336 : M325 1229 = some (.inl (0, 4096, .inl g206)) := (hf329 1229 (by omega)).trans ((am_up_ne (show 1229 ≠ 1225 from by decide)).trans (am_up_eq _ _ _))
              have b337 : M325 1230 = some (.inl (1, 4200, .inl S)) := (hf329 1230 (by omega)).trans ((am_up_ne (show 1230 ≠ 1225 from by decide)).trans ((am_up_ne (show 1230 ≠ 1229 from by decide)).trans (b194)))
              have b338 : M325 1232 = some (.inl (0, 4096, .inl kc)) := (hf329 1232 (by omega)).trans ((am_up_ne (show 1232 ≠ 1225 from by decide)).trans ((am_up_ne (show 1232 ≠ 1229 from by decide)).trans (b195)))
              have hm339 : mb f M325 := mb_fr hm196 (fun i hi => (hf329 i (by omega)).trans ((am_up_ne (show i ≠ 1225 from by omega)).trans ((am_up_ne (show i ≠ 1229 from by omega)).trans (rfl))))
              have fr340 : pf_fr M M325 := fun i hi => (hf329 i (by omega)).trans ((am_up_ne (show i ≠ 1225 from by omega)).trans ((am_up_ne (show i ≠ 1229 from by omega)).trans ((fr197 i hi))))
              have hR341 : RS LU M325 (sz + 1) pt ns188 tx189 vb e1 e2 W331 On190 Vx := ⟨_, _, _, _, hR330⟩
              show am_V G _ _ _ _ _ 130 [(3, .int (nI k187)), (2, .int (pfN (tok f n a).2.2.2.2)), (0, .ref 1225), (1, .int mo)] [.int (nI sz)] M325 nx 0 0
              have hcpl : c_pl f n a := ⟨n40, hcp2⟩
              have hpx9 : (¬ c_pf f n mo a) ∨ (c_pf f n mo a ∧ ((tok f n (tok f n a).2.2.1).1 = 10 ∨ (tok f n (tok f n a).2.2.1).1 = 11)) := by first | exact Or.inl hnpf | exact hpx
              have hres : TRes f n lu o mo a sz W331 (tok f n a).2.2.1 0 (sz + 1) sz := by
                rcases hpx9 with z | ⟨z1, z2⟩
                · exact Or.inl ⟨_, _, _, _, by rw [Nat.add_sub_cancel_left]; exact q_atom pb_0 hk2 hcpl z, ⟨at334.1, by rw [at334.2.2]; exact (by decide : ¬ (0 : Int32) < 0)⟩, by rw [at334.2.1], fun z => absurd rfl z⟩
                · exact Or.inr ⟨z2, q_preX hn pb_0 hk2 hcpl z1 z2⟩
              exact v_ireturn (am_Dk d_MR_named (k := 68) rfl) rfl rfl (by omega) (by omega) ⟨rfl, (fun i hi => (fr340 i hi)), Or.inl ⟨sz, ((tok f n a).2.2.1), S, 0, (sz + 1), pt, ns188, tx189, vb, e1, e2, W331, On190, Vx, rfl, (show PS f n LU M325 ((tok f n a).2.2.1) (o + 1) tp S 0 (sz + 1) pt ns188 tx189 vb e1 e2 W331 On190 Vx from ⟨⟨by omega, by omega, by omega, by omega, by omega, by omega, by omega, by omega, by omega, by omega⟩, mb_fr hm339 (fun i hi => rfl), RS_fr hR341 (fun i hi => rfl), b337, ⟨_, b338⟩, tk203, nu204, l205, g206, kn, b335, hs208, b336, hg209⟩), ⟨by omega, by omega, ge333, by omega, q1915, fun _ _ => rfl, by omega, by omega, by omega⟩, hres, trivial⟩⟩
      · have h18 : (tok f n a).2.2.2.2 = 18 := hsp.symm.trans (sp18.mpr ⟨hl1, c175⟩)
        refine v_aload_n (am_Dk d_MR_named (k := 19) rfl) rfl ?_
        refine v_aload_n (am_Dk d_MR_named (k := 20) rfl) rfl ?_
        refine v_get (am_Dk d_MR_named (k := 21) rfl) f_MR_96 hr rfl ?_
        refine v_callV (rest := []) (As := [.int (nI ((tok f n a).2.2.1))]) (mc' := 0) (ms' := 0) (am_Dk d_MR_named (k := 22) rfl) c_MR_148 (Or.inl ⟨_, _, _, _, _, hr, cq_ok12⟩) (t_MR_look G (d := 0) (i := (tok f n a).2.2.1) (by omega) hr hm.1 hn (by omega)) (by omega) (by omega) (by omega) (by simp [Value.category]) rfl (fun v342 M343 n344 h345 => ?_) (fun _ _ _ h345 => ?_)
        rotate_left
        · exact absurd h345.1 (by simp)
        obtain ⟨h345, e346, e347⟩ := h345
        replace e346 := e346.symm
        replace e347 := e347.symm
        subst e346
        subst e347
        cases h345
        show am_V G _ _ _ _ _ 45 [(0, .ref 1225), (1, .int mo)] [.int (lk f n ((tok f n a).2.2.1))] M nx 0 0
        refine v_callS (rest := []) (As := [.int (lk f n ((tok f n a).2.2.1))]) (mc' := 0) (ms' := 0) (am_Dk d_MR_named (k := 23) rfl) c_MR_151 (t_MR_digit G (d := 0)) (by omega) (by omega) (by omega) (by simp [Value.category]) rfl (fun v348 M349 n350 h351 => ?_) (fun _ _ _ h351 => ?_)
        rotate_left
        · exact absurd h351.1 (by simp)
        obtain ⟨h351, e352, e353⟩ := h351
        replace e352 := e352.symm
        replace e353 := e353.symm
        subst e352
        subst e353
        cases h351
        show am_V G _ _ _ _ _ 48 [(0, .ref 1225), (1, .int mo)] [.int (bi (dgB (lk f n ((tok f n a).2.2.1))))] M nx 0 0
        refine v_if_eq (tgt := 91) (am_Dk d_MR_named (k := 24) rfl) (by decide) (fun c354 => ?_) (fun c354 => ?_)
        · have hcp2 : ¬ ((tok f n (tok f n a).2.2.1).2.1 = (tok f n a).2.2.1 ∧ (tok f n (tok f n a).2.2.1).1 = 1 ∧ (tok f n a).2.2.2.2 = 18) := fun z => absurd (tok_dg1 ⟨z.1, z.2.1⟩) (ne_true_of_eq_false (by rw [← lk_dg hb]; exact bi0.mp c354))
          refine v_aload_n (am_Dk d_MR_named (k := 47) rfl) rfl ?_
          refine v_callV (rest := []) (As := []) (mc' := 0) (ms' := 0) (am_Dk d_MR_named (k := 48) rfl) c_MR_201 (Or.inl ⟨_, _, _, _, _, hr, cq_ok12⟩) (t_MR_prefix G (d := 5) (le := 0) (by omega) hr hw (by omega)) (by omega) (by omega) (by omega) (by simp [Value.category]) rfl (fun v355 M356 n357 h358 => ?_) (fun _ _ _ h358 => ?_)
          rotate_left
          · exact absurd h358.1 (by simp)
          obtain ⟨h358, e359, e360⟩ := h358
          replace e359 := e359.symm
          replace e360 := e360.symm
          subst e359
          subst e360
          cases h358
          show am_V G _ _ _ _ _ 95 [(0, .ref 1225), (1, .int mo)] [.int (if tk = 3 then pfN (spg l g) else -1)] M nx 0 0
          rw [show (if tk = 3 then pfN (spg l g) else -1) = pfN (tok f n a).2.2.2.2 from by rw [if_pos htk3, hsp]]
          show am_V G _ _ _ _ _ 95 [(0, .ref 1225), (1, .int mo)] [.int (pfN (tok f n a).2.2.2.2)] M nx 0 0
          refine v_istore_n (L1 := [(2, .int (pfN (tok f n a).2.2.2.2)), (0, .ref 1225), (1, .int mo)]) (am_Dk d_MR_named (k := 49) rfl) (by decide) rfl ?_
          refine v_aload_n (am_Dk d_MR_named (k := 50) rfl) rfl ?_
          obtain ⟨⟨Kd361, Nm361, Fi361, Ma361, Pa361, Nu361⟩, T361, F361, Va361, hX361⟩ := RS_fr (M1 := M) hR (fun i hi => rfl)
          refine v_callV (rest := []) (As := []) (mc' := 0) (ms' := 0) (am_Dk d_MR_named (k := 51) rfl) c_MR_212 (Or.inl ⟨_, _, _, _, _, hr, cq_ok12⟩) (t_MR_name G (d := 2) (le := 0) (l := l) (by omega) hr hw hg (by omega) hX361 (by omega) (by omega)) (by omega) (by omega) (by omega) (by simp [Value.category]) rfl (fun v362 M363 n364 h365 => ?_) (fun _ _ _ h365 => ?_)
          rotate_left
          · obtain ⟨_, _, _, _, _, _, hx9, _⟩ := h365; cases hx9
          obtain ⟨k366, ns367, tx368, On369, T9, F9, h365, ex9, q3701, q3702, q3703, q3704, q3705, q3706, q3707⟩ := h365
          cases h365
          replace ex9 := ex9.symm
          subst ex9
          have b371 : M363 1225 = some (.inr (12, [.ref 1226, .ref 1227, .ref 1228, .ref 1213, .ref 1220, .ref 1212, .int (nI n), .int (nI ((tok f n a).2.1)), .int (nI ((tok f n a).2.2.1)), .int tk, .int (nI (o + 1)), .long nu, .ref 1229, .int (nI l), .ref 1230, .int (nI tp), .int (-1), .ref 1231, .int (nI vb), .int kn, .int 0, .ref 1232])) := (q3707 1225 (by omega)).trans (hr)
          have b372 : M363 1229 = some (.inl (0, 4096, .inl g)) := (q3707 1229 (by omega)).trans (hw)
          have b373 : M363 1230 = some (.inl (1, 4200, .inl S)) := (q3707 1230 (by omega)).trans (hS)
          have b374 : M363 1232 = some (.inl (0, 4096, .inl kc)) := (q3707 1232 (by omega)).trans (hkc)
          have hm375 : mb f M363 := mb_fr hm (fun i hi => (q3707 i (by omega)).trans (rfl))
          have fr376 : pf_fr M M363 := fun i hi => (q3707 i (by omega)).trans ((fr0 i hi))
          have hR377 : RS LU M363 sz pt ns367 tx368 vb e1 e2 W On369 Vx := ⟨_, _, _, _, q3701⟩
          show am_V G _ _ _ _ _ 100 [(2, .int (pfN (tok f n a).2.2.2.2)), (0, .ref 1225), (1, .int mo)] [.int (nI k366)] M363 nx 0 0
          refine v_istore_n (L1 := [(3, .int (nI k366)), (2, .int (pfN (tok f n a).2.2.2.2)), (0, .ref 1225), (1, .int mo)]) (am_Dk d_MR_named (k := 52) rfl) (by decide) rfl ?_
          refine v_aload_n (am_Dk d_MR_named (k := 53) rfl) rfl ?_
          refine v_callV (rest := []) (As := []) (mc' := 0) (ms' := 0) (am_Dk d_MR_named (k := 54) rfl) c_MR_113 (Or.inl ⟨_, _, _, _, _, b371, cq_ok12⟩) (t_MR_scan G (d := 5) (be := 0) (a := (tok f n a).2.2.1) (by omega) b371 hm375.1 hn hb (by omega) b372 hg) (by omega) (by omega) (by omega) (by simp [Value.category]) rfl (fun v378 M379 n380 h381 => ?_) (fun _ _ _ h381 => ?_)
          rotate_left
          · obtain ⟨_, _, _, _, hx9, _⟩ := h381; cases hx9
          obtain ⟨tk382, nu383, l384, g385, h381, ex9, e386, hs387, hg388⟩ := h381
          replace e386 := e386.symm
          replace ex9 := ex9.symm
          subst e386
          subst ex9
          cases h381
          have k_hs387 := tok_ok f (show (tok f n a).2.2.1 ≤ n from by omega)
          have p_hs387 := tok_pos f (show (tok f n a).2.2.1 ≤ n from by omega)
          have l_hs387 := hs387.2.2.1
          show am_V G _ _ _ _ _ 105 [(3, .int (nI k366)), (2, .int (pfN (tok f n a).2.2.2.2)), (0, .ref 1225), (1, .int mo)] [] (am_up (am_up M363 1229 (.inl (0, 4096, .inl g385))) 1225 (.inr (12, [.ref 1226, .ref 1227, .ref 1228, .ref 1213, .ref 1220, .ref 1212, .int (nI n), .int (nI (tok f n ((tok f n a).2.2.1)).2.1), .int (nI (tok f n ((tok f n a).2.2.1)).2.2.1), .int tk382, .int (nI (o + 1)), .long nu383, .ref 1229, .int (nI l384), .ref 1230, .int (nI tp), .int (-1), .ref 1231, .int (nI vb), .int kn, .int 0, .ref 1232]))) nx 0 0
          refine v_iload_n (am_Dk d_MR_named (k := 55) rfl) rfl ?_
          refine v_iconst (v := (-1)) (am_Dk d_MR_named (k := 56) rfl) (by decide) ?_
          refine v_icmp_eq (tgt := 122) (am_Dk d_MR_named (k := 57) rfl) (by decide) (fun c389 => ?_) (fun c389 => ?_)
          · have hnpf : ¬ c_pf f n mo a := fun z => hpfc.elim (fun y => y.2 z.1) (fun y => y.1 c389)
            refine v_aload_n (am_Dk d_MR_named (k := 64) rfl) rfl ?_
            have m390 : (am_up (am_up M363 1229 (.inl (0, 4096, .inl g385))) 1225 (.inr (12, [.ref 1226, .ref 1227, .ref 1228, .ref 1213, .ref 1220, .ref 1212, .int (nI n), .int (nI (tok f n ((tok f n a).2.2.1)).2.1), .int (nI (tok f n ((tok f n a).2.2.1)).2.2.1), .int tk382, .int (nI (o + 1)), .long nu383, .ref 1229, .int (nI l384), .ref 1230, .int (nI tp), .int (-1), .ref 1231, .int (nI vb), .int kn, .int 0, .ref 1232]))) 1225 = some (.inr (12, [.ref 1226, .ref 1227, .ref 1228, .ref 1213, .ref 1220, .ref 1212, .int (nI n), .int (nI (tok f n ((tok f n a).2.2.1)).2.1), .int (nI (tok f n ((tok f n a).2.2.1)).2.2.1), .int tk382, .int (nI (o + 1)), .long nu383, .ref 1229, .int (nI l384), .ref 1230, .int (nI tp), .int (-1), .ref 1231, .int (nI vb), .int kn, .int 0, .ref 1232])) := am_up_eq _ _ _
            refine v_get (am_Dk d_MR_named (k := 65) rfl) f_MR_81 m390 rfl ?_
            refine v_iload_n (am_Dk d_MR_named (k := 66) rfl) rfl ?_
            obtain ⟨⟨Kd391, Nm391, Fi391, Ma391, Pa391, Nu391⟩, T391, F391, Va391, hX391⟩ := RS_fr (M1 := (am_up (am_up M363 1229 (.inl (0, 4096, .inl g385))) 1225 (.inr (12, [.ref 1226, .ref 1227, .ref 1228, .ref 1213, .ref 1220, .ref 1212, .int (nI n), .int (nI (tok f n ((tok f n a).2.2.1)).2.1), .int (nI (tok f n ((tok f n a).2.2.1)).2.2.1), .int tk382, .int (nI (o + 1)), .long nu383, .ref 1229, .int (nI l384), .ref 1230, .int (nI tp), .int (-1), .ref 1231, .int (nI vb), .int kn, .int 0, .ref 1232])))) hR377 (fun i hi => (am_up_ne (show i ≠ 1225 from by omega)).trans ((am_up_ne (show i ≠ 1229 from by omega)).trans (rfl)))
            refine v_callV (rest := []) (As := [.int (nI k366)]) (mc' := 0) (ms' := 0) (am_Dk d_MR_named (k := 67) rfl) c_MR_252 (Or.inl ⟨_, _, _, _, _, (RS_o1213 (RS_fr (M1 := (am_up (am_up M363 1229 (.inl (0, 4096, .inl g385))) 1225 (.inr (12, [.ref 1226, .ref 1227, .ref 1228, .ref 1213, .ref 1220, .ref 1212, .int (nI n), .int (nI (tok f n ((tok f n a).2.2.1)).2.1), .int (nI (tok f n ((tok f n a).2.2.1)).2.2.1), .int tk382, .int (nI (o + 1)), .long nu383, .ref 1229, .int (nI l384), .ref 1230, .int (nI tp), .int (-1), .ref 1231, .int (nI vb), .int kn, .int 0, .ref 1232])))) hR377 (fun i hi => (am_up_ne (show i ≠ 1225 from by omega)).trans ((am_up_ne (show i ≠ 1229 from by omega)).trans (rfl))))), cq_ok10⟩) (t_MT_atom G (d := 0) (by omega) hX391.1 (by omega)) (by omega) (by omega) (by omega) (by simp [Value.category]) rfl (fun v392 M393 n394 h395 => ?_) (fun _ _ _ h395 => ?_)
            rotate_left
            · exact absurd h395.1 (by simp)
            obtain ⟨h395, hA396, hf397, ex9⟩ := h395
            cases h395
            replace ex9 := ex9.symm
            subst ex9
            have hR398 := RS_atom hX391 (k := k366) (by omega) hA396 hf397
            obtain ⟨W399, hW400⟩ : ∃ W9, W9 = gu W sz (2, 0) (0, 0, 0) none := ⟨_, rfl⟩
            rw [← hW400] at hR398
            have ge401 : gh_eq sz W W399 := by rw [hW400]; exact gu_eq _ _ _ _ _
            have at402 := gu_at W sz (2, 0) (0, 0, 0) none
            rw [← hW400] at at402
            have b403 : M393 1225 = some (.inr (12, [.ref 1226, .ref 1227, .ref 1228, .ref 1213, .ref 1220, .ref 1212, .int (nI n), .int (nI (tok f n ((tok f n a).2.2.1)).2.1), .int (nI (tok f n ((tok f n a).2.2.1)).2.2.1), .int tk382, .int (nI (o + 1)), .long nu383, .ref 1229, .int (nI l384), .ref 1230, .int (nI tp), .int (-1), .ref 1231, .int (nI vb), .int kn, .int 0, .ref 1232])) := (hf397 1225 (by omega)).trans (am_up_eq _ _ _)
            have b404 : M393 1229 = some (.inl (0, 4096, .inl g385)) := (hf397 1229 (by omega)).trans ((am_up_ne (show 1229 ≠ 1225 from by decide)).trans (am_up_eq _ _ _))
            have b405 : M393 1230 = some (.inl (1, 4200, .inl S)) := (hf397 1230 (by omega)).trans ((am_up_ne (show 1230 ≠ 1225 from by decide)).trans ((am_up_ne (show 1230 ≠ 1229 from by decide)).trans (b373)))
            have b406 : M393 1232 = some (.inl (0, 4096, .inl kc)) := (hf397 1232 (by omega)).trans ((am_up_ne (show 1232 ≠ 1225 from by decide)).trans ((am_up_ne (show 1232 ≠ 1229 from by decide)).trans (b374)))
            have hm407 : mb f M393 := mb_fr hm375 (fun i hi => (hf397 i (by omega)).trans ((am_up_ne (show i ≠ 1225 from by omega)).trans ((am_up_ne (show i ≠ 1229 from by omega)).trans (rfl))))
            have fr408 : pf_fr M M393 := fun i hi => (hf397 i (by omega)).trans ((am_up_ne (show i ≠ 1225 from by omega)).trans ((am_up_ne (show i ≠ 1229 from by omega)).trans ((fr376 i hi))))
            have hR409 : RS LU M393 (sz + 1) pt ns367 tx368 vb e1 e2 W399 On369 Vx := ⟨_, _, _, _, hR398⟩
            show am_V G _ _ _ _ _ 130 [(3, .int (nI k366)), (2, .int (pfN (tok f n a).2.2.2.2)), (0, .ref 1225), (1, .int mo)] [.int (nI sz)] M393 nx 0 0
            have hcpl : c_pl f n a := ⟨n40, hcp2⟩
            have hpx9 : (¬ c_pf f n mo a) ∨ (c_pf f n mo a ∧ ((tok f n (tok f n a).2.2.1).1 = 10 ∨ (tok f n (tok f n a).2.2.1).1 = 11)) := by first | exact Or.inl hnpf | exact hpx
            have hres : TRes f n lu o mo a sz W399 (tok f n a).2.2.1 0 (sz + 1) sz := by
              rcases hpx9 with z | ⟨z1, z2⟩
              · exact Or.inl ⟨_, _, _, _, by rw [Nat.add_sub_cancel_left]; exact q_atom pb_0 hk2 hcpl z, ⟨at402.1, by rw [at402.2.2]; exact (by decide : ¬ (0 : Int32) < 0)⟩, by rw [at402.2.1], fun z => absurd rfl z⟩
              · exact Or.inr ⟨z2, q_preX hn pb_0 hk2 hcpl z1 z2⟩
            exact v_ireturn (am_Dk d_MR_named (k := 68) rfl) rfl rfl (by omega) (by omega) ⟨rfl, (fun i hi => (fr408 i hi)), Or.inl ⟨sz, ((tok f n a).2.2.1), S, 0, (sz + 1), pt, ns367, tx368, vb, e1, e2, W399, On369, Vx, rfl, (show PS f n LU M393 ((tok f n a).2.2.1) (o + 1) tp S 0 (sz + 1) pt ns367 tx368 vb e1 e2 W399 On369 Vx from ⟨⟨by omega, by omega, by omega, by omega, by omega, by omega, by omega, by omega, by omega, by omega⟩, mb_fr hm407 (fun i hi => rfl), RS_fr hR409 (fun i hi => rfl), b405, ⟨_, b406⟩, tk382, nu383, l384, g385, kn, b403, hs387, b404, hg388⟩), ⟨by omega, by omega, ge401, by omega, q3705, fun _ _ => rfl, by omega, by omega, by omega⟩, hres, trivial⟩⟩
          · obtain ⟨hp0, hpk, hp2⟩ := (hpfc.resolve_left (fun y => c389 y.1)).2
            refine v_iload_n (am_Dk d_MR_named (k := 58) rfl) rfl ?_
            refine v_iload_n (am_Dk d_MR_named (k := 59) rfl) rfl ?_
            refine v_icmp_gt (tgt := 122) (am_Dk d_MR_named (k := 60) rfl) (by decide) (fun c410 => ?_) (fun c410 => ?_)
            · have hnpf : ¬ c_pf f n mo a := fun z => absurd z.2.1 (Int32.not_le.mpr (by rw [← hpk]; exact c410))
              refine v_aload_n (am_Dk d_MR_named (k := 64) rfl) rfl ?_
              have m411 : (am_up (am_up M363 1229 (.inl (0, 4096, .inl g385))) 1225 (.inr (12, [.ref 1226, .ref 1227, .ref 1228, .ref 1213, .ref 1220, .ref 1212, .int (nI n), .int (nI (tok f n ((tok f n a).2.2.1)).2.1), .int (nI (tok f n ((tok f n a).2.2.1)).2.2.1), .int tk382, .int (nI (o + 1)), .long nu383, .ref 1229, .int (nI l384), .ref 1230, .int (nI tp), .int (-1), .ref 1231, .int (nI vb), .int kn, .int 0, .ref 1232]))) 1225 = some (.inr (12, [.ref 1226, .ref 1227, .ref 1228, .ref 1213, .ref 1220, .ref 1212, .int (nI n), .int (nI (tok f n ((tok f n a).2.2.1)).2.1), .int (nI (tok f n ((tok f n a).2.2.1)).2.2.1), .int tk382, .int (nI (o + 1)), .long nu383, .ref 1229, .int (nI l384), .ref 1230, .int (nI tp), .int (-1), .ref 1231, .int (nI vb), .int kn, .int 0, .ref 1232])) := am_up_eq _ _ _
              refine v_get (am_Dk d_MR_named (k := 65) rfl) f_MR_81 m411 rfl ?_
              refine v_iload_n (am_Dk d_MR_named (k := 66) rfl) rfl ?_
              obtain ⟨⟨Kd412, Nm412, Fi412, Ma412, Pa412, Nu412⟩, T412, F412, Va412, hX412⟩ := RS_fr (M1 := (am_up (am_up M363 1229 (.inl (0, 4096, .inl g385))) 1225 (.inr (12, [.ref 1226, .ref 1227, .ref 1228, .ref 1213, .ref 1220, .ref 1212, .int (nI n), .int (nI (tok f n ((tok f n a).2.2.1)).2.1), .int (nI (tok f n ((tok f n a).2.2.1)).2.2.1), .int tk382, .int (nI (o + 1)), .long nu383, .ref 1229, .int (nI l384), .ref 1230, .int (nI tp), .int (-1), .ref 1231, .int (nI vb), .int kn, .int 0, .ref 1232])))) hR377 (fun i hi => (am_up_ne (show i ≠ 1225 from by omega)).trans ((am_up_ne (show i ≠ 1229 from by omega)).trans (rfl)))
              refine v_callV (rest := []) (As := [.int (nI k366)]) (mc' := 0) (ms' := 0) (am_Dk d_MR_named (k := 67) rfl) c_MR_252 (Or.inl ⟨_, _, _, _, _, (RS_o1213 (RS_fr (M1 := (am_up (am_up M363 1229 (.inl (0, 4096, .inl g385))) 1225 (.inr (12, [.ref 1226, .ref 1227, .ref 1228, .ref 1213, .ref 1220, .ref 1212, .int (nI n), .int (nI (tok f n ((tok f n a).2.2.1)).2.1), .int (nI (tok f n ((tok f n a).2.2.1)).2.2.1), .int tk382, .int (nI (o + 1)), .long nu383, .ref 1229, .int (nI l384), .ref 1230, .int (nI tp), .int (-1), .ref 1231, .int (nI vb), .int kn, .int 0, .ref 1232])))) hR377 (fun i hi => (am_up_ne (show i ≠ 1225 from by omega)).trans ((am_up_ne (show i ≠ 1229 from by omega)).trans (rfl))))), cq_ok10⟩) (t_MT_atom G (d := 0) (by omega) hX412.1 (by omega)) (by omega) (by omega) (by omega) (by simp [Value.category]) rfl (fun v413 M414 n415 h416 => ?_) (fun _ _ _ h416 => ?_)
              rotate_left
              · exact absurd h416.1 (by simp)
              obtain ⟨h416, hA417, hf418, ex9⟩ := h416
              cases h416
              replace ex9 := ex9.symm
              subst ex9
              have hR419 := RS_atom hX412 (k := k366) (by omega) hA417 hf418
              obtain ⟨W420, hW421⟩ : ∃ W9, W9 = gu W sz (2, 0) (0, 0, 0) none := ⟨_, rfl⟩
              rw [← hW421] at hR419
              have ge422 : gh_eq sz W W420 := by rw [hW421]; exact gu_eq _ _ _ _ _
              have at423 := gu_at W sz (2, 0) (0, 0, 0) none
              rw [← hW421] at at423
              have b424 : M414 1225 = some (.inr (12, [.ref 1226, .ref 1227, .ref 1228, .ref 1213, .ref 1220, .ref 1212, .int (nI n), .int (nI (tok f n ((tok f n a).2.2.1)).2.1), .int (nI (tok f n ((tok f n a).2.2.1)).2.2.1), .int tk382, .int (nI (o + 1)), .long nu383, .ref 1229, .int (nI l384), .ref 1230, .int (nI tp), .int (-1), .ref 1231, .int (nI vb), .int kn, .int 0, .ref 1232])) := (hf418 1225 (by omega)).trans (am_up_eq _ _ _)
              have b425 : M414 1229 = some (.inl (0, 4096, .inl g385)) := (hf418 1229 (by omega)).trans ((am_up_ne (show 1229 ≠ 1225 from by decide)).trans (am_up_eq _ _ _))
              have b426 : M414 1230 = some (.inl (1, 4200, .inl S)) := (hf418 1230 (by omega)).trans ((am_up_ne (show 1230 ≠ 1225 from by decide)).trans ((am_up_ne (show 1230 ≠ 1229 from by decide)).trans (b373)))
              have b427 : M414 1232 = some (.inl (0, 4096, .inl kc)) := (hf418 1232 (by omega)).trans ((am_up_ne (show 1232 ≠ 1225 from by decide)).trans ((am_up_ne (show 1232 ≠ 1229 from by decide)).trans (b374)))
              have hm428 : mb f M414 := mb_fr hm375 (fun i hi => (hf418 i (by omega)).trans ((am_up_ne (show i ≠ 1225 from by omega)).trans ((am_up_ne (show i ≠ 1229 from by omega)).trans (rfl))))
              have fr429 : pf_fr M M414 := fun i hi => (hf418 i (by omega)).trans ((am_up_ne (show i ≠ 1225 from by omega)).trans ((am_up_ne (show i ≠ 1229 from by omega)).trans ((fr376 i hi))))
              have hR430 : RS LU M414 (sz + 1) pt ns367 tx368 vb e1 e2 W420 On369 Vx := ⟨_, _, _, _, hR419⟩
              show am_V G _ _ _ _ _ 130 [(3, .int (nI k366)), (2, .int (pfN (tok f n a).2.2.2.2)), (0, .ref 1225), (1, .int mo)] [.int (nI sz)] M414 nx 0 0
              have hcpl : c_pl f n a := ⟨n40, hcp2⟩
              have hpx9 : (¬ c_pf f n mo a) ∨ (c_pf f n mo a ∧ ((tok f n (tok f n a).2.2.1).1 = 10 ∨ (tok f n (tok f n a).2.2.1).1 = 11)) := by first | exact Or.inl hnpf | exact hpx
              have hres : TRes f n lu o mo a sz W420 (tok f n a).2.2.1 0 (sz + 1) sz := by
                rcases hpx9 with z | ⟨z1, z2⟩
                · exact Or.inl ⟨_, _, _, _, by rw [Nat.add_sub_cancel_left]; exact q_atom pb_0 hk2 hcpl z, ⟨at423.1, by rw [at423.2.2]; exact (by decide : ¬ (0 : Int32) < 0)⟩, by rw [at423.2.1], fun z => absurd rfl z⟩
                · exact Or.inr ⟨z2, q_preX hn pb_0 hk2 hcpl z1 z2⟩
              exact v_ireturn (am_Dk d_MR_named (k := 68) rfl) rfl rfl (by omega) (by omega) ⟨rfl, (fun i hi => (fr429 i hi)), Or.inl ⟨sz, ((tok f n a).2.2.1), S, 0, (sz + 1), pt, ns367, tx368, vb, e1, e2, W420, On369, Vx, rfl, (show PS f n LU M414 ((tok f n a).2.2.1) (o + 1) tp S 0 (sz + 1) pt ns367 tx368 vb e1 e2 W420 On369 Vx from ⟨⟨by omega, by omega, by omega, by omega, by omega, by omega, by omega, by omega, by omega, by omega⟩, mb_fr hm428 (fun i hi => rfl), RS_fr hR430 (fun i hi => rfl), b426, ⟨_, b427⟩, tk382, nu383, l384, g385, kn, b424, hs387, b425, hg388⟩), ⟨by omega, by omega, ge422, by omega, q3705, fun _ _ => rfl, by omega, by omega, by omega⟩, hres, trivial⟩⟩
            · have hle : kn_pf (tok f n a).2.2.2.2 ≤ mo := by rw [← hpk]; exact Int32.not_lt.mp c410
              refine v_aload_n (am_Dk d_MR_named (k := 61) rfl) rfl ?_
              obtain ⟨sd9, rkA9, hsd9, hsk9, hra9, hrk9⟩ := (mb_fr (M1 := (am_up (am_up M363 1229 (.inl (0, 4096, .inl g385))) 1225 (.inr (12, [.ref 1226, .ref 1227, .ref 1228, .ref 1213, .ref 1220, .ref 1212, .int (nI n), .int (nI (tok f n ((tok f n a).2.2.1)).2.1), .int (nI (tok f n ((tok f n a).2.2.1)).2.2.1), .int tk382, .int (nI (o + 1)), .long nu383, .ref 1229, .int (nI l384), .ref 1230, .int (nI tp), .int (-1), .ref 1231, .int (nI vb), .int kn, .int 0, .ref 1232])))) hm375 (fun i hi => (am_up_ne (show i ≠ 1225 from by omega)).trans ((am_up_ne (show i ≠ 1229 from by omega)).trans (rfl)))).2.1
              have m431 : (am_up (am_up M363 1229 (.inl (0, 4096, .inl g385))) 1225 (.inr (12, [.ref 1226, .ref 1227, .ref 1228, .ref 1213, .ref 1220, .ref 1212, .int (nI n), .int (nI (tok f n ((tok f n a).2.2.1)).2.1), .int (nI (tok f n ((tok f n a).2.2.1)).2.2.1), .int tk382, .int (nI (o + 1)), .long nu383, .ref 1229, .int (nI l384), .ref 1230, .int (nI tp), .int (-1), .ref 1231, .int (nI vb), .int kn, .int 0, .ref 1232]))) 1225 = some (.inr (12, [.ref 1226, .ref 1227, .ref 1228, .ref 1213, .ref 1220, .ref 1212, .int (nI n), .int (nI (tok f n ((tok f n a).2.2.1)).2.1), .int (nI (tok f n ((tok f n a).2.2.1)).2.2.1), .int tk382, .int (nI (o + 1)), .long nu383, .ref 1229, .int (nI l384), .ref 1230, .int (nI tp), .int (-1), .ref 1231, .int (nI vb), .int kn, .int 0, .ref 1232])) := am_up_eq _ _ _
              have m432 : (am_up (am_up M363 1229 (.inl (0, 4096, .inl g385))) 1225 (.inr (12, [.ref 1226, .ref 1227, .ref 1228, .ref 1213, .ref 1220, .ref 1212, .int (nI n), .int (nI (tok f n ((tok f n a).2.2.1)).2.1), .int (nI (tok f n ((tok f n a).2.2.1)).2.2.1), .int tk382, .int (nI (o + 1)), .long nu383, .ref 1229, .int (nI l384), .ref 1230, .int (nI tp), .int (-1), .ref 1231, .int (nI vb), .int kn, .int 0, .ref 1232]))) 1229 = some (.inl (0, 4096, .inl g385)) := (am_up_ne (show 1229 ≠ 1225 from by decide)).trans (am_up_eq _ _ _)
              refine v_callV (rest := []) (As := []) (mc' := 0) (ms' := 0) (am_Dk d_MR_named (k := 62) rfl) c_MR_248 (Or.inl ⟨_, _, _, _, _, m431, cq_ok12⟩) (t_MR_begins G (d := 6) (le := 0) (by omega) m431 m432 (by omega) hsd9 hsk9 hra9 hrk9) (by omega) (by omega) (by omega) (by simp [Value.category]) rfl (fun v433 M434 n435 h436 => ?_) (fun _ _ _ h436 => ?_)
              rotate_left
              · exact absurd h436.1 (by simp)
              obtain ⟨h436, e437, e438⟩ := h436
              replace e437 := e437.symm
              replace e438 := e438.symm
              subst e437
              subst e438
              cases h436
              show am_V G _ _ _ _ _ 119 [(3, .int (nI k366)), (2, .int (pfN (tok f n a).2.2.2.2)), (0, .ref 1225), (1, .int mo)] [.int (bi (decide (¬ (tk382 = 5 ∨ tk382 = 7 ∨ tk382 = 9 ∨ tk382 = 10 ∨ tk382 = 11 ∨ tk382 = 0 ∨ tk382 = 13) ∧ ((if tk382 = 10 then 1000 else if tk382 = 3 then rkN (spg l384 g385) else -1) = -1 ∨ ¬ (if tk382 = 3 then pfN (spg l384 g385) else -1) = -1))))] (am_up (am_up M363 1229 (.inl (0, 4096, .inl g385))) 1225 (.inr (12, [.ref 1226, .ref 1227, .ref 1228, .ref 1213, .ref 1220, .ref 1212, .int (nI n), .int (nI (tok f n ((tok f n a).2.2.1)).2.1), .int (nI (tok f n ((tok f n a).2.2.1)).2.2.1), .int tk382, .int (nI (o + 1)), .long nu383, .ref 1229, .int (nI l384), .ref 1230, .int (nI tp), .int (-1), .ref 1231, .int (nI vb), .int kn, .int 0, .ref 1232]))) nx 0 0
              refine v_if_ne (tgt := 131) (am_Dk d_MR_named (k := 63) rfl) (by decide) (fun c439 => ?_) (fun c439 => ?_)
              · have hcan := (beg_can (by omega) hs387).1 (bi1 c439)
                have hcpf : c_pf f n mo a := ⟨hp0, hle, hcan⟩
                rw [hpk]
                refine v_aload_n (am_Dk d_MR_named (k := 69) rfl) rfl ?_
                refine v_get (am_Dk d_MR_named (k := 70) rfl) f_MR_102 m431 rfl ?_
                refine v_istore (L1 := [(4, .int (nI tp)), (3, .int (nI k366)), (2, .int (kn_pf (tok f n a).2.2.2.2)), (0, .ref 1225), (1, .int mo)]) (am_Dk d_MR_named (k := 71) rfl) (by decide) rfl ?_
                refine v_aload_n (am_Dk d_MR_named (k := 72) rfl) rfl ?_
                refine v_iload_n (am_Dk d_MR_named (k := 73) rfl) rfl ?_
                have ps440 := (show PS f n LU (am_up (am_up M363 1229 (.inl (0, 4096, .inl g385))) 1225 (.inr (12, [.ref 1226, .ref 1227, .ref 1228, .ref 1213, .ref 1220, .ref 1212, .int (nI n), .int (nI (tok f n ((tok f n a).2.2.1)).2.1), .int (nI (tok f n ((tok f n a).2.2.1)).2.2.1), .int tk382, .int (nI (o + 1)), .long nu383, .ref 1229, .int (nI l384), .ref 1230, .int (nI tp), .int (-1), .ref 1231, .int (nI vb), .int kn, .int 0, .ref 1232]))) ((tok f n a).2.2.1) (o + 1) tp S 0 sz pt ns367 tx368 vb e1 e2 W On369 Vx from ⟨⟨by omega, by omega, by omega, by omega, by omega, by omega, by omega, by omega, by omega, by omega⟩, mb_fr hm375 (fun i hi => (am_up_ne (show i ≠ 1225 from by omega)).trans ((am_up_ne (show i ≠ 1229 from by omega)).trans (rfl))), RS_fr hR377 (fun i hi => (am_up_ne (show i ≠ 1225 from by omega)).trans ((am_up_ne (show i ≠ 1229 from by omega)).trans (rfl))), (am_up_ne (show 1230 ≠ 1225 from by decide)).trans ((am_up_ne (show 1230 ≠ 1229 from by decide)).trans (b373)), ⟨_, (am_up_ne (show 1232 ≠ 1225 from by decide)).trans ((am_up_ne (show 1232 ≠ 1229 from by decide)).trans (b374))⟩, tk382, nu383, l384, g385, kn, am_up_eq _ _ _, hs387, (am_up_ne (show 1229 ≠ 1225 from by decide)).trans (am_up_eq _ _ _), hg388⟩)
                refine v_callV (rest := []) (As := [.int (kn_pf (tok f n a).2.2.2.2)]) (mc' := 0) (ms' := 0) (am_Dk d_MR_named (k := 74) rfl) c_MR_119 (Or.inl ⟨_, _, _, _, _, m431, cq_ok12⟩) (IH _ _ (kn_pf (tok f n a).2.2.2.2) _ _ _ _ _ _ _ _ _ _ _ _ _ _ ps440 hp2) (by omega) (by omega) (by omega) (by simp [Value.category]) rfl (fun v441 M442 n443 h444 => ?_) (fun x9 M442 n443 h444 => ?_)
                rotate_left
                · obtain ⟨ex9, pfT, hT⟩ := h444
                  replace ex9 := ex9.symm
                  subst ex9
                  rcases hT with ⟨_, _, _, _, _, _, _, _, _, _, _, _, _, _, hx9, _⟩ | ⟨wT, hx9, pxT, bT⟩
                  · cases hx9
                  · cases hx9
                    have hcpl : c_pl f n a := ⟨n40, hcp2⟩
                    exact vt_leave (fun q hq => by cases hq) (by omega) (by omega) ⟨rfl, (fun i hi => (pfT i hi).trans ((am_up_ne (show i ≠ 1225 from by omega)).trans ((am_up_ne (show i ≠ 1229 from by omega)).trans ((fr376 i hi))))), Or.inr ⟨wT, rfl, pxT, q_preB hn pb_0 hk2 hcpl hcpf (bT.elim (fun z => Or.inl ⟨by omega, z.2⟩) (fun z => Or.inr ⟨z.1, z.2⟩))⟩⟩
                obtain ⟨ex9, pf459, hT⟩ := h444
                replace ex9 := ex9.symm
                subst ex9
                rcases hT with ⟨t445, a446, S447, rk448, sz449, pt450, ns451, tx452, vb453, e1454, e2455, W456, On457, Vx458, hx9, psx, pe460, tr461, ee462⟩ | ⟨_, hx9, _⟩
                rotate_left
                · cases hx9
                cases hx9
                obtain ⟨pb468, hm469, hR470, hS471, ⟨kc472, hk473⟩, tk463, nu464, l465, g466, kn467, hr474, hs475, hw476, hg477⟩ := psx
                obtain ⟨pb468_0, pb468_1, pb468_2, pb468_3, pb468_4, pb468_5, pb468_6, pb468_7, pb468_8, pb468_9⟩ := pb468
                obtain ⟨pe460_0, pe460_1, pe460_2, pe460_3, pe460_4, pe460_5, pe460_6, pe460_7, pe460_8⟩ := pe460
                replace hr474 : M442 1225 = some (.inr (12, [.ref 1226, .ref 1227, .ref 1228, .ref 1213, .ref 1220, .ref 1212, .int (nI n), .int (nI ((tok f n a446).2.1)), .int (nI ((tok f n a446).2.2.1)), .int tk463, .int (nI (o + 1)), .long nu464, .ref 1229, .int (nI l465), .ref 1230, .int (nI tp), .int (-1), .ref 1231, .int (nI vb453), .int kn467, .int rk448, .ref 1232])) := hr474
                have k_hs475 := tok_ok f pb468_0
                have p_hs475 := tok_pos f pb468_0
                have l_hs475 := hs475.2.2.1
                have fr478 : pf_fr M M442 := fun i hi => (pf459 i hi).trans ((am_up_ne (show i ≠ 1225 from by omega)).trans ((am_up_ne (show i ≠ 1229 from by omega)).trans ((fr376 i hi))))
                show am_V G _ _ _ _ _ 142 [(4, .int (nI tp)), (3, .int (nI k366)), (2, .int (kn_pf (tok f n a).2.2.2.2)), (0, .ref 1225), (1, .int mo)] [.int (nI t445)] M442 nx 0 0
                refine v_istore (L1 := [(5, .int (nI t445)), (4, .int (nI tp)), (3, .int (nI k366)), (2, .int (kn_pf (tok f n a).2.2.2.2)), (0, .ref 1225), (1, .int mo)]) (am_Dk d_MR_named (k := 75) rfl) (by decide) rfl ?_
                refine v_aload_n (am_Dk d_MR_named (k := 76) rfl) rfl ?_
                refine v_get (am_Dk d_MR_named (k := 77) rfl) f_MR_72 hr474 rfl ?_
                refine v_aload_n (am_Dk d_MR_named (k := 78) rfl) rfl ?_
                refine v_dup (am_Dk d_MR_named (k := 79) rfl) rfl ?_
                refine v_get (am_Dk d_MR_named (k := 80) rfl) f_MR_102 hr474 rfl ?_
                refine v_dup_x1 (am_Dk d_MR_named (k := 81) rfl) rfl rfl ?_
                refine v_iconst (v := 1) (am_Dk d_MR_named (k := 82) rfl) (by decide) ?_
                refine v_iadd (am_Dk d_MR_named (k := 83) rfl) ?_
                rw [nI_1]
                refine v_put (am_Dk d_MR_named (k := 84) rfl) f_MR_102 hr474 (Nat.le_of_ble_eq_true rfl) rfl rfl ?_
                refine v_iload (am_Dk d_MR_named (k := 85) rfl) rfl ?_
                have m479 : (am_up M442 1225 (.inr (12, [.ref 1226, .ref 1227, .ref 1228, .ref 1213, .ref 1220, .ref 1212, .int (nI n), .int (nI ((tok f n a446).2.1)), .int (nI ((tok f n a446).2.2.1)), .int tk463, .int (nI (o + 1)), .long nu464, .ref 1229, .int (nI l465), .ref 1230, .int (nI (tp + 1)), .int (-1), .ref 1231, .int (nI vb453), .int kn467, .int rk448, .ref 1232]))) 1230 = some (.inl (1, 4200, .inl S447)) := (am_up_ne (show 1230 ≠ 1225 from by decide)).trans (hS471)
                refine v_iast (am_Dk d_MR_named (k := 86) rfl) m479 rfl (vp_in_nI (by omega) (by omega)) ?_
                rw [nI_clamp (n := tp) (by omega)]
                refine v_aload_n (am_Dk d_MR_named (k := 87) rfl) rfl ?_
                have m480 : (am_up (am_up M442 1225 (.inr (12, [.ref 1226, .ref 1227, .ref 1228, .ref 1213, .ref 1220, .ref 1212, .int (nI n), .int (nI ((tok f n a446).2.1)), .int (nI ((tok f n a446).2.2.1)), .int tk463, .int (nI (o + 1)), .long nu464, .ref 1229, .int (nI l465), .ref 1230, .int (nI (tp + 1)), .int (-1), .ref 1231, .int (nI vb453), .int kn467, .int rk448, .ref 1232]))) 1230 (.inl (1, 4200, .inl (upd S447 (tp) (nI t445))))) 1225 = some (.inr (12, [.ref 1226, .ref 1227, .ref 1228, .ref 1213, .ref 1220, .ref 1212, .int (nI n), .int (nI ((tok f n a446).2.1)), .int (nI ((tok f n a446).2.2.1)), .int tk463, .int (nI (o + 1)), .long nu464, .ref 1229, .int (nI l465), .ref 1230, .int (nI (tp + 1)), .int (-1), .ref 1231, .int (nI vb453), .int kn467, .int rk448, .ref 1232])) := (am_up_ne (show 1225 ≠ 1230 from by decide)).trans (am_up_eq _ _ _)
                refine v_get (am_Dk d_MR_named (k := 88) rfl) f_MR_81 m480 rfl ?_
                refine v_iload_n (am_Dk d_MR_named (k := 89) rfl) rfl ?_
                refine v_aload_n (am_Dk d_MR_named (k := 90) rfl) rfl ?_
                refine v_get (am_Dk d_MR_named (k := 91) rfl) f_MR_72 m480 rfl ?_
                refine v_iload (am_Dk d_MR_named (k := 92) rfl) rfl ?_
                refine v_iconst (v := 1) (am_Dk d_MR_named (k := 93) rfl) (by decide) ?_
                obtain ⟨⟨Kd481, Nm481, Fi481, Ma481, Pa481, Nu481⟩, T481, F481, Va481, hX481⟩ := RS_fr (M1 := (am_up (am_up M442 1225 (.inr (12, [.ref 1226, .ref 1227, .ref 1228, .ref 1213, .ref 1220, .ref 1212, .int (nI n), .int (nI ((tok f n a446).2.1)), .int (nI ((tok f n a446).2.2.1)), .int tk463, .int (nI (o + 1)), .long nu464, .ref 1229, .int (nI l465), .ref 1230, .int (nI (tp + 1)), .int (-1), .ref 1231, .int (nI vb453), .int kn467, .int rk448, .ref 1232]))) 1230 (.inl (1, 4200, .inl (upd S447 (tp) (nI t445)))))) hR470 (fun i hi => (am_up_ne (show i ≠ 1230 from by omega)).trans ((am_up_ne (show i ≠ 1225 from by omega)).trans (rfl)))
                have m482 : (am_up (am_up M442 1225 (.inr (12, [.ref 1226, .ref 1227, .ref 1228, .ref 1213, .ref 1220, .ref 1212, .int (nI n), .int (nI ((tok f n a446).2.1)), .int (nI ((tok f n a446).2.2.1)), .int tk463, .int (nI (o + 1)), .long nu464, .ref 1229, .int (nI l465), .ref 1230, .int (nI (tp + 1)), .int (-1), .ref 1231, .int (nI vb453), .int kn467, .int rk448, .ref 1232]))) 1230 (.inl (1, 4200, .inl (upd S447 (tp) (nI t445))))) 1230 = some (.inl (1, 4200, .inl (upd S447 (tp) (nI t445)))) := am_up_eq _ _ _
                refine v_callV (rest := []) (As := [.int (nI k366), .ref 1230, .int (nI tp), .int 1]) (mc' := 0) (ms' := 0) (am_Dk d_MR_named (k := 94) rfl) c_MR_215 (Or.inl ⟨_, _, _, _, _, (RS_o1213 (RS_fr (M1 := (am_up (am_up M442 1225 (.inr (12, [.ref 1226, .ref 1227, .ref 1228, .ref 1213, .ref 1220, .ref 1212, .int (nI n), .int (nI ((tok f n a446).2.1)), .int (nI ((tok f n a446).2.2.1)), .int tk463, .int (nI (o + 1)), .long nu464, .ref 1229, .int (nI l465), .ref 1230, .int (nI (tp + 1)), .int (-1), .ref 1231, .int (nI vb453), .int kn467, .int rk448, .ref 1232]))) 1230 (.inl (1, 4200, .inl (upd S447 (tp) (nI t445)))))) hR470 (fun i hi => (am_up_ne (show i ≠ 1230 from by omega)).trans ((am_up_ne (show i ≠ 1225 from by omega)).trans (rfl))))), cq_ok10⟩) (t_MT_compound G (d := 0) (c := 1) (fr := tp) (by omega) hX481.1 (by omega) m482 (by omega) (by omega) (by omega)) (by omega) (by omega) (by omega) (by simp [Value.category]) rfl (fun v483 M484 n485 h486 => ?_) (fun _ _ _ h486 => ?_)
                rotate_left
                · exact absurd h486.1 (by simp)
                obtain ⟨h486, hA487, hf488, ex9⟩ := h486
                cases h486
                replace ex9 := ex9.symm
                subst ex9
                have hR489 := RS_comp hX481 (k := k366) (c := 1) (fr := tp) (y := (fun _ => t445)) (by omega) (by omega) (fun j hj => ⟨by omega, by rw [show tp + j = tp from by omega]; exact upd_at _ _ _⟩) hA487 hf488
                obtain ⟨W490, hW491⟩ : ∃ W9, W9 = gu W456 sz449 (if 1 = 1 then rk1 (On457 k366) (W456.1 ((fun _ => t445) 0)).1 (W456.1 ((fun _ => t445) 0)).2 else if 1 = 2 then rk2 (On457 k366) (W456.1 ((fun _ => t445) 0)).1 (W456.1 ((fun _ => t445) 0)).2 (W456.1 ((fun _ => t445) 1)).1 (W456.1 ((fun _ => t445) 1)).2 else (2, 0)) (if 1 = 2 then (On457 k366, (fun _ => t445) 0, (fun _ => t445) 1) else (0, 0, 0)) none := ⟨_, rfl⟩
                rw [← hW491] at hR489
                have ge492 : gh_eq sz449 W456 W490 := by rw [hW491]; exact gu_eq _ _ _ _ _
                have at493 := gu_at W456 sz449 (if 1 = 1 then rk1 (On457 k366) (W456.1 ((fun _ => t445) 0)).1 (W456.1 ((fun _ => t445) 0)).2 else if 1 = 2 then rk2 (On457 k366) (W456.1 ((fun _ => t445) 0)).1 (W456.1 ((fun _ => t445) 0)).2 (W456.1 ((fun _ => t445) 1)).1 (W456.1 ((fun _ => t445) 1)).2 else (2, 0)) (if 1 = 2 then (On457 k366, (fun _ => t445) 0, (fun _ => t445) 1) else (0, 0, 0)) none
                rw [← hW491] at at493
                have b494 : M484 1225 = some (.inr (12, [.ref 1226, .ref 1227, .ref 1228, .ref 1213, .ref 1220, .ref 1212, .int (nI n), .int (nI ((tok f n a446).2.1)), .int (nI ((tok f n a446).2.2.1)), .int tk463, .int (nI (o + 1)), .long nu464, .ref 1229, .int (nI l465), .ref 1230, .int (nI (tp + 1)), .int (-1), .ref 1231, .int (nI vb453), .int kn467, .int rk448, .ref 1232])) := (hf488 1225 (by omega)).trans ((am_up_ne (show 1225 ≠ 1230 from by decide)).trans (am_up_eq _ _ _))
                have b495 : M484 1229 = some (.inl (0, 4096, .inl g466)) := (hf488 1229 (by omega)).trans ((am_up_ne (show 1229 ≠ 1230 from by decide)).trans ((am_up_ne (show 1229 ≠ 1225 from by decide)).trans (hw476)))
                have b496 : M484 1230 = some (.inl (1, 4200, .inl (upd S447 (tp) (nI t445)))) := (hf488 1230 (by omega)).trans (am_up_eq _ _ _)
                have b497 : M484 1232 = some (.inl (0, 4096, .inl kc472)) := (hf488 1232 (by omega)).trans ((am_up_ne (show 1232 ≠ 1230 from by decide)).trans ((am_up_ne (show 1232 ≠ 1225 from by decide)).trans (hk473)))
                have hm498 : mb f M484 := mb_fr hm469 (fun i hi => (hf488 i (by omega)).trans ((am_up_ne (show i ≠ 1230 from by omega)).trans ((am_up_ne (show i ≠ 1225 from by omega)).trans (rfl))))
                have fr499 : pf_fr M M484 := fun i hi => (hf488 i (by omega)).trans ((am_up_ne (show i ≠ 1230 from by omega)).trans ((am_up_ne (show i ≠ 1225 from by omega)).trans ((fr478 i hi))))
                have hR500 : RS LU M484 (sz449 + 1) (pt450 + 1) ns451 tx452 vb453 e1454 e2455 W490 On457 Vx458 := ⟨_, _, _, _, hR489⟩
                show am_V G _ _ _ _ _ 177 [(5, .int (nI t445)), (4, .int (nI tp)), (3, .int (nI k366)), (2, .int (kn_pf (tok f n a).2.2.2.2)), (0, .ref 1225), (1, .int mo)] [.int (nI sz449)] M484 nx 0 0
                refine v_istore (L1 := [(6, .int (nI sz449)), (5, .int (nI t445)), (4, .int (nI tp)), (3, .int (nI k366)), (2, .int (kn_pf (tok f n a).2.2.2.2)), (0, .ref 1225), (1, .int mo)]) (am_Dk d_MR_named (k := 95) rfl) (by decide) rfl ?_
                refine v_aload_n (am_Dk d_MR_named (k := 96) rfl) rfl ?_
                refine v_iload (am_Dk d_MR_named (k := 97) rfl) rfl ?_
                refine v_put (am_Dk d_MR_named (k := 98) rfl) f_MR_102 b494 (Nat.le_of_ble_eq_true rfl) rfl rfl ?_
                refine v_aload_n (am_Dk d_MR_named (k := 99) rfl) rfl ?_
                refine v_iload_n (am_Dk d_MR_named (k := 100) rfl) rfl ?_
                have m501 : (am_up M484 1225 (.inr (12, [.ref 1226, .ref 1227, .ref 1228, .ref 1213, .ref 1220, .ref 1212, .int (nI n), .int (nI ((tok f n a446).2.1)), .int (nI ((tok f n a446).2.2.1)), .int tk463, .int (nI (o + 1)), .long nu464, .ref 1229, .int (nI l465), .ref 1230, .int (nI tp), .int (-1), .ref 1231, .int (nI vb453), .int kn467, .int rk448, .ref 1232]))) 1225 = some (.inr (12, [.ref 1226, .ref 1227, .ref 1228, .ref 1213, .ref 1220, .ref 1212, .int (nI n), .int (nI ((tok f n a446).2.1)), .int (nI ((tok f n a446).2.2.1)), .int tk463, .int (nI (o + 1)), .long nu464, .ref 1229, .int (nI l465), .ref 1230, .int (nI tp), .int (-1), .ref 1231, .int (nI vb453), .int kn467, .int rk448, .ref 1232])) := am_up_eq _ _ _
                refine v_put (am_Dk d_MR_named (k := 101) rfl) f_MR_204 m501 (Nat.le_of_ble_eq_true rfl) rfl rfl ?_
                rw [am_uu0 (a := 1225)]
                refine v_iload (am_Dk d_MR_named (k := 102) rfl) rfl ?_
                have hcpl : c_pl f n a := ⟨n40, hcp2⟩
                have hkO : On457 k366 = (tok f n a).2.2.2.2 := (pe460_4 k366 q3702).trans (q3703.trans hsp)
                have hat1 := at493.1
                rw [if_pos rfl, hkO] at hat1
                have hat2 := at493.2.1
                rw [if_neg (by decide)] at hat2
                have hres : TRes f n lu o mo a sz W490 a446 (kn_pf (tok f n a).2.2.2.2) (sz449 + 1) sz449 := by
                  rcases tr461 with ⟨wT, roT, L9, R9, hTO, hOp, hro, hch⟩ | ⟨hk10, hTB⟩
                  · have hTE := q_pre pb_0 hk2 hcpl hcpf ee462.1 hTO ee462.2
                    rw [show sz449 - sz + 1 = sz449 + 1 - sz from by omega] at hTE
                    have e1 : W456.1 t445 = (wT.1, wT.2.1) := hOp.1
                    rw [e1] at hat1
                    exact Or.inl ⟨_, _, _, _, hTE, ⟨hat1, by rw [at493.2.2]; exact (by decide : ¬ (0 : Int32) < 0)⟩, by rw [hat2], fun z => absurd rfl z⟩
                  · exact Or.inr ⟨hk10, q_preB hn pb_0 hk2 hcpl hcpf (Or.inr ⟨ee462.1, hTB⟩)⟩
                exact v_ireturn (am_Dk d_MR_named (k := 103) rfl) rfl rfl (by omega) (by omega) ⟨rfl, (fun i hi => (am_up_ne (show i ≠ 1225 from by omega)).trans ((fr499 i hi))), Or.inl ⟨sz449, a446, (upd S447 (tp) (nI t445)), (kn_pf (tok f n a).2.2.2.2), (sz449 + 1), (pt450 + 1), ns451, tx452, vb453, e1454, e2455, W490, On457, Vx458, rfl, (show PS f n LU (am_up M484 1225 (.inr (12, [.ref 1226, .ref 1227, .ref 1228, .ref 1213, .ref 1220, .ref 1212, .int (nI n), .int (nI ((tok f n a446).2.1)), .int (nI ((tok f n a446).2.2.1)), .int tk463, .int (nI (o + 1)), .long nu464, .ref 1229, .int (nI l465), .ref 1230, .int (nI tp), .int (-1), .ref 1231, .int (nI vb453), .int kn467, .int (kn_pf (tok f n a).2.2.2.2), .ref 1232]))) a446 (o + 1) tp (upd S447 (tp) (nI t445)) (kn_pf (tok f n a).2.2.2.2) (sz449 + 1) (pt450 + 1) ns451 tx452 vb453 e1454 e2455 W490 On457 Vx458 from ⟨⟨by omega, by omega, by omega, by omega, by omega, by omega, by omega, by omega, by omega, by omega⟩, mb_fr hm498 (fun i hi => (am_up_ne (show i ≠ 1225 from by omega)).trans (rfl)), RS_fr hR500 (fun i hi => (am_up_ne (show i ≠ 1225 from by omega)).trans (rfl)), (am_up_ne (show 1230 ≠ 1225 from by decide)).trans (b496), ⟨_, (am_up_ne (show 1232 ≠ 1225 from by decide)).trans (b497)⟩, tk463, nu464, l465, g466, kn467, am_up_eq _ _ _, hs475, (am_up_ne (show 1229 ≠ 1225 from by decide)).trans (b495), hg477⟩), ⟨by omega, by omega, gh_trans pe460_2 ge492 (by omega), by omega, fun j hj => (pe460_4 j (by omega)).trans (q3705 j hj), fun j hj => (upd_ne _ _ (by omega)).trans (pe460_5 j hj), by omega, by omega, by omega⟩, hres, trivial⟩⟩
              · have hcan := (beg_can (by omega) hs387).2 (bi0.mp c439)
                have hpx : (¬ c_pf f n mo a) ∨ (c_pf f n mo a ∧ ((tok f n (tok f n a).2.2.1).1 = 10 ∨ (tok f n (tok f n a).2.2.1).1 = 11)) := by rcases hcan with z | z; exact Or.inl (fun y => absurd (z.symm.trans y.2.2) (by decide)); exact Or.inr ⟨⟨hp0, hle, by rw [c_can, if_neg (by omega), decide_eq_true (by omega)]⟩, z⟩
                refine v_aload_n (am_Dk d_MR_named (k := 64) rfl) rfl ?_
                refine v_get (am_Dk d_MR_named (k := 65) rfl) f_MR_81 m431 rfl ?_
                refine v_iload_n (am_Dk d_MR_named (k := 66) rfl) rfl ?_
                obtain ⟨⟨Kd502, Nm502, Fi502, Ma502, Pa502, Nu502⟩, T502, F502, Va502, hX502⟩ := RS_fr (M1 := (am_up (am_up M363 1229 (.inl (0, 4096, .inl g385))) 1225 (.inr (12, [.ref 1226, .ref 1227, .ref 1228, .ref 1213, .ref 1220, .ref 1212, .int (nI n), .int (nI (tok f n ((tok f n a).2.2.1)).2.1), .int (nI (tok f n ((tok f n a).2.2.1)).2.2.1), .int tk382, .int (nI (o + 1)), .long nu383, .ref 1229, .int (nI l384), .ref 1230, .int (nI tp), .int (-1), .ref 1231, .int (nI vb), .int kn, .int 0, .ref 1232])))) hR377 (fun i hi => (am_up_ne (show i ≠ 1225 from by omega)).trans ((am_up_ne (show i ≠ 1229 from by omega)).trans (rfl)))
                refine v_callV (rest := []) (As := [.int (nI k366)]) (mc' := 0) (ms' := 0) (am_Dk d_MR_named (k := 67) rfl) c_MR_252 (Or.inl ⟨_, _, _, _, _, (RS_o1213 (RS_fr (M1 := (am_up (am_up M363 1229 (.inl (0, 4096, .inl g385))) 1225 (.inr (12, [.ref 1226, .ref 1227, .ref 1228, .ref 1213, .ref 1220, .ref 1212, .int (nI n), .int (nI (tok f n ((tok f n a).2.2.1)).2.1), .int (nI (tok f n ((tok f n a).2.2.1)).2.2.1), .int tk382, .int (nI (o + 1)), .long nu383, .ref 1229, .int (nI l384), .ref 1230, .int (nI tp), .int (-1), .ref 1231, .int (nI vb), .int kn, .int 0, .ref 1232])))) hR377 (fun i hi => (am_up_ne (show i ≠ 1225 from by omega)).trans ((am_up_ne (show i ≠ 1229 from by omega)).trans (rfl))))), cq_ok10⟩) (t_MT_atom G (d := 0) (by omega) hX502.1 (by omega)) (by omega) (by omega) (by omega) (by simp [Value.category]) rfl (fun v503 M504 n505 h506 => ?_) (fun _ _ _ h506 => ?_)
                rotate_left
                · exact absurd h506.1 (by simp)
                obtain ⟨h506, hA507, hf508, ex9⟩ := h506
                cases h506
                replace ex9 := ex9.symm
                subst ex9
                have hR509 := RS_atom hX502 (k := k366) (by omega) hA507 hf508
                obtain ⟨W510, hW511⟩ : ∃ W9, W9 = gu W sz (2, 0) (0, 0, 0) none := ⟨_, rfl⟩
                rw [← hW511] at hR509
                have ge512 : gh_eq sz W W510 := by rw [hW511]; exact gu_eq _ _ _ _ _
                have at513 := gu_at W sz (2, 0) (0, 0, 0) none
                rw [← hW511] at at513
                have b514 : M504 1225 = some (.inr (12, [.ref 1226, .ref 1227, .ref 1228, .ref 1213, .ref 1220, .ref 1212, .int (nI n), .int (nI (tok f n ((tok f n a).2.2.1)).2.1), .int (nI (tok f n ((tok f n a).2.2.1)).2.2.1), .int tk382, .int (nI (o + 1)), .long nu383, .ref 1229, .int (nI l384), .ref 1230, .int (nI tp), .int (-1), .ref 1231, .int (nI vb), .int kn, .int 0, .ref 1232])) := (hf508 1225 (by omega)).trans (am_up_eq _ _ _)
                have b515 : M504 1229 = some (.inl (0, 4096, .inl g385)) := (hf508 1229 (by omega)).trans ((am_up_ne (show 1229 ≠ 1225 from by decide)).trans (am_up_eq _ _ _))
                have b516 : M504 1230 = some (.inl (1, 4200, .inl S)) := (hf508 1230 (by omega)).trans ((am_up_ne (show 1230 ≠ 1225 from by decide)).trans ((am_up_ne (show 1230 ≠ 1229 from by decide)).trans (b373)))
                have b517 : M504 1232 = some (.inl (0, 4096, .inl kc)) := (hf508 1232 (by omega)).trans ((am_up_ne (show 1232 ≠ 1225 from by decide)).trans ((am_up_ne (show 1232 ≠ 1229 from by decide)).trans (b374)))
                have hm518 : mb f M504 := mb_fr hm375 (fun i hi => (hf508 i (by omega)).trans ((am_up_ne (show i ≠ 1225 from by omega)).trans ((am_up_ne (show i ≠ 1229 from by omega)).trans (rfl))))
                have fr519 : pf_fr M M504 := fun i hi => (hf508 i (by omega)).trans ((am_up_ne (show i ≠ 1225 from by omega)).trans ((am_up_ne (show i ≠ 1229 from by omega)).trans ((fr376 i hi))))
                have hR520 : RS LU M504 (sz + 1) pt ns367 tx368 vb e1 e2 W510 On369 Vx := ⟨_, _, _, _, hR509⟩
                show am_V G _ _ _ _ _ 130 [(3, .int (nI k366)), (2, .int (pfN (tok f n a).2.2.2.2)), (0, .ref 1225), (1, .int mo)] [.int (nI sz)] M504 nx 0 0
                have hcpl : c_pl f n a := ⟨n40, hcp2⟩
                have hpx9 : (¬ c_pf f n mo a) ∨ (c_pf f n mo a ∧ ((tok f n (tok f n a).2.2.1).1 = 10 ∨ (tok f n (tok f n a).2.2.1).1 = 11)) := by first | exact Or.inl hnpf | exact hpx
                have hres : TRes f n lu o mo a sz W510 (tok f n a).2.2.1 0 (sz + 1) sz := by
                  rcases hpx9 with z | ⟨z1, z2⟩
                  · exact Or.inl ⟨_, _, _, _, by rw [Nat.add_sub_cancel_left]; exact q_atom pb_0 hk2 hcpl z, ⟨at513.1, by rw [at513.2.2]; exact (by decide : ¬ (0 : Int32) < 0)⟩, by rw [at513.2.1], fun z => absurd rfl z⟩
                  · exact Or.inr ⟨z2, q_preX hn pb_0 hk2 hcpl z1 z2⟩
                exact v_ireturn (am_Dk d_MR_named (k := 68) rfl) rfl rfl (by omega) (by omega) ⟨rfl, (fun i hi => (fr519 i hi)), Or.inl ⟨sz, ((tok f n a).2.2.1), S, 0, (sz + 1), pt, ns367, tx368, vb, e1, e2, W510, On369, Vx, rfl, (show PS f n LU M504 ((tok f n a).2.2.1) (o + 1) tp S 0 (sz + 1) pt ns367 tx368 vb e1 e2 W510 On369 Vx from ⟨⟨by omega, by omega, by omega, by omega, by omega, by omega, by omega, by omega, by omega, by omega⟩, mb_fr hm518 (fun i hi => rfl), RS_fr hR520 (fun i hi => rfl), b516, ⟨_, b517⟩, tk382, nu383, l384, g385, kn, b514, hs387, b515, hg388⟩), ⟨by omega, by omega, ge512, by omega, q3705, fun _ _ => rfl, by omega, by omega, by omega⟩, hres, trivial⟩⟩
        · have hdg := tok_dg (f := f) (n := n) (e := (tok f n a).2.2.1) (by rw [← lk_dg hb]; exact bi1 c354)
          refine v_aload_n (am_Dk d_MR_named (k := 25) rfl) rfl ?_
          refine v_callV (rest := []) (As := []) (mc' := 0) (ms' := 0) (am_Dk d_MR_named (k := 26) rfl) c_MR_113 (Or.inl ⟨_, _, _, _, _, hr, cq_ok12⟩) (t_MR_scan G (d := 5) (be := 0) (a := (tok f n a).2.2.1) (by omega) hr hm.1 hn hb (by omega) hw hg) (by omega) (by omega) (by omega) (by simp [Value.category]) rfl (fun v521 M522 n523 h524 => ?_) (fun _ _ _ h524 => ?_)
          rotate_left
          · obtain ⟨_, _, _, _, hx9, _⟩ := h524; cases hx9
          obtain ⟨tk525, nu526, l527, g528, h524, ex9, e529, hs530, hg531⟩ := h524
          replace e529 := e529.symm
          replace ex9 := ex9.symm
          subst e529
          subst ex9
          cases h524
          have k_hs530 := tok_ok f (show (tok f n a).2.2.1 ≤ n from by omega)
          have p_hs530 := tok_pos f (show (tok f n a).2.2.1 ≤ n from by omega)
          have l_hs530 := hs530.2.2.1
          show am_V G _ _ _ _ _ 55 [(0, .ref 1225), (1, .int mo)] [] (am_up (am_up M 1229 (.inl (0, 4096, .inl g528))) 1225 (.inr (12, [.ref 1226, .ref 1227, .ref 1228, .ref 1213, .ref 1220, .ref 1212, .int (nI n), .int (nI (tok f n ((tok f n a).2.2.1)).2.1), .int (nI (tok f n ((tok f n a).2.2.1)).2.2.1), .int tk525, .int (nI (o + 1)), .long nu526, .ref 1229, .int (nI l527), .ref 1230, .int (nI tp), .int (-1), .ref 1231, .int (nI vb), .int kn, .int 0, .ref 1232]))) nx 0 0
          refine v_aload_n (am_Dk d_MR_named (k := 27) rfl) rfl ?_
          have m532 : (am_up (am_up M 1229 (.inl (0, 4096, .inl g528))) 1225 (.inr (12, [.ref 1226, .ref 1227, .ref 1228, .ref 1213, .ref 1220, .ref 1212, .int (nI n), .int (nI (tok f n ((tok f n a).2.2.1)).2.1), .int (nI (tok f n ((tok f n a).2.2.1)).2.2.1), .int tk525, .int (nI (o + 1)), .long nu526, .ref 1229, .int (nI l527), .ref 1230, .int (nI tp), .int (-1), .ref 1231, .int (nI vb), .int kn, .int 0, .ref 1232]))) 1225 = some (.inr (12, [.ref 1226, .ref 1227, .ref 1228, .ref 1213, .ref 1220, .ref 1212, .int (nI n), .int (nI (tok f n ((tok f n a).2.2.1)).2.1), .int (nI (tok f n ((tok f n a).2.2.1)).2.2.1), .int tk525, .int (nI (o + 1)), .long nu526, .ref 1229, .int (nI l527), .ref 1230, .int (nI tp), .int (-1), .ref 1231, .int (nI vb), .int kn, .int 0, .ref 1232])) := am_up_eq _ _ _
          refine v_get (am_Dk d_MR_named (k := 28) rfl) f_MR_123 m532 rfl ?_
          refine v_iconst (v := 2) (am_Dk d_MR_named (k := 29) rfl) (by decide) ?_
          refine v_icmp_eq (tgt := 72) (am_Dk d_MR_named (k := 30) rfl) (by decide) (fun c533 => ?_) (fun c533 => ?_)
          · have hk1 : (tok f n (tok f n a).2.2.1).1 = 1 := (tkR_eq hs530.1 (by omega)).2.2.2.2.2.2.1.mp c533
            have hnu := hs530.2.1 hk1
            have hnR := (tok_num hk1).2
            rw [← hnu] at hnR
            refine v_aload_n (am_Dk d_MR_named (k := 36) rfl) rfl ?_
            refine v_get (am_Dk d_MR_named (k := 37) rfl) f_MR_81 m532 rfl ?_
            refine v_aload_n (am_Dk d_MR_named (k := 38) rfl) rfl ?_
            refine v_get (am_Dk d_MR_named (k := 39) rfl) f_MR_174 m532 rfl ?_
            refine v_lneg (am_Dk d_MR_named (k := 40) rfl) ?_
            obtain ⟨⟨Kd534, Nm534, Fi534, Ma534, Pa534, Nu534⟩, T534, F534, Va534, hX534⟩ := RS_fr (M1 := (am_up (am_up M 1229 (.inl (0, 4096, .inl g528))) 1225 (.inr (12, [.ref 1226, .ref 1227, .ref 1228, .ref 1213, .ref 1220, .ref 1212, .int (nI n), .int (nI (tok f n ((tok f n a).2.2.1)).2.1), .int (nI (tok f n ((tok f n a).2.2.1)).2.2.1), .int tk525, .int (nI (o + 1)), .long nu526, .ref 1229, .int (nI l527), .ref 1230, .int (nI tp), .int (-1), .ref 1231, .int (nI vb), .int kn, .int 0, .ref 1232])))) hR (fun i hi => (am_up_ne (show i ≠ 1225 from by omega)).trans ((am_up_ne (show i ≠ 1229 from by omega)).trans (rfl)))
            refine v_callV (rest := []) (As := [.long (-nu526)]) (mc' := 0) (ms' := 0) (am_Dk d_MR_named (k := 41) rfl) c_MR_228 (Or.inl ⟨_, _, _, _, _, (RS_o1213 (RS_fr (M1 := (am_up (am_up M 1229 (.inl (0, 4096, .inl g528))) 1225 (.inr (12, [.ref 1226, .ref 1227, .ref 1228, .ref 1213, .ref 1220, .ref 1212, .int (nI n), .int (nI (tok f n ((tok f n a).2.2.1)).2.1), .int (nI (tok f n ((tok f n a).2.2.1)).2.2.1), .int tk525, .int (nI (o + 1)), .long nu526, .ref 1229, .int (nI l527), .ref 1230, .int (nI tp), .int (-1), .ref 1231, .int (nI vb), .int kn, .int 0, .ref 1232])))) hR (fun i hi => (am_up_ne (show i ≠ 1225 from by omega)).trans ((am_up_ne (show i ≠ 1229 from by omega)).trans (rfl))))), cq_ok10⟩) (t_MT_integer G (d := 0) (by omega) hX534.1 (by omega)) (by omega) (by omega) (by omega) (by simp [Value.category]) rfl (fun v535 M536 n537 h538 => ?_) (fun _ _ _ h538 => ?_)
            rotate_left
            · exact absurd h538.1 (by simp)
            obtain ⟨h538, hA539, hf540, ex9⟩ := h538
            cases h538
            replace ex9 := ex9.symm
            subst ex9
            have hR541 := RS_int hX534 hnR hA539 hf540
            obtain ⟨W542, hW543⟩ : ∃ W9, W9 = gu W sz (0, (-nu526)) (0, 0, 0) none := ⟨_, rfl⟩
            rw [← hW543] at hR541
            have ge544 : gh_eq sz W W542 := by rw [hW543]; exact gu_eq _ _ _ _ _
            have at545 := gu_at W sz (0, (-nu526)) (0, 0, 0) none
            rw [← hW543] at at545
            have b546 : M536 1225 = some (.inr (12, [.ref 1226, .ref 1227, .ref 1228, .ref 1213, .ref 1220, .ref 1212, .int (nI n), .int (nI (tok f n ((tok f n a).2.2.1)).2.1), .int (nI (tok f n ((tok f n a).2.2.1)).2.2.1), .int tk525, .int (nI (o + 1)), .long nu526, .ref 1229, .int (nI l527), .ref 1230, .int (nI tp), .int (-1), .ref 1231, .int (nI vb), .int kn, .int 0, .ref 1232])) := (hf540 1225 (by omega)).trans (am_up_eq _ _ _)
            have b547 : M536 1229 = some (.inl (0, 4096, .inl g528)) := (hf540 1229 (by omega)).trans ((am_up_ne (show 1229 ≠ 1225 from by decide)).trans (am_up_eq _ _ _))
            have b548 : M536 1230 = some (.inl (1, 4200, .inl S)) := (hf540 1230 (by omega)).trans ((am_up_ne (show 1230 ≠ 1225 from by decide)).trans ((am_up_ne (show 1230 ≠ 1229 from by decide)).trans (hS)))
            have b549 : M536 1232 = some (.inl (0, 4096, .inl kc)) := (hf540 1232 (by omega)).trans ((am_up_ne (show 1232 ≠ 1225 from by decide)).trans ((am_up_ne (show 1232 ≠ 1229 from by decide)).trans (hkc)))
            have hm550 : mb f M536 := mb_fr hm (fun i hi => (hf540 i (by omega)).trans ((am_up_ne (show i ≠ 1225 from by omega)).trans ((am_up_ne (show i ≠ 1229 from by omega)).trans (rfl))))
            have fr551 : pf_fr M M536 := fun i hi => (hf540 i (by omega)).trans ((am_up_ne (show i ≠ 1225 from by omega)).trans ((am_up_ne (show i ≠ 1229 from by omega)).trans ((fr0 i hi))))
            have hR552 : RS LU M536 (sz + 1) pt ns tx vb e1 e2 W542 On Vx := ⟨_, _, _, _, hR541⟩
            show am_V G _ _ _ _ _ 84 [(0, .ref 1225), (1, .int mo)] [.int (nI sz)] M536 nx 0 0
            refine v_istore_n (L1 := [(2, .int (nI sz)), (0, .ref 1225), (1, .int mo)]) (am_Dk d_MR_named (k := 42) rfl) (by decide) rfl ?_
            refine v_aload_n (am_Dk d_MR_named (k := 43) rfl) rfl ?_
            refine v_callV (rest := []) (As := []) (mc' := 0) (ms' := 0) (am_Dk d_MR_named (k := 44) rfl) c_MR_113 (Or.inl ⟨_, _, _, _, _, b546, cq_ok12⟩) (t_MR_scan G (d := 5) (be := 0) (a := (tok f n ((tok f n a).2.2.1)).2.2.1) (by omega) b546 hm550.1 hn hb (by omega) b547 hg531) (by omega) (by omega) (by omega) (by simp [Value.category]) rfl (fun v553 M554 n555 h556 => ?_) (fun _ _ _ h556 => ?_)
            rotate_left
            · obtain ⟨_, _, _, _, hx9, _⟩ := h556; cases hx9
            obtain ⟨tk557, nu558, l559, g560, h556, ex9, e561, hs562, hg563⟩ := h556
            replace e561 := e561.symm
            replace ex9 := ex9.symm
            subst e561
            subst ex9
            cases h556
            have k_hs562 := tok_ok f (show (tok f n ((tok f n a).2.2.1)).2.2.1 ≤ n from by omega)
            have p_hs562 := tok_pos f (show (tok f n ((tok f n a).2.2.1)).2.2.1 ≤ n from by omega)
            have l_hs562 := hs562.2.2.1
            show am_V G _ _ _ _ _ 89 [(2, .int (nI sz)), (0, .ref 1225), (1, .int mo)] [] (am_up (am_up M536 1229 (.inl (0, 4096, .inl g560))) 1225 (.inr (12, [.ref 1226, .ref 1227, .ref 1228, .ref 1213, .ref 1220, .ref 1212, .int (nI n), .int (nI (tok f n ((tok f n ((tok f n a).2.2.1)).2.2.1)).2.1), .int (nI (tok f n ((tok f n ((tok f n a).2.2.1)).2.2.1)).2.2.1), .int tk557, .int (nI (o + 1)), .long nu558, .ref 1229, .int (nI l559), .ref 1230, .int (nI tp), .int (-1), .ref 1231, .int (nI vb), .int kn, .int 0, .ref 1232]))) nx 0 0
            refine v_iload_n (am_Dk d_MR_named (k := 45) rfl) rfl ?_
            have hTE := q_neg (lu := lu) (o := o) (mo := mo) pb_0 hk2 hdg.1 hk1 h18
            rw [← hnu, (set_R hnR).1, (set_R hnR).2] at hTE
            have hres : TRes f n lu o mo a sz W542 (tok f n (tok f n a).2.2.1).2.2.1 0 (sz + 1) sz := Or.inl ⟨_, _, _, _, by rw [Nat.add_sub_cancel_left]; exact hTE, ⟨at545.1, by rw [at545.2.2]; exact (by decide : ¬ (0 : Int32) < 0)⟩, by rw [at545.2.1], fun z => absurd rfl z⟩
            exact v_ireturn (am_Dk d_MR_named (k := 46) rfl) rfl rfl (by omega) (by omega) ⟨rfl, (fun i hi => (am_up_ne (show i ≠ 1225 from by omega)).trans ((am_up_ne (show i ≠ 1229 from by omega)).trans ((fr551 i hi)))), Or.inl ⟨sz, ((tok f n ((tok f n a).2.2.1)).2.2.1), S, 0, (sz + 1), pt, ns, tx, vb, e1, e2, W542, On, Vx, rfl, (show PS f n LU (am_up (am_up M536 1229 (.inl (0, 4096, .inl g560))) 1225 (.inr (12, [.ref 1226, .ref 1227, .ref 1228, .ref 1213, .ref 1220, .ref 1212, .int (nI n), .int (nI (tok f n ((tok f n ((tok f n a).2.2.1)).2.2.1)).2.1), .int (nI (tok f n ((tok f n ((tok f n a).2.2.1)).2.2.1)).2.2.1), .int tk557, .int (nI (o + 1)), .long nu558, .ref 1229, .int (nI l559), .ref 1230, .int (nI tp), .int (-1), .ref 1231, .int (nI vb), .int kn, .int 0, .ref 1232]))) ((tok f n ((tok f n a).2.2.1)).2.2.1) (o + 1) tp S 0 (sz + 1) pt ns tx vb e1 e2 W542 On Vx from ⟨⟨by omega, by omega, by omega, by omega, by omega, by omega, by omega, by omega, by omega, by omega⟩, mb_fr hm550 (fun i hi => (am_up_ne (show i ≠ 1225 from by omega)).trans ((am_up_ne (show i ≠ 1229 from by omega)).trans (rfl))), RS_fr hR552 (fun i hi => (am_up_ne (show i ≠ 1225 from by omega)).trans ((am_up_ne (show i ≠ 1229 from by omega)).trans (rfl))), (am_up_ne (show 1230 ≠ 1225 from by decide)).trans ((am_up_ne (show 1230 ≠ 1229 from by decide)).trans (b548)), ⟨_, (am_up_ne (show 1232 ≠ 1225 from by decide)).trans ((am_up_ne (show 1232 ≠ 1229 from by decide)).trans (b549))⟩, tk557, nu558, l559, g560, kn, am_up_eq _ _ _, hs562, (am_up_ne (show 1229 ≠ 1225 from by decide)).trans (am_up_eq _ _ _), hg563⟩), ⟨by omega, by omega, ge544, Nat.le_refl _, fun _ _ => rfl, fun _ _ => rfl, by omega, by omega, by omega⟩, hres, trivial⟩⟩
          · have hk11 : (tok f n (tok f n a).2.2.1).1 = 11 := by have := fun z => c533 ((tkR_eq hs530.1 (by omega)).2.2.2.2.2.2.1.mpr z); exact hdg.2.resolve_left this
            refine v_aload_n (am_Dk d_MR_named (k := 31) rfl) rfl ?_
            refine v_aload_n (am_Dk d_MR_named (k := 32) rfl) rfl ?_
            refine v_get (am_Dk d_MR_named (k := 33) rfl) f_MR_116 m532 rfl ?_
            refine v_callV (rest := []) (As := [.int (nI (tok f n ((tok f n a).2.2.1)).2.1)]) (mc' := 0) (ms' := 0) (am_Dk d_MR_named (k := 34) rfl) c_MR_126 (Or.inl ⟨_, _, _, _, _, m532, cq_ok12⟩) (t_MR_bad G (d := 0) (by omega) m532) (by omega) (by omega) (by omega) (by simp [Value.category]) rfl (fun v564 M565 n566 h567 => ?_) (fun _ _ _ h567 => ?_)
            rotate_left
            · exact absurd h567.1 (by simp)
            obtain ⟨h567, e568, e569⟩ := h567
            replace e568 := e568.symm
            replace e569 := e569.symm
            subst e568
            subst e569
            cases h567
            rw [am_uu0 (a := 1225)]
            show am_V G _ _ _ _ _ 71 [(0, .ref 1225), (1, .int mo)] [.ref 1228] (am_up (am_up M 1229 (.inl (0, 4096, .inl g528))) 1225 (.inr (12, [.ref 1226, .ref 1227, .ref 1228, .ref 1213, .ref 1220, .ref 1212, .int (nI n), .int (nI (tok f n ((tok f n a).2.2.1)).2.1), .int (nI (tok f n ((tok f n a).2.2.1)).2.2.1), .int tk525, .int (nI (o + 1)), .long nu526, .ref 1229, .int (nI l527), .ref 1230, .int (nI tp), .int (nI (tok f n ((tok f n a).2.2.1)).2.1), .ref 1231, .int (nI vb), .int kn, .int 0, .ref 1232]))) nx 0 0
            refine v_athrow (am_Dk d_MR_named (k := 35) rfl) ?_
            have hcpl : c_pl f n a := ⟨n40, fun z => absurd (z.2.1.symm.trans hk11) (by decide)⟩
            have hcpf : c_pf f n mo a := by
              rw [c_pf, h18]
              exact ⟨by decide, h200, by rw [c_can, if_neg (by rw [hk11]; decide), hk11]; decide⟩
            have hB9 : TBad f n lu o mo a (tok f n ((tok f n a).2.2.1)).2.1 := q_preX hn (by omega) hk2 hcpl hcpf (Or.inr hk11)
            exact vt_leave (fun q hq => by cases hq) (by omega) (by omega) ⟨rfl, (fun i hi => (am_up_ne (show i ≠ 1225 from by omega)).trans ((am_up_ne (show i ≠ 1229 from by omega)).trans ((fr0 i hi)))), Or.inr ⟨(tok f n ((tok f n a).2.2.1)).2.1, rfl, (show PX f n (am_up (am_up M 1229 (.inl (0, 4096, .inl g528))) 1225 (.inr (12, [.ref 1226, .ref 1227, .ref 1228, .ref 1213, .ref 1220, .ref 1212, .int (nI n), .int (nI (tok f n ((tok f n a).2.2.1)).2.1), .int (nI (tok f n ((tok f n a).2.2.1)).2.2.1), .int tk525, .int (nI (o + 1)), .long nu526, .ref 1229, .int (nI l527), .ref 1230, .int (nI tp), .int (nI (tok f n ((tok f n a).2.2.1)).2.1), .ref 1231, .int (nI vb), .int kn, .int 0, .ref 1232]))) ((tok f n ((tok f n a).2.2.1)).2.1) from ⟨by omega, RS_rx (mb_fr hm (fun i hi => (am_up_ne (show i ≠ 1225 from by omega)).trans ((am_up_ne (show i ≠ 1229 from by omega)).trans (rfl)))) (RS_fr hR (fun i hi => (am_up_ne (show i ≠ 1225 from by omega)).trans ((am_up_ne (show i ≠ 1229 from by omega)).trans (rfl)))) ((am_up_ne (show 1229 ≠ 1225 from by decide)).trans (am_up_eq _ _ _)) hg531 ((am_up_ne (show 1230 ≠ 1225 from by decide)).trans ((am_up_ne (show 1230 ≠ 1229 from by decide)).trans (hS))) ⟨_, (am_up_ne (show 1232 ≠ 1225 from by decide)).trans ((am_up_ne (show 1232 ≠ 1229 from by decide)).trans (hkc))⟩, _, _, _, _, _, _, _, _, _, _, am_up_eq _ _ _⟩), hB9⟩⟩
  · have h40 : tb f n (tok f n a).2.2.1 = 40 := (lk_c hb n _ (by decide)).mp c7
    refine v_aload_n (am_Dk d_MR_named (k := 6) rfl) rfl ?_
    refine v_callV (rest := []) (As := []) (mc' := 0) (ms' := 0) (am_Dk d_MR_named (k := 7) rfl) c_MR_246 (Or.inl ⟨_, _, _, _, _, hr, cq_ok12⟩) (t_MR_compound G (mo := mo) (d := d - 1) (by omega) hb hn hPS ho hk2 h40 IH (by omega)) (by omega) (by omega) (by omega) (by simp [Value.category]) rfl (fun v570 M571 n572 h573 => ?_) (fun x9 M571 n572 h573 => ?_)
    rotate_left
    · have hq9 := h573
      obtain ⟨ex9, _, hT⟩ := h573
      replace ex9 := ex9.symm
      subst ex9
      rcases hT with ⟨_, _, _, _, _, _, _, _, _, _, _, _, _, _, hx9, _⟩ | ⟨wT, hx9, _⟩
      · cases hx9
      · cases hx9
        exact vt_leave (fun q hq => by cases hq) (by omega) (by omega) hq9
    have hq9 := h573
    obtain ⟨ex9, _, hT⟩ := h573
    replace ex9 := ex9.symm
    subst ex9
    rcases hT with ⟨tT, _, _, _, _, _, _, _, _, _, _, _, _, _, hx9, _⟩ | ⟨_, hx9, _⟩
    rotate_left
    · cases hx9
    cases hx9
    show am_V G _ _ _ _ _ 17 [(0, .ref 1225), (1, .int mo)] [.int (nI tT)] M571 nx 0 0
    exact v_ireturn (am_Dk d_MR_named (k := 8) rfl) rfl rfl (by omega) (by omega) hq9
