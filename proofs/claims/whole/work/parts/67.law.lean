/-! THE LAW'S LOOP (mine; rows laid by the walker) -/
set_option maxRecDepth 20000 in
theorem l_law0 (G : am_G) {d mc ms : Nat} (hd : 413 ≤ d) {i : Nat} (hi : i + 6 ≤ G.2.2.2.2.2.1) (hL3 : G.2.2.2.2.2.1 ≤ 3072) {M : am_M} {nx : Nat} {th : Int32} {g : Nat → Int64} (hJ : JI th g M nx) {cn sn : Nat} (hcn : cn + 7 ≤ mc) (hsn : sn + 4197 ≤ ms) {Q0 : am_Qt} (kk : ∀ (k : Int32) (g1 : Nat → Int64) (M1 : am_M) (nx1 cn1 sn1 : Nat), JI k g1 M1 nx1 → cn1 ≤ cn + 7 → sn1 ≤ sn + 4197 → am_V G m_LW_law d mc ms Q0 451 [(4, .int (nI i)), (3, .ref 1239), (2, .ref 1211), (1, .ref 1000), (0, .ref 999)] [] M1 nx1 cn1 sn1) : am_V G m_LW_law d mc ms Q0 84 [(4, .int (nI i)), (3, .ref 1239), (2, .ref 1211), (1, .ref 1000), (0, .ref 999)] [] M nx cn sn := by
  obtain ⟨f, n, c, Vl, Vg, Vn, pl, er, hb, hn, hx, hN, hC, hM, hg⟩ := hJ
  obtain ⟨h0, h1, h2, hS, ⟨Vi, Vb, ed, cap, R, mcn, hV, hw⟩⟩ := id hC
  obtain ⟨⟨re, h11⟩, _, _, _, ⟨P, Q, hT⟩⟩ := id hM
  have hc5 : c ≤ 50 := hT.2.2.2.2.2.2
  refine v_aload_n (am_Dk d_LW_law (k := 25) rfl) rfl ?_
  refine v_aload_n (am_Dk d_LW_law (k := 26) rfl) rfl ?_
  refine v_iload (am_Dk d_LW_law (k := 27) rfl) rfl ?_
  refine v_iconst (v := 1) (am_Dk d_LW_law (k := 28) rfl) (by decide) ?_
  refine v_iadd (am_Dk d_LW_law (k := 29) rfl) ?_
  rw [nI_1]
  refine v_sld (am_Dk d_LW_law (k := 30) rfl) (vp_in_nI (by omega) (by omega)) ?_
  rw [nI_clamp (n := i + 1) (by omega)]
  refine v_aload_n (am_Dk d_LW_law (k := 31) rfl) rfl ?_
  refine v_iload (am_Dk d_LW_law (k := 32) rfl) rfl ?_
  refine v_iconst (v := 2) (am_Dk d_LW_law (k := 33) rfl) (by decide) ?_
  refine v_iadd (am_Dk d_LW_law (k := 34) rfl) ?_
  rw [show (nI i + 2 : Int32) = nI (i + 2) from nI_add i 2]
  refine v_sld (am_Dk d_LW_law (k := 35) rfl) (vp_in_nI (by omega) (by omega)) ?_
  rw [nI_clamp (n := i + 2) (by omega)]
  refine v_aload_n (am_Dk d_LW_law (k := 36) rfl) rfl ?_
  refine v_iload (am_Dk d_LW_law (k := 37) rfl) rfl ?_
  refine v_iconst (v := 3) (am_Dk d_LW_law (k := 38) rfl) (by decide) ?_
  refine v_iadd (am_Dk d_LW_law (k := 39) rfl) ?_
  rw [show (nI i + 3 : Int32) = nI (i + 3) from nI_add i 3]
  refine v_sld (am_Dk d_LW_law (k := 40) rfl) (vp_in_nI (by omega) (by omega)) ?_
  rw [nI_clamp (n := i + 3) (by omega)]
  refine v_aload_n (am_Dk d_LW_law (k := 41) rfl) rfl ?_
  refine v_iload (am_Dk d_LW_law (k := 42) rfl) rfl ?_
  refine v_iconst (v := 4) (am_Dk d_LW_law (k := 43) rfl) (by decide) ?_
  refine v_iadd (am_Dk d_LW_law (k := 44) rfl) ?_
  rw [show (nI i + 4 : Int32) = nI (i + 4) from nI_add i 4]
  refine v_sld (am_Dk d_LW_law (k := 45) rfl) (vp_in_nI (by omega) (by omega)) ?_
  rw [nI_clamp (n := i + 4) (by omega)]
  refine v_aload_n (am_Dk d_LW_law (k := 46) rfl) rfl ?_
  refine v_iload (am_Dk d_LW_law (k := 47) rfl) rfl ?_
  refine v_iconst (v := 5) (am_Dk d_LW_law (k := 48) rfl) (by decide) ?_
  refine v_iadd (am_Dk d_LW_law (k := 49) rfl) ?_
  rw [show (nI i + 5 : Int32) = nI (i + 5) from nI_add i 5]
  refine v_sld (am_Dk d_LW_law (k := 50) rfl) (vp_in_nI (by omega) (by omega)) ?_
  rw [nI_clamp (n := i + 5) (by omega)]
  refine v_aload_n (am_Dk d_LW_law (k := 51) rfl) rfl ?_
  refine v_callS (rest := []) (As := [.ref 1000, .int (G.2.2.2.2.2.2 (i + 1)), .int (G.2.2.2.2.2.2 (i + 2)), .int (G.2.2.2.2.2.2 (i + 3)), .int (G.2.2.2.2.2.2 (i + 4)), .int (G.2.2.2.2.2.2 (i + 5)), .ref 1239]) (mc' := 1) (ms' := 6) (am_Dk d_LW_law (k := 52) rfl) c_LW_44 (t_LW_feed G (d := 7) (by omega) h0 h1 h2 hg hn hx) (by omega) (by omega) (by omega) (by simp [Value.category]) rfl (fun v1 M2 n3 h4 => ?_) (fun _ _ _ h4 => ?_)
  rotate_left
  · rcases h4 with ⟨_, hx9, _⟩ | ⟨_, hx9, _⟩ <;> cases hx9
  have hq1 := h4
  obtain ⟨⟨kC, hv9⟩, hn9x, hF9⟩ := qFC_fr (M := M) (nx := nx) hx (show qFC f g n (G.2.2.2.2.2.2 (i + 1)) (G.2.2.2.2.2.2 (i + 2)) (G.2.2.2.2.2.2 (i + 3)) (G.2.2.2.2.2.2 (i + 4)) (G.2.2.2.2.2.2 (i + 5)) M nx _ _ _ from h4)
  subst hv9
  have hM1 := MI_fr hM hF9
  obtain ⟨⟨re2, h11b⟩, hx1, hrc1, hwk1, ⟨P1, Q1, hT1⟩⟩ := id hM1
  show am_V G _ _ _ _ _ 119 [(4, .int (nI i)), (3, .ref 1239), (2, .ref 1211), (1, .ref 1000), (0, .ref 999)] [.int kC] M2 n3 (cn + 1) (sn + 6)
  refine v_istore (L1 := [(5, .int kC), (4, .int (nI i)), (3, .ref 1239), (2, .ref 1211), (1, .ref 1000), (0, .ref 999)]) (am_Dk d_LW_law (k := 53) rfl) (by decide) rfl ?_
  refine v_aload_n (am_Dk d_LW_law (k := 54) rfl) rfl ?_
  refine v_aload_n (am_Dk d_LW_law (k := 55) rfl) rfl ?_
  refine v_iload (am_Dk d_LW_law (k := 56) rfl) rfl ?_
  refine v_iconst (v := 1) (am_Dk d_LW_law (k := 57) rfl) (by decide) ?_
  refine v_iadd (am_Dk d_LW_law (k := 58) rfl) ?_
  rw [nI_1]
  refine v_sld (am_Dk d_LW_law (k := 59) rfl) (vp_in_nI (by omega) (by omega)) ?_
  rw [nI_clamp (n := i + 1) (by omega)]
  refine v_aload_n (am_Dk d_LW_law (k := 60) rfl) rfl ?_
  refine v_iload (am_Dk d_LW_law (k := 61) rfl) rfl ?_
  refine v_iconst (v := 2) (am_Dk d_LW_law (k := 62) rfl) (by decide) ?_
  refine v_iadd (am_Dk d_LW_law (k := 63) rfl) ?_
  rw [show (nI i + 2 : Int32) = nI (i + 2) from nI_add i 2]
  refine v_sld (am_Dk d_LW_law (k := 64) rfl) (vp_in_nI (by omega) (by omega)) ?_
  rw [nI_clamp (n := i + 2) (by omega)]
  refine v_aload_n (am_Dk d_LW_law (k := 65) rfl) rfl ?_
  refine v_iload (am_Dk d_LW_law (k := 66) rfl) rfl ?_
  refine v_iconst (v := 3) (am_Dk d_LW_law (k := 67) rfl) (by decide) ?_
  refine v_iadd (am_Dk d_LW_law (k := 68) rfl) ?_
  rw [show (nI i + 3 : Int32) = nI (i + 3) from nI_add i 3]
  refine v_sld (am_Dk d_LW_law (k := 69) rfl) (vp_in_nI (by omega) (by omega)) ?_
  rw [nI_clamp (n := i + 3) (by omega)]
  refine v_aload_n (am_Dk d_LW_law (k := 70) rfl) rfl ?_
  refine v_iload (am_Dk d_LW_law (k := 71) rfl) rfl ?_
  refine v_iconst (v := 4) (am_Dk d_LW_law (k := 72) rfl) (by decide) ?_
  refine v_iadd (am_Dk d_LW_law (k := 73) rfl) ?_
  rw [show (nI i + 4 : Int32) = nI (i + 4) from nI_add i 4]
  refine v_sld (am_Dk d_LW_law (k := 74) rfl) (vp_in_nI (by omega) (by omega)) ?_
  rw [nI_clamp (n := i + 4) (by omega)]
  refine v_aload_n (am_Dk d_LW_law (k := 75) rfl) rfl ?_
  refine v_iload (am_Dk d_LW_law (k := 76) rfl) rfl ?_
  refine v_iconst (v := 5) (am_Dk d_LW_law (k := 77) rfl) (by decide) ?_
  refine v_iadd (am_Dk d_LW_law (k := 78) rfl) ?_
  rw [show (nI i + 5 : Int32) = nI (i + 5) from nI_add i 5]
  refine v_sld (am_Dk d_LW_law (k := 79) rfl) (vp_in_nI (by omega) (by omega)) ?_
  rw [nI_clamp (n := i + 5) (by omega)]
  refine v_callV (rest := []) (As := [.int (G.2.2.2.2.2.2 (i + 1)), .int (G.2.2.2.2.2.2 (i + 2)), .int (G.2.2.2.2.2.2 (i + 3)), .int (G.2.2.2.2.2.2 (i + 4)), .int (G.2.2.2.2.2.2 (i + 5))]) (mc' := 0) (ms' := 0) (am_Dk d_LW_law (k := 80) rfl) c_LW_49 (Or.inl ⟨_, _, _, _, _, h11b, cq_ok9⟩) (t_MM_feed G (d := 1) (by omega) h11b hx1.1.1 hn) (by omega) (by omega) (by omega) (by simp [Value.category]) rfl (fun v5 M6 n7 h8 => ?_) (fun _ _ _ h8 => ?_)
  rotate_left
  · rcases h8 with ⟨_, hx9, _⟩ | ⟨_, hx9, _⟩ <;> cases hx9
  obtain ⟨b, g1, hv8, hn8, hJ2, hkb⟩ := j_feed hb hn hx hN hC hM hg hq1 h8
  subst hv8
  obtain ⟨_, _, _, _, _, _, _, _, _, _, _, _, _, ⟨⟨re3, h11c⟩, _⟩, hg2⟩ := id hJ2
  show am_V G _ _ _ _ _ 155 [(5, .int kC), (4, .int (nI i)), (3, .ref 1239), (2, .ref 1211), (1, .ref 1000), (0, .ref 999)] [.int b] M6 n7 (cn + 1) (sn + 6)
  refine v_istore (L1 := [(6, .int b), (5, .int kC), (4, .int (nI i)), (3, .ref 1239), (2, .ref 1211), (1, .ref 1000), (0, .ref 999)]) (am_Dk d_LW_law (k := 81) rfl) (by decide) rfl ?_
  refine v_aload_n (am_Dk d_LW_law (k := 82) rfl) rfl ?_
  refine v_callV (rest := []) (As := []) (mc' := 0) (ms' := 0) (am_Dk d_LW_law (k := 83) rfl) c_LW_50 (Or.inl ⟨_, _, _, _, _, h11c, cq_ok9⟩) (t_MM_thrown G (d := 0) (by omega) h11c) (by omega) (by omega) (by omega) (by simp [Value.category]) rfl (fun v9 M10 n11 h12 => ?_) (fun _ _ _ h12 => ?_)
  rotate_left
  · exact absurd h12.1 (by simp)
  obtain ⟨h12, e13, e14⟩ := h12
  replace e13 := e13.symm
  replace e14 := e14.symm
  subst e13
  subst e14
  cases h12
  show am_V G _ _ _ _ _ 161 [(6, .int b), (5, .int kC), (4, .int (nI i)), (3, .ref 1239), (2, .ref 1211), (1, .ref 1000), (0, .ref 999)] [.int kC] M6 n7 (cn + 1) (sn + 6)
  refine v_iload (am_Dk d_LW_law (k := 84) rfl) rfl ?_
  refine v_icmp_eq (tgt := 168) (am_Dk d_LW_law (k := 85) rfl) (by decide) (fun c15 => ?_) (fun c15 => ?_)
  · refine v_iload (am_Dk d_LW_law (k := 88) rfl) rfl ?_
    refine v_if_ne (tgt := 185) (am_Dk d_LW_law (k := 89) rfl) (by decide) (fun c16 => ?_) (fun c16 => ?_)
    · refine v_goto (tgt := 451) (am_Dk d_LW_law (k := 99) rfl) (by decide) ?_
      exact v_drop (kk _ _ _ _ _ _ hJ2 (by omega) (by omega)) (by simp)
    · have hk0 : kC = 0 := c16
      refine v_aload_n (am_Dk d_LW_law (k := 90) rfl) rfl ?_
      refine v_iconst (v := 0) (am_Dk d_LW_law (k := 91) rfl) (by decide) ?_
      refine v_lald (am_Dk d_LW_law (k := 92) rfl) hg2 rfl (show ¬ (_ ∨ _) from by decide) ?_
      refine v_iload (am_Dk d_LW_law (k := 93) rfl) rfl ?_
      refine v_i2l (am_Dk d_LW_law (k := 94) rfl) rfl ?_
      refine v_lcmp (am_Dk d_LW_law (k := 95) rfl) ?_
      refine v_if_eq (tgt := 185) (am_Dk d_LW_law (k := 96) rfl) (by decide) (fun c17 => ?_) (fun c17 => ?_)
      · have Nc17 := (lg_cmp_eq _ _).mp c17
        refine v_goto (tgt := 451) (am_Dk d_LW_law (k := 99) rfl) (by decide) ?_
        exact v_drop (kk _ _ _ _ _ _ hJ2 (by omega) (by omega)) (by simp)
      · exact absurd (hkb hk0) (fun z => c17 ((lg_cmp_eq _ _).mpr z))
  · exact absurd rfl c15
set_option maxRecDepth 20000 in
theorem l_law1 (G : am_G) {d mc ms : Nat} (hd : 413 ≤ d) {i : Nat} (hi : i + 6 ≤ G.2.2.2.2.2.1) (hL3 : G.2.2.2.2.2.1 ≤ 3072) {M : am_M} {nx : Nat} {th : Int32} {g : Nat → Int64} (hJ : JI th g M nx) {cn sn : Nat} (hcn : cn + 7 ≤ mc) (hsn : sn + 4197 ≤ ms) {Q0 : am_Qt} (kk : ∀ (k : Int32) (g1 : Nat → Int64) (M1 : am_M) (nx1 cn1 sn1 : Nat), JI k g1 M1 nx1 → cn1 ≤ cn + 7 → sn1 ≤ sn + 4197 → am_V G m_LW_law d mc ms Q0 451 [(4, .int (nI i)), (3, .ref 1239), (2, .ref 1211), (1, .ref 1000), (0, .ref 999)] [] M1 nx1 cn1 sn1) : am_V G m_LW_law d mc ms Q0 188 [(4, .int (nI i)), (3, .ref 1239), (2, .ref 1211), (1, .ref 1000), (0, .ref 999)] [] M nx cn sn := by
  obtain ⟨f, n, c, Vl, Vg, Vn, pl, er, hb, hn, hx, hN, hC, hM, hg⟩ := hJ
  obtain ⟨h0, h1, h2, hS, ⟨Vi, Vb, ed, cap, R, mcn, hV, hw⟩⟩ := id hC
  obtain ⟨⟨re, h11⟩, _, _, _, ⟨P, Q, hT⟩⟩ := id hM
  have hc5 : c ≤ 50 := hT.2.2.2.2.2.2
  refine v_aload_n (am_Dk d_LW_law (k := 100) rfl) rfl ?_
  refine v_aload_n (am_Dk d_LW_law (k := 101) rfl) rfl ?_
  refine v_iload (am_Dk d_LW_law (k := 102) rfl) rfl ?_
  refine v_iconst (v := 1) (am_Dk d_LW_law (k := 103) rfl) (by decide) ?_
  refine v_iadd (am_Dk d_LW_law (k := 104) rfl) ?_
  rw [nI_1]
  refine v_sld (am_Dk d_LW_law (k := 105) rfl) (vp_in_nI (by omega) (by omega)) ?_
  rw [nI_clamp (n := i + 1) (by omega)]
  refine v_aload_n (am_Dk d_LW_law (k := 106) rfl) rfl ?_
  refine v_callS (rest := []) (As := [.ref 1000, .int (G.2.2.2.2.2.2 (i + 1)), .ref 1239]) (mc' := 1) (ms' := 6) (am_Dk d_LW_law (k := 107) rfl) c_LW_53 (t_LW_end G (d := 7) (by omega) h0 h1 hg hn hx) (by omega) (by omega) (by omega) (by simp [Value.category]) rfl (fun v1 M2 n3 h4 => ?_) (fun _ _ _ h4 => ?_)
  rotate_left
  · rcases h4 with ⟨_, _, hx9, _⟩ | ⟨_, hx9, _⟩ <;> cases hx9
  have hq1 := h4
  obtain ⟨⟨kC, hv9⟩, hn9x, hF9⟩ := qEC_fr (M := M) (nx := nx) hx (show qEC g n (G.2.2.2.2.2.2 (i + 1)) M nx _ _ _ from h4)
  subst hv9
  have hM1 := MI_fr hM hF9
  obtain ⟨⟨re2, h11b⟩, hx1, hrc1, hwk1, ⟨P1, Q1, hT1⟩⟩ := id hM1
  show am_V G _ _ _ _ _ 199 [(4, .int (nI i)), (3, .ref 1239), (2, .ref 1211), (1, .ref 1000), (0, .ref 999)] [.int kC] M2 n3 (cn + 1) (sn + 6)
  refine v_istore (L1 := [(5, .int kC), (4, .int (nI i)), (3, .ref 1239), (2, .ref 1211), (1, .ref 1000), (0, .ref 999)]) (am_Dk d_LW_law (k := 108) rfl) (by decide) rfl ?_
  refine v_aload_n (am_Dk d_LW_law (k := 109) rfl) rfl ?_
  refine v_aload_n (am_Dk d_LW_law (k := 110) rfl) rfl ?_
  refine v_iload (am_Dk d_LW_law (k := 111) rfl) rfl ?_
  refine v_iconst (v := 1) (am_Dk d_LW_law (k := 112) rfl) (by decide) ?_
  refine v_iadd (am_Dk d_LW_law (k := 113) rfl) ?_
  rw [nI_1]
  refine v_sld (am_Dk d_LW_law (k := 114) rfl) (vp_in_nI (by omega) (by omega)) ?_
  rw [nI_clamp (n := i + 1) (by omega)]
  refine v_callV (rest := []) (As := [.int (G.2.2.2.2.2.2 (i + 1))]) (mc' := 0) (ms' := 0) (am_Dk d_LW_law (k := 115) rfl) c_LW_56 (Or.inl ⟨_, _, _, _, _, h11b, cq_ok9⟩) (t_MM_end G (d := 1) (by omega) h11b hn) (by omega) (by omega) (by omega) (by simp [Value.category]) rfl (fun v5 M6 n7 h8 => ?_) (fun _ _ _ h8 => ?_)
  rotate_left
  · rcases h8 with ⟨_, _, hx9, _⟩ | ⟨_, hx9, _⟩ <;> cases hx9
  obtain ⟨b, g1, hv8, hn8, hJ2, hkb⟩ := j_end hb hn hx hN hC hM hg hq1 h8
  subst hv8
  obtain ⟨_, _, _, _, _, _, _, _, _, _, _, _, _, ⟨⟨re3, h11c⟩, _⟩, hg2⟩ := id hJ2
  show am_V G _ _ _ _ _ 211 [(5, .int kC), (4, .int (nI i)), (3, .ref 1239), (2, .ref 1211), (1, .ref 1000), (0, .ref 999)] [.int b] M6 n7 (cn + 1) (sn + 6)
  refine v_istore (L1 := [(6, .int b), (5, .int kC), (4, .int (nI i)), (3, .ref 1239), (2, .ref 1211), (1, .ref 1000), (0, .ref 999)]) (am_Dk d_LW_law (k := 116) rfl) (by decide) rfl ?_
  refine v_aload_n (am_Dk d_LW_law (k := 117) rfl) rfl ?_
  refine v_callV (rest := []) (As := []) (mc' := 0) (ms' := 0) (am_Dk d_LW_law (k := 118) rfl) c_LW_50 (Or.inl ⟨_, _, _, _, _, h11c, cq_ok9⟩) (t_MM_thrown G (d := 0) (by omega) h11c) (by omega) (by omega) (by omega) (by simp [Value.category]) rfl (fun v9 M10 n11 h12 => ?_) (fun _ _ _ h12 => ?_)
  rotate_left
  · exact absurd h12.1 (by simp)
  obtain ⟨h12, e13, e14⟩ := h12
  replace e13 := e13.symm
  replace e14 := e14.symm
  subst e13
  subst e14
  cases h12
  show am_V G _ _ _ _ _ 217 [(6, .int b), (5, .int kC), (4, .int (nI i)), (3, .ref 1239), (2, .ref 1211), (1, .ref 1000), (0, .ref 999)] [.int kC] M6 n7 (cn + 1) (sn + 6)
  refine v_iload (am_Dk d_LW_law (k := 119) rfl) rfl ?_
  refine v_icmp_eq (tgt := 224) (am_Dk d_LW_law (k := 120) rfl) (by decide) (fun c15 => ?_) (fun c15 => ?_)
  · refine v_iload (am_Dk d_LW_law (k := 123) rfl) rfl ?_
    refine v_if_ne (tgt := 241) (am_Dk d_LW_law (k := 124) rfl) (by decide) (fun c16 => ?_) (fun c16 => ?_)
    · refine v_goto (tgt := 451) (am_Dk d_LW_law (k := 134) rfl) (by decide) ?_
      exact v_drop (kk _ _ _ _ _ _ hJ2 (by omega) (by omega)) (by simp)
    · have hk0 : kC = 0 := c16
      refine v_aload_n (am_Dk d_LW_law (k := 125) rfl) rfl ?_
      refine v_iconst (v := 0) (am_Dk d_LW_law (k := 126) rfl) (by decide) ?_
      refine v_lald (am_Dk d_LW_law (k := 127) rfl) hg2 rfl (show ¬ (_ ∨ _) from by decide) ?_
      refine v_iload (am_Dk d_LW_law (k := 128) rfl) rfl ?_
      refine v_i2l (am_Dk d_LW_law (k := 129) rfl) rfl ?_
      refine v_lcmp (am_Dk d_LW_law (k := 130) rfl) ?_
      refine v_if_eq (tgt := 241) (am_Dk d_LW_law (k := 131) rfl) (by decide) (fun c17 => ?_) (fun c17 => ?_)
      · have Nc17 := (lg_cmp_eq _ _).mp c17
        refine v_goto (tgt := 451) (am_Dk d_LW_law (k := 134) rfl) (by decide) ?_
        exact v_drop (kk _ _ _ _ _ _ hJ2 (by omega) (by omega)) (by simp)
      · exact absurd (hkb hk0) (fun z => c17 ((lg_cmp_eq _ _).mpr z))
  · exact absurd rfl c15
set_option maxRecDepth 20000 in
theorem l_law2 (G : am_G) {d mc ms : Nat} (hd : 413 ≤ d) {i : Nat} (hi : i + 6 ≤ G.2.2.2.2.2.1) (hL3 : G.2.2.2.2.2.1 ≤ 3072) {M : am_M} {nx : Nat} {th : Int32} {g : Nat → Int64} (hJ : JI th g M nx) {cn sn : Nat} (hcn : cn + 7 ≤ mc) (hsn : sn + 4197 ≤ ms) {Q0 : am_Qt} (kk : ∀ (k : Int32) (g1 : Nat → Int64) (M1 : am_M) (nx1 cn1 sn1 : Nat), JI k g1 M1 nx1 → cn1 ≤ cn + 7 → sn1 ≤ sn + 4197 → am_V G m_LW_law d mc ms Q0 451 [(4, .int (nI i)), (3, .ref 1239), (2, .ref 1211), (1, .ref 1000), (0, .ref 999)] [] M1 nx1 cn1 sn1) : am_V G m_LW_law d mc ms Q0 244 [(4, .int (nI i)), (3, .ref 1239), (2, .ref 1211), (1, .ref 1000), (0, .ref 999)] [] M nx cn sn := by
  obtain ⟨f, n, c, Vl, Vg, Vn, pl, er, hb, hn, hx, hN, hC, hM, hg⟩ := hJ
  obtain ⟨h0, h1, h2, hS, ⟨Vi, Vb, ed, cap, R, mcn, hV, hw⟩⟩ := id hC
  obtain ⟨⟨re, h11⟩, _, _, _, ⟨P, Q, hT⟩⟩ := id hM
  have hc5 : c ≤ 50 := hT.2.2.2.2.2.2
  obtain ⟨_, _, _, _, ⟨lf, hL⟩, ⟨rt, hRt⟩, ⟨la, hLa⟩⟩ := id hS
  rcases hR : c_fin f n (c_run f n (cl_lu c Vl Vg Vn f) 16384 (c_s0 lf rt la)) with ⟨xK, xdu, xdn, xsy, xpl, xou, xpr, xna, ⟨xle, xlv, xl0, xl1⟩, ⟨xre, xrv, xr0, xr1⟩, ⟨xe, xv, xa0, xb0⟩⟩
  refine v_aload_n (am_Dk d_LW_law (k := 135) rfl) rfl ?_
  refine v_aload_n (am_Dk d_LW_law (k := 136) rfl) rfl ?_
  refine v_callS (rest := []) (As := [.ref 1000, .ref 1239]) (mc' := 2) (ms' := 12) (am_Dk d_LW_law (k := 137) rfl) c_LW_57 (t_LW_value G (d := 12) (by omega) hb hn h0 h1 h2 hV hw hx hc5 hS hL hRt hLa hR hg) (by omega) (by omega) (by omega) (by simp [Value.category]) rfl (fun v1 M2 n3 h4 => ?_) (fun _ _ _ h4 => ?_)
  rotate_left
  · rcases h4 with ⟨_, _, hx9, _⟩ | ⟨_, _, hx9, _⟩ <;> cases hx9
  have hq1 := h4
  obtain ⟨⟨kC, hv9⟩, hn9x, hF9⟩ := zwV_fr (M := M) (nx := nx) hx (show zwV f n c Vl Vg Vn xou xpl xle xl0 xl1 xre xe xlv xrv xv g M nx _ _ _ from h4)
  subst hv9
  have hM1 := MI_fr hM hF9
  obtain ⟨⟨re2, h11b⟩, hx1, hrc1, hwk1, ⟨P1, Q1, hT1⟩⟩ := id hM1
  show am_V G _ _ _ _ _ 249 [(4, .int (nI i)), (3, .ref 1239), (2, .ref 1211), (1, .ref 1000), (0, .ref 999)] [.int kC] M2 n3 (cn + 2) (sn + 12)
  refine v_istore (L1 := [(5, .int kC), (4, .int (nI i)), (3, .ref 1239), (2, .ref 1211), (1, .ref 1000), (0, .ref 999)]) (am_Dk d_LW_law (k := 138) rfl) (by decide) rfl ?_
  refine v_aload_n (am_Dk d_LW_law (k := 139) rfl) rfl ?_
  refine v_callV (rest := []) (As := []) (mc' := 0) (ms' := 0) (am_Dk d_LW_law (k := 140) rfl) c_LW_60 (Or.inl ⟨_, _, _, _, _, h11b, cq_ok9⟩) (t_MM_value G (d := 412) (LU := luT c Vl Vg Vn) (lu := cl_lu c Vl Vg Vn f) (by omega) hb hn (lu_ok f n hN) hT1 rfl h11b hx1 hrc1 hwk1) (by omega) (by omega) (by omega) (by simp [Value.category]) rfl (fun v5 M6 n7 h8 => ?_) (fun _ _ _ h8 => ?_)
  rotate_left
  · rcases h8 with ⟨_, _, _, _, _, ⟨_, _, _, hx9, _⟩ | ⟨_, _, _, _, _, ⟨_, hx9, _⟩ | ⟨_, hx9, _⟩⟩⟩ <;> cases hx9
  obtain ⟨b, g1, hv8, hn8, hJ2, hkb⟩ := j_value (P := P1) (Q := Q1) hb hn hx hN hC hM hg hR hq1 h8
  subst hv8
  obtain ⟨_, _, _, _, _, _, _, _, _, _, _, _, _, ⟨⟨re3, h11c⟩, _⟩, hg2⟩ := id hJ2
  show am_V G _ _ _ _ _ 255 [(5, .int kC), (4, .int (nI i)), (3, .ref 1239), (2, .ref 1211), (1, .ref 1000), (0, .ref 999)] [.long b] M6 n7 (cn + 2) (sn + 12)
  refine v_lstore (L1 := [(6, .long b), (5, .int kC), (4, .int (nI i)), (3, .ref 1239), (2, .ref 1211), (1, .ref 1000), (0, .ref 999)]) (am_Dk d_LW_law (k := 141) rfl) (by decide) rfl ?_
  refine v_aload_n (am_Dk d_LW_law (k := 142) rfl) rfl ?_
  refine v_callV (rest := []) (As := []) (mc' := 0) (ms' := 0) (am_Dk d_LW_law (k := 143) rfl) c_LW_50 (Or.inl ⟨_, _, _, _, _, h11c, cq_ok9⟩) (t_MM_thrown G (d := 0) (by omega) h11c) (by omega) (by omega) (by omega) (by simp [Value.category]) rfl (fun v9 M10 n11 h12 => ?_) (fun _ _ _ h12 => ?_)
  rotate_left
  · exact absurd h12.1 (by simp)
  obtain ⟨h12, e13, e14⟩ := h12
  replace e13 := e13.symm
  replace e14 := e14.symm
  subst e13
  subst e14
  cases h12
  show am_V G _ _ _ _ _ 261 [(6, .long b), (5, .int kC), (4, .int (nI i)), (3, .ref 1239), (2, .ref 1211), (1, .ref 1000), (0, .ref 999)] [.int kC] M6 n7 (cn + 2) (sn + 12)
  refine v_iload (am_Dk d_LW_law (k := 144) rfl) rfl ?_
  refine v_icmp_eq (tgt := 268) (am_Dk d_LW_law (k := 145) rfl) (by decide) (fun c15 => ?_) (fun c15 => ?_)
  · refine v_iload (am_Dk d_LW_law (k := 148) rfl) rfl ?_
    refine v_if_ne (tgt := 284) (am_Dk d_LW_law (k := 149) rfl) (by decide) (fun c16 => ?_) (fun c16 => ?_)
    · refine v_goto (tgt := 451) (am_Dk d_LW_law (k := 158) rfl) (by decide) ?_
      exact v_drop (kk _ _ _ _ _ _ hJ2 (by omega) (by omega)) (by simp)
    · have hk0 : kC = 0 := c16
      refine v_aload_n (am_Dk d_LW_law (k := 150) rfl) rfl ?_
      refine v_iconst (v := 0) (am_Dk d_LW_law (k := 151) rfl) (by decide) ?_
      refine v_lald (am_Dk d_LW_law (k := 152) rfl) hg2 rfl (show ¬ (_ ∨ _) from by decide) ?_
      refine v_lload (am_Dk d_LW_law (k := 153) rfl) rfl ?_
      refine v_lcmp (am_Dk d_LW_law (k := 154) rfl) ?_
      refine v_if_eq (tgt := 284) (am_Dk d_LW_law (k := 155) rfl) (by decide) (fun c17 => ?_) (fun c17 => ?_)
      · have Nc17 := (lg_cmp_eq _ _).mp c17
        refine v_goto (tgt := 451) (am_Dk d_LW_law (k := 158) rfl) (by decide) ?_
        exact v_drop (kk _ _ _ _ _ _ hJ2 (by omega) (by omega)) (by simp)
      · exact absurd (hkb hk0) (fun z => c17 ((lg_cmp_eq _ _).mpr z))
  · exact absurd rfl c15
set_option maxRecDepth 20000 in
theorem l_law3 (G : am_G) {d mc ms : Nat} (hd : 413 ≤ d) {i : Nat} (hi : i + 6 ≤ G.2.2.2.2.2.1) (hL3 : G.2.2.2.2.2.1 ≤ 3072) {M : am_M} {nx : Nat} {th : Int32} {g : Nat → Int64} (hJ : JI th g M nx) {cn sn : Nat} (hcn : cn + 7 ≤ mc) (hsn : sn + 4197 ≤ ms) {Q0 : am_Qt} (kk : ∀ (k : Int32) (g1 : Nat → Int64) (M1 : am_M) (nx1 cn1 sn1 : Nat), JI k g1 M1 nx1 → cn1 ≤ cn + 7 → sn1 ≤ sn + 4197 → am_V G m_LW_law d mc ms Q0 451 [(4, .int (nI i)), (3, .ref 1239), (2, .ref 1211), (1, .ref 1000), (0, .ref 999)] [] M1 nx1 cn1 sn1) : am_V G m_LW_law d mc ms Q0 287 [(4, .int (nI i)), (3, .ref 1239), (2, .ref 1211), (1, .ref 1000), (0, .ref 999)] [] M nx cn sn := by
  obtain ⟨f, n, c, Vl, Vg, Vn, pl, er, hb, hn, hx, hN, hC, hM, hg⟩ := hJ
  obtain ⟨h0, h1, h2, hS, ⟨Vi, Vb, ed, cap, R, mcn, hV, hw⟩⟩ := id hC
  obtain ⟨⟨re, h11⟩, _, _, _, ⟨P, Q, hT⟩⟩ := id hM
  have hc5 : c ≤ 50 := hT.2.2.2.2.2.2
  obtain ⟨_, _, _, _, ⟨lf, hL⟩, ⟨rt, hRt⟩, ⟨la, hLa⟩⟩ := id hS
  rcases hR : c_fin f n (c_run f n (cl_lu c Vl Vg Vn f) 16384 (c_s0 lf rt la)) with ⟨xK, xdu, xdn, xsy, xpl, xou, xpr, xna, ⟨xle, xlv, xl0, xl1⟩, ⟨xre, xrv, xr0, xr1⟩, ⟨xe, xv, xa0, xb0⟩⟩
  refine v_aload_n (am_Dk d_LW_law (k := 159) rfl) rfl ?_
  refine v_aload_n (am_Dk d_LW_law (k := 160) rfl) rfl ?_
  refine v_callS (rest := []) (As := [.ref 1000, .ref 1239]) (mc' := 7) (ms' := 4197) (am_Dk d_LW_law (k := 161) rfl) c_LW_61 (t_LW_let G (d := 12) (by omega) hb hn h0 h1 h2 hV hw hx hc5 hS hL hRt hLa hR hg) (by omega) (by omega) (by omega) (by simp [Value.category]) rfl (fun v1 M2 n3 h4 => ?_) (fun _ _ _ h4 => ?_)
  rotate_left
  · rcases h4 with ⟨_, _, hx9, _⟩ | ⟨_, _, hx9, _⟩ <;> cases hx9
  have hq1 := h4
  obtain ⟨⟨kC, hv9⟩, hn9x, hF9⟩ := zwL_fr (M := M) (nx := nx) hx (show zwL f n c Vl Vg Vn xou xpl xle xl0 xl1 xre xe xlv xrv xv g M nx _ _ _ from h4)
  subst hv9
  have hM1 := MI_fr hM hF9
  obtain ⟨⟨re2, h11b⟩, hx1, hrc1, hwk1, ⟨P1, Q1, hT1⟩⟩ := id hM1
  show am_V G _ _ _ _ _ 292 [(4, .int (nI i)), (3, .ref 1239), (2, .ref 1211), (1, .ref 1000), (0, .ref 999)] [.int kC] M2 n3 (cn + 7) (sn + 4197)
  refine v_istore (L1 := [(5, .int kC), (4, .int (nI i)), (3, .ref 1239), (2, .ref 1211), (1, .ref 1000), (0, .ref 999)]) (am_Dk d_LW_law (k := 162) rfl) (by decide) rfl ?_
  refine v_aload_n (am_Dk d_LW_law (k := 163) rfl) rfl ?_
  refine v_callV (rest := []) (As := []) (mc' := 0) (ms' := 0) (am_Dk d_LW_law (k := 164) rfl) c_LW_63 (Or.inl ⟨_, _, _, _, _, h11b, cq_ok9⟩) (t_MM_let G (d := 412) (LU := luT c Vl Vg Vn) (lu := cl_lu c Vl Vg Vn f) (by omega) hb hn (lu_ok f n hN) hT1 rfl h11b hx1 hrc1 hwk1) (by omega) (by omega) (by omega) (by simp [Value.category]) rfl (fun v5 M6 n7 h8 => ?_) (fun _ _ _ h8 => ?_)
  rotate_left
  · rcases h8 with ⟨_, _, _, _, _, ⟨_, _, _, _, hx9, _⟩ | ⟨_, _, _, _, _, ⟨_, hx9, _⟩ | ⟨_, _, ⟨_, hx9, _⟩ | ⟨_, _, ⟨_, _, hx9, _⟩ | ⟨_, _, hx9, _⟩ | ⟨_, _, hx9, _⟩⟩⟩⟩⟩ <;> cases hx9
  obtain ⟨b, g1, hv8, hn8, hJ2, hkb⟩ := j_let hb hn hx hN hC hM hg hR hT1 hq1 h8
  subst hv8
  obtain ⟨_, _, _, _, _, _, _, _, _, _, _, _, _, ⟨⟨re3, h11c⟩, _⟩, hg2⟩ := id hJ2
  show am_V G _ _ _ _ _ 298 [(5, .int kC), (4, .int (nI i)), (3, .ref 1239), (2, .ref 1211), (1, .ref 1000), (0, .ref 999)] [.int b] M6 n7 (cn + 7) (sn + 4197)
  refine v_istore (L1 := [(6, .int b), (5, .int kC), (4, .int (nI i)), (3, .ref 1239), (2, .ref 1211), (1, .ref 1000), (0, .ref 999)]) (am_Dk d_LW_law (k := 165) rfl) (by decide) rfl ?_
  refine v_aload_n (am_Dk d_LW_law (k := 166) rfl) rfl ?_
  refine v_callV (rest := []) (As := []) (mc' := 0) (ms' := 0) (am_Dk d_LW_law (k := 167) rfl) c_LW_50 (Or.inl ⟨_, _, _, _, _, h11c, cq_ok9⟩) (t_MM_thrown G (d := 0) (by omega) h11c) (by omega) (by omega) (by omega) (by simp [Value.category]) rfl (fun v9 M10 n11 h12 => ?_) (fun _ _ _ h12 => ?_)
  rotate_left
  · exact absurd h12.1 (by simp)
  obtain ⟨h12, e13, e14⟩ := h12
  replace e13 := e13.symm
  replace e14 := e14.symm
  subst e13
  subst e14
  cases h12
  show am_V G _ _ _ _ _ 304 [(6, .int b), (5, .int kC), (4, .int (nI i)), (3, .ref 1239), (2, .ref 1211), (1, .ref 1000), (0, .ref 999)] [.int kC] M6 n7 (cn + 7) (sn + 4197)
  refine v_iload (am_Dk d_LW_law (k := 168) rfl) rfl ?_
  refine v_icmp_eq (tgt := 311) (am_Dk d_LW_law (k := 169) rfl) (by decide) (fun c15 => ?_) (fun c15 => ?_)
  · refine v_iload (am_Dk d_LW_law (k := 172) rfl) rfl ?_
    refine v_if_ne (tgt := 328) (am_Dk d_LW_law (k := 173) rfl) (by decide) (fun c16 => ?_) (fun c16 => ?_)
    · refine v_goto (tgt := 451) (am_Dk d_LW_law (k := 183) rfl) (by decide) ?_
      exact v_drop (kk _ _ _ _ _ _ hJ2 (by omega) (by omega)) (by simp)
    · have hk0 : kC = 0 := c16
      refine v_aload_n (am_Dk d_LW_law (k := 174) rfl) rfl ?_
      refine v_iconst (v := 0) (am_Dk d_LW_law (k := 175) rfl) (by decide) ?_
      refine v_lald (am_Dk d_LW_law (k := 176) rfl) hg2 rfl (show ¬ (_ ∨ _) from by decide) ?_
      refine v_iload (am_Dk d_LW_law (k := 177) rfl) rfl ?_
      refine v_i2l (am_Dk d_LW_law (k := 178) rfl) rfl ?_
      refine v_lcmp (am_Dk d_LW_law (k := 179) rfl) ?_
      refine v_if_eq (tgt := 328) (am_Dk d_LW_law (k := 180) rfl) (by decide) (fun c17 => ?_) (fun c17 => ?_)
      · have Nc17 := (lg_cmp_eq _ _).mp c17
        refine v_goto (tgt := 451) (am_Dk d_LW_law (k := 183) rfl) (by decide) ?_
        exact v_drop (kk _ _ _ _ _ _ hJ2 (by omega) (by omega)) (by simp)
      · exact absurd (hkb hk0) (fun z => c17 ((lg_cmp_eq _ _).mpr z))
  · exact absurd rfl c15
set_option maxRecDepth 20000 in
theorem l_law4 (G : am_G) {d mc ms : Nat} (hd : 413 ≤ d) {i : Nat} (hi : i + 6 ≤ G.2.2.2.2.2.1) (hL3 : G.2.2.2.2.2.1 ≤ 3072) {M : am_M} {nx : Nat} {th : Int32} {g : Nat → Int64} (hJ : JI th g M nx) {cn sn : Nat} (hcn : cn + 7 ≤ mc) (hsn : sn + 4197 ≤ ms) {Q0 : am_Qt} (kk : ∀ (k : Int32) (g1 : Nat → Int64) (M1 : am_M) (nx1 cn1 sn1 : Nat), JI k g1 M1 nx1 → cn1 ≤ cn + 7 → sn1 ≤ sn + 4197 → am_V G m_LW_law d mc ms Q0 451 [(4, .int (nI i)), (3, .ref 1239), (2, .ref 1211), (1, .ref 1000), (0, .ref 999)] [] M1 nx1 cn1 sn1) : am_V G m_LW_law d mc ms Q0 331 [(4, .int (nI i)), (3, .ref 1239), (2, .ref 1211), (1, .ref 1000), (0, .ref 999)] [] M nx cn sn := by
  obtain ⟨f, n, c, Vl, Vg, Vn, pl, er, hb, hn, hx, hN, hC, hM, hg⟩ := hJ
  obtain ⟨h0, h1, h2, hS, ⟨Vi, Vb, ed, cap, R, mcn, hV, hw⟩⟩ := id hC
  obtain ⟨⟨re, h11⟩, _, _, _, ⟨P, Q, hT⟩⟩ := id hM
  have hc5 : c ≤ 50 := hT.2.2.2.2.2.2
  obtain ⟨_, _, _, _, ⟨lf, hL⟩, ⟨rt, hRt⟩, ⟨la, hLa⟩⟩ := id hS
  rcases hR : c_fin f n (c_run f n (cl_lu c Vl Vg Vn f) 16384 (c_s0 lf rt la)) with ⟨xK, xdu, xdn, xsy, xpl, xou, xpr, xna, ⟨xle, xlv, xl0, xl1⟩, ⟨xre, xrv, xr0, xr1⟩, ⟨xe, xv, xa0, xb0⟩⟩
  refine v_aload_n (am_Dk d_LW_law (k := 184) rfl) rfl ?_
  refine v_aload_n (am_Dk d_LW_law (k := 185) rfl) rfl ?_
  refine v_callS (rest := []) (As := [.ref 1000, .ref 1239]) (mc' := 4) (ms' := 24) (am_Dk d_LW_law (k := 186) rfl) c_LW_64 (t_LW_holds G (d := 12) (by omega) hb hn h0 h1 h2 hV hw hx hc5 hS hL hRt hLa hR hg) (by omega) (by omega) (by omega) (by simp [Value.category]) rfl (fun v1 M2 n3 h4 => ?_) (fun _ _ _ h4 => ?_)
  rotate_left
  · rcases h4 with ⟨_, _, hx9, _⟩ | ⟨_, _, hx9, _⟩ <;> cases hx9
  have hq1 := h4
  obtain ⟨⟨kC, hv9⟩, hn9x, hF9⟩ := zwH_fr (M := M) (nx := nx) hx (show zwH f n c Vl Vg Vn xou xpl xle xl0 xl1 xre xe xlv xrv xv g M nx _ _ _ from h4)
  subst hv9
  have hM1 := MI_fr hM hF9
  obtain ⟨⟨re2, h11b⟩, hx1, hrc1, hwk1, ⟨P1, Q1, hT1⟩⟩ := id hM1
  show am_V G _ _ _ _ _ 336 [(4, .int (nI i)), (3, .ref 1239), (2, .ref 1211), (1, .ref 1000), (0, .ref 999)] [.int kC] M2 n3 (cn + 4) (sn + 24)
  refine v_istore (L1 := [(5, .int kC), (4, .int (nI i)), (3, .ref 1239), (2, .ref 1211), (1, .ref 1000), (0, .ref 999)]) (am_Dk d_LW_law (k := 187) rfl) (by decide) rfl ?_
  refine v_aload_n (am_Dk d_LW_law (k := 188) rfl) rfl ?_
  refine v_callV (rest := []) (As := []) (mc' := 0) (ms' := 0) (am_Dk d_LW_law (k := 189) rfl) c_LW_66 (Or.inl ⟨_, _, _, _, _, h11b, cq_ok9⟩) (t_MM_holds G (d := 412) (LU := luT c Vl Vg Vn) (lu := cl_lu c Vl Vg Vn f) (by omega) hb hn (lu_ok f n hN) hT1 rfl h11b hx1 hrc1 hwk1) (by omega) (by omega) (by omega) (by simp [Value.category]) rfl (fun v5 M6 n7 h8 => ?_) (fun _ _ _ h8 => ?_)
  rotate_left
  · rcases h8 with ⟨_, _, _, _, _, ⟨_, _, _, _, hx9, _⟩ | ⟨_, _, _, _, _, ⟨_, hx9, _⟩ | ⟨_, ⟨_, hx9, _⟩ | ⟨_, _, hx9, _⟩ | ⟨_, _, hx9, _⟩⟩⟩⟩ <;> cases hx9
  obtain ⟨b, g1, hv8, hn8, hJ2, hkb⟩ := j_holds (P := P1) (Q := Q1) hb hn hx hN hC hM hg hR hq1 h8
  subst hv8
  obtain ⟨_, _, _, _, _, _, _, _, _, _, _, _, _, ⟨⟨re3, h11c⟩, _⟩, hg2⟩ := id hJ2
  cases b
  · show am_V G _ _ _ _ _ 342 [(5, .int kC), (4, .int (nI i)), (3, .ref 1239), (2, .ref 1211), (1, .ref 1000), (0, .ref 999)] [.int 0] M6 n7 (cn + 4) (sn + 24)
    refine v_istore (L1 := [(6, .int 0), (5, .int kC), (4, .int (nI i)), (3, .ref 1239), (2, .ref 1211), (1, .ref 1000), (0, .ref 999)]) (am_Dk d_LW_law (k := 190) rfl) (by decide) rfl ?_
    refine v_aload_n (am_Dk d_LW_law (k := 191) rfl) rfl ?_
    refine v_callV (rest := []) (As := []) (mc' := 0) (ms' := 0) (am_Dk d_LW_law (k := 192) rfl) c_LW_50 (Or.inl ⟨_, _, _, _, _, h11c, cq_ok9⟩) (t_MM_thrown G (d := 0) (by omega) h11c) (by omega) (by omega) (by omega) (by simp [Value.category]) rfl (fun v9 M10 n11 h12 => ?_) (fun _ _ _ h12 => ?_)
    rotate_left
    · exact absurd h12.1 (by simp)
    obtain ⟨h12, e13, e14⟩ := h12
    replace e13 := e13.symm
    replace e14 := e14.symm
    subst e13
    subst e14
    cases h12
    show am_V G _ _ _ _ _ 348 [(6, .int 0), (5, .int kC), (4, .int (nI i)), (3, .ref 1239), (2, .ref 1211), (1, .ref 1000), (0, .ref 999)] [.int kC] M6 n7 (cn + 4) (sn + 24)
    refine v_iload (am_Dk d_LW_law (k := 193) rfl) rfl ?_
    refine v_icmp_eq (tgt := 355) (am_Dk d_LW_law (k := 194) rfl) (by decide) (fun c15 => ?_) (fun c15 => ?_)
    · refine v_iload (am_Dk d_LW_law (k := 197) rfl) rfl ?_
      refine v_if_ne (tgt := 379) (am_Dk d_LW_law (k := 198) rfl) (by decide) (fun c16 => ?_) (fun c16 => ?_)
      · refine v_goto (tgt := 451) (am_Dk d_LW_law (k := 211) rfl) (by decide) ?_
        exact v_drop (kk _ _ _ _ _ _ hJ2 (by omega) (by omega)) (by simp)
      · have hk0 : kC = 0 := c16
        refine v_aload_n (am_Dk d_LW_law (k := 199) rfl) rfl ?_
        refine v_iconst (v := 0) (am_Dk d_LW_law (k := 200) rfl) (by decide) ?_
        refine v_lald (am_Dk d_LW_law (k := 201) rfl) hg2 rfl (show ¬ (_ ∨ _) from by decide) ?_
        refine v_iload (am_Dk d_LW_law (k := 202) rfl) rfl ?_
        refine v_if_eq (tgt := 372) (am_Dk d_LW_law (k := 203) rfl) (by decide) (fun c17 => ?_) (fun c17 => ?_)
        · have Nc17 := (nI_eq (a := 0) (b := 0) (by omega) (by omega)).mp c17
          refine v_lconst (v := 0) (am_Dk d_LW_law (k := 206) rfl) (by decide) ?_
          refine v_lcmp (am_Dk d_LW_law (k := 207) rfl) ?_
          refine v_if_eq (tgt := 379) (am_Dk d_LW_law (k := 208) rfl) (by decide) (fun c18 => ?_) (fun c18 => ?_)
          · have Nc18 := (lg_cmp_eq _ _).mp c18
            refine v_goto (tgt := 451) (am_Dk d_LW_law (k := 211) rfl) (by decide) ?_
            exact v_drop (kk _ _ _ _ _ _ hJ2 (by omega) (by omega)) (by simp)
          · exact absurd (hkb hk0) (fun z => c18 ((lg_cmp_eq _ _).mpr z))
        · exact absurd (by decide) c17
    · exact absurd rfl c15
  · show am_V G _ _ _ _ _ 342 [(5, .int kC), (4, .int (nI i)), (3, .ref 1239), (2, .ref 1211), (1, .ref 1000), (0, .ref 999)] [.int 1] M6 n7 (cn + 4) (sn + 24)
    refine v_istore (L1 := [(6, .int 1), (5, .int kC), (4, .int (nI i)), (3, .ref 1239), (2, .ref 1211), (1, .ref 1000), (0, .ref 999)]) (am_Dk d_LW_law (k := 190) rfl) (by decide) rfl ?_
    refine v_aload_n (am_Dk d_LW_law (k := 191) rfl) rfl ?_
    refine v_callV (rest := []) (As := []) (mc' := 0) (ms' := 0) (am_Dk d_LW_law (k := 192) rfl) c_LW_50 (Or.inl ⟨_, _, _, _, _, h11c, cq_ok9⟩) (t_MM_thrown G (d := 0) (by omega) h11c) (by omega) (by omega) (by omega) (by simp [Value.category]) rfl (fun v19 M20 n21 h22 => ?_) (fun _ _ _ h22 => ?_)
    rotate_left
    · exact absurd h22.1 (by simp)
    obtain ⟨h22, e23, e24⟩ := h22
    replace e23 := e23.symm
    replace e24 := e24.symm
    subst e23
    subst e24
    cases h22
    show am_V G _ _ _ _ _ 348 [(6, .int 1), (5, .int kC), (4, .int (nI i)), (3, .ref 1239), (2, .ref 1211), (1, .ref 1000), (0, .ref 999)] [.int kC] M6 n7 (cn + 4) (sn + 24)
    refine v_iload (am_Dk d_LW_law (k := 193) rfl) rfl ?_
    refine v_icmp_eq (tgt := 355) (am_Dk d_LW_law (k := 194) rfl) (by decide) (fun c25 => ?_) (fun c25 => ?_)
    · refine v_iload (am_Dk d_LW_law (k := 197) rfl) rfl ?_
      refine v_if_ne (tgt := 379) (am_Dk d_LW_law (k := 198) rfl) (by decide) (fun c26 => ?_) (fun c26 => ?_)
      · refine v_goto (tgt := 451) (am_Dk d_LW_law (k := 211) rfl) (by decide) ?_
        exact v_drop (kk _ _ _ _ _ _ hJ2 (by omega) (by omega)) (by simp)
      · have hk0 : kC = 0 := c26
        refine v_aload_n (am_Dk d_LW_law (k := 199) rfl) rfl ?_
        refine v_iconst (v := 0) (am_Dk d_LW_law (k := 200) rfl) (by decide) ?_
        refine v_lald (am_Dk d_LW_law (k := 201) rfl) hg2 rfl (show ¬ (_ ∨ _) from by decide) ?_
        refine v_iload (am_Dk d_LW_law (k := 202) rfl) rfl ?_
        refine v_if_eq (tgt := 372) (am_Dk d_LW_law (k := 203) rfl) (by decide) (fun c27 => ?_) (fun c27 => ?_)
        · exact absurd c27 (by decide)
        · have Nc27 : ¬ 1 = 0 := fun z => c27 ((nI_eq (a := 1) (b := 0) (by omega) (by omega)).mpr z)
          refine v_lconst (v := 1) (am_Dk d_LW_law (k := 204) rfl) (by decide) ?_
          refine v_goto (tgt := 373) (am_Dk d_LW_law (k := 205) rfl) (by decide) ?_
          refine v_lcmp (am_Dk d_LW_law (k := 207) rfl) ?_
          refine v_if_eq (tgt := 379) (am_Dk d_LW_law (k := 208) rfl) (by decide) (fun c28 => ?_) (fun c28 => ?_)
          · have Nc28 := (lg_cmp_eq _ _).mp c28
            refine v_goto (tgt := 451) (am_Dk d_LW_law (k := 211) rfl) (by decide) ?_
            exact v_drop (kk _ _ _ _ _ _ hJ2 (by omega) (by omega)) (by simp)
          · exact absurd (hkb hk0) (fun z => c28 ((lg_cmp_eq _ _).mpr z))
    · exact absurd rfl c25
set_option maxRecDepth 20000 in
theorem l_law5 (G : am_G) {d mc ms : Nat} (hd : 413 ≤ d) {i : Nat} (hi : i + 6 ≤ G.2.2.2.2.2.1) (hL3 : G.2.2.2.2.2.1 ≤ 3072) {M : am_M} {nx : Nat} {th : Int32} {g : Nat → Int64} (hJ : JI th g M nx) {cn sn : Nat} (hcn : cn + 7 ≤ mc) (hsn : sn + 4197 ≤ ms) {Q0 : am_Qt} (kk : ∀ (k : Int32) (g1 : Nat → Int64) (M1 : am_M) (nx1 cn1 sn1 : Nat), JI k g1 M1 nx1 → cn1 ≤ cn + 7 → sn1 ≤ sn + 4197 → am_V G m_LW_law d mc ms Q0 451 [(4, .int (nI i)), (3, .ref 1239), (2, .ref 1211), (1, .ref 1000), (0, .ref 999)] [] M1 nx1 cn1 sn1) : am_V G m_LW_law d mc ms Q0 382 [(4, .int (nI i)), (3, .ref 1239), (2, .ref 1211), (1, .ref 1000), (0, .ref 999)] [] M nx cn sn := by
  obtain ⟨f, n, c, Vl, Vg, Vn, pl, er, hb, hn, hx, hN, hC, hM, hg⟩ := hJ
  obtain ⟨h0, h1, h2, hS, ⟨Vi, Vb, ed, cap, R, mcn, hV, hw⟩⟩ := id hC
  obtain ⟨⟨re, h11⟩, _, _, _, ⟨P, Q, hT⟩⟩ := id hM
  have hc5 : c ≤ 50 := hT.2.2.2.2.2.2
  refine v_aload_n (am_Dk d_LW_law (k := 212) rfl) rfl ?_
  refine v_callV (rest := []) (As := []) (mc' := 0) (ms' := 0) (am_Dk d_LW_law (k := 213) rfl) c_LW_67 (Or.inl ⟨_, _, _, _, _, h0, cq_ok0⟩) (t_VR_clear G (d := 1) (by omega) h0 hV hw hx) (by omega) (by omega) (by omega) (by simp [Value.category]) rfl (fun v1 M2 n3 h4 => ?_) (fun _ _ _ h4 => ?_)
  rotate_left
  · obtain ⟨hx9, _⟩ := h4; cases hx9
  have hq1 := h4
  obtain ⟨hv9, hn9, hf9, _⟩ := id h4
  cases hv9
  have hn9x : nx ≤ n3 := by omega
  have hF9 : ∀ i, 1211 ≤ i → i ≤ 1238 → M2 i = M i := fun i z1 z2 => hf9 i (by omega) (by omega) (by omega)
  have hM1 := MI_fr hM hF9
  obtain ⟨⟨re2, h11b⟩, hx1, hrc1, hwk1, ⟨P1, Q1, hT1⟩⟩ := id hM1
  show am_V G _ _ _ _ _ 386 [(4, .int (nI i)), (3, .ref 1239), (2, .ref 1211), (1, .ref 1000), (0, .ref 999)] [.int (nI c)] M2 n3 cn sn
  refine v_aload_n (am_Dk d_LW_law (k := 214) rfl) rfl ?_
  refine v_callV (rest := [.int (nI c)]) (As := []) (mc' := 0) (ms' := 0) (am_Dk d_LW_law (k := 215) rfl) c_LW_70 (Or.inl ⟨_, _, _, _, _, h11b, cq_ok9⟩) (t_MM_clear G (d := 0) (by omega) h11b) (by omega) (by omega) (by omega) (by simp [Value.category]) rfl (fun v5 M6 n7 h8 => ?_) (fun _ _ _ h8 => ?_)
  rotate_left
  · obtain ⟨hx9, _⟩ := h8; cases hx9
  obtain ⟨_, hv8, hn8, g1, hJ2⟩ := j_clear hb hn hx hN hC hM hg hq1 h8
  subst hv8
  obtain ⟨_, _, _, _, _, _, _, _, _, _, _, _, _, ⟨⟨re3, h11c⟩, _⟩, hg2⟩ := id hJ2
  show am_V G _ _ _ _ _ 390 [(4, .int (nI i)), (3, .ref 1239), (2, .ref 1211), (1, .ref 1000), (0, .ref 999)] [.int (nI c), .int (nI c)] M6 n7 cn sn
  refine v_icmp_eq (tgt := 451) (am_Dk d_LW_law (k := 216) rfl) (by decide) (fun c9 => ?_) (fun c9 => ?_)
  · have Nc9 := (nI_eq (a := c) (b := c) (by omega) (by omega)).mp c9
    exact v_drop (kk _ _ _ _ _ _ hJ2 (by omega) (by omega)) (by simp)
  · exact absurd rfl c9
set_option maxRecDepth 20000 in
theorem l_law6 (G : am_G) {d mc ms : Nat} (hd : 413 ≤ d) {i : Nat} (hi : i + 6 ≤ G.2.2.2.2.2.1) (hL3 : G.2.2.2.2.2.1 ≤ 3072) {M : am_M} {nx : Nat} {th : Int32} {g : Nat → Int64} (hJ : JI th g M nx) {cn sn : Nat} (hcn : cn + 7 ≤ mc) (hsn : sn + 4197 ≤ ms) {Q0 : am_Qt} (kk : ∀ (k : Int32) (g1 : Nat → Int64) (M1 : am_M) (nx1 cn1 sn1 : Nat), JI k g1 M1 nx1 → cn1 ≤ cn + 7 → sn1 ≤ sn + 4197 → am_V G m_LW_law d mc ms Q0 451 [(4, .int (nI i)), (3, .ref 1239), (2, .ref 1211), (1, .ref 1000), (0, .ref 999)] [] M1 nx1 cn1 sn1) : am_V G m_LW_law d mc ms Q0 395 [(4, .int (nI i)), (3, .ref 1239), (2, .ref 1211), (1, .ref 1000), (0, .ref 999)] [] M nx cn sn := by
  obtain ⟨f, n, c, Vl, Vg, Vn, pl, er, hb, hn, hx, hN, hC, hM, hg⟩ := hJ
  obtain ⟨h0, h1, h2, hS, ⟨Vi, Vb, ed, cap, R, mcn, hV, hw⟩⟩ := id hC
  obtain ⟨⟨re, h11⟩, _, _, _, ⟨P, Q, hT⟩⟩ := id hM
  have hc5 : c ≤ 50 := hT.2.2.2.2.2.2
  refine v_aload_n (am_Dk d_LW_law (k := 219) rfl) rfl ?_
  refine v_aload_n (am_Dk d_LW_law (k := 220) rfl) rfl ?_
  refine v_iload (am_Dk d_LW_law (k := 221) rfl) rfl ?_
  refine v_iconst (v := 1) (am_Dk d_LW_law (k := 222) rfl) (by decide) ?_
  refine v_iadd (am_Dk d_LW_law (k := 223) rfl) ?_
  rw [nI_1]
  refine v_sld (am_Dk d_LW_law (k := 224) rfl) (vp_in_nI (by omega) (by omega)) ?_
  rw [nI_clamp (n := i + 1) (by omega)]
  refine v_aload_n (am_Dk d_LW_law (k := 225) rfl) rfl ?_
  refine v_callS (rest := []) (As := [.ref 1000, .int (G.2.2.2.2.2.2 (i + 1)), .ref 1239]) (mc' := 1) (ms' := 6) (am_Dk d_LW_law (k := 226) rfl) c_LW_71 (t_LW_count G (d := 7) (by omega) h0 h1 hx hg) (by omega) (by omega) (by omega) (by simp [Value.category]) rfl (fun v1 M2 n3 h4 => ?_) (fun _ _ _ h4 => ?_)
  rotate_left
  · rcases h4 with ⟨_, _, hx9, _⟩ | ⟨_, _, hx9, _⟩ <;> cases hx9
  have hq1 := h4
  obtain ⟨⟨kC, hv9⟩, hn9x, hF9⟩ := zwN_fr (M := M) (nx := nx) hx (show zwN pl er (nI n) (G.2.2.2.2.2.2 (i + 1)) g M nx _ _ _ from h4)
  subst hv9
  have hM1 := MI_fr hM hF9
  obtain ⟨⟨re2, h11b⟩, hx1, hrc1, hwk1, ⟨P1, Q1, hT1⟩⟩ := id hM1
  show am_V G _ _ _ _ _ 406 [(4, .int (nI i)), (3, .ref 1239), (2, .ref 1211), (1, .ref 1000), (0, .ref 999)] [.int kC] M2 n3 (cn + 1) (sn + 6)
  refine v_istore (L1 := [(5, .int kC), (4, .int (nI i)), (3, .ref 1239), (2, .ref 1211), (1, .ref 1000), (0, .ref 999)]) (am_Dk d_LW_law (k := 227) rfl) (by decide) rfl ?_
  refine v_aload_n (am_Dk d_LW_law (k := 228) rfl) rfl ?_
  refine v_aload_n (am_Dk d_LW_law (k := 229) rfl) rfl ?_
  refine v_iload (am_Dk d_LW_law (k := 230) rfl) rfl ?_
  refine v_iconst (v := 1) (am_Dk d_LW_law (k := 231) rfl) (by decide) ?_
  refine v_iadd (am_Dk d_LW_law (k := 232) rfl) ?_
  rw [nI_1]
  refine v_sld (am_Dk d_LW_law (k := 233) rfl) (vp_in_nI (by omega) (by omega)) ?_
  rw [nI_clamp (n := i + 1) (by omega)]
  refine v_callV (rest := []) (As := [.int (G.2.2.2.2.2.2 (i + 1))]) (mc' := 0) (ms' := 0) (am_Dk d_LW_law (k := 234) rfl) c_LW_73 (Or.inl ⟨_, _, _, _, _, h11b, cq_ok9⟩) (t_MM_count G (d := 1) (by omega) h11b) (by omega) (by omega) (by omega) (by simp [Value.category]) rfl (fun v5 M6 n7 h8 => ?_) (fun _ _ _ h8 => ?_)
  rotate_left
  · rcases h8 with ⟨_, _, ⟨_, hx9⟩ | ⟨_, hx9⟩ | ⟨_, hx9⟩ | ⟨_, _, _, hx9⟩⟩ <;> cases hx9
  obtain ⟨b, g1, hv8, hn8, hJ2, hkb⟩ := j_count hb hn hx hN hC hM hg hq1 h8
  subst hv8
  obtain ⟨_, _, _, _, _, _, _, _, _, _, _, _, _, ⟨⟨re3, h11c⟩, _⟩, hg2⟩ := id hJ2
  show am_V G _ _ _ _ _ 418 [(5, .int kC), (4, .int (nI i)), (3, .ref 1239), (2, .ref 1211), (1, .ref 1000), (0, .ref 999)] [.int b] M6 n7 (cn + 1) (sn + 6)
  refine v_istore (L1 := [(6, .int b), (5, .int kC), (4, .int (nI i)), (3, .ref 1239), (2, .ref 1211), (1, .ref 1000), (0, .ref 999)]) (am_Dk d_LW_law (k := 235) rfl) (by decide) rfl ?_
  refine v_aload_n (am_Dk d_LW_law (k := 236) rfl) rfl ?_
  refine v_callV (rest := []) (As := []) (mc' := 0) (ms' := 0) (am_Dk d_LW_law (k := 237) rfl) c_LW_50 (Or.inl ⟨_, _, _, _, _, h11c, cq_ok9⟩) (t_MM_thrown G (d := 0) (by omega) h11c) (by omega) (by omega) (by omega) (by simp [Value.category]) rfl (fun v9 M10 n11 h12 => ?_) (fun _ _ _ h12 => ?_)
  rotate_left
  · exact absurd h12.1 (by simp)
  obtain ⟨h12, e13, e14⟩ := h12
  replace e13 := e13.symm
  replace e14 := e14.symm
  subst e13
  subst e14
  cases h12
  show am_V G _ _ _ _ _ 424 [(6, .int b), (5, .int kC), (4, .int (nI i)), (3, .ref 1239), (2, .ref 1211), (1, .ref 1000), (0, .ref 999)] [.int kC] M6 n7 (cn + 1) (sn + 6)
  refine v_iload (am_Dk d_LW_law (k := 238) rfl) rfl ?_
  refine v_icmp_eq (tgt := 431) (am_Dk d_LW_law (k := 239) rfl) (by decide) (fun c15 => ?_) (fun c15 => ?_)
  · refine v_iload (am_Dk d_LW_law (k := 242) rfl) rfl ?_
    refine v_if_ne (tgt := 448) (am_Dk d_LW_law (k := 243) rfl) (by decide) (fun c16 => ?_) (fun c16 => ?_)
    · refine v_goto (tgt := 451) (am_Dk d_LW_law (k := 253) rfl) (by decide) ?_
      exact v_drop (kk _ _ _ _ _ _ hJ2 (by omega) (by omega)) (by simp)
    · have hk0 : kC = 0 := c16
      refine v_aload_n (am_Dk d_LW_law (k := 244) rfl) rfl ?_
      refine v_iconst (v := 0) (am_Dk d_LW_law (k := 245) rfl) (by decide) ?_
      refine v_lald (am_Dk d_LW_law (k := 246) rfl) hg2 rfl (show ¬ (_ ∨ _) from by decide) ?_
      refine v_iload (am_Dk d_LW_law (k := 247) rfl) rfl ?_
      refine v_i2l (am_Dk d_LW_law (k := 248) rfl) rfl ?_
      refine v_lcmp (am_Dk d_LW_law (k := 249) rfl) ?_
      refine v_if_eq (tgt := 448) (am_Dk d_LW_law (k := 250) rfl) (by decide) (fun c17 => ?_) (fun c17 => ?_)
      · have Nc17 := (lg_cmp_eq _ _).mp c17
        refine v_goto (tgt := 451) (am_Dk d_LW_law (k := 253) rfl) (by decide) ?_
        exact v_drop (kk _ _ _ _ _ _ hJ2 (by omega) (by omega)) (by simp)
      · exact absurd (hkb hk0) (fun z => c17 ((lg_cmp_eq _ _).mpr z))
  · exact absurd rfl c15
set_option maxRecDepth 20000 in
theorem l_law (G : am_G) {d : Nat} (hd : 413 ≤ d) {mc ms : Nat} (hL3 : G.2.2.2.2.2.1 ≤ 3072) : ∀ (m i : Nat) (M : am_M) (nx cn sn : Nat) (th : Int32) (g : Nat → Int64), G.2.2.2.2.2.1 < i + 6 + 6 * m → i ≤ G.2.2.2.2.2.1 → JI th g M nx → cn + 7 * m ≤ mc → sn + 4197 * m ≤ ms → am_V G m_LW_law d mc ms (fun r M1 nx1 => r = .inl (some (.int 1))) 23 [(4, .int (nI i)), (3, .ref 1239), (2, .ref 1211), (1, .ref 1000), (0, .ref 999)] [] M nx cn sn := by
  have hneg : ∀ L, L < 6 → ∀ i, i < 6 → nI L - 6 < nI i := by decide
  intro m
  induction m with
  | zero =>
    intro i M nx cn sn th g him hiL hJ hcn hsn
    refine v_iload (am_Dk d_LW_law (k := 13) rfl) rfl ?_
    refine v_aload_n (am_Dk d_LW_law (k := 14) rfl) rfl ?_
    refine v_slen (am_Dk d_LW_law (k := 15) rfl) ?_
    show am_V G _ _ _ _ _ 27 [(4, .int (nI i)), (3, .ref 1239), (2, .ref 1211), (1, .ref 1000), (0, .ref 999)] [.int (nI G.2.2.2.2.2.1), .int (nI i)] M nx cn sn
    refine v_bipush (v := 6) (am_Dk d_LW_law (k := 16) rfl) (by decide) ?_
    refine v_isub (am_Dk d_LW_law (k := 17) rfl) ?_
    refine v_icmp_gt (tgt := 457) (am_Dk d_LW_law (k := 18) rfl) (by decide) (fun c1 => ?_) (fun c1 => ?_)
    · refine v_iconst (v := 1) (am_Dk d_LW_law (k := 256) rfl) (by decide) ?_
      exact v_ireturn (am_Dk d_LW_law (k := 257) rfl) rfl rfl (by omega) (by omega) rfl
    · have hge : i + 6 ≤ G.2.2.2.2.2.1 := by
        by_cases h6 : 6 ≤ G.2.2.2.2.2.1
        · rw [show nI G.2.2.2.2.2.1 - 6 = nI (G.2.2.2.2.2.1 - 6) from nI_sub (b := 6) h6] at c1
          have hno : ¬ G.2.2.2.2.2.1 - 6 < i := fun z => c1 ((nI_ltI (a := G.2.2.2.2.2.1 - 6) (b := i) (by omega) (by omega)).mpr z)
          omega
        · exact absurd (hneg _ (by omega) i (by omega)) c1
      omega
  | succ m ih =>
    intro i M nx cn sn th g him hiL hJ hcn hsn
    refine v_iload (am_Dk d_LW_law (k := 13) rfl) rfl ?_
    refine v_aload_n (am_Dk d_LW_law (k := 14) rfl) rfl ?_
    refine v_slen (am_Dk d_LW_law (k := 15) rfl) ?_
    show am_V G _ _ _ _ _ 27 [(4, .int (nI i)), (3, .ref 1239), (2, .ref 1211), (1, .ref 1000), (0, .ref 999)] [.int (nI G.2.2.2.2.2.1), .int (nI i)] M nx cn sn
    refine v_bipush (v := 6) (am_Dk d_LW_law (k := 16) rfl) (by decide) ?_
    refine v_isub (am_Dk d_LW_law (k := 17) rfl) ?_
    refine v_icmp_gt (tgt := 457) (am_Dk d_LW_law (k := 18) rfl) (by decide) (fun c1 => ?_) (fun c1 => ?_)
    · refine v_iconst (v := 1) (am_Dk d_LW_law (k := 256) rfl) (by decide) ?_
      exact v_ireturn (am_Dk d_LW_law (k := 257) rfl) rfl rfl (by omega) (by omega) rfl
    · have hge : i + 6 ≤ G.2.2.2.2.2.1 := by
        by_cases h6 : 6 ≤ G.2.2.2.2.2.1
        · rw [show nI G.2.2.2.2.2.1 - 6 = nI (G.2.2.2.2.2.1 - 6) from nI_sub (b := 6) h6] at c1
          have hno : ¬ G.2.2.2.2.2.1 - 6 < i := fun z => c1 ((nI_ltI (a := G.2.2.2.2.2.1 - 6) (b := i) (by omega) (by omega)).mpr z)
          omega
        · exact absurd (hneg _ (by omega) i (by omega)) c1
      refine v_aload_n (am_Dk d_LW_law (k := 19) rfl) rfl ?_
      refine v_iload (am_Dk d_LW_law (k := 20) rfl) rfl ?_
      refine v_sld (am_Dk d_LW_law (k := 21) rfl) (vp_in_nI (by omega) (by omega)) ?_
      rw [nI_clamp (n := i) (by omega)]
      refine v_bipush (v := 7) (am_Dk d_LW_law (k := 22) rfl) (by decide) ?_
      refine v_iand (am_Dk d_LW_law (k := 23) rfl) ?_
      generalize (G.2.2.2.2.2.2 i) &&& 7 = w
      have kk : ∀ (k : Int32) (g1 : Nat → Int64) (M1 : am_M) (nx1 cn1 sn1 : Nat), JI k g1 M1 nx1 → cn1 ≤ cn + 7 → sn1 ≤ sn + 4197 → am_V G m_LW_law d mc ms (fun r M1 nx1 => r = .inl (some (.int 1))) 451 [(4, .int (nI i)), (3, .ref 1239), (2, .ref 1211), (1, .ref 1000), (0, .ref 999)] [] M1 nx1 cn1 sn1 := by
        intro k g1 M1 nx1 cn1 sn1 hJ1 hc1 hs1
        refine v_iinc (v := nI (i + 6)) (L1 := [(4, .int (nI (i + 6))), (3, .ref 1239), (2, .ref 1211), (1, .ref 1000), (0, .ref 999)]) (am_Dk d_LW_law (k := 254) rfl) rfl (by rw [show Int32.ofInt 6 = nI 6 from by decide]; exact nI_add i 6) (by decide) rfl ?_
        refine v_goto (tgt := 23) (am_Dk d_LW_law (k := 255) rfl) (by decide) ?_
        exact ih (i + 6) M1 nx1 cn1 sn1 k g1 (by omega) (by omega) hJ1 (by omega) (by omega)
      by_cases wq0 : w = 0
      · refine v_tableIn (tgt := 84) (off := 44) (am_Dk d_LW_law (k := 24) rfl) (by rw [wq0]; decide) (by rw [wq0]; decide) (by rw [wq0]; decide) (by decide) ?_
        exact l_law0 G hd hge hL3 hJ (by omega) (by omega) kk
      by_cases wq1 : w = 1
      · refine v_tableIn (tgt := 188) (off := 148) (am_Dk d_LW_law (k := 24) rfl) (by rw [wq1]; decide) (by rw [wq1]; decide) (by rw [wq1]; decide) (by decide) ?_
        exact l_law1 G hd hge hL3 hJ (by omega) (by omega) kk
      by_cases wq2 : w = 2
      · refine v_tableIn (tgt := 244) (off := 204) (am_Dk d_LW_law (k := 24) rfl) (by rw [wq2]; decide) (by rw [wq2]; decide) (by rw [wq2]; decide) (by decide) ?_
        exact l_law2 G hd hge hL3 hJ (by omega) (by omega) kk
      by_cases wq3 : w = 3
      · refine v_tableIn (tgt := 287) (off := 247) (am_Dk d_LW_law (k := 24) rfl) (by rw [wq3]; decide) (by rw [wq3]; decide) (by rw [wq3]; decide) (by decide) ?_
        exact l_law3 G hd hge hL3 hJ (by omega) (by omega) kk
      by_cases wq4 : w = 4
      · refine v_tableIn (tgt := 331) (off := 291) (am_Dk d_LW_law (k := 24) rfl) (by rw [wq4]; decide) (by rw [wq4]; decide) (by rw [wq4]; decide) (by decide) ?_
        exact l_law4 G hd hge hL3 hJ (by omega) (by omega) kk
      by_cases wq5 : w = 5
      · refine v_tableIn (tgt := 382) (off := 342) (am_Dk d_LW_law (k := 24) rfl) (by rw [wq5]; decide) (by rw [wq5]; decide) (by rw [wq5]; decide) (by decide) ?_
        exact l_law5 G hd hge hL3 hJ (by omega) (by omega) kk
      by_cases wq6 : w = 6
      · refine v_tableIn (tgt := 395) (off := 355) (am_Dk d_LW_law (k := 24) rfl) (by rw [wq6]; decide) (by rw [wq6]; decide) (by rw [wq6]; decide) (by decide) ?_
        exact l_law6 G hd hge hL3 hJ (by omega) (by omega) kk
      refine v_tableOut (tgt := 451) (am_Dk d_LW_law (k := 24) rfl) (by simp only [i32eq] at wq0 wq1 wq2 wq3 wq4 wq5 wq6; have z0 : (0 : Int32).toInt = 0 := (by decide); have z1 : (1 : Int32).toInt = 1 := (by decide); have z2 : (2 : Int32).toInt = 2 := (by decide); have z3 : (3 : Int32).toInt = 3 := (by decide); have z4 : (4 : Int32).toInt = 4 := (by decide); have z5 : (5 : Int32).toInt = 5 := (by decide); have z6 : (6 : Int32).toInt = 6 := (by decide); omega) (by decide) ?_
      exact kk th g M nx cn sn hJ (by omega) (by omega)
