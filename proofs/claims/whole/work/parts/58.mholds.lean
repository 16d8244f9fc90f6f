/-! HOLDS OF THE REFERENCE (mine; rows laid by the walker) -/
set_option maxRecDepth 20000 in
theorem t_MM_holds (G : am_G) {d nx : Nat} (hd : 412 ≤ d) {M : am_M} {f : Nat → Int32} {n : Nat} {LU : Nat → (Nat → Int32) → Option Int64} {lu : Nat → Nat → Option Int64} (hb : tbB f) (hn : n ≤ 4096) (hU : luOk f n LU lu) {c : Nat} {Vl : Nat → Nat} {Vg : Nat → Nat → Int32} {Vn : Nat → Int64} {P : Nat → Int32} {Q : Nat → Nat} (hT9 : tbl M c Vl Vg Vn P Q) (hLU : LU = luT c Vl Vg Vn) {th pl er : Int32} {re : Int64} (h0 : M 1211 = some (.inr (9, [.int th, .int (nI n), .int pl, .int er, .int (nI c), .ref 1212, .ref 1213, .ref 1220, .ref 1225, .ref 1233, .ref 1234, .ref 1235, .ref 1236, .ref 1237, .ref 1238, .long re]))) (hx : rx f M) (hrc : rcell M) (hwk : wks M) : am_Tr G m_MM_holds d 0 0 [.ref 1211] M nx (fun r M1 nx1 => nx1 = nx ∧ (∀ i, i < 1211 ∨ (1232 < i ∧ i < 1236) ∨ 1238 < i → M1 i = M i) ∧ rx f M1 ∧ rcell M1 ∧ wks M1 ∧ ((∃ w re1, w ≤ n ∧ rdBad f n lu w ∧ r = .inl (some (.int 0)) ∧ M1 1211 = some (.inr (9, [.int 2, .int 0, .int (nI w), .int 0, .int (nI c), .ref 1212, .ref 1213, .ref 1220, .ref 1225, .ref 1233, .ref 1234, .ref 1235, .ref 1236, .ref 1237, .ref 1238, .long re1]))) ∨ ∃ W t sz re1, rdOk f n lu W t sz ∧ ((cmpK (W.2.1 t).1 = false ∧ r = .inl (some (.int 0)) ∧ M1 1211 = some (.inr (9, [.int 2, .int 0, .int 0, .int 0, .int (nI c), .ref 1212, .ref 1213, .ref 1220, .ref 1225, .ref 1233, .ref 1234, .ref 1235, .ref 1236, .ref 1237, .ref 1238, .long re1]))) ∨ (cmpK (W.2.1 t).1 = true ∧ ((¬ (W.1 (W.2.1 t).2.1).1 = 0 ∧ r = .inl (some (.int 0)) ∧ M1 1211 = some (.inr (9, [.int 1, .int 0, .int (-1), .int ((W.1 (W.2.1 t).2.1).1), .int (nI c), .ref 1212, .ref 1213, .ref 1220, .ref 1225, .ref 1233, .ref 1234, .ref 1235, .ref 1236, .ref 1237, .ref 1238, .long re1]))) ∨ ((W.1 (W.2.1 t).2.1).1 = 0 ∧ ¬ (W.1 (W.2.1 t).2.2).1 = 0 ∧ r = .inl (some (.int 0)) ∧ M1 1211 = some (.inr (9, [.int 1, .int 0, .int (-1), .int ((W.1 (W.2.1 t).2.2).1), .int (nI c), .ref 1212, .ref 1213, .ref 1220, .ref 1225, .ref 1233, .ref 1234, .ref 1235, .ref 1236, .ref 1237, .ref 1238, .long re1]))) ∨ ((W.1 (W.2.1 t).2.1).1 = 0 ∧ (W.1 (W.2.1 t).2.2).1 = 0 ∧ r = .inl (some (.int (bi (truK (W.2.1 t).1 (W.1 (W.2.1 t).2.1).2 (W.1 (W.2.1 t).2.2).2)))) ∧ M1 1211 = some (.inr (9, [.int 0, .int 0, .int (-1), .int 0, .int (nI c), .ref 1212, .ref 1213, .ref 1220, .ref 1225, .ref 1233, .ref 1234, .ref 1235, .ref 1236, .ref 1237, .ref 1238, .long re1])))))))) := by
  refine am_TrOf (by decide) (Nat.le_of_ble_eq_true rfl) ?_
  show am_V G _ _ _ _ _ 0 [(0, .ref 1211)] [] M nx 0 0
  refine v_aload_n (am_Dk d_MM_holds (k := 0) rfl) rfl ?_
  refine v_callV (rest := []) (As := []) (mc' := 0) (ms' := 0) (am_Dk d_MM_holds (k := 1) rfl) c_MM_172 (Or.inl ⟨_, _, _, _, _, h0, cq_ok9⟩) (t_MM_text G (LU := LU) (lu := lu) (d := 411) (by omega) hb hn hU h0 hx hrc) (by omega) (by omega) (by omega) (by simp [Value.category]) rfl (fun v1 M2 n3 h4 => ?_) (fun _ _ _ h4 => ?_)
  rotate_left
  · obtain ⟨_, _, hT8⟩ := h4; rcases hT8 with ⟨_, _, _, _, _, _, _, _, _, _, _, hx9, _⟩ | ⟨_, _, hx9, _⟩ <;> cases hx9
  obtain ⟨hx9, hfT, hT8⟩ := h4
  replace hx9 := hx9.symm
  subst hx9
  have hTb : tbl M2 c Vl Vg Vn P Q := tbl_fr hT9 (fun i z1 z2 => hfT i (by omega))
  obtain ⟨⟨Wk0, hW0⟩, ⟨Sg0, hS0⟩, ⟨Lf0, hL0⟩⟩ := hwk
  replace hW0 := (hfT 1236 (by omega)).trans hW0
  replace hS0 := (hfT 1237 (by omega)).trans hS0
  replace hL0 := (hfT 1238 (by omega)).trans hL0
  rcases hT8 with ⟨t, sz, pt, ns, tx, vb, e1, e2, W, On, Vx, hv, hR, hrx, hrc1, q11, z1, z2, z3, z4, z5, z6, hok⟩ | ⟨wB, hwn, hv, hrx, hrc1, q11, hbad⟩
  · cases hv
    obtain ⟨sv, n9, a9, b9, t9, o9, l9, p9, q9, v9, k9, r9, u9, hrcx⟩ := hrc1
    have hrc1 : rcell M2 := ⟨sv, n9, a9, b9, t9, o9, l9, p9, q9, v9, k9, r9, u9, hrcx⟩
    obtain ⟨⟨Kd, Nm, Fi, Ma, Pa, Nu⟩, T, F, Va, hX⟩ := hR
    obtain ⟨hN, hT, hTB, hO, ⟨A9, hF, hA⟩, _, _⟩ := id hX.2.1
    have hKd : M2 1214 = some (.inl (1, 9000, .inl Kd)) := hX.1.2.1
    have hNm : M2 1215 = some (.inl (1, 9000, .inl Nm)) := hX.1.2.2.1
    have hFi : M2 1216 = some (.inl (1, 9000, .inl Fi)) := hX.1.2.2.2.1
    have hMa : M2 1217 = some (.inl (1, 9000, .inl Ma)) := hX.1.2.2.2.2.1
    have hPa : M2 1218 = some (.inl (1, 9000, .inl Pa)) := hX.1.2.2.2.2.2.1
    obtain ⟨hP, hPB, ⟨Qa, hQa, hQk⟩, ⟨Vr, hVr, hVk⟩, hQ0, hti, hc50⟩ := id hTb
    have hrt := hX.2.2.2.1 t z1
    rcases ar_root hrt with ⟨hM2, hr0⟩ | ⟨k, b, y, z, hM2, hk, hNk, hFb, hbp, hPy, hPz, hy, hz, hr3⟩
    · have hcm : cmpK (W.2.1 t).1 = false := by rw [hr0]; rfl
      show am_V G _ _ _ _ _ 4 [(0, .ref 1211)] [.int (nI t)] M2 nx 0 0
      refine v_istore_n (L1 := [(1, .int (nI t)), (0, .ref 1211)]) (am_Dk d_MM_holds (k := 2) rfl) (by decide) rfl ?_
      refine v_iload_n (am_Dk d_MM_holds (k := 3) rfl) rfl ?_
      refine v_iconst (v := (-1)) (am_Dk d_MM_holds (k := 4) rfl) (by decide) ?_
      refine v_icmp_ne (tgt := 17) (am_Dk d_MM_holds (k := 5) rfl) (by decide) (fun c5 => ?_) (fun c5 => ?_)
      · refine v_aload_n (am_Dk d_MM_holds (k := 11) rfl) rfl ?_
        refine v_get (am_Dk d_MM_holds (k := 12) rfl) f_MM_20 q11 rfl ?_
        refine v_get9 (am_Dk d_MM_holds (k := 13) rfl) r_MM_95 hX.1.1 rfl ?_
        refine v_iload_n (am_Dk d_MM_holds (k := 14) rfl) rfl ?_
        refine v_iald (am_Dk d_MM_holds (k := 15) rfl) hNm rfl (vp_in_nI (by omega) (by omega)) ?_
        rw [nI_clamp (n := t) (by omega)]
        refine v_istore_n (L1 := [(2, .int (Nm t)), (1, .int (nI t)), (0, .ref 1211)]) (am_Dk d_MM_holds (k := 16) rfl) (by decide) rfl ?_
        refine v_aload_n (am_Dk d_MM_holds (k := 17) rfl) rfl ?_
        refine v_get (am_Dk d_MM_holds (k := 18) rfl) f_MM_27 q11 rfl ?_
        refine v_get (am_Dk d_MM_holds (k := 19) rfl) f_MM_181 hN rfl ?_
        refine v_if_le (tgt := 67) (am_Dk d_MM_holds (k := 20) rfl) (by decide) (fun c6 => ?_) (fun c6 => ?_)
        · refine v_iconst (v := 0) (am_Dk d_MM_holds (k := 36) rfl) (by decide) ?_
          refine v_istore_n (L1 := [(3, .int 0), (2, .int (Nm t)), (1, .int (nI t)), (0, .ref 1211)]) (am_Dk d_MM_holds (k := 37) rfl) (by decide) rfl ?_
          refine v_aload_n (am_Dk d_MM_holds (k := 38) rfl) rfl ?_
          refine v_get (am_Dk d_MM_holds (k := 39) rfl) f_MM_20 q11 rfl ?_
          refine v_get9 (am_Dk d_MM_holds (k := 40) rfl) r_MM_98 hX.1.1 rfl ?_
          refine v_iload_n (am_Dk d_MM_holds (k := 41) rfl) rfl ?_
          refine v_iald (am_Dk d_MM_holds (k := 42) rfl) hMa rfl (vp_in_nI (by omega) (by omega)) ?_
          rw [nI_clamp (n := t) (by omega)]
          refine v_iconst (v := 2) (am_Dk d_MM_holds (k := 43) rfl) (by decide) ?_
          refine v_icmp_ne (tgt := 99) (am_Dk d_MM_holds (k := 44) rfl) (by decide) (fun c7 => ?_) (fun c7 => ?_)
          · refine v_iconst (v := 0) (am_Dk d_MM_holds (k := 53) rfl) (by decide) ?_
            refine v_istore (L1 := [(4, .int 0), (3, .int 0), (2, .int (Nm t)), (1, .int (nI t)), (0, .ref 1211)]) (am_Dk d_MM_holds (k := 54) rfl) (by decide) rfl ?_
            refine v_aload_n (am_Dk d_MM_holds (k := 55) rfl) rfl ?_
            refine v_get (am_Dk d_MM_holds (k := 56) rfl) f_MM_20 q11 rfl ?_
            refine v_get9 (am_Dk d_MM_holds (k := 57) rfl) r_MM_98 hX.1.1 rfl ?_
            refine v_iload_n (am_Dk d_MM_holds (k := 58) rfl) rfl ?_
            refine v_iald (am_Dk d_MM_holds (k := 59) rfl) hMa rfl (vp_in_nI (by omega) (by omega)) ?_
            rw [nI_clamp (n := t) (by omega)]
            refine v_iconst (v := 2) (am_Dk d_MM_holds (k := 60) rfl) (by decide) ?_
            refine v_icmp_ne (tgt := 132) (am_Dk d_MM_holds (k := 61) rfl) (by decide) (fun c8 => ?_) (fun c8 => ?_)
            · refine v_iconst (v := 0) (am_Dk d_MM_holds (k := 70) rfl) (by decide) ?_
              refine v_istore (L1 := [(5, .int 0), (4, .int 0), (3, .int 0), (2, .int (Nm t)), (1, .int (nI t)), (0, .ref 1211)]) (am_Dk d_MM_holds (k := 71) rfl) (by decide) rfl ?_
              refine v_aload_n (am_Dk d_MM_holds (k := 72) rfl) rfl ?_
              refine v_get (am_Dk d_MM_holds (k := 73) rfl) f_MM_20 q11 rfl ?_
              refine v_get9 (am_Dk d_MM_holds (k := 74) rfl) r_MM_98 hX.1.1 rfl ?_
              refine v_iload_n (am_Dk d_MM_holds (k := 75) rfl) rfl ?_
              refine v_iald (am_Dk d_MM_holds (k := 76) rfl) hMa rfl (vp_in_nI (by omega) (by omega)) ?_
              rw [nI_clamp (n := t) (by omega)]
              refine v_iconst (v := 2) (am_Dk d_MM_holds (k := 77) rfl) (by decide) ?_
              refine v_icmp_ne (tgt := 165) (am_Dk d_MM_holds (k := 78) rfl) (by decide) (fun c9 => ?_) (fun c9 => ?_)
              · refine v_iconst (v := 0) (am_Dk d_MM_holds (k := 87) rfl) (by decide) ?_
                refine v_istore (L1 := [(6, .int 0), (5, .int 0), (4, .int 0), (3, .int 0), (2, .int (Nm t)), (1, .int (nI t)), (0, .ref 1211)]) (am_Dk d_MM_holds (k := 88) rfl) (by decide) rfl ?_
                refine v_aload_n (am_Dk d_MM_holds (k := 89) rfl) rfl ?_
                refine v_get (am_Dk d_MM_holds (k := 90) rfl) f_MM_20 q11 rfl ?_
                refine v_get9 (am_Dk d_MM_holds (k := 91) rfl) r_MM_98 hX.1.1 rfl ?_
                refine v_iload_n (am_Dk d_MM_holds (k := 92) rfl) rfl ?_
                refine v_iald (am_Dk d_MM_holds (k := 93) rfl) hMa rfl (vp_in_nI (by omega) (by omega)) ?_
                rw [nI_clamp (n := t) (by omega)]
                refine v_iconst (v := 2) (am_Dk d_MM_holds (k := 94) rfl) (by decide) ?_
                refine v_icmp_ne (tgt := 198) (am_Dk d_MM_holds (k := 95) rfl) (by decide) (fun c10 => ?_) (fun c10 => ?_)
                · refine v_iconst (v := 0) (am_Dk d_MM_holds (k := 104) rfl) (by decide) ?_
                  refine v_istore (L1 := [(7, .int 0), (6, .int 0), (5, .int 0), (4, .int 0), (3, .int 0), (2, .int (Nm t)), (1, .int (nI t)), (0, .ref 1211)]) (am_Dk d_MM_holds (k := 105) rfl) (by decide) rfl ?_
                  refine v_aload_n (am_Dk d_MM_holds (k := 106) rfl) rfl ?_
                  refine v_get (am_Dk d_MM_holds (k := 107) rfl) f_MM_20 q11 rfl ?_
                  refine v_get9 (am_Dk d_MM_holds (k := 108) rfl) r_MM_98 hX.1.1 rfl ?_
                  refine v_iload_n (am_Dk d_MM_holds (k := 109) rfl) rfl ?_
                  refine v_iald (am_Dk d_MM_holds (k := 110) rfl) hMa rfl (vp_in_nI (by omega) (by omega)) ?_
                  rw [nI_clamp (n := t) (by omega)]
                  refine v_iconst (v := 2) (am_Dk d_MM_holds (k := 111) rfl) (by decide) ?_
                  refine v_icmp_ne (tgt := 231) (am_Dk d_MM_holds (k := 112) rfl) (by decide) (fun c11 => ?_) (fun c11 => ?_)
                  · refine v_iconst (v := 0) (am_Dk d_MM_holds (k := 121) rfl) (by decide) ?_
                    refine v_istore (L1 := [(8, .int 0), (7, .int 0), (6, .int 0), (5, .int 0), (4, .int 0), (3, .int 0), (2, .int (Nm t)), (1, .int (nI t)), (0, .ref 1211)]) (am_Dk d_MM_holds (k := 122) rfl) (by decide) rfl ?_
                    refine v_iload_n (am_Dk d_MM_holds (k := 123) rfl) rfl ?_
                    refine v_if_ne (tgt := 275) (am_Dk d_MM_holds (k := 124) rfl) (by decide) (fun c12 => ?_) (fun c12 => ?_)
                    · exact absurd (by decide) c12
                    · refine v_iload (am_Dk d_MM_holds (k := 125) rfl) rfl ?_
                      refine v_if_ne (tgt := 275) (am_Dk d_MM_holds (k := 126) rfl) (by decide) (fun c13 => ?_) (fun c13 => ?_)
                      · exact absurd (by decide) c13
                      · refine v_iload (am_Dk d_MM_holds (k := 127) rfl) rfl ?_
                        refine v_if_ne (tgt := 275) (am_Dk d_MM_holds (k := 128) rfl) (by decide) (fun c14 => ?_) (fun c14 => ?_)
                        · exact absurd (by decide) c14
                        · refine v_iload (am_Dk d_MM_holds (k := 129) rfl) rfl ?_
                          refine v_if_ne (tgt := 275) (am_Dk d_MM_holds (k := 130) rfl) (by decide) (fun c15 => ?_) (fun c15 => ?_)
                          · exact absurd (by decide) c15
                          · refine v_iload (am_Dk d_MM_holds (k := 131) rfl) rfl ?_
                            refine v_if_ne (tgt := 275) (am_Dk d_MM_holds (k := 132) rfl) (by decide) (fun c16 => ?_) (fun c16 => ?_)
                            · exact absurd (by decide) c16
                            · refine v_iload (am_Dk d_MM_holds (k := 133) rfl) rfl ?_
                              refine v_if_ne (tgt := 275) (am_Dk d_MM_holds (k := 134) rfl) (by decide) (fun c17 => ?_) (fun c17 => ?_)
                              · exact absurd (by decide) c17
                              · refine v_aload_n (am_Dk d_MM_holds (k := 135) rfl) rfl ?_
                                refine v_iconst (v := 0) (am_Dk d_MM_holds (k := 136) rfl) (by decide) ?_
                                refine v_put (am_Dk d_MM_holds (k := 137) rfl) f_MM_9 q11 (Nat.le_of_ble_eq_true rfl) rfl rfl ?_
                                refine v_aload_n (am_Dk d_MM_holds (k := 138) rfl) rfl ?_
                                refine v_iconst (v := 2) (am_Dk d_MM_holds (k := 139) rfl) (by decide) ?_
                                have m18 : (am_up M2 1211 (.inr (9, [.int 0, .int 0, .int 0, .int 0, .int (nI c), .ref 1212, .ref 1213, .ref 1220, .ref 1225, .ref 1233, .ref 1234, .ref 1235, .ref 1236, .ref 1237, .ref 1238, .long re]))) 1211 = some (.inr (9, [.int 0, .int 0, .int 0, .int 0, .int (nI c), .ref 1212, .ref 1213, .ref 1220, .ref 1225, .ref 1233, .ref 1234, .ref 1235, .ref 1236, .ref 1237, .ref 1238, .long re])) := am_up_eq _ _ _
                                refine v_put (am_Dk d_MM_holds (k := 140) rfl) f_MM_64 m18 (Nat.le_of_ble_eq_true rfl) rfl rfl ?_
                                rw [am_uu0 (a := 1211)]
                                refine v_iconst (v := 0) (am_Dk d_MM_holds (k := 141) rfl) (by decide) ?_
                                exact v_ireturn (am_Dk d_MM_holds (k := 142) rfl) rfl rfl (by omega) (by omega) ⟨rfl, fun i hi => (am_up_ne (show i ≠ 1211 from by omega)).trans ((hfT i (by omega))), rx_fr9 hrx (fun i hi => (am_up_ne (show i ≠ 1211 from by omega)).trans (rfl)), rcell_fr hrc1 ((am_up_ne (show 1225 ≠ 1211 from by decide)).trans (rfl)), ⟨⟨_, (am_up_ne (show 1236 ≠ 1211 from by omega)).trans (hW0)⟩, ⟨_, (am_up_ne (show 1237 ≠ 1211 from by omega)).trans (hS0)⟩, ⟨_, (am_up_ne (show 1238 ≠ 1211 from by omega)).trans (hL0)⟩⟩, Or.inr ⟨W, t, sz, _, hok, Or.inl ⟨hcm, rfl, am_up_eq _ _ _⟩⟩⟩
                  · exact absurd c11 hM2
                · exact absurd c10 hM2
              · exact absurd c9 hM2
            · exact absurd c8 hM2
          · exact absurd c7 hM2
        · refine v_aload_n (am_Dk d_MM_holds (k := 21) rfl) rfl ?_
          refine v_get (am_Dk d_MM_holds (k := 22) rfl) f_MM_20 q11 rfl ?_
          refine v_get9 (am_Dk d_MM_holds (k := 23) rfl) r_MM_98 hX.1.1 rfl ?_
          refine v_iload_n (am_Dk d_MM_holds (k := 24) rfl) rfl ?_
          refine v_iald (am_Dk d_MM_holds (k := 25) rfl) hMa rfl (vp_in_nI (by omega) (by omega)) ?_
          rw [nI_clamp (n := t) (by omega)]
          refine v_iconst (v := 2) (am_Dk d_MM_holds (k := 26) rfl) (by decide) ?_
          refine v_icmp_ne (tgt := 67) (am_Dk d_MM_holds (k := 27) rfl) (by decide) (fun c19 => ?_) (fun c19 => ?_)
          · refine v_iconst (v := 0) (am_Dk d_MM_holds (k := 36) rfl) (by decide) ?_
            refine v_istore_n (L1 := [(3, .int 0), (2, .int (Nm t)), (1, .int (nI t)), (0, .ref 1211)]) (am_Dk d_MM_holds (k := 37) rfl) (by decide) rfl ?_
            refine v_aload_n (am_Dk d_MM_holds (k := 38) rfl) rfl ?_
            refine v_get (am_Dk d_MM_holds (k := 39) rfl) f_MM_20 q11 rfl ?_
            refine v_get9 (am_Dk d_MM_holds (k := 40) rfl) r_MM_98 hX.1.1 rfl ?_
            refine v_iload_n (am_Dk d_MM_holds (k := 41) rfl) rfl ?_
            refine v_iald (am_Dk d_MM_holds (k := 42) rfl) hMa rfl (vp_in_nI (by omega) (by omega)) ?_
            rw [nI_clamp (n := t) (by omega)]
            refine v_iconst (v := 2) (am_Dk d_MM_holds (k := 43) rfl) (by decide) ?_
            refine v_icmp_ne (tgt := 99) (am_Dk d_MM_holds (k := 44) rfl) (by decide) (fun c20 => ?_) (fun c20 => ?_)
            · refine v_iconst (v := 0) (am_Dk d_MM_holds (k := 53) rfl) (by decide) ?_
              refine v_istore (L1 := [(4, .int 0), (3, .int 0), (2, .int (Nm t)), (1, .int (nI t)), (0, .ref 1211)]) (am_Dk d_MM_holds (k := 54) rfl) (by decide) rfl ?_
              refine v_aload_n (am_Dk d_MM_holds (k := 55) rfl) rfl ?_
              refine v_get (am_Dk d_MM_holds (k := 56) rfl) f_MM_20 q11 rfl ?_
              refine v_get9 (am_Dk d_MM_holds (k := 57) rfl) r_MM_98 hX.1.1 rfl ?_
              refine v_iload_n (am_Dk d_MM_holds (k := 58) rfl) rfl ?_
              refine v_iald (am_Dk d_MM_holds (k := 59) rfl) hMa rfl (vp_in_nI (by omega) (by omega)) ?_
              rw [nI_clamp (n := t) (by omega)]
              refine v_iconst (v := 2) (am_Dk d_MM_holds (k := 60) rfl) (by decide) ?_
              refine v_icmp_ne (tgt := 132) (am_Dk d_MM_holds (k := 61) rfl) (by decide) (fun c21 => ?_) (fun c21 => ?_)
              · refine v_iconst (v := 0) (am_Dk d_MM_holds (k := 70) rfl) (by decide) ?_
                refine v_istore (L1 := [(5, .int 0), (4, .int 0), (3, .int 0), (2, .int (Nm t)), (1, .int (nI t)), (0, .ref 1211)]) (am_Dk d_MM_holds (k := 71) rfl) (by decide) rfl ?_
                refine v_aload_n (am_Dk d_MM_holds (k := 72) rfl) rfl ?_
                refine v_get (am_Dk d_MM_holds (k := 73) rfl) f_MM_20 q11 rfl ?_
                refine v_get9 (am_Dk d_MM_holds (k := 74) rfl) r_MM_98 hX.1.1 rfl ?_
                refine v_iload_n (am_Dk d_MM_holds (k := 75) rfl) rfl ?_
                refine v_iald (am_Dk d_MM_holds (k := 76) rfl) hMa rfl (vp_in_nI (by omega) (by omega)) ?_
                rw [nI_clamp (n := t) (by omega)]
                refine v_iconst (v := 2) (am_Dk d_MM_holds (k := 77) rfl) (by decide) ?_
                refine v_icmp_ne (tgt := 165) (am_Dk d_MM_holds (k := 78) rfl) (by decide) (fun c22 => ?_) (fun c22 => ?_)
                · refine v_iconst (v := 0) (am_Dk d_MM_holds (k := 87) rfl) (by decide) ?_
                  refine v_istore (L1 := [(6, .int 0), (5, .int 0), (4, .int 0), (3, .int 0), (2, .int (Nm t)), (1, .int (nI t)), (0, .ref 1211)]) (am_Dk d_MM_holds (k := 88) rfl) (by decide) rfl ?_
                  refine v_aload_n (am_Dk d_MM_holds (k := 89) rfl) rfl ?_
                  refine v_get (am_Dk d_MM_holds (k := 90) rfl) f_MM_20 q11 rfl ?_
                  refine v_get9 (am_Dk d_MM_holds (k := 91) rfl) r_MM_98 hX.1.1 rfl ?_
                  refine v_iload_n (am_Dk d_MM_holds (k := 92) rfl) rfl ?_
                  refine v_iald (am_Dk d_MM_holds (k := 93) rfl) hMa rfl (vp_in_nI (by omega) (by omega)) ?_
                  rw [nI_clamp (n := t) (by omega)]
                  refine v_iconst (v := 2) (am_Dk d_MM_holds (k := 94) rfl) (by decide) ?_
                  refine v_icmp_ne (tgt := 198) (am_Dk d_MM_holds (k := 95) rfl) (by decide) (fun c23 => ?_) (fun c23 => ?_)
                  · refine v_iconst (v := 0) (am_Dk d_MM_holds (k := 104) rfl) (by decide) ?_
                    refine v_istore (L1 := [(7, .int 0), (6, .int 0), (5, .int 0), (4, .int 0), (3, .int 0), (2, .int (Nm t)), (1, .int (nI t)), (0, .ref 1211)]) (am_Dk d_MM_holds (k := 105) rfl) (by decide) rfl ?_
                    refine v_aload_n (am_Dk d_MM_holds (k := 106) rfl) rfl ?_
                    refine v_get (am_Dk d_MM_holds (k := 107) rfl) f_MM_20 q11 rfl ?_
                    refine v_get9 (am_Dk d_MM_holds (k := 108) rfl) r_MM_98 hX.1.1 rfl ?_
                    refine v_iload_n (am_Dk d_MM_holds (k := 109) rfl) rfl ?_
                    refine v_iald (am_Dk d_MM_holds (k := 110) rfl) hMa rfl (vp_in_nI (by omega) (by omega)) ?_
                    rw [nI_clamp (n := t) (by omega)]
                    refine v_iconst (v := 2) (am_Dk d_MM_holds (k := 111) rfl) (by decide) ?_
                    refine v_icmp_ne (tgt := 231) (am_Dk d_MM_holds (k := 112) rfl) (by decide) (fun c24 => ?_) (fun c24 => ?_)
                    · refine v_iconst (v := 0) (am_Dk d_MM_holds (k := 121) rfl) (by decide) ?_
                      refine v_istore (L1 := [(8, .int 0), (7, .int 0), (6, .int 0), (5, .int 0), (4, .int 0), (3, .int 0), (2, .int (Nm t)), (1, .int (nI t)), (0, .ref 1211)]) (am_Dk d_MM_holds (k := 122) rfl) (by decide) rfl ?_
                      refine v_iload_n (am_Dk d_MM_holds (k := 123) rfl) rfl ?_
                      refine v_if_ne (tgt := 275) (am_Dk d_MM_holds (k := 124) rfl) (by decide) (fun c25 => ?_) (fun c25 => ?_)
                      · exact absurd (by decide) c25
                      · refine v_iload (am_Dk d_MM_holds (k := 125) rfl) rfl ?_
                        refine v_if_ne (tgt := 275) (am_Dk d_MM_holds (k := 126) rfl) (by decide) (fun c26 => ?_) (fun c26 => ?_)
                        · exact absurd (by decide) c26
                        · refine v_iload (am_Dk d_MM_holds (k := 127) rfl) rfl ?_
                          refine v_if_ne (tgt := 275) (am_Dk d_MM_holds (k := 128) rfl) (by decide) (fun c27 => ?_) (fun c27 => ?_)
                          · exact absurd (by decide) c27
                          · refine v_iload (am_Dk d_MM_holds (k := 129) rfl) rfl ?_
                            refine v_if_ne (tgt := 275) (am_Dk d_MM_holds (k := 130) rfl) (by decide) (fun c28 => ?_) (fun c28 => ?_)
                            · exact absurd (by decide) c28
                            · refine v_iload (am_Dk d_MM_holds (k := 131) rfl) rfl ?_
                              refine v_if_ne (tgt := 275) (am_Dk d_MM_holds (k := 132) rfl) (by decide) (fun c29 => ?_) (fun c29 => ?_)
                              · exact absurd (by decide) c29
                              · refine v_iload (am_Dk d_MM_holds (k := 133) rfl) rfl ?_
                                refine v_if_ne (tgt := 275) (am_Dk d_MM_holds (k := 134) rfl) (by decide) (fun c30 => ?_) (fun c30 => ?_)
                                · exact absurd (by decide) c30
                                · refine v_aload_n (am_Dk d_MM_holds (k := 135) rfl) rfl ?_
                                  refine v_iconst (v := 0) (am_Dk d_MM_holds (k := 136) rfl) (by decide) ?_
                                  refine v_put (am_Dk d_MM_holds (k := 137) rfl) f_MM_9 q11 (Nat.le_of_ble_eq_true rfl) rfl rfl ?_
                                  refine v_aload_n (am_Dk d_MM_holds (k := 138) rfl) rfl ?_
                                  refine v_iconst (v := 2) (am_Dk d_MM_holds (k := 139) rfl) (by decide) ?_
                                  have m31 : (am_up M2 1211 (.inr (9, [.int 0, .int 0, .int 0, .int 0, .int (nI c), .ref 1212, .ref 1213, .ref 1220, .ref 1225, .ref 1233, .ref 1234, .ref 1235, .ref 1236, .ref 1237, .ref 1238, .long re]))) 1211 = some (.inr (9, [.int 0, .int 0, .int 0, .int 0, .int (nI c), .ref 1212, .ref 1213, .ref 1220, .ref 1225, .ref 1233, .ref 1234, .ref 1235, .ref 1236, .ref 1237, .ref 1238, .long re])) := am_up_eq _ _ _
                                  refine v_put (am_Dk d_MM_holds (k := 140) rfl) f_MM_64 m31 (Nat.le_of_ble_eq_true rfl) rfl rfl ?_
                                  rw [am_uu0 (a := 1211)]
                                  refine v_iconst (v := 0) (am_Dk d_MM_holds (k := 141) rfl) (by decide) ?_
                                  exact v_ireturn (am_Dk d_MM_holds (k := 142) rfl) rfl rfl (by omega) (by omega) ⟨rfl, fun i hi => (am_up_ne (show i ≠ 1211 from by omega)).trans ((hfT i (by omega))), rx_fr9 hrx (fun i hi => (am_up_ne (show i ≠ 1211 from by omega)).trans (rfl)), rcell_fr hrc1 ((am_up_ne (show 1225 ≠ 1211 from by decide)).trans (rfl)), ⟨⟨_, (am_up_ne (show 1236 ≠ 1211 from by omega)).trans (hW0)⟩, ⟨_, (am_up_ne (show 1237 ≠ 1211 from by omega)).trans (hS0)⟩, ⟨_, (am_up_ne (show 1238 ≠ 1211 from by omega)).trans (hL0)⟩⟩, Or.inr ⟨W, t, sz, _, hok, Or.inl ⟨hcm, rfl, am_up_eq _ _ _⟩⟩⟩
                    · exact absurd c24 hM2
                  · exact absurd c23 hM2
                · exact absurd c22 hM2
              · exact absurd c21 hM2
            · exact absurd c20 hM2
          · exact absurd c19 hM2
      · exact absurd c5 (nI_nm1 (by omega))
    · have hW2 : (W.2.1 t).2.2 = z := by rw [hr3]
      have hW1 : (W.2.1 t).2.1 = y := by rw [hr3]
      have hW0x : (W.2.1 t).1 = ordN T F k := by rw [hr3]
      rcases (show ordN T F k = 11 ∨ ordN T F k = 12 ∨ ordN T F k = 13 ∨ ordN T F k = 14 ∨ ordN T F k = 15 ∨ ordN T F k = 16 ∨ ¬ (ordN T F k = 11 ∨ ordN T F k = 12 ∨ ordN T F k = 13 ∨ ordN T F k = 14 ∨ ordN T F k = 15 ∨ ordN T F k = 16) from by omega) with ho | ho | ho | ho | ho | ho | ho
      · have qs11 : bi (spv (kn_w 11) (nmL F k) (nmW T F k)) = 1 := by rw [spv_iff (by decide), show decide (spg (nmL F k) (nmW T F k) = 11) = true from decide_eq_true ho]; rfl
        have qs12 : bi (spv (kn_w 12) (nmL F k) (nmW T F k)) = 0 := by rw [spv_iff (by decide), show decide (spg (nmL F k) (nmW T F k) = 12) = false from decide_eq_false (fun z => absurd (ho.symm.trans z) (by decide))]; rfl
        have qs13 : bi (spv (kn_w 13) (nmL F k) (nmW T F k)) = 0 := by rw [spv_iff (by decide), show decide (spg (nmL F k) (nmW T F k) = 13) = false from decide_eq_false (fun z => absurd (ho.symm.trans z) (by decide))]; rfl
        have qs14 : bi (spv (kn_w 14) (nmL F k) (nmW T F k)) = 0 := by rw [spv_iff (by decide), show decide (spg (nmL F k) (nmW T F k) = 14) = false from decide_eq_false (fun z => absurd (ho.symm.trans z) (by decide))]; rfl
        have qs15 : bi (spv (kn_w 15) (nmL F k) (nmW T F k)) = 0 := by rw [spv_iff (by decide), show decide (spg (nmL F k) (nmW T F k) = 15) = false from decide_eq_false (fun z => absurd (ho.symm.trans z) (by decide))]; rfl
        have qs16 : bi (spv (kn_w 16) (nmL F k) (nmW T F k)) = 0 := by rw [spv_iff (by decide), show decide (spg (nmL F k) (nmW T F k) = 16) = false from decide_eq_false (fun z => absurd (ho.symm.trans z) (by decide))]; rfl
        have hcm : cmpK (W.2.1 t).1 = true := by rw [hW0x, ho]; rfl
        show am_V G _ _ _ _ _ 4 [(0, .ref 1211)] [.int (nI t)] M2 nx 0 0
        refine v_istore_n (L1 := [(1, .int (nI t)), (0, .ref 1211)]) (am_Dk d_MM_holds (k := 2) rfl) (by decide) rfl ?_
        refine v_iload_n (am_Dk d_MM_holds (k := 3) rfl) rfl ?_
        refine v_iconst (v := (-1)) (am_Dk d_MM_holds (k := 4) rfl) (by decide) ?_
        refine v_icmp_ne (tgt := 17) (am_Dk d_MM_holds (k := 5) rfl) (by decide) (fun c32 => ?_) (fun c32 => ?_)
        · refine v_aload_n (am_Dk d_MM_holds (k := 11) rfl) rfl ?_
          refine v_get (am_Dk d_MM_holds (k := 12) rfl) f_MM_20 q11 rfl ?_
          refine v_get9 (am_Dk d_MM_holds (k := 13) rfl) r_MM_95 hX.1.1 rfl ?_
          refine v_iload_n (am_Dk d_MM_holds (k := 14) rfl) rfl ?_
          refine v_iald (am_Dk d_MM_holds (k := 15) rfl) hNm rfl (vp_in_nI (by omega) (by omega)) ?_
          rw [nI_clamp (n := t) (by omega)]
          rw [show Nm t = nI k from hNk]
          refine v_istore_n (L1 := [(2, .int (nI k)), (1, .int (nI t)), (0, .ref 1211)]) (am_Dk d_MM_holds (k := 16) rfl) (by decide) rfl ?_
          refine v_aload_n (am_Dk d_MM_holds (k := 17) rfl) rfl ?_
          refine v_get (am_Dk d_MM_holds (k := 18) rfl) f_MM_27 q11 rfl ?_
          refine v_get (am_Dk d_MM_holds (k := 19) rfl) f_MM_181 hN rfl ?_
          refine v_if_le (tgt := 67) (am_Dk d_MM_holds (k := 20) rfl) (by decide) (fun c33 => ?_) (fun c33 => ?_)
          · exact absurd ((nI_leI (a := ns) (b := 0) (by omega) (by omega)).mp c33) (by omega)
          · refine v_aload_n (am_Dk d_MM_holds (k := 21) rfl) rfl ?_
            refine v_get (am_Dk d_MM_holds (k := 22) rfl) f_MM_20 q11 rfl ?_
            refine v_get9 (am_Dk d_MM_holds (k := 23) rfl) r_MM_98 hX.1.1 rfl ?_
            refine v_iload_n (am_Dk d_MM_holds (k := 24) rfl) rfl ?_
            refine v_iald (am_Dk d_MM_holds (k := 25) rfl) hMa rfl (vp_in_nI (by omega) (by omega)) ?_
            rw [nI_clamp (n := t) (by omega)]
            rw [show Ma t = 2 from hM2]
            refine v_iconst (v := 2) (am_Dk d_MM_holds (k := 26) rfl) (by decide) ?_
            refine v_icmp_ne (tgt := 67) (am_Dk d_MM_holds (k := 27) rfl) (by decide) (fun c34 => ?_) (fun c34 => ?_)
            · exact absurd (by decide) c34
            · refine v_aload_n (am_Dk d_MM_holds (k := 28) rfl) rfl ?_
              refine v_get (am_Dk d_MM_holds (k := 29) rfl) f_MM_27 q11 rfl ?_
              refine v_iload_n (am_Dk d_MM_holds (k := 30) rfl) rfl ?_
              refine v_ldcS (i := 135) (tx := "<") (am_Dk d_MM_holds (k := 31) rfl) (by decide +kernel) ?_
              refine v_callV (rest := []) (As := [.int (nI k), .ref 135]) (mc' := 0) (ms' := 0) (am_Dk d_MM_holds (k := 32) rfl) c_MM_103 (Or.inl ⟨_, _, _, _, _, hN, cq_ok11⟩) (t_MN_spells G (d := 4) (by omega) (hN) (hT) hO (hF) hA hk (by omega) (by omega) mmS_135) (by omega) (by omega) (by omega) (by simp [Value.category]) rfl (fun v35 M36 n37 h38 => ?_) (fun _ _ _ h38 => ?_)
              rotate_left
              · exact absurd h38.1 (by simp)
              obtain ⟨h38, e39, e40⟩ := h38
              replace e39 := e39.symm
              replace e40 := e40.symm
              subst e39
              subst e40
              cases h38
              show am_V G _ _ _ _ _ 60 [(2, .int (nI k)), (1, .int (nI t)), (0, .ref 1211)] [.int (bi (spv (kn_w 11) (nmL F k) (nmW T F k)))] M2 nx 0 0
              rw [qs11]
              show am_V G _ _ _ _ _ 60 [(2, .int (nI k)), (1, .int (nI t)), (0, .ref 1211)] [.int 1] M2 nx 0 0
              refine v_if_eq (tgt := 67) (am_Dk d_MM_holds (k := 33) rfl) (by decide) (fun c41 => ?_) (fun c41 => ?_)
              · exact absurd c41 (by decide)
              · refine v_iconst (v := 1) (am_Dk d_MM_holds (k := 34) rfl) (by decide) ?_
                refine v_goto (tgt := 68) (am_Dk d_MM_holds (k := 35) rfl) (by decide) ?_
                refine v_istore_n (L1 := [(3, .int 1), (2, .int (nI k)), (1, .int (nI t)), (0, .ref 1211)]) (am_Dk d_MM_holds (k := 37) rfl) (by decide) rfl ?_
                refine v_aload_n (am_Dk d_MM_holds (k := 38) rfl) rfl ?_
                refine v_get (am_Dk d_MM_holds (k := 39) rfl) f_MM_20 q11 rfl ?_
                refine v_get9 (am_Dk d_MM_holds (k := 40) rfl) r_MM_98 hX.1.1 rfl ?_
                refine v_iload_n (am_Dk d_MM_holds (k := 41) rfl) rfl ?_
                refine v_iald (am_Dk d_MM_holds (k := 42) rfl) hMa rfl (vp_in_nI (by omega) (by omega)) ?_
                rw [nI_clamp (n := t) (by omega)]
                rw [show Ma t = 2 from hM2]
                refine v_iconst (v := 2) (am_Dk d_MM_holds (k := 43) rfl) (by decide) ?_
                refine v_icmp_ne (tgt := 99) (am_Dk d_MM_holds (k := 44) rfl) (by decide) (fun c42 => ?_) (fun c42 => ?_)
                · exact absurd (by decide) c42
                · refine v_aload_n (am_Dk d_MM_holds (k := 45) rfl) rfl ?_
                  refine v_get (am_Dk d_MM_holds (k := 46) rfl) f_MM_27 q11 rfl ?_
                  refine v_iload_n (am_Dk d_MM_holds (k := 47) rfl) rfl ?_
                  refine v_ldcS (i := 136) (tx := ">") (am_Dk d_MM_holds (k := 48) rfl) (by decide +kernel) ?_
                  refine v_callV (rest := []) (As := [.int (nI k), .ref 136]) (mc' := 0) (ms' := 0) (am_Dk d_MM_holds (k := 49) rfl) c_MM_103 (Or.inl ⟨_, _, _, _, _, hN, cq_ok11⟩) (t_MN_spells G (d := 4) (by omega) (hN) (hT) hO (hF) hA hk (by omega) (by omega) mmS_136) (by omega) (by omega) (by omega) (by simp [Value.category]) rfl (fun v43 M44 n45 h46 => ?_) (fun _ _ _ h46 => ?_)
                  rotate_left
                  · exact absurd h46.1 (by simp)
                  obtain ⟨h46, e47, e48⟩ := h46
                  replace e47 := e47.symm
                  replace e48 := e48.symm
                  subst e47
                  subst e48
                  cases h46
                  show am_V G _ _ _ _ _ 92 [(3, .int 1), (2, .int (nI k)), (1, .int (nI t)), (0, .ref 1211)] [.int (bi (spv (kn_w 12) (nmL F k) (nmW T F k)))] M2 nx 0 0
                  rw [qs12]
                  show am_V G _ _ _ _ _ 92 [(3, .int 1), (2, .int (nI k)), (1, .int (nI t)), (0, .ref 1211)] [.int 0] M2 nx 0 0
                  refine v_if_eq (tgt := 99) (am_Dk d_MM_holds (k := 50) rfl) (by decide) (fun c49 => ?_) (fun c49 => ?_)
                  · refine v_iconst (v := 0) (am_Dk d_MM_holds (k := 53) rfl) (by decide) ?_
                    refine v_istore (L1 := [(4, .int 0), (3, .int 1), (2, .int (nI k)), (1, .int (nI t)), (0, .ref 1211)]) (am_Dk d_MM_holds (k := 54) rfl) (by decide) rfl ?_
                    refine v_aload_n (am_Dk d_MM_holds (k := 55) rfl) rfl ?_
                    refine v_get (am_Dk d_MM_holds (k := 56) rfl) f_MM_20 q11 rfl ?_
                    refine v_get9 (am_Dk d_MM_holds (k := 57) rfl) r_MM_98 hX.1.1 rfl ?_
                    refine v_iload_n (am_Dk d_MM_holds (k := 58) rfl) rfl ?_
                    refine v_iald (am_Dk d_MM_holds (k := 59) rfl) hMa rfl (vp_in_nI (by omega) (by omega)) ?_
                    rw [nI_clamp (n := t) (by omega)]
                    rw [show Ma t = 2 from hM2]
                    refine v_iconst (v := 2) (am_Dk d_MM_holds (k := 60) rfl) (by decide) ?_
                    refine v_icmp_ne (tgt := 132) (am_Dk d_MM_holds (k := 61) rfl) (by decide) (fun c50 => ?_) (fun c50 => ?_)
                    · exact absurd (by decide) c50
                    · refine v_aload_n (am_Dk d_MM_holds (k := 62) rfl) rfl ?_
                      refine v_get (am_Dk d_MM_holds (k := 63) rfl) f_MM_27 q11 rfl ?_
                      refine v_iload_n (am_Dk d_MM_holds (k := 64) rfl) rfl ?_
                      refine v_ldcS (i := 137) (tx := "=<") (am_Dk d_MM_holds (k := 65) rfl) (by decide +kernel) ?_
                      refine v_callV (rest := []) (As := [.int (nI k), .ref 137]) (mc' := 0) (ms' := 0) (am_Dk d_MM_holds (k := 66) rfl) c_MM_103 (Or.inl ⟨_, _, _, _, _, hN, cq_ok11⟩) (t_MN_spells G (d := 4) (by omega) (hN) (hT) hO (hF) hA hk (by omega) (by omega) mmS_137) (by omega) (by omega) (by omega) (by simp [Value.category]) rfl (fun v51 M52 n53 h54 => ?_) (fun _ _ _ h54 => ?_)
                      rotate_left
                      · exact absurd h54.1 (by simp)
                      obtain ⟨h54, e55, e56⟩ := h54
                      replace e55 := e55.symm
                      replace e56 := e56.symm
                      subst e55
                      subst e56
                      cases h54
                      show am_V G _ _ _ _ _ 125 [(4, .int 0), (3, .int 1), (2, .int (nI k)), (1, .int (nI t)), (0, .ref 1211)] [.int (bi (spv (kn_w 13) (nmL F k) (nmW T F k)))] M2 nx 0 0
                      rw [qs13]
                      show am_V G _ _ _ _ _ 125 [(4, .int 0), (3, .int 1), (2, .int (nI k)), (1, .int (nI t)), (0, .ref 1211)] [.int 0] M2 nx 0 0
                      refine v_if_eq (tgt := 132) (am_Dk d_MM_holds (k := 67) rfl) (by decide) (fun c57 => ?_) (fun c57 => ?_)
                      · refine v_iconst (v := 0) (am_Dk d_MM_holds (k := 70) rfl) (by decide) ?_
                        refine v_istore (L1 := [(5, .int 0), (4, .int 0), (3, .int 1), (2, .int (nI k)), (1, .int (nI t)), (0, .ref 1211)]) (am_Dk d_MM_holds (k := 71) rfl) (by decide) rfl ?_
                        refine v_aload_n (am_Dk d_MM_holds (k := 72) rfl) rfl ?_
                        refine v_get (am_Dk d_MM_holds (k := 73) rfl) f_MM_20 q11 rfl ?_
                        refine v_get9 (am_Dk d_MM_holds (k := 74) rfl) r_MM_98 hX.1.1 rfl ?_
                        refine v_iload_n (am_Dk d_MM_holds (k := 75) rfl) rfl ?_
                        refine v_iald (am_Dk d_MM_holds (k := 76) rfl) hMa rfl (vp_in_nI (by omega) (by omega)) ?_
                        rw [nI_clamp (n := t) (by omega)]
                        rw [show Ma t = 2 from hM2]
                        refine v_iconst (v := 2) (am_Dk d_MM_holds (k := 77) rfl) (by decide) ?_
                        refine v_icmp_ne (tgt := 165) (am_Dk d_MM_holds (k := 78) rfl) (by decide) (fun c58 => ?_) (fun c58 => ?_)
                        · exact absurd (by decide) c58
                        · refine v_aload_n (am_Dk d_MM_holds (k := 79) rfl) rfl ?_
                          refine v_get (am_Dk d_MM_holds (k := 80) rfl) f_MM_27 q11 rfl ?_
                          refine v_iload_n (am_Dk d_MM_holds (k := 81) rfl) rfl ?_
                          refine v_ldcS (i := 138) (tx := ">=") (am_Dk d_MM_holds (k := 82) rfl) (by decide +kernel) ?_
                          refine v_callV (rest := []) (As := [.int (nI k), .ref 138]) (mc' := 0) (ms' := 0) (am_Dk d_MM_holds (k := 83) rfl) c_MM_103 (Or.inl ⟨_, _, _, _, _, hN, cq_ok11⟩) (t_MN_spells G (d := 4) (by omega) (hN) (hT) hO (hF) hA hk (by omega) (by omega) mmS_138) (by omega) (by omega) (by omega) (by simp [Value.category]) rfl (fun v59 M60 n61 h62 => ?_) (fun _ _ _ h62 => ?_)
                          rotate_left
                          · exact absurd h62.1 (by simp)
                          obtain ⟨h62, e63, e64⟩ := h62
                          replace e63 := e63.symm
                          replace e64 := e64.symm
                          subst e63
                          subst e64
                          cases h62
                          show am_V G _ _ _ _ _ 158 [(5, .int 0), (4, .int 0), (3, .int 1), (2, .int (nI k)), (1, .int (nI t)), (0, .ref 1211)] [.int (bi (spv (kn_w 14) (nmL F k) (nmW T F k)))] M2 nx 0 0
                          rw [qs14]
                          show am_V G _ _ _ _ _ 158 [(5, .int 0), (4, .int 0), (3, .int 1), (2, .int (nI k)), (1, .int (nI t)), (0, .ref 1211)] [.int 0] M2 nx 0 0
                          refine v_if_eq (tgt := 165) (am_Dk d_MM_holds (k := 84) rfl) (by decide) (fun c65 => ?_) (fun c65 => ?_)
                          · refine v_iconst (v := 0) (am_Dk d_MM_holds (k := 87) rfl) (by decide) ?_
                            refine v_istore (L1 := [(6, .int 0), (5, .int 0), (4, .int 0), (3, .int 1), (2, .int (nI k)), (1, .int (nI t)), (0, .ref 1211)]) (am_Dk d_MM_holds (k := 88) rfl) (by decide) rfl ?_
                            refine v_aload_n (am_Dk d_MM_holds (k := 89) rfl) rfl ?_
                            refine v_get (am_Dk d_MM_holds (k := 90) rfl) f_MM_20 q11 rfl ?_
                            refine v_get9 (am_Dk d_MM_holds (k := 91) rfl) r_MM_98 hX.1.1 rfl ?_
                            refine v_iload_n (am_Dk d_MM_holds (k := 92) rfl) rfl ?_
                            refine v_iald (am_Dk d_MM_holds (k := 93) rfl) hMa rfl (vp_in_nI (by omega) (by omega)) ?_
                            rw [nI_clamp (n := t) (by omega)]
                            rw [show Ma t = 2 from hM2]
                            refine v_iconst (v := 2) (am_Dk d_MM_holds (k := 94) rfl) (by decide) ?_
                            refine v_icmp_ne (tgt := 198) (am_Dk d_MM_holds (k := 95) rfl) (by decide) (fun c66 => ?_) (fun c66 => ?_)
                            · exact absurd (by decide) c66
                            · refine v_aload_n (am_Dk d_MM_holds (k := 96) rfl) rfl ?_
                              refine v_get (am_Dk d_MM_holds (k := 97) rfl) f_MM_27 q11 rfl ?_
                              refine v_iload_n (am_Dk d_MM_holds (k := 98) rfl) rfl ?_
                              refine v_ldcS (i := 139) (tx := "=:=") (am_Dk d_MM_holds (k := 99) rfl) (by decide +kernel) ?_
                              refine v_callV (rest := []) (As := [.int (nI k), .ref 139]) (mc' := 0) (ms' := 0) (am_Dk d_MM_holds (k := 100) rfl) c_MM_103 (Or.inl ⟨_, _, _, _, _, hN, cq_ok11⟩) (t_MN_spells G (d := 4) (by omega) (hN) (hT) hO (hF) hA hk (by omega) (by omega) mmS_139) (by omega) (by omega) (by omega) (by simp [Value.category]) rfl (fun v67 M68 n69 h70 => ?_) (fun _ _ _ h70 => ?_)
                              rotate_left
                              · exact absurd h70.1 (by simp)
                              obtain ⟨h70, e71, e72⟩ := h70
                              replace e71 := e71.symm
                              replace e72 := e72.symm
                              subst e71
                              subst e72
                              cases h70
                              show am_V G _ _ _ _ _ 191 [(6, .int 0), (5, .int 0), (4, .int 0), (3, .int 1), (2, .int (nI k)), (1, .int (nI t)), (0, .ref 1211)] [.int (bi (spv (kn_w 15) (nmL F k) (nmW T F k)))] M2 nx 0 0
                              rw [qs15]
                              show am_V G _ _ _ _ _ 191 [(6, .int 0), (5, .int 0), (4, .int 0), (3, .int 1), (2, .int (nI k)), (1, .int (nI t)), (0, .ref 1211)] [.int 0] M2 nx 0 0
                              refine v_if_eq (tgt := 198) (am_Dk d_MM_holds (k := 101) rfl) (by decide) (fun c73 => ?_) (fun c73 => ?_)
                              · refine v_iconst (v := 0) (am_Dk d_MM_holds (k := 104) rfl) (by decide) ?_
                                refine v_istore (L1 := [(7, .int 0), (6, .int 0), (5, .int 0), (4, .int 0), (3, .int 1), (2, .int (nI k)), (1, .int (nI t)), (0, .ref 1211)]) (am_Dk d_MM_holds (k := 105) rfl) (by decide) rfl ?_
                                refine v_aload_n (am_Dk d_MM_holds (k := 106) rfl) rfl ?_
                                refine v_get (am_Dk d_MM_holds (k := 107) rfl) f_MM_20 q11 rfl ?_
                                refine v_get9 (am_Dk d_MM_holds (k := 108) rfl) r_MM_98 hX.1.1 rfl ?_
                                refine v_iload_n (am_Dk d_MM_holds (k := 109) rfl) rfl ?_
                                refine v_iald (am_Dk d_MM_holds (k := 110) rfl) hMa rfl (vp_in_nI (by omega) (by omega)) ?_
                                rw [nI_clamp (n := t) (by omega)]
                                rw [show Ma t = 2 from hM2]
                                refine v_iconst (v := 2) (am_Dk d_MM_holds (k := 111) rfl) (by decide) ?_
                                refine v_icmp_ne (tgt := 231) (am_Dk d_MM_holds (k := 112) rfl) (by decide) (fun c74 => ?_) (fun c74 => ?_)
                                · exact absurd (by decide) c74
                                · refine v_aload_n (am_Dk d_MM_holds (k := 113) rfl) rfl ?_
                                  refine v_get (am_Dk d_MM_holds (k := 114) rfl) f_MM_27 q11 rfl ?_
                                  refine v_iload_n (am_Dk d_MM_holds (k := 115) rfl) rfl ?_
                                  refine v_ldcS (i := 140) (tx := "=\\=") (am_Dk d_MM_holds (k := 116) rfl) (by decide +kernel) ?_
                                  refine v_callV (rest := []) (As := [.int (nI k), .ref 140]) (mc' := 0) (ms' := 0) (am_Dk d_MM_holds (k := 117) rfl) c_MM_103 (Or.inl ⟨_, _, _, _, _, hN, cq_ok11⟩) (t_MN_spells G (d := 4) (by omega) (hN) (hT) hO (hF) hA hk (by omega) (by omega) mmS_140) (by omega) (by omega) (by omega) (by simp [Value.category]) rfl (fun v75 M76 n77 h78 => ?_) (fun _ _ _ h78 => ?_)
                                  rotate_left
                                  · exact absurd h78.1 (by simp)
                                  obtain ⟨h78, e79, e80⟩ := h78
                                  replace e79 := e79.symm
                                  replace e80 := e80.symm
                                  subst e79
                                  subst e80
                                  cases h78
                                  show am_V G _ _ _ _ _ 224 [(7, .int 0), (6, .int 0), (5, .int 0), (4, .int 0), (3, .int 1), (2, .int (nI k)), (1, .int (nI t)), (0, .ref 1211)] [.int (bi (spv (kn_w 16) (nmL F k) (nmW T F k)))] M2 nx 0 0
                                  rw [qs16]
                                  show am_V G _ _ _ _ _ 224 [(7, .int 0), (6, .int 0), (5, .int 0), (4, .int 0), (3, .int 1), (2, .int (nI k)), (1, .int (nI t)), (0, .ref 1211)] [.int 0] M2 nx 0 0
                                  refine v_if_eq (tgt := 231) (am_Dk d_MM_holds (k := 118) rfl) (by decide) (fun c81 => ?_) (fun c81 => ?_)
                                  · refine v_iconst (v := 0) (am_Dk d_MM_holds (k := 121) rfl) (by decide) ?_
                                    refine v_istore (L1 := [(8, .int 0), (7, .int 0), (6, .int 0), (5, .int 0), (4, .int 0), (3, .int 1), (2, .int (nI k)), (1, .int (nI t)), (0, .ref 1211)]) (am_Dk d_MM_holds (k := 122) rfl) (by decide) rfl ?_
                                    refine v_iload_n (am_Dk d_MM_holds (k := 123) rfl) rfl ?_
                                    refine v_if_ne (tgt := 275) (am_Dk d_MM_holds (k := 124) rfl) (by decide) (fun c82 => ?_) (fun c82 => ?_)
                                    · refine v_aload_n (am_Dk d_MM_holds (k := 143) rfl) rfl ?_
                                      refine v_aload_n (am_Dk d_MM_holds (k := 144) rfl) rfl ?_
                                      refine v_get (am_Dk d_MM_holds (k := 145) rfl) f_MM_20 q11 rfl ?_
                                      refine v_iload_n (am_Dk d_MM_holds (k := 146) rfl) rfl ?_
                                      refine v_iconst (v := 0) (am_Dk d_MM_holds (k := 147) rfl) (by decide) ?_
                                      refine v_callV (rest := [.ref 1211]) (As := [.int (nI t), .int 0]) (mc' := 0) (ms' := 0) (am_Dk d_MM_holds (k := 148) rfl) c_MM_139 (Or.inl ⟨_, _, _, _, _, hX.1.1, cq_ok10⟩) (t_MT_part G (d := 0) (b := b) (i := 0) (by omega) (ARs_fr hX.1 (fun i z1 z2 => rfl)) (by omega) hFb (by omega)) (by omega) (by omega) (by omega) (by simp [Value.category]) rfl (fun v83 M84 n85 h86 => ?_) (fun _ _ _ h86 => ?_)
                                      rotate_left
                                      · exact absurd h86.1 (by simp)
                                      obtain ⟨h86, e87, e88⟩ := h86
                                      replace e87 := e87.symm
                                      replace e88 := e88.symm
                                      subst e87
                                      subst e88
                                      cases h86
                                      show am_V G _ _ _ _ _ 285 [(8, .int 0), (7, .int 0), (6, .int 0), (5, .int 0), (4, .int 0), (3, .int 1), (2, .int (nI k)), (1, .int (nI t)), (0, .ref 1211)] [.int (Pa (b + 0)), .ref 1211] M2 nx 0 0
                                      rw [hPy]
                                      show am_V G _ _ _ _ _ 285 [(8, .int 0), (7, .int 0), (6, .int 0), (5, .int 0), (4, .int 0), (3, .int 1), (2, .int (nI k)), (1, .int (nI t)), (0, .ref 1211)] [.int (nI y), .ref 1211] M2 nx 0 0
                                      refine v_callV (rest := []) (As := [.int (nI y)]) (mc' := 0) (ms' := 0) (am_Dk d_MM_holds (k := 149) rfl) c_MM_176 (Or.inl ⟨_, _, _, _, _, q11, cq_ok9⟩) (t_MM_reckon G (d := 7) (by omega) hX (by omega) (by omega) (by omega) (by omega) (by omega) hTb hLU hrcx q11 hW0 hS0 hL0 (show y < sz from by omega)) (by omega) (by omega) (by omega) (by simp [Value.category]) rfl (fun v89 M90 n91 h92 => ?_) (fun _ _ _ h92 => ?_)
                                      rotate_left
                                      · obtain ⟨_, _, _, _, hx9, _⟩ := h92; cases hx9
                                      obtain ⟨Wk1, Sg1, Lf1, rr1, h92, hx9, ⟨y1_1, y2_1, y3_1, y4_1, y5_1⟩, y6_1⟩ := h92
                                      cases h92
                                      replace hx9 := hx9.symm
                                      subst hx9
                                      have heR1 := ar_E hX.2.2.2.1 (y + 1) y (by omega) (by omega)
                                      have b93 : M90 1213 = some (.inr (10, [.ref 1214, .ref 1215, .ref 1216, .ref 1217, .ref 1218, .ref 1219, .int (nI sz), .int (nI pt)])) := (y5_1 1213 (by omega)).trans (hX.1.1)
                                      have b94 : M90 1214 = some (.inl (1, 9000, .inl Kd)) := (y5_1 1214 (by omega)).trans (hKd)
                                      have b95 : M90 1215 = some (.inl (1, 9000, .inl Nm)) := (y5_1 1215 (by omega)).trans (hNm)
                                      have b96 : M90 1216 = some (.inl (1, 9000, .inl Fi)) := (y5_1 1216 (by omega)).trans (hFi)
                                      have b97 : M90 1217 = some (.inl (1, 9000, .inl Ma)) := (y5_1 1217 (by omega)).trans (hMa)
                                      have b98 : M90 1218 = some (.inl (1, 9000, .inl Pa)) := (y5_1 1218 (by omega)).trans (hPa)
                                      have b99 : M90 1220 = some (.inr (11, [.ref 1221, .ref 1222, .ref 1223, .ref 1224, .int (nI ns), .int (nI tx)])) := (y5_1 1220 (by omega)).trans (hN)
                                      have b100 : M90 1221 = some (.inl (0, 5000, .inl T)) := (y5_1 1221 (by omega)).trans (hT)
                                      have b101 : M90 1222 = some (.inl (1, 9001, .inl A9)) := (y5_1 1222 (by omega)).trans (hF)
                                      have b102 : M90 1225 = some (.inr (12, [.ref 1226, .ref 1227, .ref 1228, .ref 1213, .ref 1220, sv, .int n9, .int a9, .int b9, .int t9, .int o9, .long u9, .ref 1229, .int l9, .ref 1230, .int p9, .int q9, .ref 1231, .int v9, .int k9, .int r9, .ref 1232])) := (y5_1 1225 (by omega)).trans (hrcx)
                                      show am_V G _ _ _ _ _ 288 [(8, .int 0), (7, .int 0), (6, .int 0), (5, .int 0), (4, .int 0), (3, .int 1), (2, .int (nI k)), (1, .int (nI t)), (0, .ref 1211)] [] M90 nx 0 0
                                      refine v_aload_n (am_Dk d_MM_holds (k := 150) rfl) rfl ?_
                                      refine v_get (am_Dk d_MM_holds (k := 151) rfl) f_MM_132 y4_1 rfl ?_
                                      refine v_lstore (L1 := [(9, .long rr1), (8, .int 0), (7, .int 0), (6, .int 0), (5, .int 0), (4, .int 0), (3, .int 1), (2, .int (nI k)), (1, .int (nI t)), (0, .ref 1211)]) (am_Dk d_MM_holds (k := 152) rfl) (by decide) rfl ?_
                                      refine v_aload_n (am_Dk d_MM_holds (k := 153) rfl) rfl ?_
                                      refine v_get (am_Dk d_MM_holds (k := 154) rfl) f_MM_123 y4_1 rfl ?_
                                      refine v_if_ne (tgt := 314) (am_Dk d_MM_holds (k := 155) rfl) (by decide) (fun c103 => ?_) (fun c103 => ?_)
                                      · have heY : ¬ (W.1 y).1 = 0 := c103
                                        refine v_aload_n (am_Dk d_MM_holds (k := 163) rfl) rfl ?_
                                        refine v_get (am_Dk d_MM_holds (k := 164) rfl) f_MM_123 y4_1 rfl ?_
                                        refine v_if_le (tgt := 328) (am_Dk d_MM_holds (k := 165) rfl) (by decide) (fun c104 => ?_) (fun c104 => ?_)
                                        · exact absurd ((errR_le heR1).mp c104) heY
                                        · try have heZ : ¬ (W.1 z).1 = 0 := fun z => c104 ((errR_le heR2).mpr z)
                                          refine v_aload_n (am_Dk d_MM_holds (k := 166) rfl) rfl ?_
                                          refine v_iconst (v := 1) (am_Dk d_MM_holds (k := 167) rfl) (by decide) ?_
                                          refine v_put (am_Dk d_MM_holds (k := 168) rfl) f_MM_64 y4_1 (Nat.le_of_ble_eq_true rfl) rfl rfl ?_
                                          refine v_iconst (v := 0) (am_Dk d_MM_holds (k := 169) rfl) (by decide) ?_
                                          have hrx7 := rx_frK hrx y5_1
                                          have hrc7 := rcell_fr hrc1 (y5_1 1225 (by omega))
                                          exact v_ireturn (am_Dk d_MM_holds (k := 170) rfl) rfl rfl (by omega) (by omega) ⟨rfl, fun i hi => (am_up_ne (show i ≠ 1211 from by omega)).trans (((y5_1 i (by omega)).trans (hfT i (by omega)))), rx_fr9 hrx7 (fun i hi => (am_up_ne (show i ≠ 1211 from by omega)).trans (rfl)), rcell_fr hrc7 ((am_up_ne (show 1225 ≠ 1211 from by decide)).trans (rfl)), ⟨⟨_, (am_up_ne (show 1236 ≠ 1211 from by omega)).trans (y1_1)⟩, ⟨_, (am_up_ne (show 1237 ≠ 1211 from by omega)).trans (y2_1)⟩, ⟨_, (am_up_ne (show 1238 ≠ 1211 from by omega)).trans (y3_1)⟩⟩, Or.inr ⟨W, t, sz, _, hok, Or.inr ⟨hcm, Or.inl ⟨by rw [hW1]; exact heY, rfl, by rw [hW1]; exact am_up_eq _ _ _⟩⟩⟩⟩
                                      · have heY : (W.1 y).1 = 0 := c103
                                        rw [heY] at y4_1
                                        refine v_aload_n (am_Dk d_MM_holds (k := 156) rfl) rfl ?_
                                        refine v_aload_n (am_Dk d_MM_holds (k := 157) rfl) rfl ?_
                                        refine v_get (am_Dk d_MM_holds (k := 158) rfl) f_MM_20 y4_1 rfl ?_
                                        refine v_iload_n (am_Dk d_MM_holds (k := 159) rfl) rfl ?_
                                        refine v_iconst (v := 1) (am_Dk d_MM_holds (k := 160) rfl) (by decide) ?_
                                        refine v_callV (rest := [.ref 1211]) (As := [.int (nI t), .int 1]) (mc' := 0) (ms' := 0) (am_Dk d_MM_holds (k := 161) rfl) c_MM_139 (Or.inl ⟨_, _, _, _, _, b93, cq_ok10⟩) (t_MT_part G (d := 0) (b := b) (i := 1) (by omega) (ARs_fr hX.1 (fun i z1 z2 => y5_1 i (by omega))) (by omega) hFb (by omega)) (by omega) (by omega) (by omega) (by simp [Value.category]) rfl (fun v105 M106 n107 h108 => ?_) (fun _ _ _ h108 => ?_)
                                        rotate_left
                                        · exact absurd h108.1 (by simp)
                                        obtain ⟨h108, e109, e110⟩ := h108
                                        replace e109 := e109.symm
                                        replace e110 := e110.symm
                                        subst e109
                                        subst e110
                                        cases h108
                                        show am_V G _ _ _ _ _ 311 [(9, .long rr1), (8, .int 0), (7, .int 0), (6, .int 0), (5, .int 0), (4, .int 0), (3, .int 1), (2, .int (nI k)), (1, .int (nI t)), (0, .ref 1211)] [.int (Pa (b + 1)), .ref 1211] M90 nx 0 0
                                        rw [hPz]
                                        show am_V G _ _ _ _ _ 311 [(9, .long rr1), (8, .int 0), (7, .int 0), (6, .int 0), (5, .int 0), (4, .int 0), (3, .int 1), (2, .int (nI k)), (1, .int (nI t)), (0, .ref 1211)] [.int (nI z), .ref 1211] M90 nx 0 0
                                        have hX2 := RSx_fr (M1 := M90) hX (fun i hi => y5_1 i (by omega))
                                        have hTb2 : tbl M90 c Vl Vg Vn P Q := tbl_fr hTb (fun i z1 z2 => y5_1 i (by omega))
                                        refine v_callV (rest := []) (As := [.int (nI z)]) (mc' := 0) (ms' := 0) (am_Dk d_MM_holds (k := 162) rfl) c_MM_176 (Or.inl ⟨_, _, _, _, _, y4_1, cq_ok9⟩) (t_MM_reckon G (d := 7) (by omega) hX2 (by omega) (by omega) (by omega) (by omega) (by omega) hTb2 hLU b102 y4_1 y1_1 y2_1 y3_1 (show z < sz from by omega)) (by omega) (by omega) (by omega) (by simp [Value.category]) rfl (fun v111 M112 n113 h114 => ?_) (fun _ _ _ h114 => ?_)
                                        rotate_left
                                        · obtain ⟨_, _, _, _, hx9, _⟩ := h114; cases hx9
                                        obtain ⟨Wk2, Sg2, Lf2, rr2, h114, hx9, ⟨y1_2, y2_2, y3_2, y4_2, y5_2⟩, y6_2⟩ := h114
                                        cases h114
                                        replace hx9 := hx9.symm
                                        subst hx9
                                        have heR2 := ar_E hX.2.2.2.1 (z + 1) z (by omega) (by omega)
                                        have b115 : M112 1213 = some (.inr (10, [.ref 1214, .ref 1215, .ref 1216, .ref 1217, .ref 1218, .ref 1219, .int (nI sz), .int (nI pt)])) := (y5_2 1213 (by omega)).trans (b93)
                                        have b116 : M112 1214 = some (.inl (1, 9000, .inl Kd)) := (y5_2 1214 (by omega)).trans (b94)
                                        have b117 : M112 1215 = some (.inl (1, 9000, .inl Nm)) := (y5_2 1215 (by omega)).trans (b95)
                                        have b118 : M112 1216 = some (.inl (1, 9000, .inl Fi)) := (y5_2 1216 (by omega)).trans (b96)
                                        have b119 : M112 1217 = some (.inl (1, 9000, .inl Ma)) := (y5_2 1217 (by omega)).trans (b97)
                                        have b120 : M112 1218 = some (.inl (1, 9000, .inl Pa)) := (y5_2 1218 (by omega)).trans (b98)
                                        have b121 : M112 1220 = some (.inr (11, [.ref 1221, .ref 1222, .ref 1223, .ref 1224, .int (nI ns), .int (nI tx)])) := (y5_2 1220 (by omega)).trans (b99)
                                        have b122 : M112 1221 = some (.inl (0, 5000, .inl T)) := (y5_2 1221 (by omega)).trans (b100)
                                        have b123 : M112 1222 = some (.inl (1, 9001, .inl A9)) := (y5_2 1222 (by omega)).trans (b101)
                                        have b124 : M112 1225 = some (.inr (12, [.ref 1226, .ref 1227, .ref 1228, .ref 1213, .ref 1220, sv, .int n9, .int a9, .int b9, .int t9, .int o9, .long u9, .ref 1229, .int l9, .ref 1230, .int p9, .int q9, .ref 1231, .int v9, .int k9, .int r9, .ref 1232])) := (y5_2 1225 (by omega)).trans (b102)
                                        show am_V G _ _ _ _ _ 314 [(9, .long rr1), (8, .int 0), (7, .int 0), (6, .int 0), (5, .int 0), (4, .int 0), (3, .int 1), (2, .int (nI k)), (1, .int (nI t)), (0, .ref 1211)] [] M112 nx 0 0
                                        refine v_aload_n (am_Dk d_MM_holds (k := 163) rfl) rfl ?_
                                        refine v_get (am_Dk d_MM_holds (k := 164) rfl) f_MM_123 y4_2 rfl ?_
                                        refine v_if_le (tgt := 328) (am_Dk d_MM_holds (k := 165) rfl) (by decide) (fun c125 => ?_) (fun c125 => ?_)
                                        · have heZ : (W.1 z).1 = 0 := (errR_le heR2).mp c125
                                          refine v_iload_n (am_Dk d_MM_holds (k := 171) rfl) rfl ?_
                                          refine v_if_eq (tgt := 350) (am_Dk d_MM_holds (k := 172) rfl) (by decide) (fun c126 => ?_) (fun c126 => ?_)
                                          · exact absurd c126 (by decide)
                                          · refine v_lload (am_Dk d_MM_holds (k := 173) rfl) rfl ?_
                                            refine v_aload_n (am_Dk d_MM_holds (k := 174) rfl) rfl ?_
                                            refine v_get (am_Dk d_MM_holds (k := 175) rfl) f_MM_132 y4_2 rfl ?_
                                            refine v_lcmp (am_Dk d_MM_holds (k := 176) rfl) ?_
                                            refine v_if_ge (tgt := 346) (am_Dk d_MM_holds (k := 177) rfl) (by decide) (fun c127 => ?_) (fun c127 => ?_)
                                            · have hcp := (lg_cmp_ge _ _).mp c127
                                              refine v_iconst (v := 0) (am_Dk d_MM_holds (k := 180) rfl) (by decide) ?_
                                              refine v_goto (tgt := 444) (am_Dk d_MM_holds (k := 181) rfl) (by decide) ?_
                                              have hrx7 := rx_frK hrx y5_1
                                              have hrc7 := rcell_fr hrc1 (y5_1 1225 (by omega))
                                              replace hrx7 := rx_frK hrx7 y5_2
                                              replace hrc7 := rcell_fr hrc7 (y5_2 1225 (by omega))
                                              rw [heZ] at y4_2
                                              have q1 := y6_1 heY
                                              have q2 := y6_2 heZ
                                              subst q1
                                              subst q2
                                              have htr : truK 11 (W.1 y).2 (W.1 z).2 = false := by rw [truK, if_pos rfl]; exact decide_eq_false (Int64.not_lt.mpr hcp)
                                              exact v_ireturn (am_Dk d_MM_holds (k := 228) rfl) rfl rfl (by omega) (by omega) ⟨rfl, fun i hi => ((y5_2 i (by omega)).trans ((y5_1 i (by omega)).trans (hfT i (by omega)))), rx_fr9 hrx7 (fun i hi => rfl), rcell_fr hrc7 (rfl), ⟨⟨_, y1_2⟩, ⟨_, y2_2⟩, ⟨_, y3_2⟩⟩, Or.inr ⟨W, t, sz, _, hok, Or.inr ⟨hcm, Or.inr (Or.inr ⟨by rw [hW1]; exact heY, by rw [hW2]; exact heZ, by rw [hW1, hW2, hW0x, ho, htr]; rfl, y4_2⟩)⟩⟩⟩
                                            · have hcp := fun z => c127 ((lg_cmp_ge _ _).mpr z)
                                              refine v_iconst (v := 1) (am_Dk d_MM_holds (k := 178) rfl) (by decide) ?_
                                              refine v_goto (tgt := 444) (am_Dk d_MM_holds (k := 179) rfl) (by decide) ?_
                                              have hrx7 := rx_frK hrx y5_1
                                              have hrc7 := rcell_fr hrc1 (y5_1 1225 (by omega))
                                              replace hrx7 := rx_frK hrx7 y5_2
                                              replace hrc7 := rcell_fr hrc7 (y5_2 1225 (by omega))
                                              rw [heZ] at y4_2
                                              have q1 := y6_1 heY
                                              have q2 := y6_2 heZ
                                              subst q1
                                              subst q2
                                              have htr : truK 11 (W.1 y).2 (W.1 z).2 = true := by rw [truK, if_pos rfl]; exact decide_eq_true (Int64.not_le.mp hcp)
                                              exact v_ireturn (am_Dk d_MM_holds (k := 228) rfl) rfl rfl (by omega) (by omega) ⟨rfl, fun i hi => ((y5_2 i (by omega)).trans ((y5_1 i (by omega)).trans (hfT i (by omega)))), rx_fr9 hrx7 (fun i hi => rfl), rcell_fr hrc7 (rfl), ⟨⟨_, y1_2⟩, ⟨_, y2_2⟩, ⟨_, y3_2⟩⟩, Or.inr ⟨W, t, sz, _, hok, Or.inr ⟨hcm, Or.inr (Or.inr ⟨by rw [hW1]; exact heY, by rw [hW2]; exact heZ, by rw [hW1, hW2, hW0x, ho, htr]; rfl, y4_2⟩)⟩⟩⟩
                                        · try have heZ : ¬ (W.1 z).1 = 0 := fun z => c125 ((errR_le heR2).mpr z)
                                          refine v_aload_n (am_Dk d_MM_holds (k := 166) rfl) rfl ?_
                                          refine v_iconst (v := 1) (am_Dk d_MM_holds (k := 167) rfl) (by decide) ?_
                                          refine v_put (am_Dk d_MM_holds (k := 168) rfl) f_MM_64 y4_2 (Nat.le_of_ble_eq_true rfl) rfl rfl ?_
                                          refine v_iconst (v := 0) (am_Dk d_MM_holds (k := 169) rfl) (by decide) ?_
                                          have hrx7 := rx_frK hrx y5_1
                                          have hrc7 := rcell_fr hrc1 (y5_1 1225 (by omega))
                                          replace hrx7 := rx_frK hrx7 y5_2
                                          replace hrc7 := rcell_fr hrc7 (y5_2 1225 (by omega))
                                          exact v_ireturn (am_Dk d_MM_holds (k := 170) rfl) rfl rfl (by omega) (by omega) ⟨rfl, fun i hi => (am_up_ne (show i ≠ 1211 from by omega)).trans (((y5_2 i (by omega)).trans ((y5_1 i (by omega)).trans (hfT i (by omega))))), rx_fr9 hrx7 (fun i hi => (am_up_ne (show i ≠ 1211 from by omega)).trans (rfl)), rcell_fr hrc7 ((am_up_ne (show 1225 ≠ 1211 from by decide)).trans (rfl)), ⟨⟨_, (am_up_ne (show 1236 ≠ 1211 from by omega)).trans (y1_2)⟩, ⟨_, (am_up_ne (show 1237 ≠ 1211 from by omega)).trans (y2_2)⟩, ⟨_, (am_up_ne (show 1238 ≠ 1211 from by omega)).trans (y3_2)⟩⟩, Or.inr ⟨W, t, sz, _, hok, Or.inr ⟨hcm, Or.inr (Or.inl ⟨by rw [hW1]; exact heY, by rw [hW2]; exact heZ, rfl, by rw [hW2]; exact am_up_eq _ _ _⟩)⟩⟩⟩
                                    · exact absurd c82 (by decide)
                                  · exact absurd (by decide) c81
                              · exact absurd (by decide) c73
                          · exact absurd (by decide) c65
                      · exact absurd (by decide) c57
                  · exact absurd (by decide) c49
        · exact absurd c32 (nI_nm1 (by omega))
      · have qs11 : bi (spv (kn_w 11) (nmL F k) (nmW T F k)) = 0 := by rw [spv_iff (by decide), show decide (spg (nmL F k) (nmW T F k) = 11) = false from decide_eq_false (fun z => absurd (ho.symm.trans z) (by decide))]; rfl
        have qs12 : bi (spv (kn_w 12) (nmL F k) (nmW T F k)) = 1 := by rw [spv_iff (by decide), show decide (spg (nmL F k) (nmW T F k) = 12) = true from decide_eq_true ho]; rfl
        have qs13 : bi (spv (kn_w 13) (nmL F k) (nmW T F k)) = 0 := by rw [spv_iff (by decide), show decide (spg (nmL F k) (nmW T F k) = 13) = false from decide_eq_false (fun z => absurd (ho.symm.trans z) (by decide))]; rfl
        have qs14 : bi (spv (kn_w 14) (nmL F k) (nmW T F k)) = 0 := by rw [spv_iff (by decide), show decide (spg (nmL F k) (nmW T F k) = 14) = false from decide_eq_false (fun z => absurd (ho.symm.trans z) (by decide))]; rfl
        have qs15 : bi (spv (kn_w 15) (nmL F k) (nmW T F k)) = 0 := by rw [spv_iff (by decide), show decide (spg (nmL F k) (nmW T F k) = 15) = false from decide_eq_false (fun z => absurd (ho.symm.trans z) (by decide))]; rfl
        have qs16 : bi (spv (kn_w 16) (nmL F k) (nmW T F k)) = 0 := by rw [spv_iff (by decide), show decide (spg (nmL F k) (nmW T F k) = 16) = false from decide_eq_false (fun z => absurd (ho.symm.trans z) (by decide))]; rfl
        have hcm : cmpK (W.2.1 t).1 = true := by rw [hW0x, ho]; rfl
        show am_V G _ _ _ _ _ 4 [(0, .ref 1211)] [.int (nI t)] M2 nx 0 0
        refine v_istore_n (L1 := [(1, .int (nI t)), (0, .ref 1211)]) (am_Dk d_MM_holds (k := 2) rfl) (by decide) rfl ?_
        refine v_iload_n (am_Dk d_MM_holds (k := 3) rfl) rfl ?_
        refine v_iconst (v := (-1)) (am_Dk d_MM_holds (k := 4) rfl) (by decide) ?_
        refine v_icmp_ne (tgt := 17) (am_Dk d_MM_holds (k := 5) rfl) (by decide) (fun c128 => ?_) (fun c128 => ?_)
        · refine v_aload_n (am_Dk d_MM_holds (k := 11) rfl) rfl ?_
          refine v_get (am_Dk d_MM_holds (k := 12) rfl) f_MM_20 q11 rfl ?_
          refine v_get9 (am_Dk d_MM_holds (k := 13) rfl) r_MM_95 hX.1.1 rfl ?_
          refine v_iload_n (am_Dk d_MM_holds (k := 14) rfl) rfl ?_
          refine v_iald (am_Dk d_MM_holds (k := 15) rfl) hNm rfl (vp_in_nI (by omega) (by omega)) ?_
          rw [nI_clamp (n := t) (by omega)]
          rw [show Nm t = nI k from hNk]
          refine v_istore_n (L1 := [(2, .int (nI k)), (1, .int (nI t)), (0, .ref 1211)]) (am_Dk d_MM_holds (k := 16) rfl) (by decide) rfl ?_
          refine v_aload_n (am_Dk d_MM_holds (k := 17) rfl) rfl ?_
          refine v_get (am_Dk d_MM_holds (k := 18) rfl) f_MM_27 q11 rfl ?_
          refine v_get (am_Dk d_MM_holds (k := 19) rfl) f_MM_181 hN rfl ?_
          refine v_if_le (tgt := 67) (am_Dk d_MM_holds (k := 20) rfl) (by decide) (fun c129 => ?_) (fun c129 => ?_)
          · exact absurd ((nI_leI (a := ns) (b := 0) (by omega) (by omega)).mp c129) (by omega)
          · refine v_aload_n (am_Dk d_MM_holds (k := 21) rfl) rfl ?_
            refine v_get (am_Dk d_MM_holds (k := 22) rfl) f_MM_20 q11 rfl ?_
            refine v_get9 (am_Dk d_MM_holds (k := 23) rfl) r_MM_98 hX.1.1 rfl ?_
            refine v_iload_n (am_Dk d_MM_holds (k := 24) rfl) rfl ?_
            refine v_iald (am_Dk d_MM_holds (k := 25) rfl) hMa rfl (vp_in_nI (by omega) (by omega)) ?_
            rw [nI_clamp (n := t) (by omega)]
            rw [show Ma t = 2 from hM2]
            refine v_iconst (v := 2) (am_Dk d_MM_holds (k := 26) rfl) (by decide) ?_
            refine v_icmp_ne (tgt := 67) (am_Dk d_MM_holds (k := 27) rfl) (by decide) (fun c130 => ?_) (fun c130 => ?_)
            · exact absurd (by decide) c130
            · refine v_aload_n (am_Dk d_MM_holds (k := 28) rfl) rfl ?_
              refine v_get (am_Dk d_MM_holds (k := 29) rfl) f_MM_27 q11 rfl ?_
              refine v_iload_n (am_Dk d_MM_holds (k := 30) rfl) rfl ?_
              refine v_ldcS (i := 135) (tx := "<") (am_Dk d_MM_holds (k := 31) rfl) (by decide +kernel) ?_
              refine v_callV (rest := []) (As := [.int (nI k), .ref 135]) (mc' := 0) (ms' := 0) (am_Dk d_MM_holds (k := 32) rfl) c_MM_103 (Or.inl ⟨_, _, _, _, _, hN, cq_ok11⟩) (t_MN_spells G (d := 4) (by omega) (hN) (hT) hO (hF) hA hk (by omega) (by omega) mmS_135) (by omega) (by omega) (by omega) (by simp [Value.category]) rfl (fun v131 M132 n133 h134 => ?_) (fun _ _ _ h134 => ?_)
              rotate_left
              · exact absurd h134.1 (by simp)
              obtain ⟨h134, e135, e136⟩ := h134
              replace e135 := e135.symm
              replace e136 := e136.symm
              subst e135
              subst e136
              cases h134
              show am_V G _ _ _ _ _ 60 [(2, .int (nI k)), (1, .int (nI t)), (0, .ref 1211)] [.int (bi (spv (kn_w 11) (nmL F k) (nmW T F k)))] M2 nx 0 0
              rw [qs11]
              show am_V G _ _ _ _ _ 60 [(2, .int (nI k)), (1, .int (nI t)), (0, .ref 1211)] [.int 0] M2 nx 0 0
              refine v_if_eq (tgt := 67) (am_Dk d_MM_holds (k := 33) rfl) (by decide) (fun c137 => ?_) (fun c137 => ?_)
              · refine v_iconst (v := 0) (am_Dk d_MM_holds (k := 36) rfl) (by decide) ?_
                refine v_istore_n (L1 := [(3, .int 0), (2, .int (nI k)), (1, .int (nI t)), (0, .ref 1211)]) (am_Dk d_MM_holds (k := 37) rfl) (by decide) rfl ?_
                refine v_aload_n (am_Dk d_MM_holds (k := 38) rfl) rfl ?_
                refine v_get (am_Dk d_MM_holds (k := 39) rfl) f_MM_20 q11 rfl ?_
                refine v_get9 (am_Dk d_MM_holds (k := 40) rfl) r_MM_98 hX.1.1 rfl ?_
                refine v_iload_n (am_Dk d_MM_holds (k := 41) rfl) rfl ?_
                refine v_iald (am_Dk d_MM_holds (k := 42) rfl) hMa rfl (vp_in_nI (by omega) (by omega)) ?_
                rw [nI_clamp (n := t) (by omega)]
                rw [show Ma t = 2 from hM2]
                refine v_iconst (v := 2) (am_Dk d_MM_holds (k := 43) rfl) (by decide) ?_
                refine v_icmp_ne (tgt := 99) (am_Dk d_MM_holds (k := 44) rfl) (by decide) (fun c138 => ?_) (fun c138 => ?_)
                · exact absurd (by decide) c138
                · refine v_aload_n (am_Dk d_MM_holds (k := 45) rfl) rfl ?_
                  refine v_get (am_Dk d_MM_holds (k := 46) rfl) f_MM_27 q11 rfl ?_
                  refine v_iload_n (am_Dk d_MM_holds (k := 47) rfl) rfl ?_
                  refine v_ldcS (i := 136) (tx := ">") (am_Dk d_MM_holds (k := 48) rfl) (by decide +kernel) ?_
                  refine v_callV (rest := []) (As := [.int (nI k), .ref 136]) (mc' := 0) (ms' := 0) (am_Dk d_MM_holds (k := 49) rfl) c_MM_103 (Or.inl ⟨_, _, _, _, _, hN, cq_ok11⟩) (t_MN_spells G (d := 4) (by omega) (hN) (hT) hO (hF) hA hk (by omega) (by omega) mmS_136) (by omega) (by omega) (by omega) (by simp [Value.category]) rfl (fun v139 M140 n141 h142 => ?_) (fun _ _ _ h142 => ?_)
                  rotate_left
                  · exact absurd h142.1 (by simp)
                  obtain ⟨h142, e143, e144⟩ := h142
                  replace e143 := e143.symm
                  replace e144 := e144.symm
                  subst e143
                  subst e144
                  cases h142
                  show am_V G _ _ _ _ _ 92 [(3, .int 0), (2, .int (nI k)), (1, .int (nI t)), (0, .ref 1211)] [.int (bi (spv (kn_w 12) (nmL F k) (nmW T F k)))] M2 nx 0 0
                  rw [qs12]
                  show am_V G _ _ _ _ _ 92 [(3, .int 0), (2, .int (nI k)), (1, .int (nI t)), (0, .ref 1211)] [.int 1] M2 nx 0 0
                  refine v_if_eq (tgt := 99) (am_Dk d_MM_holds (k := 50) rfl) (by decide) (fun c145 => ?_) (fun c145 => ?_)
                  · exact absurd c145 (by decide)
                  · refine v_iconst (v := 1) (am_Dk d_MM_holds (k := 51) rfl) (by decide) ?_
                    refine v_goto (tgt := 100) (am_Dk d_MM_holds (k := 52) rfl) (by decide) ?_
                    refine v_istore (L1 := [(4, .int 1), (3, .int 0), (2, .int (nI k)), (1, .int (nI t)), (0, .ref 1211)]) (am_Dk d_MM_holds (k := 54) rfl) (by decide) rfl ?_
                    refine v_aload_n (am_Dk d_MM_holds (k := 55) rfl) rfl ?_
                    refine v_get (am_Dk d_MM_holds (k := 56) rfl) f_MM_20 q11 rfl ?_
                    refine v_get9 (am_Dk d_MM_holds (k := 57) rfl) r_MM_98 hX.1.1 rfl ?_
                    refine v_iload_n (am_Dk d_MM_holds (k := 58) rfl) rfl ?_
                    refine v_iald (am_Dk d_MM_holds (k := 59) rfl) hMa rfl (vp_in_nI (by omega) (by omega)) ?_
                    rw [nI_clamp (n := t) (by omega)]
                    rw [show Ma t = 2 from hM2]
                    refine v_iconst (v := 2) (am_Dk d_MM_holds (k := 60) rfl) (by decide) ?_
                    refine v_icmp_ne (tgt := 132) (am_Dk d_MM_holds (k := 61) rfl) (by decide) (fun c146 => ?_) (fun c146 => ?_)
                    · exact absurd (by decide) c146
                    · refine v_aload_n (am_Dk d_MM_holds (k := 62) rfl) rfl ?_
                      refine v_get (am_Dk d_MM_holds (k := 63) rfl) f_MM_27 q11 rfl ?_
                      refine v_iload_n (am_Dk d_MM_holds (k := 64) rfl) rfl ?_
                      refine v_ldcS (i := 137) (tx := "=<") (am_Dk d_MM_holds (k := 65) rfl) (by decide +kernel) ?_
                      refine v_callV (rest := []) (As := [.int (nI k), .ref 137]) (mc' := 0) (ms' := 0) (am_Dk d_MM_holds (k := 66) rfl) c_MM_103 (Or.inl ⟨_, _, _, _, _, hN, cq_ok11⟩) (t_MN_spells G (d := 4) (by omega) (hN) (hT) hO (hF) hA hk (by omega) (by omega) mmS_137) (by omega) (by omega) (by omega) (by simp [Value.category]) rfl (fun v147 M148 n149 h150 => ?_) (fun _ _ _ h150 => ?_)
                      rotate_left
                      · exact absurd h150.1 (by simp)
                      obtain ⟨h150, e151, e152⟩ := h150
                      replace e151 := e151.symm
                      replace e152 := e152.symm
                      subst e151
                      subst e152
                      cases h150
                      show am_V G _ _ _ _ _ 125 [(4, .int 1), (3, .int 0), (2, .int (nI k)), (1, .int (nI t)), (0, .ref 1211)] [.int (bi (spv (kn_w 13) (nmL F k) (nmW T F k)))] M2 nx 0 0
                      rw [qs13]
                      show am_V G _ _ _ _ _ 125 [(4, .int 1), (3, .int 0), (2, .int (nI k)), (1, .int (nI t)), (0, .ref 1211)] [.int 0] M2 nx 0 0
                      refine v_if_eq (tgt := 132) (am_Dk d_MM_holds (k := 67) rfl) (by decide) (fun c153 => ?_) (fun c153 => ?_)
                      · refine v_iconst (v := 0) (am_Dk d_MM_holds (k := 70) rfl) (by decide) ?_
                        refine v_istore (L1 := [(5, .int 0), (4, .int 1), (3, .int 0), (2, .int (nI k)), (1, .int (nI t)), (0, .ref 1211)]) (am_Dk d_MM_holds (k := 71) rfl) (by decide) rfl ?_
                        refine v_aload_n (am_Dk d_MM_holds (k := 72) rfl) rfl ?_
                        refine v_get (am_Dk d_MM_holds (k := 73) rfl) f_MM_20 q11 rfl ?_
                        refine v_get9 (am_Dk d_MM_holds (k := 74) rfl) r_MM_98 hX.1.1 rfl ?_
                        refine v_iload_n (am_Dk d_MM_holds (k := 75) rfl) rfl ?_
                        refine v_iald (am_Dk d_MM_holds (k := 76) rfl) hMa rfl (vp_in_nI (by omega) (by omega)) ?_
                        rw [nI_clamp (n := t) (by omega)]
                        rw [show Ma t = 2 from hM2]
                        refine v_iconst (v := 2) (am_Dk d_MM_holds (k := 77) rfl) (by decide) ?_
                        refine v_icmp_ne (tgt := 165) (am_Dk d_MM_holds (k := 78) rfl) (by decide) (fun c154 => ?_) (fun c154 => ?_)
                        · exact absurd (by decide) c154
                        · refine v_aload_n (am_Dk d_MM_holds (k := 79) rfl) rfl ?_
                          refine v_get (am_Dk d_MM_holds (k := 80) rfl) f_MM_27 q11 rfl ?_
                          refine v_iload_n (am_Dk d_MM_holds (k := 81) rfl) rfl ?_
                          refine v_ldcS (i := 138) (tx := ">=") (am_Dk d_MM_holds (k := 82) rfl) (by decide +kernel) ?_
                          refine v_callV (rest := []) (As := [.int (nI k), .ref 138]) (mc' := 0) (ms' := 0) (am_Dk d_MM_holds (k := 83) rfl) c_MM_103 (Or.inl ⟨_, _, _, _, _, hN, cq_ok11⟩) (t_MN_spells G (d := 4) (by omega) (hN) (hT) hO (hF) hA hk (by omega) (by omega) mmS_138) (by omega) (by omega) (by omega) (by simp [Value.category]) rfl (fun v155 M156 n157 h158 => ?_) (fun _ _ _ h158 => ?_)
                          rotate_left
                          · exact absurd h158.1 (by simp)
                          obtain ⟨h158, e159, e160⟩ := h158
                          replace e159 := e159.symm
                          replace e160 := e160.symm
                          subst e159
                          subst e160
                          cases h158
                          show am_V G _ _ _ _ _ 158 [(5, .int 0), (4, .int 1), (3, .int 0), (2, .int (nI k)), (1, .int (nI t)), (0, .ref 1211)] [.int (bi (spv (kn_w 14) (nmL F k) (nmW T F k)))] M2 nx 0 0
                          rw [qs14]
                          show am_V G _ _ _ _ _ 158 [(5, .int 0), (4, .int 1), (3, .int 0), (2, .int (nI k)), (1, .int (nI t)), (0, .ref 1211)] [.int 0] M2 nx 0 0
                          refine v_if_eq (tgt := 165) (am_Dk d_MM_holds (k := 84) rfl) (by decide) (fun c161 => ?_) (fun c161 => ?_)
                          · refine v_iconst (v := 0) (am_Dk d_MM_holds (k := 87) rfl) (by decide) ?_
                            refine v_istore (L1 := [(6, .int 0), (5, .int 0), (4, .int 1), (3, .int 0), (2, .int (nI k)), (1, .int (nI t)), (0, .ref 1211)]) (am_Dk d_MM_holds (k := 88) rfl) (by decide) rfl ?_
                            refine v_aload_n (am_Dk d_MM_holds (k := 89) rfl) rfl ?_
                            refine v_get (am_Dk d_MM_holds (k := 90) rfl) f_MM_20 q11 rfl ?_
                            refine v_get9 (am_Dk d_MM_holds (k := 91) rfl) r_MM_98 hX.1.1 rfl ?_
                            refine v_iload_n (am_Dk d_MM_holds (k := 92) rfl) rfl ?_
                            refine v_iald (am_Dk d_MM_holds (k := 93) rfl) hMa rfl (vp_in_nI (by omega) (by omega)) ?_
                            rw [nI_clamp (n := t) (by omega)]
                            rw [show Ma t = 2 from hM2]
                            refine v_iconst (v := 2) (am_Dk d_MM_holds (k := 94) rfl) (by decide) ?_
                            refine v_icmp_ne (tgt := 198) (am_Dk d_MM_holds (k := 95) rfl) (by decide) (fun c162 => ?_) (fun c162 => ?_)
                            · exact absurd (by decide) c162
                            · refine v_aload_n (am_Dk d_MM_holds (k := 96) rfl) rfl ?_
                              refine v_get (am_Dk d_MM_holds (k := 97) rfl) f_MM_27 q11 rfl ?_
                              refine v_iload_n (am_Dk d_MM_holds (k := 98) rfl) rfl ?_
                              refine v_ldcS (i := 139) (tx := "=:=") (am_Dk d_MM_holds (k := 99) rfl) (by decide +kernel) ?_
                              refine v_callV (rest := []) (As := [.int (nI k), .ref 139]) (mc' := 0) (ms' := 0) (am_Dk d_MM_holds (k := 100) rfl) c_MM_103 (Or.inl ⟨_, _, _, _, _, hN, cq_ok11⟩) (t_MN_spells G (d := 4) (by omega) (hN) (hT) hO (hF) hA hk (by omega) (by omega) mmS_139) (by omega) (by omega) (by omega) (by simp [Value.category]) rfl (fun v163 M164 n165 h166 => ?_) (fun _ _ _ h166 => ?_)
                              rotate_left
                              · exact absurd h166.1 (by simp)
                              obtain ⟨h166, e167, e168⟩ := h166
                              replace e167 := e167.symm
                              replace e168 := e168.symm
                              subst e167
                              subst e168
                              cases h166
                              show am_V G _ _ _ _ _ 191 [(6, .int 0), (5, .int 0), (4, .int 1), (3, .int 0), (2, .int (nI k)), (1, .int (nI t)), (0, .ref 1211)] [.int (bi (spv (kn_w 15) (nmL F k) (nmW T F k)))] M2 nx 0 0
                              rw [qs15]
                              show am_V G _ _ _ _ _ 191 [(6, .int 0), (5, .int 0), (4, .int 1), (3, .int 0), (2, .int (nI k)), (1, .int (nI t)), (0, .ref 1211)] [.int 0] M2 nx 0 0
                              refine v_if_eq (tgt := 198) (am_Dk d_MM_holds (k := 101) rfl) (by decide) (fun c169 => ?_) (fun c169 => ?_)
                              · refine v_iconst (v := 0) (am_Dk d_MM_holds (k := 104) rfl) (by decide) ?_
                                refine v_istore (L1 := [(7, .int 0), (6, .int 0), (5, .int 0), (4, .int 1), (3, .int 0), (2, .int (nI k)), (1, .int (nI t)), (0, .ref 1211)]) (am_Dk d_MM_holds (k := 105) rfl) (by decide) rfl ?_
                                refine v_aload_n (am_Dk d_MM_holds (k := 106) rfl) rfl ?_
                                refine v_get (am_Dk d_MM_holds (k := 107) rfl) f_MM_20 q11 rfl ?_
                                refine v_get9 (am_Dk d_MM_holds (k := 108) rfl) r_MM_98 hX.1.1 rfl ?_
                                refine v_iload_n (am_Dk d_MM_holds (k := 109) rfl) rfl ?_
                                refine v_iald (am_Dk d_MM_holds (k := 110) rfl) hMa rfl (vp_in_nI (by omega) (by omega)) ?_
                                rw [nI_clamp (n := t) (by omega)]
                                rw [show Ma t = 2 from hM2]
                                refine v_iconst (v := 2) (am_Dk d_MM_holds (k := 111) rfl) (by decide) ?_
                                refine v_icmp_ne (tgt := 231) (am_Dk d_MM_holds (k := 112) rfl) (by decide) (fun c170 => ?_) (fun c170 => ?_)
                                · exact absurd (by decide) c170
                                · refine v_aload_n (am_Dk d_MM_holds (k := 113) rfl) rfl ?_
                                  refine v_get (am_Dk d_MM_holds (k := 114) rfl) f_MM_27 q11 rfl ?_
                                  refine v_iload_n (am_Dk d_MM_holds (k := 115) rfl) rfl ?_
                                  refine v_ldcS (i := 140) (tx := "=\\=") (am_Dk d_MM_holds (k := 116) rfl) (by decide +kernel) ?_
                                  refine v_callV (rest := []) (As := [.int (nI k), .ref 140]) (mc' := 0) (ms' := 0) (am_Dk d_MM_holds (k := 117) rfl) c_MM_103 (Or.inl ⟨_, _, _, _, _, hN, cq_ok11⟩) (t_MN_spells G (d := 4) (by omega) (hN) (hT) hO (hF) hA hk (by omega) (by omega) mmS_140) (by omega) (by omega) (by omega) (by simp [Value.category]) rfl (fun v171 M172 n173 h174 => ?_) (fun _ _ _ h174 => ?_)
                                  rotate_left
                                  · exact absurd h174.1 (by simp)
                                  obtain ⟨h174, e175, e176⟩ := h174
                                  replace e175 := e175.symm
                                  replace e176 := e176.symm
                                  subst e175
                                  subst e176
                                  cases h174
                                  show am_V G _ _ _ _ _ 224 [(7, .int 0), (6, .int 0), (5, .int 0), (4, .int 1), (3, .int 0), (2, .int (nI k)), (1, .int (nI t)), (0, .ref 1211)] [.int (bi (spv (kn_w 16) (nmL F k) (nmW T F k)))] M2 nx 0 0
                                  rw [qs16]
                                  show am_V G _ _ _ _ _ 224 [(7, .int 0), (6, .int 0), (5, .int 0), (4, .int 1), (3, .int 0), (2, .int (nI k)), (1, .int (nI t)), (0, .ref 1211)] [.int 0] M2 nx 0 0
                                  refine v_if_eq (tgt := 231) (am_Dk d_MM_holds (k := 118) rfl) (by decide) (fun c177 => ?_) (fun c177 => ?_)
                                  · refine v_iconst (v := 0) (am_Dk d_MM_holds (k := 121) rfl) (by decide) ?_
                                    refine v_istore (L1 := [(8, .int 0), (7, .int 0), (6, .int 0), (5, .int 0), (4, .int 1), (3, .int 0), (2, .int (nI k)), (1, .int (nI t)), (0, .ref 1211)]) (am_Dk d_MM_holds (k := 122) rfl) (by decide) rfl ?_
                                    refine v_iload_n (am_Dk d_MM_holds (k := 123) rfl) rfl ?_
                                    refine v_if_ne (tgt := 275) (am_Dk d_MM_holds (k := 124) rfl) (by decide) (fun c178 => ?_) (fun c178 => ?_)
                                    · exact absurd (by decide) c178
                                    · refine v_iload (am_Dk d_MM_holds (k := 125) rfl) rfl ?_
                                      refine v_if_ne (tgt := 275) (am_Dk d_MM_holds (k := 126) rfl) (by decide) (fun c179 => ?_) (fun c179 => ?_)
                                      · refine v_aload_n (am_Dk d_MM_holds (k := 143) rfl) rfl ?_
                                        refine v_aload_n (am_Dk d_MM_holds (k := 144) rfl) rfl ?_
                                        refine v_get (am_Dk d_MM_holds (k := 145) rfl) f_MM_20 q11 rfl ?_
                                        refine v_iload_n (am_Dk d_MM_holds (k := 146) rfl) rfl ?_
                                        refine v_iconst (v := 0) (am_Dk d_MM_holds (k := 147) rfl) (by decide) ?_
                                        refine v_callV (rest := [.ref 1211]) (As := [.int (nI t), .int 0]) (mc' := 0) (ms' := 0) (am_Dk d_MM_holds (k := 148) rfl) c_MM_139 (Or.inl ⟨_, _, _, _, _, hX.1.1, cq_ok10⟩) (t_MT_part G (d := 0) (b := b) (i := 0) (by omega) (ARs_fr hX.1 (fun i z1 z2 => rfl)) (by omega) hFb (by omega)) (by omega) (by omega) (by omega) (by simp [Value.category]) rfl (fun v180 M181 n182 h183 => ?_) (fun _ _ _ h183 => ?_)
                                        rotate_left
                                        · exact absurd h183.1 (by simp)
                                        obtain ⟨h183, e184, e185⟩ := h183
                                        replace e184 := e184.symm
                                        replace e185 := e185.symm
                                        subst e184
                                        subst e185
                                        cases h183
                                        show am_V G _ _ _ _ _ 285 [(8, .int 0), (7, .int 0), (6, .int 0), (5, .int 0), (4, .int 1), (3, .int 0), (2, .int (nI k)), (1, .int (nI t)), (0, .ref 1211)] [.int (Pa (b + 0)), .ref 1211] M2 nx 0 0
                                        rw [hPy]
                                        show am_V G _ _ _ _ _ 285 [(8, .int 0), (7, .int 0), (6, .int 0), (5, .int 0), (4, .int 1), (3, .int 0), (2, .int (nI k)), (1, .int (nI t)), (0, .ref 1211)] [.int (nI y), .ref 1211] M2 nx 0 0
                                        refine v_callV (rest := []) (As := [.int (nI y)]) (mc' := 0) (ms' := 0) (am_Dk d_MM_holds (k := 149) rfl) c_MM_176 (Or.inl ⟨_, _, _, _, _, q11, cq_ok9⟩) (t_MM_reckon G (d := 7) (by omega) hX (by omega) (by omega) (by omega) (by omega) (by omega) hTb hLU hrcx q11 hW0 hS0 hL0 (show y < sz from by omega)) (by omega) (by omega) (by omega) (by simp [Value.category]) rfl (fun v186 M187 n188 h189 => ?_) (fun _ _ _ h189 => ?_)
                                        rotate_left
                                        · obtain ⟨_, _, _, _, hx9, _⟩ := h189; cases hx9
                                        obtain ⟨Wk1, Sg1, Lf1, rr1, h189, hx9, ⟨y1_1, y2_1, y3_1, y4_1, y5_1⟩, y6_1⟩ := h189
                                        cases h189
                                        replace hx9 := hx9.symm
                                        subst hx9
                                        have heR1 := ar_E hX.2.2.2.1 (y + 1) y (by omega) (by omega)
                                        have b190 : M187 1213 = some (.inr (10, [.ref 1214, .ref 1215, .ref 1216, .ref 1217, .ref 1218, .ref 1219, .int (nI sz), .int (nI pt)])) := (y5_1 1213 (by omega)).trans (hX.1.1)
                                        have b191 : M187 1214 = some (.inl (1, 9000, .inl Kd)) := (y5_1 1214 (by omega)).trans (hKd)
                                        have b192 : M187 1215 = some (.inl (1, 9000, .inl Nm)) := (y5_1 1215 (by omega)).trans (hNm)
                                        have b193 : M187 1216 = some (.inl (1, 9000, .inl Fi)) := (y5_1 1216 (by omega)).trans (hFi)
                                        have b194 : M187 1217 = some (.inl (1, 9000, .inl Ma)) := (y5_1 1217 (by omega)).trans (hMa)
                                        have b195 : M187 1218 = some (.inl (1, 9000, .inl Pa)) := (y5_1 1218 (by omega)).trans (hPa)
                                        have b196 : M187 1220 = some (.inr (11, [.ref 1221, .ref 1222, .ref 1223, .ref 1224, .int (nI ns), .int (nI tx)])) := (y5_1 1220 (by omega)).trans (hN)
                                        have b197 : M187 1221 = some (.inl (0, 5000, .inl T)) := (y5_1 1221 (by omega)).trans (hT)
                                        have b198 : M187 1222 = some (.inl (1, 9001, .inl A9)) := (y5_1 1222 (by omega)).trans (hF)
                                        have b199 : M187 1225 = some (.inr (12, [.ref 1226, .ref 1227, .ref 1228, .ref 1213, .ref 1220, sv, .int n9, .int a9, .int b9, .int t9, .int o9, .long u9, .ref 1229, .int l9, .ref 1230, .int p9, .int q9, .ref 1231, .int v9, .int k9, .int r9, .ref 1232])) := (y5_1 1225 (by omega)).trans (hrcx)
                                        show am_V G _ _ _ _ _ 288 [(8, .int 0), (7, .int 0), (6, .int 0), (5, .int 0), (4, .int 1), (3, .int 0), (2, .int (nI k)), (1, .int (nI t)), (0, .ref 1211)] [] M187 nx 0 0
                                        refine v_aload_n (am_Dk d_MM_holds (k := 150) rfl) rfl ?_
                                        refine v_get (am_Dk d_MM_holds (k := 151) rfl) f_MM_132 y4_1 rfl ?_
                                        refine v_lstore (L1 := [(9, .long rr1), (8, .int 0), (7, .int 0), (6, .int 0), (5, .int 0), (4, .int 1), (3, .int 0), (2, .int (nI k)), (1, .int (nI t)), (0, .ref 1211)]) (am_Dk d_MM_holds (k := 152) rfl) (by decide) rfl ?_
                                        refine v_aload_n (am_Dk d_MM_holds (k := 153) rfl) rfl ?_
                                        refine v_get (am_Dk d_MM_holds (k := 154) rfl) f_MM_123 y4_1 rfl ?_
                                        refine v_if_ne (tgt := 314) (am_Dk d_MM_holds (k := 155) rfl) (by decide) (fun c200 => ?_) (fun c200 => ?_)
                                        · have heY : ¬ (W.1 y).1 = 0 := c200
                                          refine v_aload_n (am_Dk d_MM_holds (k := 163) rfl) rfl ?_
                                          refine v_get (am_Dk d_MM_holds (k := 164) rfl) f_MM_123 y4_1 rfl ?_
                                          refine v_if_le (tgt := 328) (am_Dk d_MM_holds (k := 165) rfl) (by decide) (fun c201 => ?_) (fun c201 => ?_)
                                          · exact absurd ((errR_le heR1).mp c201) heY
                                          · try have heZ : ¬ (W.1 z).1 = 0 := fun z => c201 ((errR_le heR2).mpr z)
                                            refine v_aload_n (am_Dk d_MM_holds (k := 166) rfl) rfl ?_
                                            refine v_iconst (v := 1) (am_Dk d_MM_holds (k := 167) rfl) (by decide) ?_
                                            refine v_put (am_Dk d_MM_holds (k := 168) rfl) f_MM_64 y4_1 (Nat.le_of_ble_eq_true rfl) rfl rfl ?_
                                            refine v_iconst (v := 0) (am_Dk d_MM_holds (k := 169) rfl) (by decide) ?_
                                            have hrx7 := rx_frK hrx y5_1
                                            have hrc7 := rcell_fr hrc1 (y5_1 1225 (by omega))
                                            exact v_ireturn (am_Dk d_MM_holds (k := 170) rfl) rfl rfl (by omega) (by omega) ⟨rfl, fun i hi => (am_up_ne (show i ≠ 1211 from by omega)).trans (((y5_1 i (by omega)).trans (hfT i (by omega)))), rx_fr9 hrx7 (fun i hi => (am_up_ne (show i ≠ 1211 from by omega)).trans (rfl)), rcell_fr hrc7 ((am_up_ne (show 1225 ≠ 1211 from by decide)).trans (rfl)), ⟨⟨_, (am_up_ne (show 1236 ≠ 1211 from by omega)).trans (y1_1)⟩, ⟨_, (am_up_ne (show 1237 ≠ 1211 from by omega)).trans (y2_1)⟩, ⟨_, (am_up_ne (show 1238 ≠ 1211 from by omega)).trans (y3_1)⟩⟩, Or.inr ⟨W, t, sz, _, hok, Or.inr ⟨hcm, Or.inl ⟨by rw [hW1]; exact heY, rfl, by rw [hW1]; exact am_up_eq _ _ _⟩⟩⟩⟩
                                        · have heY : (W.1 y).1 = 0 := c200
                                          rw [heY] at y4_1
                                          refine v_aload_n (am_Dk d_MM_holds (k := 156) rfl) rfl ?_
                                          refine v_aload_n (am_Dk d_MM_holds (k := 157) rfl) rfl ?_
                                          refine v_get (am_Dk d_MM_holds (k := 158) rfl) f_MM_20 y4_1 rfl ?_
                                          refine v_iload_n (am_Dk d_MM_holds (k := 159) rfl) rfl ?_
                                          refine v_iconst (v := 1) (am_Dk d_MM_holds (k := 160) rfl) (by decide) ?_
                                          refine v_callV (rest := [.ref 1211]) (As := [.int (nI t), .int 1]) (mc' := 0) (ms' := 0) (am_Dk d_MM_holds (k := 161) rfl) c_MM_139 (Or.inl ⟨_, _, _, _, _, b190, cq_ok10⟩) (t_MT_part G (d := 0) (b := b) (i := 1) (by omega) (ARs_fr hX.1 (fun i z1 z2 => y5_1 i (by omega))) (by omega) hFb (by omega)) (by omega) (by omega) (by omega) (by simp [Value.category]) rfl (fun v202 M203 n204 h205 => ?_) (fun _ _ _ h205 => ?_)
                                          rotate_left
                                          · exact absurd h205.1 (by simp)
                                          obtain ⟨h205, e206, e207⟩ := h205
                                          replace e206 := e206.symm
                                          replace e207 := e207.symm
                                          subst e206
                                          subst e207
                                          cases h205
                                          show am_V G _ _ _ _ _ 311 [(9, .long rr1), (8, .int 0), (7, .int 0), (6, .int 0), (5, .int 0), (4, .int 1), (3, .int 0), (2, .int (nI k)), (1, .int (nI t)), (0, .ref 1211)] [.int (Pa (b + 1)), .ref 1211] M187 nx 0 0
                                          rw [hPz]
                                          show am_V G _ _ _ _ _ 311 [(9, .long rr1), (8, .int 0), (7, .int 0), (6, .int 0), (5, .int 0), (4, .int 1), (3, .int 0), (2, .int (nI k)), (1, .int (nI t)), (0, .ref 1211)] [.int (nI z), .ref 1211] M187 nx 0 0
                                          have hX2 := RSx_fr (M1 := M187) hX (fun i hi => y5_1 i (by omega))
                                          have hTb2 : tbl M187 c Vl Vg Vn P Q := tbl_fr hTb (fun i z1 z2 => y5_1 i (by omega))
                                          refine v_callV (rest := []) (As := [.int (nI z)]) (mc' := 0) (ms' := 0) (am_Dk d_MM_holds (k := 162) rfl) c_MM_176 (Or.inl ⟨_, _, _, _, _, y4_1, cq_ok9⟩) (t_MM_reckon G (d := 7) (by omega) hX2 (by omega) (by omega) (by omega) (by omega) (by omega) hTb2 hLU b199 y4_1 y1_1 y2_1 y3_1 (show z < sz from by omega)) (by omega) (by omega) (by omega) (by simp [Value.category]) rfl (fun v208 M209 n210 h211 => ?_) (fun _ _ _ h211 => ?_)
                                          rotate_left
                                          · obtain ⟨_, _, _, _, hx9, _⟩ := h211; cases hx9
                                          obtain ⟨Wk2, Sg2, Lf2, rr2, h211, hx9, ⟨y1_2, y2_2, y3_2, y4_2, y5_2⟩, y6_2⟩ := h211
                                          cases h211
                                          replace hx9 := hx9.symm
                                          subst hx9
                                          have heR2 := ar_E hX.2.2.2.1 (z + 1) z (by omega) (by omega)
                                          have b212 : M209 1213 = some (.inr (10, [.ref 1214, .ref 1215, .ref 1216, .ref 1217, .ref 1218, .ref 1219, .int (nI sz), .int (nI pt)])) := (y5_2 1213 (by omega)).trans (b190)
                                          have b213 : M209 1214 = some (.inl (1, 9000, .inl Kd)) := (y5_2 1214 (by omega)).trans (b191)
                                          have b214 : M209 1215 = some (.inl (1, 9000, .inl Nm)) := (y5_2 1215 (by omega)).trans (b192)
                                          have b215 : M209 1216 = some (.inl (1, 9000, .inl Fi)) := (y5_2 1216 (by omega)).trans (b193)
                                          have b216 : M209 1217 = some (.inl (1, 9000, .inl Ma)) := (y5_2 1217 (by omega)).trans (b194)
                                          have b217 : M209 1218 = some (.inl (1, 9000, .inl Pa)) := (y5_2 1218 (by omega)).trans (b195)
                                          have b218 : M209 1220 = some (.inr (11, [.ref 1221, .ref 1222, .ref 1223, .ref 1224, .int (nI ns), .int (nI tx)])) := (y5_2 1220 (by omega)).trans (b196)
                                          have b219 : M209 1221 = some (.inl (0, 5000, .inl T)) := (y5_2 1221 (by omega)).trans (b197)
                                          have b220 : M209 1222 = some (.inl (1, 9001, .inl A9)) := (y5_2 1222 (by omega)).trans (b198)
                                          have b221 : M209 1225 = some (.inr (12, [.ref 1226, .ref 1227, .ref 1228, .ref 1213, .ref 1220, sv, .int n9, .int a9, .int b9, .int t9, .int o9, .long u9, .ref 1229, .int l9, .ref 1230, .int p9, .int q9, .ref 1231, .int v9, .int k9, .int r9, .ref 1232])) := (y5_2 1225 (by omega)).trans (b199)
                                          show am_V G _ _ _ _ _ 314 [(9, .long rr1), (8, .int 0), (7, .int 0), (6, .int 0), (5, .int 0), (4, .int 1), (3, .int 0), (2, .int (nI k)), (1, .int (nI t)), (0, .ref 1211)] [] M209 nx 0 0
                                          refine v_aload_n (am_Dk d_MM_holds (k := 163) rfl) rfl ?_
                                          refine v_get (am_Dk d_MM_holds (k := 164) rfl) f_MM_123 y4_2 rfl ?_
                                          refine v_if_le (tgt := 328) (am_Dk d_MM_holds (k := 165) rfl) (by decide) (fun c222 => ?_) (fun c222 => ?_)
                                          · have heZ : (W.1 z).1 = 0 := (errR_le heR2).mp c222
                                            refine v_iload_n (am_Dk d_MM_holds (k := 171) rfl) rfl ?_
                                            refine v_if_eq (tgt := 350) (am_Dk d_MM_holds (k := 172) rfl) (by decide) (fun c223 => ?_) (fun c223 => ?_)
                                            · refine v_iload (am_Dk d_MM_holds (k := 182) rfl) rfl ?_
                                              refine v_if_eq (tgt := 373) (am_Dk d_MM_holds (k := 183) rfl) (by decide) (fun c224 => ?_) (fun c224 => ?_)
                                              · exact absurd c224 (by decide)
                                              · refine v_lload (am_Dk d_MM_holds (k := 184) rfl) rfl ?_
                                                refine v_aload_n (am_Dk d_MM_holds (k := 185) rfl) rfl ?_
                                                refine v_get (am_Dk d_MM_holds (k := 186) rfl) f_MM_132 y4_2 rfl ?_
                                                refine v_lcmp (am_Dk d_MM_holds (k := 187) rfl) ?_
                                                refine v_if_le (tgt := 369) (am_Dk d_MM_holds (k := 188) rfl) (by decide) (fun c225 => ?_) (fun c225 => ?_)
                                                · have hcp := (lg_cmp_le _ _).mp c225
                                                  refine v_iconst (v := 0) (am_Dk d_MM_holds (k := 191) rfl) (by decide) ?_
                                                  refine v_goto (tgt := 444) (am_Dk d_MM_holds (k := 192) rfl) (by decide) ?_
                                                  have hrx7 := rx_frK hrx y5_1
                                                  have hrc7 := rcell_fr hrc1 (y5_1 1225 (by omega))
                                                  replace hrx7 := rx_frK hrx7 y5_2
                                                  replace hrc7 := rcell_fr hrc7 (y5_2 1225 (by omega))
                                                  rw [heZ] at y4_2
                                                  have q1 := y6_1 heY
                                                  have q2 := y6_2 heZ
                                                  subst q1
                                                  subst q2
                                                  have htr : truK 12 (W.1 y).2 (W.1 z).2 = false := by rw [truK, if_neg (by decide), if_pos rfl]; exact decide_eq_false (Int64.not_lt.mpr hcp)
                                                  exact v_ireturn (am_Dk d_MM_holds (k := 228) rfl) rfl rfl (by omega) (by omega) ⟨rfl, fun i hi => ((y5_2 i (by omega)).trans ((y5_1 i (by omega)).trans (hfT i (by omega)))), rx_fr9 hrx7 (fun i hi => rfl), rcell_fr hrc7 (rfl), ⟨⟨_, y1_2⟩, ⟨_, y2_2⟩, ⟨_, y3_2⟩⟩, Or.inr ⟨W, t, sz, _, hok, Or.inr ⟨hcm, Or.inr (Or.inr ⟨by rw [hW1]; exact heY, by rw [hW2]; exact heZ, by rw [hW1, hW2, hW0x, ho, htr]; rfl, y4_2⟩)⟩⟩⟩
                                                · have hcp := fun z => c225 ((lg_cmp_le _ _).mpr z)
                                                  refine v_iconst (v := 1) (am_Dk d_MM_holds (k := 189) rfl) (by decide) ?_
                                                  refine v_goto (tgt := 444) (am_Dk d_MM_holds (k := 190) rfl) (by decide) ?_
                                                  have hrx7 := rx_frK hrx y5_1
                                                  have hrc7 := rcell_fr hrc1 (y5_1 1225 (by omega))
                                                  replace hrx7 := rx_frK hrx7 y5_2
                                                  replace hrc7 := rcell_fr hrc7 (y5_2 1225 (by omega))
                                                  rw [heZ] at y4_2
                                                  have q1 := y6_1 heY
                                                  have q2 := y6_2 heZ
                                                  subst q1
                                                  subst q2
                                                  have htr : truK 12 (W.1 y).2 (W.1 z).2 = true := by rw [truK, if_neg (by decide), if_pos rfl]; exact decide_eq_true (Int64.not_le.mp hcp)
                                                  exact v_ireturn (am_Dk d_MM_holds (k := 228) rfl) rfl rfl (by omega) (by omega) ⟨rfl, fun i hi => ((y5_2 i (by omega)).trans ((y5_1 i (by omega)).trans (hfT i (by omega)))), rx_fr9 hrx7 (fun i hi => rfl), rcell_fr hrc7 (rfl), ⟨⟨_, y1_2⟩, ⟨_, y2_2⟩, ⟨_, y3_2⟩⟩, Or.inr ⟨W, t, sz, _, hok, Or.inr ⟨hcm, Or.inr (Or.inr ⟨by rw [hW1]; exact heY, by rw [hW2]; exact heZ, by rw [hW1, hW2, hW0x, ho, htr]; rfl, y4_2⟩)⟩⟩⟩
                                            · exact absurd (by decide) c223
                                          · try have heZ : ¬ (W.1 z).1 = 0 := fun z => c222 ((errR_le heR2).mpr z)
                                            refine v_aload_n (am_Dk d_MM_holds (k := 166) rfl) rfl ?_
                                            refine v_iconst (v := 1) (am_Dk d_MM_holds (k := 167) rfl) (by decide) ?_
                                            refine v_put (am_Dk d_MM_holds (k := 168) rfl) f_MM_64 y4_2 (Nat.le_of_ble_eq_true rfl) rfl rfl ?_
                                            refine v_iconst (v := 0) (am_Dk d_MM_holds (k := 169) rfl) (by decide) ?_
                                            have hrx7 := rx_frK hrx y5_1
                                            have hrc7 := rcell_fr hrc1 (y5_1 1225 (by omega))
                                            replace hrx7 := rx_frK hrx7 y5_2
                                            replace hrc7 := rcell_fr hrc7 (y5_2 1225 (by omega))
                                            exact v_ireturn (am_Dk d_MM_holds (k := 170) rfl) rfl rfl (by omega) (by omega) ⟨rfl, fun i hi => (am_up_ne (show i ≠ 1211 from by omega)).trans (((y5_2 i (by omega)).trans ((y5_1 i (by omega)).trans (hfT i (by omega))))), rx_fr9 hrx7 (fun i hi => (am_up_ne (show i ≠ 1211 from by omega)).trans (rfl)), rcell_fr hrc7 ((am_up_ne (show 1225 ≠ 1211 from by decide)).trans (rfl)), ⟨⟨_, (am_up_ne (show 1236 ≠ 1211 from by omega)).trans (y1_2)⟩, ⟨_, (am_up_ne (show 1237 ≠ 1211 from by omega)).trans (y2_2)⟩, ⟨_, (am_up_ne (show 1238 ≠ 1211 from by omega)).trans (y3_2)⟩⟩, Or.inr ⟨W, t, sz, _, hok, Or.inr ⟨hcm, Or.inr (Or.inl ⟨by rw [hW1]; exact heY, by rw [hW2]; exact heZ, rfl, by rw [hW2]; exact am_up_eq _ _ _⟩)⟩⟩⟩
                                      · exact absurd c179 (by decide)
                                  · exact absurd (by decide) c177
                              · exact absurd (by decide) c169
                          · exact absurd (by decide) c161
                      · exact absurd (by decide) c153
              · exact absurd (by decide) c137
        · exact absurd c128 (nI_nm1 (by omega))
      · have qs11 : bi (spv (kn_w 11) (nmL F k) (nmW T F k)) = 0 := by rw [spv_iff (by decide), show decide (spg (nmL F k) (nmW T F k) = 11) = false from decide_eq_false (fun z => absurd (ho.symm.trans z) (by decide))]; rfl
        have qs12 : bi (spv (kn_w 12) (nmL F k) (nmW T F k)) = 0 := by rw [spv_iff (by decide), show decide (spg (nmL F k) (nmW T F k) = 12) = false from decide_eq_false (fun z => absurd (ho.symm.trans z) (by decide))]; rfl
        have qs13 : bi (spv (kn_w 13) (nmL F k) (nmW T F k)) = 1 := by rw [spv_iff (by decide), show decide (spg (nmL F k) (nmW T F k) = 13) = true from decide_eq_true ho]; rfl
        have qs14 : bi (spv (kn_w 14) (nmL F k) (nmW T F k)) = 0 := by rw [spv_iff (by decide), show decide (spg (nmL F k) (nmW T F k) = 14) = false from decide_eq_false (fun z => absurd (ho.symm.trans z) (by decide))]; rfl
        have qs15 : bi (spv (kn_w 15) (nmL F k) (nmW T F k)) = 0 := by rw [spv_iff (by decide), show decide (spg (nmL F k) (nmW T F k) = 15) = false from decide_eq_false (fun z => absurd (ho.symm.trans z) (by decide))]; rfl
        have qs16 : bi (spv (kn_w 16) (nmL F k) (nmW T F k)) = 0 := by rw [spv_iff (by decide), show decide (spg (nmL F k) (nmW T F k) = 16) = false from decide_eq_false (fun z => absurd (ho.symm.trans z) (by decide))]; rfl
        have hcm : cmpK (W.2.1 t).1 = true := by rw [hW0x, ho]; rfl
        show am_V G _ _ _ _ _ 4 [(0, .ref 1211)] [.int (nI t)] M2 nx 0 0
        refine v_istore_n (L1 := [(1, .int (nI t)), (0, .ref 1211)]) (am_Dk d_MM_holds (k := 2) rfl) (by decide) rfl ?_
        refine v_iload_n (am_Dk d_MM_holds (k := 3) rfl) rfl ?_
        refine v_iconst (v := (-1)) (am_Dk d_MM_holds (k := 4) rfl) (by decide) ?_
        refine v_icmp_ne (tgt := 17) (am_Dk d_MM_holds (k := 5) rfl) (by decide) (fun c226 => ?_) (fun c226 => ?_)
        · refine v_aload_n (am_Dk d_MM_holds (k := 11) rfl) rfl ?_
          refine v_get (am_Dk d_MM_holds (k := 12) rfl) f_MM_20 q11 rfl ?_
          refine v_get9 (am_Dk d_MM_holds (k := 13) rfl) r_MM_95 hX.1.1 rfl ?_
          refine v_iload_n (am_Dk d_MM_holds (k := 14) rfl) rfl ?_
          refine v_iald (am_Dk d_MM_holds (k := 15) rfl) hNm rfl (vp_in_nI (by omega) (by omega)) ?_
          rw [nI_clamp (n := t) (by omega)]
          rw [show Nm t = nI k from hNk]
          refine v_istore_n (L1 := [(2, .int (nI k)), (1, .int (nI t)), (0, .ref 1211)]) (am_Dk d_MM_holds (k := 16) rfl) (by decide) rfl ?_
          refine v_aload_n (am_Dk d_MM_holds (k := 17) rfl) rfl ?_
          refine v_get (am_Dk d_MM_holds (k := 18) rfl) f_MM_27 q11 rfl ?_
          refine v_get (am_Dk d_MM_holds (k := 19) rfl) f_MM_181 hN rfl ?_
          refine v_if_le (tgt := 67) (am_Dk d_MM_holds (k := 20) rfl) (by decide) (fun c227 => ?_) (fun c227 => ?_)
          · exact absurd ((nI_leI (a := ns) (b := 0) (by omega) (by omega)).mp c227) (by omega)
          · refine v_aload_n (am_Dk d_MM_holds (k := 21) rfl) rfl ?_
            refine v_get (am_Dk d_MM_holds (k := 22) rfl) f_MM_20 q11 rfl ?_
            refine v_get9 (am_Dk d_MM_holds (k := 23) rfl) r_MM_98 hX.1.1 rfl ?_
            refine v_iload_n (am_Dk d_MM_holds (k := 24) rfl) rfl ?_
            refine v_iald (am_Dk d_MM_holds (k := 25) rfl) hMa rfl (vp_in_nI (by omega) (by omega)) ?_
            rw [nI_clamp (n := t) (by omega)]
            rw [show Ma t = 2 from hM2]
            refine v_iconst (v := 2) (am_Dk d_MM_holds (k := 26) rfl) (by decide) ?_
            refine v_icmp_ne (tgt := 67) (am_Dk d_MM_holds (k := 27) rfl) (by decide) (fun c228 => ?_) (fun c228 => ?_)
            · exact absurd (by decide) c228
            · refine v_aload_n (am_Dk d_MM_holds (k := 28) rfl) rfl ?_
              refine v_get (am_Dk d_MM_holds (k := 29) rfl) f_MM_27 q11 rfl ?_
              refine v_iload_n (am_Dk d_MM_holds (k := 30) rfl) rfl ?_
              refine v_ldcS (i := 135) (tx := "<") (am_Dk d_MM_holds (k := 31) rfl) (by decide +kernel) ?_
              refine v_callV (rest := []) (As := [.int (nI k), .ref 135]) (mc' := 0) (ms' := 0) (am_Dk d_MM_holds (k := 32) rfl) c_MM_103 (Or.inl ⟨_, _, _, _, _, hN, cq_ok11⟩) (t_MN_spells G (d := 4) (by omega) (hN) (hT) hO (hF) hA hk (by omega) (by omega) mmS_135) (by omega) (by omega) (by omega) (by simp [Value.category]) rfl (fun v229 M230 n231 h232 => ?_) (fun _ _ _ h232 => ?_)
              rotate_left
              · exact absurd h232.1 (by simp)
              obtain ⟨h232, e233, e234⟩ := h232
              replace e233 := e233.symm
              replace e234 := e234.symm
              subst e233
              subst e234
              cases h232
              show am_V G _ _ _ _ _ 60 [(2, .int (nI k)), (1, .int (nI t)), (0, .ref 1211)] [.int (bi (spv (kn_w 11) (nmL F k) (nmW T F k)))] M2 nx 0 0
              rw [qs11]
              show am_V G _ _ _ _ _ 60 [(2, .int (nI k)), (1, .int (nI t)), (0, .ref 1211)] [.int 0] M2 nx 0 0
              refine v_if_eq (tgt := 67) (am_Dk d_MM_holds (k := 33) rfl) (by decide) (fun c235 => ?_) (fun c235 => ?_)
              · refine v_iconst (v := 0) (am_Dk d_MM_holds (k := 36) rfl) (by decide) ?_
                refine v_istore_n (L1 := [(3, .int 0), (2, .int (nI k)), (1, .int (nI t)), (0, .ref 1211)]) (am_Dk d_MM_holds (k := 37) rfl) (by decide) rfl ?_
                refine v_aload_n (am_Dk d_MM_holds (k := 38) rfl) rfl ?_
                refine v_get (am_Dk d_MM_holds (k := 39) rfl) f_MM_20 q11 rfl ?_
                refine v_get9 (am_Dk d_MM_holds (k := 40) rfl) r_MM_98 hX.1.1 rfl ?_
                refine v_iload_n (am_Dk d_MM_holds (k := 41) rfl) rfl ?_
                refine v_iald (am_Dk d_MM_holds (k := 42) rfl) hMa rfl (vp_in_nI (by omega) (by omega)) ?_
                rw [nI_clamp (n := t) (by omega)]
                rw [show Ma t = 2 from hM2]
                refine v_iconst (v := 2) (am_Dk d_MM_holds (k := 43) rfl) (by decide) ?_
                refine v_icmp_ne (tgt := 99) (am_Dk d_MM_holds (k := 44) rfl) (by decide) (fun c236 => ?_) (fun c236 => ?_)
                · exact absurd (by decide) c236
                · refine v_aload_n (am_Dk d_MM_holds (k := 45) rfl) rfl ?_
                  refine v_get (am_Dk d_MM_holds (k := 46) rfl) f_MM_27 q11 rfl ?_
                  refine v_iload_n (am_Dk d_MM_holds (k := 47) rfl) rfl ?_
                  refine v_ldcS (i := 136) (tx := ">") (am_Dk d_MM_holds (k := 48) rfl) (by decide +kernel) ?_
                  refine v_callV (rest := []) (As := [.int (nI k), .ref 136]) (mc' := 0) (ms' := 0) (am_Dk d_MM_holds (k := 49) rfl) c_MM_103 (Or.inl ⟨_, _, _, _, _, hN, cq_ok11⟩) (t_MN_spells G (d := 4) (by omega) (hN) (hT) hO (hF) hA hk (by omega) (by omega) mmS_136) (by omega) (by omega) (by omega) (by simp [Value.category]) rfl (fun v237 M238 n239 h240 => ?_) (fun _ _ _ h240 => ?_)
                  rotate_left
                  · exact absurd h240.1 (by simp)
                  obtain ⟨h240, e241, e242⟩ := h240
                  replace e241 := e241.symm
                  replace e242 := e242.symm
                  subst e241
                  subst e242
                  cases h240
                  show am_V G _ _ _ _ _ 92 [(3, .int 0), (2, .int (nI k)), (1, .int (nI t)), (0, .ref 1211)] [.int (bi (spv (kn_w 12) (nmL F k) (nmW T F k)))] M2 nx 0 0
                  rw [qs12]
                  show am_V G _ _ _ _ _ 92 [(3, .int 0), (2, .int (nI k)), (1, .int (nI t)), (0, .ref 1211)] [.int 0] M2 nx 0 0
                  refine v_if_eq (tgt := 99) (am_Dk d_MM_holds (k := 50) rfl) (by decide) (fun c243 => ?_) (fun c243 => ?_)
                  · refine v_iconst (v := 0) (am_Dk d_MM_holds (k := 53) rfl) (by decide) ?_
                    refine v_istore (L1 := [(4, .int 0), (3, .int 0), (2, .int (nI k)), (1, .int (nI t)), (0, .ref 1211)]) (am_Dk d_MM_holds (k := 54) rfl) (by decide) rfl ?_
                    refine v_aload_n (am_Dk d_MM_holds (k := 55) rfl) rfl ?_
                    refine v_get (am_Dk d_MM_holds (k := 56) rfl) f_MM_20 q11 rfl ?_
                    refine v_get9 (am_Dk d_MM_holds (k := 57) rfl) r_MM_98 hX.1.1 rfl ?_
                    refine v_iload_n (am_Dk d_MM_holds (k := 58) rfl) rfl ?_
                    refine v_iald (am_Dk d_MM_holds (k := 59) rfl) hMa rfl (vp_in_nI (by omega) (by omega)) ?_
                    rw [nI_clamp (n := t) (by omega)]
                    rw [show Ma t = 2 from hM2]
                    refine v_iconst (v := 2) (am_Dk d_MM_holds (k := 60) rfl) (by decide) ?_
                    refine v_icmp_ne (tgt := 132) (am_Dk d_MM_holds (k := 61) rfl) (by decide) (fun c244 => ?_) (fun c244 => ?_)
                    · exact absurd (by decide) c244
                    · refine v_aload_n (am_Dk d_MM_holds (k := 62) rfl) rfl ?_
                      refine v_get (am_Dk d_MM_holds (k := 63) rfl) f_MM_27 q11 rfl ?_
                      refine v_iload_n (am_Dk d_MM_holds (k := 64) rfl) rfl ?_
                      refine v_ldcS (i := 137) (tx := "=<") (am_Dk d_MM_holds (k := 65) rfl) (by decide +kernel) ?_
                      refine v_callV (rest := []) (As := [.int (nI k), .ref 137]) (mc' := 0) (ms' := 0) (am_Dk d_MM_holds (k := 66) rfl) c_MM_103 (Or.inl ⟨_, _, _, _, _, hN, cq_ok11⟩) (t_MN_spells G (d := 4) (by omega) (hN) (hT) hO (hF) hA hk (by omega) (by omega) mmS_137) (by omega) (by omega) (by omega) (by simp [Value.category]) rfl (fun v245 M246 n247 h248 => ?_) (fun _ _ _ h248 => ?_)
                      rotate_left
                      · exact absurd h248.1 (by simp)
                      obtain ⟨h248, e249, e250⟩ := h248
                      replace e249 := e249.symm
                      replace e250 := e250.symm
                      subst e249
                      subst e250
                      cases h248
                      show am_V G _ _ _ _ _ 125 [(4, .int 0), (3, .int 0), (2, .int (nI k)), (1, .int (nI t)), (0, .ref 1211)] [.int (bi (spv (kn_w 13) (nmL F k) (nmW T F k)))] M2 nx 0 0
                      rw [qs13]
                      show am_V G _ _ _ _ _ 125 [(4, .int 0), (3, .int 0), (2, .int (nI k)), (1, .int (nI t)), (0, .ref 1211)] [.int 1] M2 nx 0 0
                      refine v_if_eq (tgt := 132) (am_Dk d_MM_holds (k := 67) rfl) (by decide) (fun c251 => ?_) (fun c251 => ?_)
                      · exact absurd c251 (by decide)
                      · refine v_iconst (v := 1) (am_Dk d_MM_holds (k := 68) rfl) (by decide) ?_
                        refine v_goto (tgt := 133) (am_Dk d_MM_holds (k := 69) rfl) (by decide) ?_
                        refine v_istore (L1 := [(5, .int 1), (4, .int 0), (3, .int 0), (2, .int (nI k)), (1, .int (nI t)), (0, .ref 1211)]) (am_Dk d_MM_holds (k := 71) rfl) (by decide) rfl ?_
                        refine v_aload_n (am_Dk d_MM_holds (k := 72) rfl) rfl ?_
                        refine v_get (am_Dk d_MM_holds (k := 73) rfl) f_MM_20 q11 rfl ?_
                        refine v_get9 (am_Dk d_MM_holds (k := 74) rfl) r_MM_98 hX.1.1 rfl ?_
                        refine v_iload_n (am_Dk d_MM_holds (k := 75) rfl) rfl ?_
                        refine v_iald (am_Dk d_MM_holds (k := 76) rfl) hMa rfl (vp_in_nI (by omega) (by omega)) ?_
                        rw [nI_clamp (n := t) (by omega)]
                        rw [show Ma t = 2 from hM2]
                        refine v_iconst (v := 2) (am_Dk d_MM_holds (k := 77) rfl) (by decide) ?_
                        refine v_icmp_ne (tgt := 165) (am_Dk d_MM_holds (k := 78) rfl) (by decide) (fun c252 => ?_) (fun c252 => ?_)
                        · exact absurd (by decide) c252
                        · refine v_aload_n (am_Dk d_MM_holds (k := 79) rfl) rfl ?_
                          refine v_get (am_Dk d_MM_holds (k := 80) rfl) f_MM_27 q11 rfl ?_
                          refine v_iload_n (am_Dk d_MM_holds (k := 81) rfl) rfl ?_
                          refine v_ldcS (i := 138) (tx := ">=") (am_Dk d_MM_holds (k := 82) rfl) (by decide +kernel) ?_
                          refine v_callV (rest := []) (As := [.int (nI k), .ref 138]) (mc' := 0) (ms' := 0) (am_Dk d_MM_holds (k := 83) rfl) c_MM_103 (Or.inl ⟨_, _, _, _, _, hN, cq_ok11⟩) (t_MN_spells G (d := 4) (by omega) (hN) (hT) hO (hF) hA hk (by omega) (by omega) mmS_138) (by omega) (by omega) (by omega) (by simp [Value.category]) rfl (fun v253 M254 n255 h256 => ?_) (fun _ _ _ h256 => ?_)
                          rotate_left
                          · exact absurd h256.1 (by simp)
                          obtain ⟨h256, e257, e258⟩ := h256
                          replace e257 := e257.symm
                          replace e258 := e258.symm
                          subst e257
                          subst e258
                          cases h256
                          show am_V G _ _ _ _ _ 158 [(5, .int 1), (4, .int 0), (3, .int 0), (2, .int (nI k)), (1, .int (nI t)), (0, .ref 1211)] [.int (bi (spv (kn_w 14) (nmL F k) (nmW T F k)))] M2 nx 0 0
                          rw [qs14]
                          show am_V G _ _ _ _ _ 158 [(5, .int 1), (4, .int 0), (3, .int 0), (2, .int (nI k)), (1, .int (nI t)), (0, .ref 1211)] [.int 0] M2 nx 0 0
                          refine v_if_eq (tgt := 165) (am_Dk d_MM_holds (k := 84) rfl) (by decide) (fun c259 => ?_) (fun c259 => ?_)
                          · refine v_iconst (v := 0) (am_Dk d_MM_holds (k := 87) rfl) (by decide) ?_
                            refine v_istore (L1 := [(6, .int 0), (5, .int 1), (4, .int 0), (3, .int 0), (2, .int (nI k)), (1, .int (nI t)), (0, .ref 1211)]) (am_Dk d_MM_holds (k := 88) rfl) (by decide) rfl ?_
                            refine v_aload_n (am_Dk d_MM_holds (k := 89) rfl) rfl ?_
                            refine v_get (am_Dk d_MM_holds (k := 90) rfl) f_MM_20 q11 rfl ?_
                            refine v_get9 (am_Dk d_MM_holds (k := 91) rfl) r_MM_98 hX.1.1 rfl ?_
                            refine v_iload_n (am_Dk d_MM_holds (k := 92) rfl) rfl ?_
                            refine v_iald (am_Dk d_MM_holds (k := 93) rfl) hMa rfl (vp_in_nI (by omega) (by omega)) ?_
                            rw [nI_clamp (n := t) (by omega)]
                            rw [show Ma t = 2 from hM2]
                            refine v_iconst (v := 2) (am_Dk d_MM_holds (k := 94) rfl) (by decide) ?_
                            refine v_icmp_ne (tgt := 198) (am_Dk d_MM_holds (k := 95) rfl) (by decide) (fun c260 => ?_) (fun c260 => ?_)
                            · exact absurd (by decide) c260
                            · refine v_aload_n (am_Dk d_MM_holds (k := 96) rfl) rfl ?_
                              refine v_get (am_Dk d_MM_holds (k := 97) rfl) f_MM_27 q11 rfl ?_
                              refine v_iload_n (am_Dk d_MM_holds (k := 98) rfl) rfl ?_
                              refine v_ldcS (i := 139) (tx := "=:=") (am_Dk d_MM_holds (k := 99) rfl) (by decide +kernel) ?_
                              refine v_callV (rest := []) (As := [.int (nI k), .ref 139]) (mc' := 0) (ms' := 0) (am_Dk d_MM_holds (k := 100) rfl) c_MM_103 (Or.inl ⟨_, _, _, _, _, hN, cq_ok11⟩) (t_MN_spells G (d := 4) (by omega) (hN) (hT) hO (hF) hA hk (by omega) (by omega) mmS_139) (by omega) (by omega) (by omega) (by simp [Value.category]) rfl (fun v261 M262 n263 h264 => ?_) (fun _ _ _ h264 => ?_)
                              rotate_left
                              · exact absurd h264.1 (by simp)
                              obtain ⟨h264, e265, e266⟩ := h264
                              replace e265 := e265.symm
                              replace e266 := e266.symm
                              subst e265
                              subst e266
                              cases h264
                              show am_V G _ _ _ _ _ 191 [(6, .int 0), (5, .int 1), (4, .int 0), (3, .int 0), (2, .int (nI k)), (1, .int (nI t)), (0, .ref 1211)] [.int (bi (spv (kn_w 15) (nmL F k) (nmW T F k)))] M2 nx 0 0
                              rw [qs15]
                              show am_V G _ _ _ _ _ 191 [(6, .int 0), (5, .int 1), (4, .int 0), (3, .int 0), (2, .int (nI k)), (1, .int (nI t)), (0, .ref 1211)] [.int 0] M2 nx 0 0
                              refine v_if_eq (tgt := 198) (am_Dk d_MM_holds (k := 101) rfl) (by decide) (fun c267 => ?_) (fun c267 => ?_)
                              · refine v_iconst (v := 0) (am_Dk d_MM_holds (k := 104) rfl) (by decide) ?_
                                refine v_istore (L1 := [(7, .int 0), (6, .int 0), (5, .int 1), (4, .int 0), (3, .int 0), (2, .int (nI k)), (1, .int (nI t)), (0, .ref 1211)]) (am_Dk d_MM_holds (k := 105) rfl) (by decide) rfl ?_
                                refine v_aload_n (am_Dk d_MM_holds (k := 106) rfl) rfl ?_
                                refine v_get (am_Dk d_MM_holds (k := 107) rfl) f_MM_20 q11 rfl ?_
                                refine v_get9 (am_Dk d_MM_holds (k := 108) rfl) r_MM_98 hX.1.1 rfl ?_
                                refine v_iload_n (am_Dk d_MM_holds (k := 109) rfl) rfl ?_
                                refine v_iald (am_Dk d_MM_holds (k := 110) rfl) hMa rfl (vp_in_nI (by omega) (by omega)) ?_
                                rw [nI_clamp (n := t) (by omega)]
                                rw [show Ma t = 2 from hM2]
                                refine v_iconst (v := 2) (am_Dk d_MM_holds (k := 111) rfl) (by decide) ?_
                                refine v_icmp_ne (tgt := 231) (am_Dk d_MM_holds (k := 112) rfl) (by decide) (fun c268 => ?_) (fun c268 => ?_)
                                · exact absurd (by decide) c268
                                · refine v_aload_n (am_Dk d_MM_holds (k := 113) rfl) rfl ?_
                                  refine v_get (am_Dk d_MM_holds (k := 114) rfl) f_MM_27 q11 rfl ?_
                                  refine v_iload_n (am_Dk d_MM_holds (k := 115) rfl) rfl ?_
                                  refine v_ldcS (i := 140) (tx := "=\\=") (am_Dk d_MM_holds (k := 116) rfl) (by decide +kernel) ?_
                                  refine v_callV (rest := []) (As := [.int (nI k), .ref 140]) (mc' := 0) (ms' := 0) (am_Dk d_MM_holds (k := 117) rfl) c_MM_103 (Or.inl ⟨_, _, _, _, _, hN, cq_ok11⟩) (t_MN_spells G (d := 4) (by omega) (hN) (hT) hO (hF) hA hk (by omega) (by omega) mmS_140) (by omega) (by omega) (by omega) (by simp [Value.category]) rfl (fun v269 M270 n271 h272 => ?_) (fun _ _ _ h272 => ?_)
                                  rotate_left
                                  · exact absurd h272.1 (by simp)
                                  obtain ⟨h272, e273, e274⟩ := h272
                                  replace e273 := e273.symm
                                  replace e274 := e274.symm
                                  subst e273
                                  subst e274
                                  cases h272
                                  show am_V G _ _ _ _ _ 224 [(7, .int 0), (6, .int 0), (5, .int 1), (4, .int 0), (3, .int 0), (2, .int (nI k)), (1, .int (nI t)), (0, .ref 1211)] [.int (bi (spv (kn_w 16) (nmL F k) (nmW T F k)))] M2 nx 0 0
                                  rw [qs16]
                                  show am_V G _ _ _ _ _ 224 [(7, .int 0), (6, .int 0), (5, .int 1), (4, .int 0), (3, .int 0), (2, .int (nI k)), (1, .int (nI t)), (0, .ref 1211)] [.int 0] M2 nx 0 0
                                  refine v_if_eq (tgt := 231) (am_Dk d_MM_holds (k := 118) rfl) (by decide) (fun c275 => ?_) (fun c275 => ?_)
                                  · refine v_iconst (v := 0) (am_Dk d_MM_holds (k := 121) rfl) (by decide) ?_
                                    refine v_istore (L1 := [(8, .int 0), (7, .int 0), (6, .int 0), (5, .int 1), (4, .int 0), (3, .int 0), (2, .int (nI k)), (1, .int (nI t)), (0, .ref 1211)]) (am_Dk d_MM_holds (k := 122) rfl) (by decide) rfl ?_
                                    refine v_iload_n (am_Dk d_MM_holds (k := 123) rfl) rfl ?_
                                    refine v_if_ne (tgt := 275) (am_Dk d_MM_holds (k := 124) rfl) (by decide) (fun c276 => ?_) (fun c276 => ?_)
                                    · exact absurd (by decide) c276
                                    · refine v_iload (am_Dk d_MM_holds (k := 125) rfl) rfl ?_
                                      refine v_if_ne (tgt := 275) (am_Dk d_MM_holds (k := 126) rfl) (by decide) (fun c277 => ?_) (fun c277 => ?_)
                                      · exact absurd (by decide) c277
                                      · refine v_iload (am_Dk d_MM_holds (k := 127) rfl) rfl ?_
                                        refine v_if_ne (tgt := 275) (am_Dk d_MM_holds (k := 128) rfl) (by decide) (fun c278 => ?_) (fun c278 => ?_)
                                        · refine v_aload_n (am_Dk d_MM_holds (k := 143) rfl) rfl ?_
                                          refine v_aload_n (am_Dk d_MM_holds (k := 144) rfl) rfl ?_
                                          refine v_get (am_Dk d_MM_holds (k := 145) rfl) f_MM_20 q11 rfl ?_
                                          refine v_iload_n (am_Dk d_MM_holds (k := 146) rfl) rfl ?_
                                          refine v_iconst (v := 0) (am_Dk d_MM_holds (k := 147) rfl) (by decide) ?_
                                          refine v_callV (rest := [.ref 1211]) (As := [.int (nI t), .int 0]) (mc' := 0) (ms' := 0) (am_Dk d_MM_holds (k := 148) rfl) c_MM_139 (Or.inl ⟨_, _, _, _, _, hX.1.1, cq_ok10⟩) (t_MT_part G (d := 0) (b := b) (i := 0) (by omega) (ARs_fr hX.1 (fun i z1 z2 => rfl)) (by omega) hFb (by omega)) (by omega) (by omega) (by omega) (by simp [Value.category]) rfl (fun v279 M280 n281 h282 => ?_) (fun _ _ _ h282 => ?_)
                                          rotate_left
                                          · exact absurd h282.1 (by simp)
                                          obtain ⟨h282, e283, e284⟩ := h282
                                          replace e283 := e283.symm
                                          replace e284 := e284.symm
                                          subst e283
                                          subst e284
                                          cases h282
                                          show am_V G _ _ _ _ _ 285 [(8, .int 0), (7, .int 0), (6, .int 0), (5, .int 1), (4, .int 0), (3, .int 0), (2, .int (nI k)), (1, .int (nI t)), (0, .ref 1211)] [.int (Pa (b + 0)), .ref 1211] M2 nx 0 0
                                          rw [hPy]
                                          show am_V G _ _ _ _ _ 285 [(8, .int 0), (7, .int 0), (6, .int 0), (5, .int 1), (4, .int 0), (3, .int 0), (2, .int (nI k)), (1, .int (nI t)), (0, .ref 1211)] [.int (nI y), .ref 1211] M2 nx 0 0
                                          refine v_callV (rest := []) (As := [.int (nI y)]) (mc' := 0) (ms' := 0) (am_Dk d_MM_holds (k := 149) rfl) c_MM_176 (Or.inl ⟨_, _, _, _, _, q11, cq_ok9⟩) (t_MM_reckon G (d := 7) (by omega) hX (by omega) (by omega) (by omega) (by omega) (by omega) hTb hLU hrcx q11 hW0 hS0 hL0 (show y < sz from by omega)) (by omega) (by omega) (by omega) (by simp [Value.category]) rfl (fun v285 M286 n287 h288 => ?_) (fun _ _ _ h288 => ?_)
                                          rotate_left
                                          · obtain ⟨_, _, _, _, hx9, _⟩ := h288; cases hx9
                                          obtain ⟨Wk1, Sg1, Lf1, rr1, h288, hx9, ⟨y1_1, y2_1, y3_1, y4_1, y5_1⟩, y6_1⟩ := h288
                                          cases h288
                                          replace hx9 := hx9.symm
                                          subst hx9
                                          have heR1 := ar_E hX.2.2.2.1 (y + 1) y (by omega) (by omega)
                                          have b289 : M286 1213 = some (.inr (10, [.ref 1214, .ref 1215, .ref 1216, .ref 1217, .ref 1218, .ref 1219, .int (nI sz), .int (nI pt)])) := (y5_1 1213 (by omega)).trans (hX.1.1)
                                          have b290 : M286 1214 = some (.inl (1, 9000, .inl Kd)) := (y5_1 1214 (by omega)).trans (hKd)
                                          have b291 : M286 1215 = some (.inl (1, 9000, .inl Nm)) := (y5_1 1215 (by omega)).trans (hNm)
                                          have b292 : M286 1216 = some (.inl (1, 9000, .inl Fi)) := (y5_1 1216 (by omega)).trans (hFi)
                                          have b293 : M286 1217 = some (.inl (1, 9000, .inl Ma)) := (y5_1 1217 (by omega)).trans (hMa)
                                          have b294 : M286 1218 = some (.inl (1, 9000, .inl Pa)) := (y5_1 1218 (by omega)).trans (hPa)
                                          have b295 : M286 1220 = some (.inr (11, [.ref 1221, .ref 1222, .ref 1223, .ref 1224, .int (nI ns), .int (nI tx)])) := (y5_1 1220 (by omega)).trans (hN)
                                          have b296 : M286 1221 = some (.inl (0, 5000, .inl T)) := (y5_1 1221 (by omega)).trans (hT)
                                          have b297 : M286 1222 = some (.inl (1, 9001, .inl A9)) := (y5_1 1222 (by omega)).trans (hF)
                                          have b298 : M286 1225 = some (.inr (12, [.ref 1226, .ref 1227, .ref 1228, .ref 1213, .ref 1220, sv, .int n9, .int a9, .int b9, .int t9, .int o9, .long u9, .ref 1229, .int l9, .ref 1230, .int p9, .int q9, .ref 1231, .int v9, .int k9, .int r9, .ref 1232])) := (y5_1 1225 (by omega)).trans (hrcx)
                                          show am_V G _ _ _ _ _ 288 [(8, .int 0), (7, .int 0), (6, .int 0), (5, .int 1), (4, .int 0), (3, .int 0), (2, .int (nI k)), (1, .int (nI t)), (0, .ref 1211)] [] M286 nx 0 0
                                          refine v_aload_n (am_Dk d_MM_holds (k := 150) rfl) rfl ?_
                                          refine v_get (am_Dk d_MM_holds (k := 151) rfl) f_MM_132 y4_1 rfl ?_
                                          refine v_lstore (L1 := [(9, .long rr1), (8, .int 0), (7, .int 0), (6, .int 0), (5, .int 1), (4, .int 0), (3, .int 0), (2, .int (nI k)), (1, .int (nI t)), (0, .ref 1211)]) (am_Dk d_MM_holds (k := 152) rfl) (by decide) rfl ?_
                                          refine v_aload_n (am_Dk d_MM_holds (k := 153) rfl) rfl ?_
                                          refine v_get (am_Dk d_MM_holds (k := 154) rfl) f_MM_123 y4_1 rfl ?_
                                          refine v_if_ne (tgt := 314) (am_Dk d_MM_holds (k := 155) rfl) (by decide) (fun c299 => ?_) (fun c299 => ?_)
                                          · have heY : ¬ (W.1 y).1 = 0 := c299
                                            refine v_aload_n (am_Dk d_MM_holds (k := 163) rfl) rfl ?_
                                            refine v_get (am_Dk d_MM_holds (k := 164) rfl) f_MM_123 y4_1 rfl ?_
                                            refine v_if_le (tgt := 328) (am_Dk d_MM_holds (k := 165) rfl) (by decide) (fun c300 => ?_) (fun c300 => ?_)
                                            · exact absurd ((errR_le heR1).mp c300) heY
                                            · try have heZ : ¬ (W.1 z).1 = 0 := fun z => c300 ((errR_le heR2).mpr z)
                                              refine v_aload_n (am_Dk d_MM_holds (k := 166) rfl) rfl ?_
                                              refine v_iconst (v := 1) (am_Dk d_MM_holds (k := 167) rfl) (by decide) ?_
                                              refine v_put (am_Dk d_MM_holds (k := 168) rfl) f_MM_64 y4_1 (Nat.le_of_ble_eq_true rfl) rfl rfl ?_
                                              refine v_iconst (v := 0) (am_Dk d_MM_holds (k := 169) rfl) (by decide) ?_
                                              have hrx7 := rx_frK hrx y5_1
                                              have hrc7 := rcell_fr hrc1 (y5_1 1225 (by omega))
                                              exact v_ireturn (am_Dk d_MM_holds (k := 170) rfl) rfl rfl (by omega) (by omega) ⟨rfl, fun i hi => (am_up_ne (show i ≠ 1211 from by omega)).trans (((y5_1 i (by omega)).trans (hfT i (by omega)))), rx_fr9 hrx7 (fun i hi => (am_up_ne (show i ≠ 1211 from by omega)).trans (rfl)), rcell_fr hrc7 ((am_up_ne (show 1225 ≠ 1211 from by decide)).trans (rfl)), ⟨⟨_, (am_up_ne (show 1236 ≠ 1211 from by omega)).trans (y1_1)⟩, ⟨_, (am_up_ne (show 1237 ≠ 1211 from by omega)).trans (y2_1)⟩, ⟨_, (am_up_ne (show 1238 ≠ 1211 from by omega)).trans (y3_1)⟩⟩, Or.inr ⟨W, t, sz, _, hok, Or.inr ⟨hcm, Or.inl ⟨by rw [hW1]; exact heY, rfl, by rw [hW1]; exact am_up_eq _ _ _⟩⟩⟩⟩
                                          · have heY : (W.1 y).1 = 0 := c299
                                            rw [heY] at y4_1
                                            refine v_aload_n (am_Dk d_MM_holds (k := 156) rfl) rfl ?_
                                            refine v_aload_n (am_Dk d_MM_holds (k := 157) rfl) rfl ?_
                                            refine v_get (am_Dk d_MM_holds (k := 158) rfl) f_MM_20 y4_1 rfl ?_
                                            refine v_iload_n (am_Dk d_MM_holds (k := 159) rfl) rfl ?_
                                            refine v_iconst (v := 1) (am_Dk d_MM_holds (k := 160) rfl) (by decide) ?_
                                            refine v_callV (rest := [.ref 1211]) (As := [.int (nI t), .int 1]) (mc' := 0) (ms' := 0) (am_Dk d_MM_holds (k := 161) rfl) c_MM_139 (Or.inl ⟨_, _, _, _, _, b289, cq_ok10⟩) (t_MT_part G (d := 0) (b := b) (i := 1) (by omega) (ARs_fr hX.1 (fun i z1 z2 => y5_1 i (by omega))) (by omega) hFb (by omega)) (by omega) (by omega) (by omega) (by simp [Value.category]) rfl (fun v301 M302 n303 h304 => ?_) (fun _ _ _ h304 => ?_)
                                            rotate_left
                                            · exact absurd h304.1 (by simp)
                                            obtain ⟨h304, e305, e306⟩ := h304
                                            replace e305 := e305.symm
                                            replace e306 := e306.symm
                                            subst e305
                                            subst e306
                                            cases h304
                                            show am_V G _ _ _ _ _ 311 [(9, .long rr1), (8, .int 0), (7, .int 0), (6, .int 0), (5, .int 1), (4, .int 0), (3, .int 0), (2, .int (nI k)), (1, .int (nI t)), (0, .ref 1211)] [.int (Pa (b + 1)), .ref 1211] M286 nx 0 0
                                            rw [hPz]
                                            show am_V G _ _ _ _ _ 311 [(9, .long rr1), (8, .int 0), (7, .int 0), (6, .int 0), (5, .int 1), (4, .int 0), (3, .int 0), (2, .int (nI k)), (1, .int (nI t)), (0, .ref 1211)] [.int (nI z), .ref 1211] M286 nx 0 0
                                            have hX2 := RSx_fr (M1 := M286) hX (fun i hi => y5_1 i (by omega))
                                            have hTb2 : tbl M286 c Vl Vg Vn P Q := tbl_fr hTb (fun i z1 z2 => y5_1 i (by omega))
                                            refine v_callV (rest := []) (As := [.int (nI z)]) (mc' := 0) (ms' := 0) (am_Dk d_MM_holds (k := 162) rfl) c_MM_176 (Or.inl ⟨_, _, _, _, _, y4_1, cq_ok9⟩) (t_MM_reckon G (d := 7) (by omega) hX2 (by omega) (by omega) (by omega) (by omega) (by omega) hTb2 hLU b298 y4_1 y1_1 y2_1 y3_1 (show z < sz from by omega)) (by omega) (by omega) (by omega) (by simp [Value.category]) rfl (fun v307 M308 n309 h310 => ?_) (fun _ _ _ h310 => ?_)
                                            rotate_left
                                            · obtain ⟨_, _, _, _, hx9, _⟩ := h310; cases hx9
                                            obtain ⟨Wk2, Sg2, Lf2, rr2, h310, hx9, ⟨y1_2, y2_2, y3_2, y4_2, y5_2⟩, y6_2⟩ := h310
                                            cases h310
                                            replace hx9 := hx9.symm
                                            subst hx9
                                            have heR2 := ar_E hX.2.2.2.1 (z + 1) z (by omega) (by omega)
                                            have b311 : M308 1213 = some (.inr (10, [.ref 1214, .ref 1215, .ref 1216, .ref 1217, .ref 1218, .ref 1219, .int (nI sz), .int (nI pt)])) := (y5_2 1213 (by omega)).trans (b289)
                                            have b312 : M308 1214 = some (.inl (1, 9000, .inl Kd)) := (y5_2 1214 (by omega)).trans (b290)
                                            have b313 : M308 1215 = some (.inl (1, 9000, .inl Nm)) := (y5_2 1215 (by omega)).trans (b291)
                                            have b314 : M308 1216 = some (.inl (1, 9000, .inl Fi)) := (y5_2 1216 (by omega)).trans (b292)
                                            have b315 : M308 1217 = some (.inl (1, 9000, .inl Ma)) := (y5_2 1217 (by omega)).trans (b293)
                                            have b316 : M308 1218 = some (.inl (1, 9000, .inl Pa)) := (y5_2 1218 (by omega)).trans (b294)
                                            have b317 : M308 1220 = some (.inr (11, [.ref 1221, .ref 1222, .ref 1223, .ref 1224, .int (nI ns), .int (nI tx)])) := (y5_2 1220 (by omega)).trans (b295)
                                            have b318 : M308 1221 = some (.inl (0, 5000, .inl T)) := (y5_2 1221 (by omega)).trans (b296)
                                            have b319 : M308 1222 = some (.inl (1, 9001, .inl A9)) := (y5_2 1222 (by omega)).trans (b297)
                                            have b320 : M308 1225 = some (.inr (12, [.ref 1226, .ref 1227, .ref 1228, .ref 1213, .ref 1220, sv, .int n9, .int a9, .int b9, .int t9, .int o9, .long u9, .ref 1229, .int l9, .ref 1230, .int p9, .int q9, .ref 1231, .int v9, .int k9, .int r9, .ref 1232])) := (y5_2 1225 (by omega)).trans (b298)
                                            show am_V G _ _ _ _ _ 314 [(9, .long rr1), (8, .int 0), (7, .int 0), (6, .int 0), (5, .int 1), (4, .int 0), (3, .int 0), (2, .int (nI k)), (1, .int (nI t)), (0, .ref 1211)] [] M308 nx 0 0
                                            refine v_aload_n (am_Dk d_MM_holds (k := 163) rfl) rfl ?_
                                            refine v_get (am_Dk d_MM_holds (k := 164) rfl) f_MM_123 y4_2 rfl ?_
                                            refine v_if_le (tgt := 328) (am_Dk d_MM_holds (k := 165) rfl) (by decide) (fun c321 => ?_) (fun c321 => ?_)
                                            · have heZ : (W.1 z).1 = 0 := (errR_le heR2).mp c321
                                              refine v_iload_n (am_Dk d_MM_holds (k := 171) rfl) rfl ?_
                                              refine v_if_eq (tgt := 350) (am_Dk d_MM_holds (k := 172) rfl) (by decide) (fun c322 => ?_) (fun c322 => ?_)
                                              · refine v_iload (am_Dk d_MM_holds (k := 182) rfl) rfl ?_
                                                refine v_if_eq (tgt := 373) (am_Dk d_MM_holds (k := 183) rfl) (by decide) (fun c323 => ?_) (fun c323 => ?_)
                                                · refine v_iload (am_Dk d_MM_holds (k := 193) rfl) rfl ?_
                                                  refine v_if_eq (tgt := 396) (am_Dk d_MM_holds (k := 194) rfl) (by decide) (fun c324 => ?_) (fun c324 => ?_)
                                                  · exact absurd c324 (by decide)
                                                  · refine v_lload (am_Dk d_MM_holds (k := 195) rfl) rfl ?_
                                                    refine v_aload_n (am_Dk d_MM_holds (k := 196) rfl) rfl ?_
                                                    refine v_get (am_Dk d_MM_holds (k := 197) rfl) f_MM_132 y4_2 rfl ?_
                                                    refine v_lcmp (am_Dk d_MM_holds (k := 198) rfl) ?_
                                                    refine v_if_gt (tgt := 392) (am_Dk d_MM_holds (k := 199) rfl) (by decide) (fun c325 => ?_) (fun c325 => ?_)
                                                    · have hcp := (lg_cmp_gt _ _).mp c325
                                                      refine v_iconst (v := 0) (am_Dk d_MM_holds (k := 202) rfl) (by decide) ?_
                                                      refine v_goto (tgt := 444) (am_Dk d_MM_holds (k := 203) rfl) (by decide) ?_
                                                      have hrx7 := rx_frK hrx y5_1
                                                      have hrc7 := rcell_fr hrc1 (y5_1 1225 (by omega))
                                                      replace hrx7 := rx_frK hrx7 y5_2
                                                      replace hrc7 := rcell_fr hrc7 (y5_2 1225 (by omega))
                                                      rw [heZ] at y4_2
                                                      have q1 := y6_1 heY
                                                      have q2 := y6_2 heZ
                                                      subst q1
                                                      subst q2
                                                      have htr : truK 13 (W.1 y).2 (W.1 z).2 = false := by rw [truK, if_neg (by decide), if_neg (by decide), if_pos rfl]; exact decide_eq_false (Int64.not_le.mpr hcp)
                                                      exact v_ireturn (am_Dk d_MM_holds (k := 228) rfl) rfl rfl (by omega) (by omega) ⟨rfl, fun i hi => ((y5_2 i (by omega)).trans ((y5_1 i (by omega)).trans (hfT i (by omega)))), rx_fr9 hrx7 (fun i hi => rfl), rcell_fr hrc7 (rfl), ⟨⟨_, y1_2⟩, ⟨_, y2_2⟩, ⟨_, y3_2⟩⟩, Or.inr ⟨W, t, sz, _, hok, Or.inr ⟨hcm, Or.inr (Or.inr ⟨by rw [hW1]; exact heY, by rw [hW2]; exact heZ, by rw [hW1, hW2, hW0x, ho, htr]; rfl, y4_2⟩)⟩⟩⟩
                                                    · have hcp := fun z => c325 ((lg_cmp_gt _ _).mpr z)
                                                      refine v_iconst (v := 1) (am_Dk d_MM_holds (k := 200) rfl) (by decide) ?_
                                                      refine v_goto (tgt := 444) (am_Dk d_MM_holds (k := 201) rfl) (by decide) ?_
                                                      have hrx7 := rx_frK hrx y5_1
                                                      have hrc7 := rcell_fr hrc1 (y5_1 1225 (by omega))
                                                      replace hrx7 := rx_frK hrx7 y5_2
                                                      replace hrc7 := rcell_fr hrc7 (y5_2 1225 (by omega))
                                                      rw [heZ] at y4_2
                                                      have q1 := y6_1 heY
                                                      have q2 := y6_2 heZ
                                                      subst q1
                                                      subst q2
                                                      have htr : truK 13 (W.1 y).2 (W.1 z).2 = true := by rw [truK, if_neg (by decide), if_neg (by decide), if_pos rfl]; exact decide_eq_true (Int64.not_lt.mp hcp)
                                                      exact v_ireturn (am_Dk d_MM_holds (k := 228) rfl) rfl rfl (by omega) (by omega) ⟨rfl, fun i hi => ((y5_2 i (by omega)).trans ((y5_1 i (by omega)).trans (hfT i (by omega)))), rx_fr9 hrx7 (fun i hi => rfl), rcell_fr hrc7 (rfl), ⟨⟨_, y1_2⟩, ⟨_, y2_2⟩, ⟨_, y3_2⟩⟩, Or.inr ⟨W, t, sz, _, hok, Or.inr ⟨hcm, Or.inr (Or.inr ⟨by rw [hW1]; exact heY, by rw [hW2]; exact heZ, by rw [hW1, hW2, hW0x, ho, htr]; rfl, y4_2⟩)⟩⟩⟩
                                                · exact absurd (by decide) c323
                                              · exact absurd (by decide) c322
                                            · try have heZ : ¬ (W.1 z).1 = 0 := fun z => c321 ((errR_le heR2).mpr z)
                                              refine v_aload_n (am_Dk d_MM_holds (k := 166) rfl) rfl ?_
                                              refine v_iconst (v := 1) (am_Dk d_MM_holds (k := 167) rfl) (by decide) ?_
                                              refine v_put (am_Dk d_MM_holds (k := 168) rfl) f_MM_64 y4_2 (Nat.le_of_ble_eq_true rfl) rfl rfl ?_
                                              refine v_iconst (v := 0) (am_Dk d_MM_holds (k := 169) rfl) (by decide) ?_
                                              have hrx7 := rx_frK hrx y5_1
                                              have hrc7 := rcell_fr hrc1 (y5_1 1225 (by omega))
                                              replace hrx7 := rx_frK hrx7 y5_2
                                              replace hrc7 := rcell_fr hrc7 (y5_2 1225 (by omega))
                                              exact v_ireturn (am_Dk d_MM_holds (k := 170) rfl) rfl rfl (by omega) (by omega) ⟨rfl, fun i hi => (am_up_ne (show i ≠ 1211 from by omega)).trans (((y5_2 i (by omega)).trans ((y5_1 i (by omega)).trans (hfT i (by omega))))), rx_fr9 hrx7 (fun i hi => (am_up_ne (show i ≠ 1211 from by omega)).trans (rfl)), rcell_fr hrc7 ((am_up_ne (show 1225 ≠ 1211 from by decide)).trans (rfl)), ⟨⟨_, (am_up_ne (show 1236 ≠ 1211 from by omega)).trans (y1_2)⟩, ⟨_, (am_up_ne (show 1237 ≠ 1211 from by omega)).trans (y2_2)⟩, ⟨_, (am_up_ne (show 1238 ≠ 1211 from by omega)).trans (y3_2)⟩⟩, Or.inr ⟨W, t, sz, _, hok, Or.inr ⟨hcm, Or.inr (Or.inl ⟨by rw [hW1]; exact heY, by rw [hW2]; exact heZ, rfl, by rw [hW2]; exact am_up_eq _ _ _⟩)⟩⟩⟩
                                        · exact absurd c278 (by decide)
                                  · exact absurd (by decide) c275
                              · exact absurd (by decide) c267
                          · exact absurd (by decide) c259
                  · exact absurd (by decide) c243
              · exact absurd (by decide) c235
        · exact absurd c226 (nI_nm1 (by omega))
      · have qs11 : bi (spv (kn_w 11) (nmL F k) (nmW T F k)) = 0 := by rw [spv_iff (by decide), show decide (spg (nmL F k) (nmW T F k) = 11) = false from decide_eq_false (fun z => absurd (ho.symm.trans z) (by decide))]; rfl
        have qs12 : bi (spv (kn_w 12) (nmL F k) (nmW T F k)) = 0 := by rw [spv_iff (by decide), show decide (spg (nmL F k) (nmW T F k) = 12) = false from decide_eq_false (fun z => absurd (ho.symm.trans z) (by decide))]; rfl
        have qs13 : bi (spv (kn_w 13) (nmL F k) (nmW T F k)) = 0 := by rw [spv_iff (by decide), show decide (spg (nmL F k) (nmW T F k) = 13) = false from decide_eq_false (fun z => absurd (ho.symm.trans z) (by decide))]; rfl
        have qs14 : bi (spv (kn_w 14) (nmL F k) (nmW T F k)) = 1 := by rw [spv_iff (by decide), show decide (spg (nmL F k) (nmW T F k) = 14) = true from decide_eq_true ho]; rfl
        have qs15 : bi (spv (kn_w 15) (nmL F k) (nmW T F k)) = 0 := by rw [spv_iff (by decide), show decide (spg (nmL F k) (nmW T F k) = 15) = false from decide_eq_false (fun z => absurd (ho.symm.trans z) (by decide))]; rfl
        have qs16 : bi (spv (kn_w 16) (nmL F k) (nmW T F k)) = 0 := by rw [spv_iff (by decide), show decide (spg (nmL F k) (nmW T F k) = 16) = false from decide_eq_false (fun z => absurd (ho.symm.trans z) (by decide))]; rfl
        have hcm : cmpK (W.2.1 t).1 = true := by rw [hW0x, ho]; rfl
        show am_V G _ _ _ _ _ 4 [(0, .ref 1211)] [.int (nI t)] M2 nx 0 0
        refine v_istore_n (L1 := [(1, .int (nI t)), (0, .ref 1211)]) (am_Dk d_MM_holds (k := 2) rfl) (by decide) rfl ?_
        refine v_iload_n (am_Dk d_MM_holds (k := 3) rfl) rfl ?_
        refine v_iconst (v := (-1)) (am_Dk d_MM_holds (k := 4) rfl) (by decide) ?_
        refine v_icmp_ne (tgt := 17) (am_Dk d_MM_holds (k := 5) rfl) (by decide) (fun c326 => ?_) (fun c326 => ?_)
        · refine v_aload_n (am_Dk d_MM_holds (k := 11) rfl) rfl ?_
          refine v_get (am_Dk d_MM_holds (k := 12) rfl) f_MM_20 q11 rfl ?_
          refine v_get9 (am_Dk d_MM_holds (k := 13) rfl) r_MM_95 hX.1.1 rfl ?_
          refine v_iload_n (am_Dk d_MM_holds (k := 14) rfl) rfl ?_
          refine v_iald (am_Dk d_MM_holds (k := 15) rfl) hNm rfl (vp_in_nI (by omega) (by omega)) ?_
          rw [nI_clamp (n := t) (by omega)]
          rw [show Nm t = nI k from hNk]
          refine v_istore_n (L1 := [(2, .int (nI k)), (1, .int (nI t)), (0, .ref 1211)]) (am_Dk d_MM_holds (k := 16) rfl) (by decide) rfl ?_
          refine v_aload_n (am_Dk d_MM_holds (k := 17) rfl) rfl ?_
          refine v_get (am_Dk d_MM_holds (k := 18) rfl) f_MM_27 q11 rfl ?_
          refine v_get (am_Dk d_MM_holds (k := 19) rfl) f_MM_181 hN rfl ?_
          refine v_if_le (tgt := 67) (am_Dk d_MM_holds (k := 20) rfl) (by decide) (fun c327 => ?_) (fun c327 => ?_)
          · exact absurd ((nI_leI (a := ns) (b := 0) (by omega) (by omega)).mp c327) (by omega)
          · refine v_aload_n (am_Dk d_MM_holds (k := 21) rfl) rfl ?_
            refine v_get (am_Dk d_MM_holds (k := 22) rfl) f_MM_20 q11 rfl ?_
            refine v_get9 (am_Dk d_MM_holds (k := 23) rfl) r_MM_98 hX.1.1 rfl ?_
            refine v_iload_n (am_Dk d_MM_holds (k := 24) rfl) rfl ?_
            refine v_iald (am_Dk d_MM_holds (k := 25) rfl) hMa rfl (vp_in_nI (by omega) (by omega)) ?_
            rw [nI_clamp (n := t) (by omega)]
            rw [show Ma t = 2 from hM2]
            refine v_iconst (v := 2) (am_Dk d_MM_holds (k := 26) rfl) (by decide) ?_
            refine v_icmp_ne (tgt := 67) (am_Dk d_MM_holds (k := 27) rfl) (by decide) (fun c328 => ?_) (fun c328 => ?_)
            · exact absurd (by decide) c328
            · refine v_aload_n (am_Dk d_MM_holds (k := 28) rfl) rfl ?_
              refine v_get (am_Dk d_MM_holds (k := 29) rfl) f_MM_27 q11 rfl ?_
              refine v_iload_n (am_Dk d_MM_holds (k := 30) rfl) rfl ?_
              refine v_ldcS (i := 135) (tx := "<") (am_Dk d_MM_holds (k := 31) rfl) (by decide +kernel) ?_
              refine v_callV (rest := []) (As := [.int (nI k), .ref 135]) (mc' := 0) (ms' := 0) (am_Dk d_MM_holds (k := 32) rfl) c_MM_103 (Or.inl ⟨_, _, _, _, _, hN, cq_ok11⟩) (t_MN_spells G (d := 4) (by omega) (hN) (hT) hO (hF) hA hk (by omega) (by omega) mmS_135) (by omega) (by omega) (by omega) (by simp [Value.category]) rfl (fun v329 M330 n331 h332 => ?_) (fun _ _ _ h332 => ?_)
              rotate_left
              · exact absurd h332.1 (by simp)
              obtain ⟨h332, e333, e334⟩ := h332
              replace e333 := e333.symm
              replace e334 := e334.symm
              subst e333
              subst e334
              cases h332
              show am_V G _ _ _ _ _ 60 [(2, .int (nI k)), (1, .int (nI t)), (0, .ref 1211)] [.int (bi (spv (kn_w 11) (nmL F k) (nmW T F k)))] M2 nx 0 0
              rw [qs11]
              show am_V G _ _ _ _ _ 60 [(2, .int (nI k)), (1, .int (nI t)), (0, .ref 1211)] [.int 0] M2 nx 0 0
              refine v_if_eq (tgt := 67) (am_Dk d_MM_holds (k := 33) rfl) (by decide) (fun c335 => ?_) (fun c335 => ?_)
              · refine v_iconst (v := 0) (am_Dk d_MM_holds (k := 36) rfl) (by decide) ?_
                refine v_istore_n (L1 := [(3, .int 0), (2, .int (nI k)), (1, .int (nI t)), (0, .ref 1211)]) (am_Dk d_MM_holds (k := 37) rfl) (by decide) rfl ?_
                refine v_aload_n (am_Dk d_MM_holds (k := 38) rfl) rfl ?_
                refine v_get (am_Dk d_MM_holds (k := 39) rfl) f_MM_20 q11 rfl ?_
                refine v_get9 (am_Dk d_MM_holds (k := 40) rfl) r_MM_98 hX.1.1 rfl ?_
                refine v_iload_n (am_Dk d_MM_holds (k := 41) rfl) rfl ?_
                refine v_iald (am_Dk d_MM_holds (k := 42) rfl) hMa rfl (vp_in_nI (by omega) (by omega)) ?_
                rw [nI_clamp (n := t) (by omega)]
                rw [show Ma t = 2 from hM2]
                refine v_iconst (v := 2) (am_Dk d_MM_holds (k := 43) rfl) (by decide) ?_
                refine v_icmp_ne (tgt := 99) (am_Dk d_MM_holds (k := 44) rfl) (by decide) (fun c336 => ?_) (fun c336 => ?_)
                · exact absurd (by decide) c336
                · refine v_aload_n (am_Dk d_MM_holds (k := 45) rfl) rfl ?_
                  refine v_get (am_Dk d_MM_holds (k := 46) rfl) f_MM_27 q11 rfl ?_
                  refine v_iload_n (am_Dk d_MM_holds (k := 47) rfl) rfl ?_
                  refine v_ldcS (i := 136) (tx := ">") (am_Dk d_MM_holds (k := 48) rfl) (by decide +kernel) ?_
                  refine v_callV (rest := []) (As := [.int (nI k), .ref 136]) (mc' := 0) (ms' := 0) (am_Dk d_MM_holds (k := 49) rfl) c_MM_103 (Or.inl ⟨_, _, _, _, _, hN, cq_ok11⟩) (t_MN_spells G (d := 4) (by omega) (hN) (hT) hO (hF) hA hk (by omega) (by omega) mmS_136) (by omega) (by omega) (by omega) (by simp [Value.category]) rfl (fun v337 M338 n339 h340 => ?_) (fun _ _ _ h340 => ?_)
                  rotate_left
                  · exact absurd h340.1 (by simp)
                  obtain ⟨h340, e341, e342⟩ := h340
                  replace e341 := e341.symm
                  replace e342 := e342.symm
                  subst e341
                  subst e342
                  cases h340
                  show am_V G _ _ _ _ _ 92 [(3, .int 0), (2, .int (nI k)), (1, .int (nI t)), (0, .ref 1211)] [.int (bi (spv (kn_w 12) (nmL F k) (nmW T F k)))] M2 nx 0 0
                  rw [qs12]
                  show am_V G _ _ _ _ _ 92 [(3, .int 0), (2, .int (nI k)), (1, .int (nI t)), (0, .ref 1211)] [.int 0] M2 nx 0 0
                  refine v_if_eq (tgt := 99) (am_Dk d_MM_holds (k := 50) rfl) (by decide) (fun c343 => ?_) (fun c343 => ?_)
                  · refine v_iconst (v := 0) (am_Dk d_MM_holds (k := 53) rfl) (by decide) ?_
                    refine v_istore (L1 := [(4, .int 0), (3, .int 0), (2, .int (nI k)), (1, .int (nI t)), (0, .ref 1211)]) (am_Dk d_MM_holds (k := 54) rfl) (by decide) rfl ?_
                    refine v_aload_n (am_Dk d_MM_holds (k := 55) rfl) rfl ?_
                    refine v_get (am_Dk d_MM_holds (k := 56) rfl) f_MM_20 q11 rfl ?_
                    refine v_get9 (am_Dk d_MM_holds (k := 57) rfl) r_MM_98 hX.1.1 rfl ?_
                    refine v_iload_n (am_Dk d_MM_holds (k := 58) rfl) rfl ?_
                    refine v_iald (am_Dk d_MM_holds (k := 59) rfl) hMa rfl (vp_in_nI (by omega) (by omega)) ?_
                    rw [nI_clamp (n := t) (by omega)]
                    rw [show Ma t = 2 from hM2]
                    refine v_iconst (v := 2) (am_Dk d_MM_holds (k := 60) rfl) (by decide) ?_
                    refine v_icmp_ne (tgt := 132) (am_Dk d_MM_holds (k := 61) rfl) (by decide) (fun c344 => ?_) (fun c344 => ?_)
                    · exact absurd (by decide) c344
                    · refine v_aload_n (am_Dk d_MM_holds (k := 62) rfl) rfl ?_
                      refine v_get (am_Dk d_MM_holds (k := 63) rfl) f_MM_27 q11 rfl ?_
                      refine v_iload_n (am_Dk d_MM_holds (k := 64) rfl) rfl ?_
                      refine v_ldcS (i := 137) (tx := "=<") (am_Dk d_MM_holds (k := 65) rfl) (by decide +kernel) ?_
                      refine v_callV (rest := []) (As := [.int (nI k), .ref 137]) (mc' := 0) (ms' := 0) (am_Dk d_MM_holds (k := 66) rfl) c_MM_103 (Or.inl ⟨_, _, _, _, _, hN, cq_ok11⟩) (t_MN_spells G (d := 4) (by omega) (hN) (hT) hO (hF) hA hk (by omega) (by omega) mmS_137) (by omega) (by omega) (by omega) (by simp [Value.category]) rfl (fun v345 M346 n347 h348 => ?_) (fun _ _ _ h348 => ?_)
                      rotate_left
                      · exact absurd h348.1 (by simp)
                      obtain ⟨h348, e349, e350⟩ := h348
                      replace e349 := e349.symm
                      replace e350 := e350.symm
                      subst e349
                      subst e350
                      cases h348
                      show am_V G _ _ _ _ _ 125 [(4, .int 0), (3, .int 0), (2, .int (nI k)), (1, .int (nI t)), (0, .ref 1211)] [.int (bi (spv (kn_w 13) (nmL F k) (nmW T F k)))] M2 nx 0 0
                      rw [qs13]
                      show am_V G _ _ _ _ _ 125 [(4, .int 0), (3, .int 0), (2, .int (nI k)), (1, .int (nI t)), (0, .ref 1211)] [.int 0] M2 nx 0 0
                      refine v_if_eq (tgt := 132) (am_Dk d_MM_holds (k := 67) rfl) (by decide) (fun c351 => ?_) (fun c351 => ?_)
                      · refine v_iconst (v := 0) (am_Dk d_MM_holds (k := 70) rfl) (by decide) ?_
                        refine v_istore (L1 := [(5, .int 0), (4, .int 0), (3, .int 0), (2, .int (nI k)), (1, .int (nI t)), (0, .ref 1211)]) (am_Dk d_MM_holds (k := 71) rfl) (by decide) rfl ?_
                        refine v_aload_n (am_Dk d_MM_holds (k := 72) rfl) rfl ?_
                        refine v_get (am_Dk d_MM_holds (k := 73) rfl) f_MM_20 q11 rfl ?_
                        refine v_get9 (am_Dk d_MM_holds (k := 74) rfl) r_MM_98 hX.1.1 rfl ?_
                        refine v_iload_n (am_Dk d_MM_holds (k := 75) rfl) rfl ?_
                        refine v_iald (am_Dk d_MM_holds (k := 76) rfl) hMa rfl (vp_in_nI (by omega) (by omega)) ?_
                        rw [nI_clamp (n := t) (by omega)]
                        rw [show Ma t = 2 from hM2]
                        refine v_iconst (v := 2) (am_Dk d_MM_holds (k := 77) rfl) (by decide) ?_
                        refine v_icmp_ne (tgt := 165) (am_Dk d_MM_holds (k := 78) rfl) (by decide) (fun c352 => ?_) (fun c352 => ?_)
                        · exact absurd (by decide) c352
                        · refine v_aload_n (am_Dk d_MM_holds (k := 79) rfl) rfl ?_
                          refine v_get (am_Dk d_MM_holds (k := 80) rfl) f_MM_27 q11 rfl ?_
                          refine v_iload_n (am_Dk d_MM_holds (k := 81) rfl) rfl ?_
                          refine v_ldcS (i := 138) (tx := ">=") (am_Dk d_MM_holds (k := 82) rfl) (by decide +kernel) ?_
                          refine v_callV (rest := []) (As := [.int (nI k), .ref 138]) (mc' := 0) (ms' := 0) (am_Dk d_MM_holds (k := 83) rfl) c_MM_103 (Or.inl ⟨_, _, _, _, _, hN, cq_ok11⟩) (t_MN_spells G (d := 4) (by omega) (hN) (hT) hO (hF) hA hk (by omega) (by omega) mmS_138) (by omega) (by omega) (by omega) (by simp [Value.category]) rfl (fun v353 M354 n355 h356 => ?_) (fun _ _ _ h356 => ?_)
                          rotate_left
                          · exact absurd h356.1 (by simp)
                          obtain ⟨h356, e357, e358⟩ := h356
                          replace e357 := e357.symm
                          replace e358 := e358.symm
                          subst e357
                          subst e358
                          cases h356
                          show am_V G _ _ _ _ _ 158 [(5, .int 0), (4, .int 0), (3, .int 0), (2, .int (nI k)), (1, .int (nI t)), (0, .ref 1211)] [.int (bi (spv (kn_w 14) (nmL F k) (nmW T F k)))] M2 nx 0 0
                          rw [qs14]
                          show am_V G _ _ _ _ _ 158 [(5, .int 0), (4, .int 0), (3, .int 0), (2, .int (nI k)), (1, .int (nI t)), (0, .ref 1211)] [.int 1] M2 nx 0 0
                          refine v_if_eq (tgt := 165) (am_Dk d_MM_holds (k := 84) rfl) (by decide) (fun c359 => ?_) (fun c359 => ?_)
                          · exact absurd c359 (by decide)
                          · refine v_iconst (v := 1) (am_Dk d_MM_holds (k := 85) rfl) (by decide) ?_
                            refine v_goto (tgt := 166) (am_Dk d_MM_holds (k := 86) rfl) (by decide) ?_
                            refine v_istore (L1 := [(6, .int 1), (5, .int 0), (4, .int 0), (3, .int 0), (2, .int (nI k)), (1, .int (nI t)), (0, .ref 1211)]) (am_Dk d_MM_holds (k := 88) rfl) (by decide) rfl ?_
                            refine v_aload_n (am_Dk d_MM_holds (k := 89) rfl) rfl ?_
                            refine v_get (am_Dk d_MM_holds (k := 90) rfl) f_MM_20 q11 rfl ?_
                            refine v_get9 (am_Dk d_MM_holds (k := 91) rfl) r_MM_98 hX.1.1 rfl ?_
                            refine v_iload_n (am_Dk d_MM_holds (k := 92) rfl) rfl ?_
                            refine v_iald (am_Dk d_MM_holds (k := 93) rfl) hMa rfl (vp_in_nI (by omega) (by omega)) ?_
                            rw [nI_clamp (n := t) (by omega)]
                            rw [show Ma t = 2 from hM2]
                            refine v_iconst (v := 2) (am_Dk d_MM_holds (k := 94) rfl) (by decide) ?_
                            refine v_icmp_ne (tgt := 198) (am_Dk d_MM_holds (k := 95) rfl) (by decide) (fun c360 => ?_) (fun c360 => ?_)
                            · exact absurd (by decide) c360
                            · refine v_aload_n (am_Dk d_MM_holds (k := 96) rfl) rfl ?_
                              refine v_get (am_Dk d_MM_holds (k := 97) rfl) f_MM_27 q11 rfl ?_
                              refine v_iload_n (am_Dk d_MM_holds (k := 98) rfl) rfl ?_
                              refine v_ldcS (i := 139) (tx := "=:=") (am_Dk d_MM_holds (k := 99) rfl) (by decide +kernel) ?_
                              refine v_callV (rest := []) (As := [.int (nI k), .ref 139]) (mc' := 0) (ms' := 0) (am_Dk d_MM_holds (k := 100) rfl) c_MM_103 (Or.inl ⟨_, _, _, _, _, hN, cq_ok11⟩) (t_MN_spells G (d := 4) (by omega) (hN) (hT) hO (hF) hA hk (by omega) (by omega) mmS_139) (by omega) (by omega) (by omega) (by simp [Value.category]) rfl (fun v361 M362 n363 h364 => ?_) (fun _ _ _ h364 => ?_)
                              rotate_left
                              · exact absurd h364.1 (by simp)
                              obtain ⟨h364, e365, e366⟩ := h364
                              replace e365 := e365.symm
                              replace e366 := e366.symm
                              subst e365
                              subst e366
                              cases h364
                              show am_V G _ _ _ _ _ 191 [(6, .int 1), (5, .int 0), (4, .int 0), (3, .int 0), (2, .int (nI k)), (1, .int (nI t)), (0, .ref 1211)] [.int (bi (spv (kn_w 15) (nmL F k) (nmW T F k)))] M2 nx 0 0
                              rw [qs15]
                              show am_V G _ _ _ _ _ 191 [(6, .int 1), (5, .int 0), (4, .int 0), (3, .int 0), (2, .int (nI k)), (1, .int (nI t)), (0, .ref 1211)] [.int 0] M2 nx 0 0
                              refine v_if_eq (tgt := 198) (am_Dk d_MM_holds (k := 101) rfl) (by decide) (fun c367 => ?_) (fun c367 => ?_)
                              · refine v_iconst (v := 0) (am_Dk d_MM_holds (k := 104) rfl) (by decide) ?_
                                refine v_istore (L1 := [(7, .int 0), (6, .int 1), (5, .int 0), (4, .int 0), (3, .int 0), (2, .int (nI k)), (1, .int (nI t)), (0, .ref 1211)]) (am_Dk d_MM_holds (k := 105) rfl) (by decide) rfl ?_
                                refine v_aload_n (am_Dk d_MM_holds (k := 106) rfl) rfl ?_
                                refine v_get (am_Dk d_MM_holds (k := 107) rfl) f_MM_20 q11 rfl ?_
                                refine v_get9 (am_Dk d_MM_holds (k := 108) rfl) r_MM_98 hX.1.1 rfl ?_
                                refine v_iload_n (am_Dk d_MM_holds (k := 109) rfl) rfl ?_
                                refine v_iald (am_Dk d_MM_holds (k := 110) rfl) hMa rfl (vp_in_nI (by omega) (by omega)) ?_
                                rw [nI_clamp (n := t) (by omega)]
                                rw [show Ma t = 2 from hM2]
                                refine v_iconst (v := 2) (am_Dk d_MM_holds (k := 111) rfl) (by decide) ?_
                                refine v_icmp_ne (tgt := 231) (am_Dk d_MM_holds (k := 112) rfl) (by decide) (fun c368 => ?_) (fun c368 => ?_)
                                · exact absurd (by decide) c368
                                · refine v_aload_n (am_Dk d_MM_holds (k := 113) rfl) rfl ?_
                                  refine v_get (am_Dk d_MM_holds (k := 114) rfl) f_MM_27 q11 rfl ?_
                                  refine v_iload_n (am_Dk d_MM_holds (k := 115) rfl) rfl ?_
                                  refine v_ldcS (i := 140) (tx := "=\\=") (am_Dk d_MM_holds (k := 116) rfl) (by decide +kernel) ?_
                                  refine v_callV (rest := []) (As := [.int (nI k), .ref 140]) (mc' := 0) (ms' := 0) (am_Dk d_MM_holds (k := 117) rfl) c_MM_103 (Or.inl ⟨_, _, _, _, _, hN, cq_ok11⟩) (t_MN_spells G (d := 4) (by omega) (hN) (hT) hO (hF) hA hk (by omega) (by omega) mmS_140) (by omega) (by omega) (by omega) (by simp [Value.category]) rfl (fun v369 M370 n371 h372 => ?_) (fun _ _ _ h372 => ?_)
                                  rotate_left
                                  · exact absurd h372.1 (by simp)
                                  obtain ⟨h372, e373, e374⟩ := h372
                                  replace e373 := e373.symm
                                  replace e374 := e374.symm
                                  subst e373
                                  subst e374
                                  cases h372
                                  show am_V G _ _ _ _ _ 224 [(7, .int 0), (6, .int 1), (5, .int 0), (4, .int 0), (3, .int 0), (2, .int (nI k)), (1, .int (nI t)), (0, .ref 1211)] [.int (bi (spv (kn_w 16) (nmL F k) (nmW T F k)))] M2 nx 0 0
                                  rw [qs16]
                                  show am_V G _ _ _ _ _ 224 [(7, .int 0), (6, .int 1), (5, .int 0), (4, .int 0), (3, .int 0), (2, .int (nI k)), (1, .int (nI t)), (0, .ref 1211)] [.int 0] M2 nx 0 0
                                  refine v_if_eq (tgt := 231) (am_Dk d_MM_holds (k := 118) rfl) (by decide) (fun c375 => ?_) (fun c375 => ?_)
                                  · refine v_iconst (v := 0) (am_Dk d_MM_holds (k := 121) rfl) (by decide) ?_
                                    refine v_istore (L1 := [(8, .int 0), (7, .int 0), (6, .int 1), (5, .int 0), (4, .int 0), (3, .int 0), (2, .int (nI k)), (1, .int (nI t)), (0, .ref 1211)]) (am_Dk d_MM_holds (k := 122) rfl) (by decide) rfl ?_
                                    refine v_iload_n (am_Dk d_MM_holds (k := 123) rfl) rfl ?_
                                    refine v_if_ne (tgt := 275) (am_Dk d_MM_holds (k := 124) rfl) (by decide) (fun c376 => ?_) (fun c376 => ?_)
                                    · exact absurd (by decide) c376
                                    · refine v_iload (am_Dk d_MM_holds (k := 125) rfl) rfl ?_
                                      refine v_if_ne (tgt := 275) (am_Dk d_MM_holds (k := 126) rfl) (by decide) (fun c377 => ?_) (fun c377 => ?_)
                                      · exact absurd (by decide) c377
                                      · refine v_iload (am_Dk d_MM_holds (k := 127) rfl) rfl ?_
                                        refine v_if_ne (tgt := 275) (am_Dk d_MM_holds (k := 128) rfl) (by decide) (fun c378 => ?_) (fun c378 => ?_)
                                        · exact absurd (by decide) c378
                                        · refine v_iload (am_Dk d_MM_holds (k := 129) rfl) rfl ?_
                                          refine v_if_ne (tgt := 275) (am_Dk d_MM_holds (k := 130) rfl) (by decide) (fun c379 => ?_) (fun c379 => ?_)
                                          · refine v_aload_n (am_Dk d_MM_holds (k := 143) rfl) rfl ?_
                                            refine v_aload_n (am_Dk d_MM_holds (k := 144) rfl) rfl ?_
                                            refine v_get (am_Dk d_MM_holds (k := 145) rfl) f_MM_20 q11 rfl ?_
                                            refine v_iload_n (am_Dk d_MM_holds (k := 146) rfl) rfl ?_
                                            refine v_iconst (v := 0) (am_Dk d_MM_holds (k := 147) rfl) (by decide) ?_
                                            refine v_callV (rest := [.ref 1211]) (As := [.int (nI t), .int 0]) (mc' := 0) (ms' := 0) (am_Dk d_MM_holds (k := 148) rfl) c_MM_139 (Or.inl ⟨_, _, _, _, _, hX.1.1, cq_ok10⟩) (t_MT_part G (d := 0) (b := b) (i := 0) (by omega) (ARs_fr hX.1 (fun i z1 z2 => rfl)) (by omega) hFb (by omega)) (by omega) (by omega) (by omega) (by simp [Value.category]) rfl (fun v380 M381 n382 h383 => ?_) (fun _ _ _ h383 => ?_)
                                            rotate_left
                                            · exact absurd h383.1 (by simp)
                                            obtain ⟨h383, e384, e385⟩ := h383
                                            replace e384 := e384.symm
                                            replace e385 := e385.symm
                                            subst e384
                                            subst e385
                                            cases h383
                                            show am_V G _ _ _ _ _ 285 [(8, .int 0), (7, .int 0), (6, .int 1), (5, .int 0), (4, .int 0), (3, .int 0), (2, .int (nI k)), (1, .int (nI t)), (0, .ref 1211)] [.int (Pa (b + 0)), .ref 1211] M2 nx 0 0
                                            rw [hPy]
                                            show am_V G _ _ _ _ _ 285 [(8, .int 0), (7, .int 0), (6, .int 1), (5, .int 0), (4, .int 0), (3, .int 0), (2, .int (nI k)), (1, .int (nI t)), (0, .ref 1211)] [.int (nI y), .ref 1211] M2 nx 0 0
                                            refine v_callV (rest := []) (As := [.int (nI y)]) (mc' := 0) (ms' := 0) (am_Dk d_MM_holds (k := 149) rfl) c_MM_176 (Or.inl ⟨_, _, _, _, _, q11, cq_ok9⟩) (t_MM_reckon G (d := 7) (by omega) hX (by omega) (by omega) (by omega) (by omega) (by omega) hTb hLU hrcx q11 hW0 hS0 hL0 (show y < sz from by omega)) (by omega) (by omega) (by omega) (by simp [Value.category]) rfl (fun v386 M387 n388 h389 => ?_) (fun _ _ _ h389 => ?_)
                                            rotate_left
                                            · obtain ⟨_, _, _, _, hx9, _⟩ := h389; cases hx9
                                            obtain ⟨Wk1, Sg1, Lf1, rr1, h389, hx9, ⟨y1_1, y2_1, y3_1, y4_1, y5_1⟩, y6_1⟩ := h389
                                            cases h389
                                            replace hx9 := hx9.symm
                                            subst hx9
                                            have heR1 := ar_E hX.2.2.2.1 (y + 1) y (by omega) (by omega)
                                            have b390 : M387 1213 = some (.inr (10, [.ref 1214, .ref 1215, .ref 1216, .ref 1217, .ref 1218, .ref 1219, .int (nI sz), .int (nI pt)])) := (y5_1 1213 (by omega)).trans (hX.1.1)
                                            have b391 : M387 1214 = some (.inl (1, 9000, .inl Kd)) := (y5_1 1214 (by omega)).trans (hKd)
                                            have b392 : M387 1215 = some (.inl (1, 9000, .inl Nm)) := (y5_1 1215 (by omega)).trans (hNm)
                                            have b393 : M387 1216 = some (.inl (1, 9000, .inl Fi)) := (y5_1 1216 (by omega)).trans (hFi)
                                            have b394 : M387 1217 = some (.inl (1, 9000, .inl Ma)) := (y5_1 1217 (by omega)).trans (hMa)
                                            have b395 : M387 1218 = some (.inl (1, 9000, .inl Pa)) := (y5_1 1218 (by omega)).trans (hPa)
                                            have b396 : M387 1220 = some (.inr (11, [.ref 1221, .ref 1222, .ref 1223, .ref 1224, .int (nI ns), .int (nI tx)])) := (y5_1 1220 (by omega)).trans (hN)
                                            have b397 : M387 1221 = some (.inl (0, 5000, .inl T)) := (y5_1 1221 (by omega)).trans (hT)
                                            have b398 : M387 1222 = some (.inl (1, 9001, .inl A9)) := (y5_1 1222 (by omega)).trans (hF)
                                            have b399 : M387 1225 = some (.inr (12, [.ref 1226, .ref 1227, .ref 1228, .ref 1213, .ref 1220, sv, .int n9, .int a9, .int b9, .int t9, .int o9, .long u9, .ref 1229, .int l9, .ref 1230, .int p9, .int q9, .ref 1231, .int v9, .int k9, .int r9, .ref 1232])) := (y5_1 1225 (by omega)).trans (hrcx)
                                            show am_V G _ _ _ _ _ 288 [(8, .int 0), (7, .int 0), (6, .int 1), (5, .int 0), (4, .int 0), (3, .int 0), (2, .int (nI k)), (1, .int (nI t)), (0, .ref 1211)] [] M387 nx 0 0
                                            refine v_aload_n (am_Dk d_MM_holds (k := 150) rfl) rfl ?_
                                            refine v_get (am_Dk d_MM_holds (k := 151) rfl) f_MM_132 y4_1 rfl ?_
                                            refine v_lstore (L1 := [(9, .long rr1), (8, .int 0), (7, .int 0), (6, .int 1), (5, .int 0), (4, .int 0), (3, .int 0), (2, .int (nI k)), (1, .int (nI t)), (0, .ref 1211)]) (am_Dk d_MM_holds (k := 152) rfl) (by decide) rfl ?_
                                            refine v_aload_n (am_Dk d_MM_holds (k := 153) rfl) rfl ?_
                                            refine v_get (am_Dk d_MM_holds (k := 154) rfl) f_MM_123 y4_1 rfl ?_
                                            refine v_if_ne (tgt := 314) (am_Dk d_MM_holds (k := 155) rfl) (by decide) (fun c400 => ?_) (fun c400 => ?_)
                                            · have heY : ¬ (W.1 y).1 = 0 := c400
                                              refine v_aload_n (am_Dk d_MM_holds (k := 163) rfl) rfl ?_
                                              refine v_get (am_Dk d_MM_holds (k := 164) rfl) f_MM_123 y4_1 rfl ?_
                                              refine v_if_le (tgt := 328) (am_Dk d_MM_holds (k := 165) rfl) (by decide) (fun c401 => ?_) (fun c401 => ?_)
                                              · exact absurd ((errR_le heR1).mp c401) heY
                                              · try have heZ : ¬ (W.1 z).1 = 0 := fun z => c401 ((errR_le heR2).mpr z)
                                                refine v_aload_n (am_Dk d_MM_holds (k := 166) rfl) rfl ?_
                                                refine v_iconst (v := 1) (am_Dk d_MM_holds (k := 167) rfl) (by decide) ?_
                                                refine v_put (am_Dk d_MM_holds (k := 168) rfl) f_MM_64 y4_1 (Nat.le_of_ble_eq_true rfl) rfl rfl ?_
                                                refine v_iconst (v := 0) (am_Dk d_MM_holds (k := 169) rfl) (by decide) ?_
                                                have hrx7 := rx_frK hrx y5_1
                                                have hrc7 := rcell_fr hrc1 (y5_1 1225 (by omega))
                                                exact v_ireturn (am_Dk d_MM_holds (k := 170) rfl) rfl rfl (by omega) (by omega) ⟨rfl, fun i hi => (am_up_ne (show i ≠ 1211 from by omega)).trans (((y5_1 i (by omega)).trans (hfT i (by omega)))), rx_fr9 hrx7 (fun i hi => (am_up_ne (show i ≠ 1211 from by omega)).trans (rfl)), rcell_fr hrc7 ((am_up_ne (show 1225 ≠ 1211 from by decide)).trans (rfl)), ⟨⟨_, (am_up_ne (show 1236 ≠ 1211 from by omega)).trans (y1_1)⟩, ⟨_, (am_up_ne (show 1237 ≠ 1211 from by omega)).trans (y2_1)⟩, ⟨_, (am_up_ne (show 1238 ≠ 1211 from by omega)).trans (y3_1)⟩⟩, Or.inr ⟨W, t, sz, _, hok, Or.inr ⟨hcm, Or.inl ⟨by rw [hW1]; exact heY, rfl, by rw [hW1]; exact am_up_eq _ _ _⟩⟩⟩⟩
                                            · have heY : (W.1 y).1 = 0 := c400
                                              rw [heY] at y4_1
                                              refine v_aload_n (am_Dk d_MM_holds (k := 156) rfl) rfl ?_
                                              refine v_aload_n (am_Dk d_MM_holds (k := 157) rfl) rfl ?_
                                              refine v_get (am_Dk d_MM_holds (k := 158) rfl) f_MM_20 y4_1 rfl ?_
                                              refine v_iload_n (am_Dk d_MM_holds (k := 159) rfl) rfl ?_
                                              refine v_iconst (v := 1) (am_Dk d_MM_holds (k := 160) rfl) (by decide) ?_
                                              refine v_callV (rest := [.ref 1211]) (As := [.int (nI t), .int 1]) (mc' := 0) (ms' := 0) (am_Dk d_MM_holds (k := 161) rfl) c_MM_139 (Or.inl ⟨_, _, _, _, _, b390, cq_ok10⟩) (t_MT_part G (d := 0) (b := b) (i := 1) (by omega) (ARs_fr hX.1 (fun i z1 z2 => y5_1 i (by omega))) (by omega) hFb (by omega)) (by omega) (by omega) (by omega) (by simp [Value.category]) rfl (fun v402 M403 n404 h405 => ?_) (fun _ _ _ h405 => ?_)
                                              rotate_left
                                              · exact absurd h405.1 (by simp)
                                              obtain ⟨h405, e406, e407⟩ := h405
                                              replace e406 := e406.symm
                                              replace e407 := e407.symm
                                              subst e406
                                              subst e407
                                              cases h405
                                              show am_V G _ _ _ _ _ 311 [(9, .long rr1), (8, .int 0), (7, .int 0), (6, .int 1), (5, .int 0), (4, .int 0), (3, .int 0), (2, .int (nI k)), (1, .int (nI t)), (0, .ref 1211)] [.int (Pa (b + 1)), .ref 1211] M387 nx 0 0
                                              rw [hPz]
                                              show am_V G _ _ _ _ _ 311 [(9, .long rr1), (8, .int 0), (7, .int 0), (6, .int 1), (5, .int 0), (4, .int 0), (3, .int 0), (2, .int (nI k)), (1, .int (nI t)), (0, .ref 1211)] [.int (nI z), .ref 1211] M387 nx 0 0
                                              have hX2 := RSx_fr (M1 := M387) hX (fun i hi => y5_1 i (by omega))
                                              have hTb2 : tbl M387 c Vl Vg Vn P Q := tbl_fr hTb (fun i z1 z2 => y5_1 i (by omega))
                                              refine v_callV (rest := []) (As := [.int (nI z)]) (mc' := 0) (ms' := 0) (am_Dk d_MM_holds (k := 162) rfl) c_MM_176 (Or.inl ⟨_, _, _, _, _, y4_1, cq_ok9⟩) (t_MM_reckon G (d := 7) (by omega) hX2 (by omega) (by omega) (by omega) (by omega) (by omega) hTb2 hLU b399 y4_1 y1_1 y2_1 y3_1 (show z < sz from by omega)) (by omega) (by omega) (by omega) (by simp [Value.category]) rfl (fun v408 M409 n410 h411 => ?_) (fun _ _ _ h411 => ?_)
                                              rotate_left
                                              · obtain ⟨_, _, _, _, hx9, _⟩ := h411; cases hx9
                                              obtain ⟨Wk2, Sg2, Lf2, rr2, h411, hx9, ⟨y1_2, y2_2, y3_2, y4_2, y5_2⟩, y6_2⟩ := h411
                                              cases h411
                                              replace hx9 := hx9.symm
                                              subst hx9
                                              have heR2 := ar_E hX.2.2.2.1 (z + 1) z (by omega) (by omega)
                                              have b412 : M409 1213 = some (.inr (10, [.ref 1214, .ref 1215, .ref 1216, .ref 1217, .ref 1218, .ref 1219, .int (nI sz), .int (nI pt)])) := (y5_2 1213 (by omega)).trans (b390)
                                              have b413 : M409 1214 = some (.inl (1, 9000, .inl Kd)) := (y5_2 1214 (by omega)).trans (b391)
                                              have b414 : M409 1215 = some (.inl (1, 9000, .inl Nm)) := (y5_2 1215 (by omega)).trans (b392)
                                              have b415 : M409 1216 = some (.inl (1, 9000, .inl Fi)) := (y5_2 1216 (by omega)).trans (b393)
                                              have b416 : M409 1217 = some (.inl (1, 9000, .inl Ma)) := (y5_2 1217 (by omega)).trans (b394)
                                              have b417 : M409 1218 = some (.inl (1, 9000, .inl Pa)) := (y5_2 1218 (by omega)).trans (b395)
                                              have b418 : M409 1220 = some (.inr (11, [.ref 1221, .ref 1222, .ref 1223, .ref 1224, .int (nI ns), .int (nI tx)])) := (y5_2 1220 (by omega)).trans (b396)
                                              have b419 : M409 1221 = some (.inl (0, 5000, .inl T)) := (y5_2 1221 (by omega)).trans (b397)
                                              have b420 : M409 1222 = some (.inl (1, 9001, .inl A9)) := (y5_2 1222 (by omega)).trans (b398)
                                              have b421 : M409 1225 = some (.inr (12, [.ref 1226, .ref 1227, .ref 1228, .ref 1213, .ref 1220, sv, .int n9, .int a9, .int b9, .int t9, .int o9, .long u9, .ref 1229, .int l9, .ref 1230, .int p9, .int q9, .ref 1231, .int v9, .int k9, .int r9, .ref 1232])) := (y5_2 1225 (by omega)).trans (b399)
                                              show am_V G _ _ _ _ _ 314 [(9, .long rr1), (8, .int 0), (7, .int 0), (6, .int 1), (5, .int 0), (4, .int 0), (3, .int 0), (2, .int (nI k)), (1, .int (nI t)), (0, .ref 1211)] [] M409 nx 0 0
                                              refine v_aload_n (am_Dk d_MM_holds (k := 163) rfl) rfl ?_
                                              refine v_get (am_Dk d_MM_holds (k := 164) rfl) f_MM_123 y4_2 rfl ?_
                                              refine v_if_le (tgt := 328) (am_Dk d_MM_holds (k := 165) rfl) (by decide) (fun c422 => ?_) (fun c422 => ?_)
                                              · have heZ : (W.1 z).1 = 0 := (errR_le heR2).mp c422
                                                refine v_iload_n (am_Dk d_MM_holds (k := 171) rfl) rfl ?_
                                                refine v_if_eq (tgt := 350) (am_Dk d_MM_holds (k := 172) rfl) (by decide) (fun c423 => ?_) (fun c423 => ?_)
                                                · refine v_iload (am_Dk d_MM_holds (k := 182) rfl) rfl ?_
                                                  refine v_if_eq (tgt := 373) (am_Dk d_MM_holds (k := 183) rfl) (by decide) (fun c424 => ?_) (fun c424 => ?_)
                                                  · refine v_iload (am_Dk d_MM_holds (k := 193) rfl) rfl ?_
                                                    refine v_if_eq (tgt := 396) (am_Dk d_MM_holds (k := 194) rfl) (by decide) (fun c425 => ?_) (fun c425 => ?_)
                                                    · refine v_iload (am_Dk d_MM_holds (k := 204) rfl) rfl ?_
                                                      refine v_if_eq (tgt := 419) (am_Dk d_MM_holds (k := 205) rfl) (by decide) (fun c426 => ?_) (fun c426 => ?_)
                                                      · exact absurd c426 (by decide)
                                                      · refine v_lload (am_Dk d_MM_holds (k := 206) rfl) rfl ?_
                                                        refine v_aload_n (am_Dk d_MM_holds (k := 207) rfl) rfl ?_
                                                        refine v_get (am_Dk d_MM_holds (k := 208) rfl) f_MM_132 y4_2 rfl ?_
                                                        refine v_lcmp (am_Dk d_MM_holds (k := 209) rfl) ?_
                                                        refine v_if_lt (tgt := 415) (am_Dk d_MM_holds (k := 210) rfl) (by decide) (fun c427 => ?_) (fun c427 => ?_)
                                                        · have hcp := (lg_cmp_lt _ _).mp c427
                                                          refine v_iconst (v := 0) (am_Dk d_MM_holds (k := 213) rfl) (by decide) ?_
                                                          refine v_goto (tgt := 444) (am_Dk d_MM_holds (k := 214) rfl) (by decide) ?_
                                                          have hrx7 := rx_frK hrx y5_1
                                                          have hrc7 := rcell_fr hrc1 (y5_1 1225 (by omega))
                                                          replace hrx7 := rx_frK hrx7 y5_2
                                                          replace hrc7 := rcell_fr hrc7 (y5_2 1225 (by omega))
                                                          rw [heZ] at y4_2
                                                          have q1 := y6_1 heY
                                                          have q2 := y6_2 heZ
                                                          subst q1
                                                          subst q2
                                                          have htr : truK 14 (W.1 y).2 (W.1 z).2 = false := by rw [truK, if_neg (by decide), if_neg (by decide), if_neg (by decide), if_pos rfl]; exact decide_eq_false (Int64.not_le.mpr hcp)
                                                          exact v_ireturn (am_Dk d_MM_holds (k := 228) rfl) rfl rfl (by omega) (by omega) ⟨rfl, fun i hi => ((y5_2 i (by omega)).trans ((y5_1 i (by omega)).trans (hfT i (by omega)))), rx_fr9 hrx7 (fun i hi => rfl), rcell_fr hrc7 (rfl), ⟨⟨_, y1_2⟩, ⟨_, y2_2⟩, ⟨_, y3_2⟩⟩, Or.inr ⟨W, t, sz, _, hok, Or.inr ⟨hcm, Or.inr (Or.inr ⟨by rw [hW1]; exact heY, by rw [hW2]; exact heZ, by rw [hW1, hW2, hW0x, ho, htr]; rfl, y4_2⟩)⟩⟩⟩
                                                        · have hcp := fun z => c427 ((lg_cmp_lt _ _).mpr z)
                                                          refine v_iconst (v := 1) (am_Dk d_MM_holds (k := 211) rfl) (by decide) ?_
                                                          refine v_goto (tgt := 444) (am_Dk d_MM_holds (k := 212) rfl) (by decide) ?_
                                                          have hrx7 := rx_frK hrx y5_1
                                                          have hrc7 := rcell_fr hrc1 (y5_1 1225 (by omega))
                                                          replace hrx7 := rx_frK hrx7 y5_2
                                                          replace hrc7 := rcell_fr hrc7 (y5_2 1225 (by omega))
                                                          rw [heZ] at y4_2
                                                          have q1 := y6_1 heY
                                                          have q2 := y6_2 heZ
                                                          subst q1
                                                          subst q2
                                                          have htr : truK 14 (W.1 y).2 (W.1 z).2 = true := by rw [truK, if_neg (by decide), if_neg (by decide), if_neg (by decide), if_pos rfl]; exact decide_eq_true (Int64.not_lt.mp hcp)
                                                          exact v_ireturn (am_Dk d_MM_holds (k := 228) rfl) rfl rfl (by omega) (by omega) ⟨rfl, fun i hi => ((y5_2 i (by omega)).trans ((y5_1 i (by omega)).trans (hfT i (by omega)))), rx_fr9 hrx7 (fun i hi => rfl), rcell_fr hrc7 (rfl), ⟨⟨_, y1_2⟩, ⟨_, y2_2⟩, ⟨_, y3_2⟩⟩, Or.inr ⟨W, t, sz, _, hok, Or.inr ⟨hcm, Or.inr (Or.inr ⟨by rw [hW1]; exact heY, by rw [hW2]; exact heZ, by rw [hW1, hW2, hW0x, ho, htr]; rfl, y4_2⟩)⟩⟩⟩
                                                    · exact absurd (by decide) c425
                                                  · exact absurd (by decide) c424
                                                · exact absurd (by decide) c423
                                              · try have heZ : ¬ (W.1 z).1 = 0 := fun z => c422 ((errR_le heR2).mpr z)
                                                refine v_aload_n (am_Dk d_MM_holds (k := 166) rfl) rfl ?_
                                                refine v_iconst (v := 1) (am_Dk d_MM_holds (k := 167) rfl) (by decide) ?_
                                                refine v_put (am_Dk d_MM_holds (k := 168) rfl) f_MM_64 y4_2 (Nat.le_of_ble_eq_true rfl) rfl rfl ?_
                                                refine v_iconst (v := 0) (am_Dk d_MM_holds (k := 169) rfl) (by decide) ?_
                                                have hrx7 := rx_frK hrx y5_1
                                                have hrc7 := rcell_fr hrc1 (y5_1 1225 (by omega))
                                                replace hrx7 := rx_frK hrx7 y5_2
                                                replace hrc7 := rcell_fr hrc7 (y5_2 1225 (by omega))
                                                exact v_ireturn (am_Dk d_MM_holds (k := 170) rfl) rfl rfl (by omega) (by omega) ⟨rfl, fun i hi => (am_up_ne (show i ≠ 1211 from by omega)).trans (((y5_2 i (by omega)).trans ((y5_1 i (by omega)).trans (hfT i (by omega))))), rx_fr9 hrx7 (fun i hi => (am_up_ne (show i ≠ 1211 from by omega)).trans (rfl)), rcell_fr hrc7 ((am_up_ne (show 1225 ≠ 1211 from by decide)).trans (rfl)), ⟨⟨_, (am_up_ne (show 1236 ≠ 1211 from by omega)).trans (y1_2)⟩, ⟨_, (am_up_ne (show 1237 ≠ 1211 from by omega)).trans (y2_2)⟩, ⟨_, (am_up_ne (show 1238 ≠ 1211 from by omega)).trans (y3_2)⟩⟩, Or.inr ⟨W, t, sz, _, hok, Or.inr ⟨hcm, Or.inr (Or.inl ⟨by rw [hW1]; exact heY, by rw [hW2]; exact heZ, rfl, by rw [hW2]; exact am_up_eq _ _ _⟩)⟩⟩⟩
                                          · exact absurd c379 (by decide)
                                  · exact absurd (by decide) c375
                              · exact absurd (by decide) c367
                      · exact absurd (by decide) c351
                  · exact absurd (by decide) c343
              · exact absurd (by decide) c335
        · exact absurd c326 (nI_nm1 (by omega))
      · have qs11 : bi (spv (kn_w 11) (nmL F k) (nmW T F k)) = 0 := by rw [spv_iff (by decide), show decide (spg (nmL F k) (nmW T F k) = 11) = false from decide_eq_false (fun z => absurd (ho.symm.trans z) (by decide))]; rfl
        have qs12 : bi (spv (kn_w 12) (nmL F k) (nmW T F k)) = 0 := by rw [spv_iff (by decide), show decide (spg (nmL F k) (nmW T F k) = 12) = false from decide_eq_false (fun z => absurd (ho.symm.trans z) (by decide))]; rfl
        have qs13 : bi (spv (kn_w 13) (nmL F k) (nmW T F k)) = 0 := by rw [spv_iff (by decide), show decide (spg (nmL F k) (nmW T F k) = 13) = false from decide_eq_false (fun z => absurd (ho.symm.trans z) (by decide))]; rfl
        have qs14 : bi (spv (kn_w 14) (nmL F k) (nmW T F k)) = 0 := by rw [spv_iff (by decide), show decide (spg (nmL F k) (nmW T F k) = 14) = false from decide_eq_false (fun z => absurd (ho.symm.trans z) (by decide))]; rfl
        have qs15 : bi (spv (kn_w 15) (nmL F k) (nmW T F k)) = 1 := by rw [spv_iff (by decide), show decide (spg (nmL F k) (nmW T F k) = 15) = true from decide_eq_true ho]; rfl
        have qs16 : bi (spv (kn_w 16) (nmL F k) (nmW T F k)) = 0 := by rw [spv_iff (by decide), show decide (spg (nmL F k) (nmW T F k) = 16) = false from decide_eq_false (fun z => absurd (ho.symm.trans z) (by decide))]; rfl
        have hcm : cmpK (W.2.1 t).1 = true := by rw [hW0x, ho]; rfl
        show am_V G _ _ _ _ _ 4 [(0, .ref 1211)] [.int (nI t)] M2 nx 0 0
        refine v_istore_n (L1 := [(1, .int (nI t)), (0, .ref 1211)]) (am_Dk d_MM_holds (k := 2) rfl) (by decide) rfl ?_
        refine v_iload_n (am_Dk d_MM_holds (k := 3) rfl) rfl ?_
        refine v_iconst (v := (-1)) (am_Dk d_MM_holds (k := 4) rfl) (by decide) ?_
        refine v_icmp_ne (tgt := 17) (am_Dk d_MM_holds (k := 5) rfl) (by decide) (fun c428 => ?_) (fun c428 => ?_)
        · refine v_aload_n (am_Dk d_MM_holds (k := 11) rfl) rfl ?_
          refine v_get (am_Dk d_MM_holds (k := 12) rfl) f_MM_20 q11 rfl ?_
          refine v_get9 (am_Dk d_MM_holds (k := 13) rfl) r_MM_95 hX.1.1 rfl ?_
          refine v_iload_n (am_Dk d_MM_holds (k := 14) rfl) rfl ?_
          refine v_iald (am_Dk d_MM_holds (k := 15) rfl) hNm rfl (vp_in_nI (by omega) (by omega)) ?_
          rw [nI_clamp (n := t) (by omega)]
          rw [show Nm t = nI k from hNk]
          refine v_istore_n (L1 := [(2, .int (nI k)), (1, .int (nI t)), (0, .ref 1211)]) (am_Dk d_MM_holds (k := 16) rfl) (by decide) rfl ?_
          refine v_aload_n (am_Dk d_MM_holds (k := 17) rfl) rfl ?_
          refine v_get (am_Dk d_MM_holds (k := 18) rfl) f_MM_27 q11 rfl ?_
          refine v_get (am_Dk d_MM_holds (k := 19) rfl) f_MM_181 hN rfl ?_
          refine v_if_le (tgt := 67) (am_Dk d_MM_holds (k := 20) rfl) (by decide) (fun c429 => ?_) (fun c429 => ?_)
          · exact absurd ((nI_leI (a := ns) (b := 0) (by omega) (by omega)).mp c429) (by omega)
          · refine v_aload_n (am_Dk d_MM_holds (k := 21) rfl) rfl ?_
            refine v_get (am_Dk d_MM_holds (k := 22) rfl) f_MM_20 q11 rfl ?_
            refine v_get9 (am_Dk d_MM_holds (k := 23) rfl) r_MM_98 hX.1.1 rfl ?_
            refine v_iload_n (am_Dk d_MM_holds (k := 24) rfl) rfl ?_
            refine v_iald (am_Dk d_MM_holds (k := 25) rfl) hMa rfl (vp_in_nI (by omega) (by omega)) ?_
            rw [nI_clamp (n := t) (by omega)]
            rw [show Ma t = 2 from hM2]
            refine v_iconst (v := 2) (am_Dk d_MM_holds (k := 26) rfl) (by decide) ?_
            refine v_icmp_ne (tgt := 67) (am_Dk d_MM_holds (k := 27) rfl) (by decide) (fun c430 => ?_) (fun c430 => ?_)
            · exact absurd (by decide) c430
            · refine v_aload_n (am_Dk d_MM_holds (k := 28) rfl) rfl ?_
              refine v_get (am_Dk d_MM_holds (k := 29) rfl) f_MM_27 q11 rfl ?_
              refine v_iload_n (am_Dk d_MM_holds (k := 30) rfl) rfl ?_
              refine v_ldcS (i := 135) (tx := "<") (am_Dk d_MM_holds (k := 31) rfl) (by decide +kernel) ?_
              refine v_callV (rest := []) (As := [.int (nI k), .ref 135]) (mc' := 0) (ms' := 0) (am_Dk d_MM_holds (k := 32) rfl) c_MM_103 (Or.inl ⟨_, _, _, _, _, hN, cq_ok11⟩) (t_MN_spells G (d := 4) (by omega) (hN) (hT) hO (hF) hA hk (by omega) (by omega) mmS_135) (by omega) (by omega) (by omega) (by simp [Value.category]) rfl (fun v431 M432 n433 h434 => ?_) (fun _ _ _ h434 => ?_)
              rotate_left
              · exact absurd h434.1 (by simp)
              obtain ⟨h434, e435, e436⟩ := h434
              replace e435 := e435.symm
              replace e436 := e436.symm
              subst e435
              subst e436
              cases h434
              show am_V G _ _ _ _ _ 60 [(2, .int (nI k)), (1, .int (nI t)), (0, .ref 1211)] [.int (bi (spv (kn_w 11) (nmL F k) (nmW T F k)))] M2 nx 0 0
              rw [qs11]
              show am_V G _ _ _ _ _ 60 [(2, .int (nI k)), (1, .int (nI t)), (0, .ref 1211)] [.int 0] M2 nx 0 0
              refine v_if_eq (tgt := 67) (am_Dk d_MM_holds (k := 33) rfl) (by decide) (fun c437 => ?_) (fun c437 => ?_)
              · refine v_iconst (v := 0) (am_Dk d_MM_holds (k := 36) rfl) (by decide) ?_
                refine v_istore_n (L1 := [(3, .int 0), (2, .int (nI k)), (1, .int (nI t)), (0, .ref 1211)]) (am_Dk d_MM_holds (k := 37) rfl) (by decide) rfl ?_
                refine v_aload_n (am_Dk d_MM_holds (k := 38) rfl) rfl ?_
                refine v_get (am_Dk d_MM_holds (k := 39) rfl) f_MM_20 q11 rfl ?_
                refine v_get9 (am_Dk d_MM_holds (k := 40) rfl) r_MM_98 hX.1.1 rfl ?_
                refine v_iload_n (am_Dk d_MM_holds (k := 41) rfl) rfl ?_
                refine v_iald (am_Dk d_MM_holds (k := 42) rfl) hMa rfl (vp_in_nI (by omega) (by omega)) ?_
                rw [nI_clamp (n := t) (by omega)]
                rw [show Ma t = 2 from hM2]
                refine v_iconst (v := 2) (am_Dk d_MM_holds (k := 43) rfl) (by decide) ?_
                refine v_icmp_ne (tgt := 99) (am_Dk d_MM_holds (k := 44) rfl) (by decide) (fun c438 => ?_) (fun c438 => ?_)
                · exact absurd (by decide) c438
                · refine v_aload_n (am_Dk d_MM_holds (k := 45) rfl) rfl ?_
                  refine v_get (am_Dk d_MM_holds (k := 46) rfl) f_MM_27 q11 rfl ?_
                  refine v_iload_n (am_Dk d_MM_holds (k := 47) rfl) rfl ?_
                  refine v_ldcS (i := 136) (tx := ">") (am_Dk d_MM_holds (k := 48) rfl) (by decide +kernel) ?_
                  refine v_callV (rest := []) (As := [.int (nI k), .ref 136]) (mc' := 0) (ms' := 0) (am_Dk d_MM_holds (k := 49) rfl) c_MM_103 (Or.inl ⟨_, _, _, _, _, hN, cq_ok11⟩) (t_MN_spells G (d := 4) (by omega) (hN) (hT) hO (hF) hA hk (by omega) (by omega) mmS_136) (by omega) (by omega) (by omega) (by simp [Value.category]) rfl (fun v439 M440 n441 h442 => ?_) (fun _ _ _ h442 => ?_)
                  rotate_left
                  · exact absurd h442.1 (by simp)
                  obtain ⟨h442, e443, e444⟩ := h442
                  replace e443 := e443.symm
                  replace e444 := e444.symm
                  subst e443
                  subst e444
                  cases h442
                  show am_V G _ _ _ _ _ 92 [(3, .int 0), (2, .int (nI k)), (1, .int (nI t)), (0, .ref 1211)] [.int (bi (spv (kn_w 12) (nmL F k) (nmW T F k)))] M2 nx 0 0
                  rw [qs12]
                  show am_V G _ _ _ _ _ 92 [(3, .int 0), (2, .int (nI k)), (1, .int (nI t)), (0, .ref 1211)] [.int 0] M2 nx 0 0
                  refine v_if_eq (tgt := 99) (am_Dk d_MM_holds (k := 50) rfl) (by decide) (fun c445 => ?_) (fun c445 => ?_)
                  · refine v_iconst (v := 0) (am_Dk d_MM_holds (k := 53) rfl) (by decide) ?_
                    refine v_istore (L1 := [(4, .int 0), (3, .int 0), (2, .int (nI k)), (1, .int (nI t)), (0, .ref 1211)]) (am_Dk d_MM_holds (k := 54) rfl) (by decide) rfl ?_
                    refine v_aload_n (am_Dk d_MM_holds (k := 55) rfl) rfl ?_
                    refine v_get (am_Dk d_MM_holds (k := 56) rfl) f_MM_20 q11 rfl ?_
                    refine v_get9 (am_Dk d_MM_holds (k := 57) rfl) r_MM_98 hX.1.1 rfl ?_
                    refine v_iload_n (am_Dk d_MM_holds (k := 58) rfl) rfl ?_
                    refine v_iald (am_Dk d_MM_holds (k := 59) rfl) hMa rfl (vp_in_nI (by omega) (by omega)) ?_
                    rw [nI_clamp (n := t) (by omega)]
                    rw [show Ma t = 2 from hM2]
                    refine v_iconst (v := 2) (am_Dk d_MM_holds (k := 60) rfl) (by decide) ?_
                    refine v_icmp_ne (tgt := 132) (am_Dk d_MM_holds (k := 61) rfl) (by decide) (fun c446 => ?_) (fun c446 => ?_)
                    · exact absurd (by decide) c446
                    · refine v_aload_n (am_Dk d_MM_holds (k := 62) rfl) rfl ?_
                      refine v_get (am_Dk d_MM_holds (k := 63) rfl) f_MM_27 q11 rfl ?_
                      refine v_iload_n (am_Dk d_MM_holds (k := 64) rfl) rfl ?_
                      refine v_ldcS (i := 137) (tx := "=<") (am_Dk d_MM_holds (k := 65) rfl) (by decide +kernel) ?_
                      refine v_callV (rest := []) (As := [.int (nI k), .ref 137]) (mc' := 0) (ms' := 0) (am_Dk d_MM_holds (k := 66) rfl) c_MM_103 (Or.inl ⟨_, _, _, _, _, hN, cq_ok11⟩) (t_MN_spells G (d := 4) (by omega) (hN) (hT) hO (hF) hA hk (by omega) (by omega) mmS_137) (by omega) (by omega) (by omega) (by simp [Value.category]) rfl (fun v447 M448 n449 h450 => ?_) (fun _ _ _ h450 => ?_)
                      rotate_left
                      · exact absurd h450.1 (by simp)
                      obtain ⟨h450, e451, e452⟩ := h450
                      replace e451 := e451.symm
                      replace e452 := e452.symm
                      subst e451
                      subst e452
                      cases h450
                      show am_V G _ _ _ _ _ 125 [(4, .int 0), (3, .int 0), (2, .int (nI k)), (1, .int (nI t)), (0, .ref 1211)] [.int (bi (spv (kn_w 13) (nmL F k) (nmW T F k)))] M2 nx 0 0
                      rw [qs13]
                      show am_V G _ _ _ _ _ 125 [(4, .int 0), (3, .int 0), (2, .int (nI k)), (1, .int (nI t)), (0, .ref 1211)] [.int 0] M2 nx 0 0
                      refine v_if_eq (tgt := 132) (am_Dk d_MM_holds (k := 67) rfl) (by decide) (fun c453 => ?_) (fun c453 => ?_)
                      · refine v_iconst (v := 0) (am_Dk d_MM_holds (k := 70) rfl) (by decide) ?_
                        refine v_istore (L1 := [(5, .int 0), (4, .int 0), (3, .int 0), (2, .int (nI k)), (1, .int (nI t)), (0, .ref 1211)]) (am_Dk d_MM_holds (k := 71) rfl) (by decide) rfl ?_
                        refine v_aload_n (am_Dk d_MM_holds (k := 72) rfl) rfl ?_
                        refine v_get (am_Dk d_MM_holds (k := 73) rfl) f_MM_20 q11 rfl ?_
                        refine v_get9 (am_Dk d_MM_holds (k := 74) rfl) r_MM_98 hX.1.1 rfl ?_
                        refine v_iload_n (am_Dk d_MM_holds (k := 75) rfl) rfl ?_
                        refine v_iald (am_Dk d_MM_holds (k := 76) rfl) hMa rfl (vp_in_nI (by omega) (by omega)) ?_
                        rw [nI_clamp (n := t) (by omega)]
                        rw [show Ma t = 2 from hM2]
                        refine v_iconst (v := 2) (am_Dk d_MM_holds (k := 77) rfl) (by decide) ?_
                        refine v_icmp_ne (tgt := 165) (am_Dk d_MM_holds (k := 78) rfl) (by decide) (fun c454 => ?_) (fun c454 => ?_)
                        · exact absurd (by decide) c454
                        · refine v_aload_n (am_Dk d_MM_holds (k := 79) rfl) rfl ?_
                          refine v_get (am_Dk d_MM_holds (k := 80) rfl) f_MM_27 q11 rfl ?_
                          refine v_iload_n (am_Dk d_MM_holds (k := 81) rfl) rfl ?_
                          refine v_ldcS (i := 138) (tx := ">=") (am_Dk d_MM_holds (k := 82) rfl) (by decide +kernel) ?_
                          refine v_callV (rest := []) (As := [.int (nI k), .ref 138]) (mc' := 0) (ms' := 0) (am_Dk d_MM_holds (k := 83) rfl) c_MM_103 (Or.inl ⟨_, _, _, _, _, hN, cq_ok11⟩) (t_MN_spells G (d := 4) (by omega) (hN) (hT) hO (hF) hA hk (by omega) (by omega) mmS_138) (by omega) (by omega) (by omega) (by simp [Value.category]) rfl (fun v455 M456 n457 h458 => ?_) (fun _ _ _ h458 => ?_)
                          rotate_left
                          · exact absurd h458.1 (by simp)
                          obtain ⟨h458, e459, e460⟩ := h458
                          replace e459 := e459.symm
                          replace e460 := e460.symm
                          subst e459
                          subst e460
                          cases h458
                          show am_V G _ _ _ _ _ 158 [(5, .int 0), (4, .int 0), (3, .int 0), (2, .int (nI k)), (1, .int (nI t)), (0, .ref 1211)] [.int (bi (spv (kn_w 14) (nmL F k) (nmW T F k)))] M2 nx 0 0
                          rw [qs14]
                          show am_V G _ _ _ _ _ 158 [(5, .int 0), (4, .int 0), (3, .int 0), (2, .int (nI k)), (1, .int (nI t)), (0, .ref 1211)] [.int 0] M2 nx 0 0
                          refine v_if_eq (tgt := 165) (am_Dk d_MM_holds (k := 84) rfl) (by decide) (fun c461 => ?_) (fun c461 => ?_)
                          · refine v_iconst (v := 0) (am_Dk d_MM_holds (k := 87) rfl) (by decide) ?_
                            refine v_istore (L1 := [(6, .int 0), (5, .int 0), (4, .int 0), (3, .int 0), (2, .int (nI k)), (1, .int (nI t)), (0, .ref 1211)]) (am_Dk d_MM_holds (k := 88) rfl) (by decide) rfl ?_
                            refine v_aload_n (am_Dk d_MM_holds (k := 89) rfl) rfl ?_
                            refine v_get (am_Dk d_MM_holds (k := 90) rfl) f_MM_20 q11 rfl ?_
                            refine v_get9 (am_Dk d_MM_holds (k := 91) rfl) r_MM_98 hX.1.1 rfl ?_
                            refine v_iload_n (am_Dk d_MM_holds (k := 92) rfl) rfl ?_
                            refine v_iald (am_Dk d_MM_holds (k := 93) rfl) hMa rfl (vp_in_nI (by omega) (by omega)) ?_
                            rw [nI_clamp (n := t) (by omega)]
                            rw [show Ma t = 2 from hM2]
                            refine v_iconst (v := 2) (am_Dk d_MM_holds (k := 94) rfl) (by decide) ?_
                            refine v_icmp_ne (tgt := 198) (am_Dk d_MM_holds (k := 95) rfl) (by decide) (fun c462 => ?_) (fun c462 => ?_)
                            · exact absurd (by decide) c462
                            · refine v_aload_n (am_Dk d_MM_holds (k := 96) rfl) rfl ?_
                              refine v_get (am_Dk d_MM_holds (k := 97) rfl) f_MM_27 q11 rfl ?_
                              refine v_iload_n (am_Dk d_MM_holds (k := 98) rfl) rfl ?_
                              refine v_ldcS (i := 139) (tx := "=:=") (am_Dk d_MM_holds (k := 99) rfl) (by decide +kernel) ?_
                              refine v_callV (rest := []) (As := [.int (nI k), .ref 139]) (mc' := 0) (ms' := 0) (am_Dk d_MM_holds (k := 100) rfl) c_MM_103 (Or.inl ⟨_, _, _, _, _, hN, cq_ok11⟩) (t_MN_spells G (d := 4) (by omega) (hN) (hT) hO (hF) hA hk (by omega) (by omega) mmS_139) (by omega) (by omega) (by omega) (by simp [Value.category]) rfl (fun v463 M464 n465 h466 => ?_) (fun _ _ _ h466 => ?_)
                              rotate_left
                              · exact absurd h466.1 (by simp)
                              obtain ⟨h466, e467, e468⟩ := h466
                              replace e467 := e467.symm
                              replace e468 := e468.symm
                              subst e467
                              subst e468
                              cases h466
                              show am_V G _ _ _ _ _ 191 [(6, .int 0), (5, .int 0), (4, .int 0), (3, .int 0), (2, .int (nI k)), (1, .int (nI t)), (0, .ref 1211)] [.int (bi (spv (kn_w 15) (nmL F k) (nmW T F k)))] M2 nx 0 0
                              rw [qs15]
                              show am_V G _ _ _ _ _ 191 [(6, .int 0), (5, .int 0), (4, .int 0), (3, .int 0), (2, .int (nI k)), (1, .int (nI t)), (0, .ref 1211)] [.int 1] M2 nx 0 0
                              refine v_if_eq (tgt := 198) (am_Dk d_MM_holds (k := 101) rfl) (by decide) (fun c469 => ?_) (fun c469 => ?_)
                              · exact absurd c469 (by decide)
                              · refine v_iconst (v := 1) (am_Dk d_MM_holds (k := 102) rfl) (by decide) ?_
                                refine v_goto (tgt := 199) (am_Dk d_MM_holds (k := 103) rfl) (by decide) ?_
                                refine v_istore (L1 := [(7, .int 1), (6, .int 0), (5, .int 0), (4, .int 0), (3, .int 0), (2, .int (nI k)), (1, .int (nI t)), (0, .ref 1211)]) (am_Dk d_MM_holds (k := 105) rfl) (by decide) rfl ?_
                                refine v_aload_n (am_Dk d_MM_holds (k := 106) rfl) rfl ?_
                                refine v_get (am_Dk d_MM_holds (k := 107) rfl) f_MM_20 q11 rfl ?_
                                refine v_get9 (am_Dk d_MM_holds (k := 108) rfl) r_MM_98 hX.1.1 rfl ?_
                                refine v_iload_n (am_Dk d_MM_holds (k := 109) rfl) rfl ?_
                                refine v_iald (am_Dk d_MM_holds (k := 110) rfl) hMa rfl (vp_in_nI (by omega) (by omega)) ?_
                                rw [nI_clamp (n := t) (by omega)]
                                rw [show Ma t = 2 from hM2]
                                refine v_iconst (v := 2) (am_Dk d_MM_holds (k := 111) rfl) (by decide) ?_
                                refine v_icmp_ne (tgt := 231) (am_Dk d_MM_holds (k := 112) rfl) (by decide) (fun c470 => ?_) (fun c470 => ?_)
                                · exact absurd (by decide) c470
                                · refine v_aload_n (am_Dk d_MM_holds (k := 113) rfl) rfl ?_
                                  refine v_get (am_Dk d_MM_holds (k := 114) rfl) f_MM_27 q11 rfl ?_
                                  refine v_iload_n (am_Dk d_MM_holds (k := 115) rfl) rfl ?_
                                  refine v_ldcS (i := 140) (tx := "=\\=") (am_Dk d_MM_holds (k := 116) rfl) (by decide +kernel) ?_
                                  refine v_callV (rest := []) (As := [.int (nI k), .ref 140]) (mc' := 0) (ms' := 0) (am_Dk d_MM_holds (k := 117) rfl) c_MM_103 (Or.inl ⟨_, _, _, _, _, hN, cq_ok11⟩) (t_MN_spells G (d := 4) (by omega) (hN) (hT) hO (hF) hA hk (by omega) (by omega) mmS_140) (by omega) (by omega) (by omega) (by simp [Value.category]) rfl (fun v471 M472 n473 h474 => ?_) (fun _ _ _ h474 => ?_)
                                  rotate_left
                                  · exact absurd h474.1 (by simp)
                                  obtain ⟨h474, e475, e476⟩ := h474
                                  replace e475 := e475.symm
                                  replace e476 := e476.symm
                                  subst e475
                                  subst e476
                                  cases h474
                                  show am_V G _ _ _ _ _ 224 [(7, .int 1), (6, .int 0), (5, .int 0), (4, .int 0), (3, .int 0), (2, .int (nI k)), (1, .int (nI t)), (0, .ref 1211)] [.int (bi (spv (kn_w 16) (nmL F k) (nmW T F k)))] M2 nx 0 0
                                  rw [qs16]
                                  show am_V G _ _ _ _ _ 224 [(7, .int 1), (6, .int 0), (5, .int 0), (4, .int 0), (3, .int 0), (2, .int (nI k)), (1, .int (nI t)), (0, .ref 1211)] [.int 0] M2 nx 0 0
                                  refine v_if_eq (tgt := 231) (am_Dk d_MM_holds (k := 118) rfl) (by decide) (fun c477 => ?_) (fun c477 => ?_)
                                  · refine v_iconst (v := 0) (am_Dk d_MM_holds (k := 121) rfl) (by decide) ?_
                                    refine v_istore (L1 := [(8, .int 0), (7, .int 1), (6, .int 0), (5, .int 0), (4, .int 0), (3, .int 0), (2, .int (nI k)), (1, .int (nI t)), (0, .ref 1211)]) (am_Dk d_MM_holds (k := 122) rfl) (by decide) rfl ?_
                                    refine v_iload_n (am_Dk d_MM_holds (k := 123) rfl) rfl ?_
                                    refine v_if_ne (tgt := 275) (am_Dk d_MM_holds (k := 124) rfl) (by decide) (fun c478 => ?_) (fun c478 => ?_)
                                    · exact absurd (by decide) c478
                                    · refine v_iload (am_Dk d_MM_holds (k := 125) rfl) rfl ?_
                                      refine v_if_ne (tgt := 275) (am_Dk d_MM_holds (k := 126) rfl) (by decide) (fun c479 => ?_) (fun c479 => ?_)
                                      · exact absurd (by decide) c479
                                      · refine v_iload (am_Dk d_MM_holds (k := 127) rfl) rfl ?_
                                        refine v_if_ne (tgt := 275) (am_Dk d_MM_holds (k := 128) rfl) (by decide) (fun c480 => ?_) (fun c480 => ?_)
                                        · exact absurd (by decide) c480
                                        · refine v_iload (am_Dk d_MM_holds (k := 129) rfl) rfl ?_
                                          refine v_if_ne (tgt := 275) (am_Dk d_MM_holds (k := 130) rfl) (by decide) (fun c481 => ?_) (fun c481 => ?_)
                                          · exact absurd (by decide) c481
                                          · refine v_iload (am_Dk d_MM_holds (k := 131) rfl) rfl ?_
                                            refine v_if_ne (tgt := 275) (am_Dk d_MM_holds (k := 132) rfl) (by decide) (fun c482 => ?_) (fun c482 => ?_)
                                            · refine v_aload_n (am_Dk d_MM_holds (k := 143) rfl) rfl ?_
                                              refine v_aload_n (am_Dk d_MM_holds (k := 144) rfl) rfl ?_
                                              refine v_get (am_Dk d_MM_holds (k := 145) rfl) f_MM_20 q11 rfl ?_
                                              refine v_iload_n (am_Dk d_MM_holds (k := 146) rfl) rfl ?_
                                              refine v_iconst (v := 0) (am_Dk d_MM_holds (k := 147) rfl) (by decide) ?_
                                              refine v_callV (rest := [.ref 1211]) (As := [.int (nI t), .int 0]) (mc' := 0) (ms' := 0) (am_Dk d_MM_holds (k := 148) rfl) c_MM_139 (Or.inl ⟨_, _, _, _, _, hX.1.1, cq_ok10⟩) (t_MT_part G (d := 0) (b := b) (i := 0) (by omega) (ARs_fr hX.1 (fun i z1 z2 => rfl)) (by omega) hFb (by omega)) (by omega) (by omega) (by omega) (by simp [Value.category]) rfl (fun v483 M484 n485 h486 => ?_) (fun _ _ _ h486 => ?_)
                                              rotate_left
                                              · exact absurd h486.1 (by simp)
                                              obtain ⟨h486, e487, e488⟩ := h486
                                              replace e487 := e487.symm
                                              replace e488 := e488.symm
                                              subst e487
                                              subst e488
                                              cases h486
                                              show am_V G _ _ _ _ _ 285 [(8, .int 0), (7, .int 1), (6, .int 0), (5, .int 0), (4, .int 0), (3, .int 0), (2, .int (nI k)), (1, .int (nI t)), (0, .ref 1211)] [.int (Pa (b + 0)), .ref 1211] M2 nx 0 0
                                              rw [hPy]
                                              show am_V G _ _ _ _ _ 285 [(8, .int 0), (7, .int 1), (6, .int 0), (5, .int 0), (4, .int 0), (3, .int 0), (2, .int (nI k)), (1, .int (nI t)), (0, .ref 1211)] [.int (nI y), .ref 1211] M2 nx 0 0
                                              refine v_callV (rest := []) (As := [.int (nI y)]) (mc' := 0) (ms' := 0) (am_Dk d_MM_holds (k := 149) rfl) c_MM_176 (Or.inl ⟨_, _, _, _, _, q11, cq_ok9⟩) (t_MM_reckon G (d := 7) (by omega) hX (by omega) (by omega) (by omega) (by omega) (by omega) hTb hLU hrcx q11 hW0 hS0 hL0 (show y < sz from by omega)) (by omega) (by omega) (by omega) (by simp [Value.category]) rfl (fun v489 M490 n491 h492 => ?_) (fun _ _ _ h492 => ?_)
                                              rotate_left
                                              · obtain ⟨_, _, _, _, hx9, _⟩ := h492; cases hx9
                                              obtain ⟨Wk1, Sg1, Lf1, rr1, h492, hx9, ⟨y1_1, y2_1, y3_1, y4_1, y5_1⟩, y6_1⟩ := h492
                                              cases h492
                                              replace hx9 := hx9.symm
                                              subst hx9
                                              have heR1 := ar_E hX.2.2.2.1 (y + 1) y (by omega) (by omega)
                                              have b493 : M490 1213 = some (.inr (10, [.ref 1214, .ref 1215, .ref 1216, .ref 1217, .ref 1218, .ref 1219, .int (nI sz), .int (nI pt)])) := (y5_1 1213 (by omega)).trans (hX.1.1)
                                              have b494 : M490 1214 = some (.inl (1, 9000, .inl Kd)) := (y5_1 1214 (by omega)).trans (hKd)
                                              have b495 : M490 1215 = some (.inl (1, 9000, .inl Nm)) := (y5_1 1215 (by omega)).trans (hNm)
                                              have b496 : M490 1216 = some (.inl (1, 9000, .inl Fi)) := (y5_1 1216 (by omega)).trans (hFi)
                                              have b497 : M490 1217 = some (.inl (1, 9000, .inl Ma)) := (y5_1 1217 (by omega)).trans (hMa)
                                              have b498 : M490 1218 = some (.inl (1, 9000, .inl Pa)) := (y5_1 1218 (by omega)).trans (hPa)
                                              have b499 : M490 1220 = some (.inr (11, [.ref 1221, .ref 1222, .ref 1223, .ref 1224, .int (nI ns), .int (nI tx)])) := (y5_1 1220 (by omega)).trans (hN)
                                              have b500 : M490 1221 = some (.inl (0, 5000, .inl T)) := (y5_1 1221 (by omega)).trans (hT)
                                              have b501 : M490 1222 = some (.inl (1, 9001, .inl A9)) := (y5_1 1222 (by omega)).trans (hF)
                                              have b502 : M490 1225 = some (.inr (12, [.ref 1226, .ref 1227, .ref 1228, .ref 1213, .ref 1220, sv, .int n9, .int a9, .int b9, .int t9, .int o9, .long u9, .ref 1229, .int l9, .ref 1230, .int p9, .int q9, .ref 1231, .int v9, .int k9, .int r9, .ref 1232])) := (y5_1 1225 (by omega)).trans (hrcx)
                                              show am_V G _ _ _ _ _ 288 [(8, .int 0), (7, .int 1), (6, .int 0), (5, .int 0), (4, .int 0), (3, .int 0), (2, .int (nI k)), (1, .int (nI t)), (0, .ref 1211)] [] M490 nx 0 0
                                              refine v_aload_n (am_Dk d_MM_holds (k := 150) rfl) rfl ?_
                                              refine v_get (am_Dk d_MM_holds (k := 151) rfl) f_MM_132 y4_1 rfl ?_
                                              refine v_lstore (L1 := [(9, .long rr1), (8, .int 0), (7, .int 1), (6, .int 0), (5, .int 0), (4, .int 0), (3, .int 0), (2, .int (nI k)), (1, .int (nI t)), (0, .ref 1211)]) (am_Dk d_MM_holds (k := 152) rfl) (by decide) rfl ?_
                                              refine v_aload_n (am_Dk d_MM_holds (k := 153) rfl) rfl ?_
                                              refine v_get (am_Dk d_MM_holds (k := 154) rfl) f_MM_123 y4_1 rfl ?_
                                              refine v_if_ne (tgt := 314) (am_Dk d_MM_holds (k := 155) rfl) (by decide) (fun c503 => ?_) (fun c503 => ?_)
                                              · have heY : ¬ (W.1 y).1 = 0 := c503
                                                refine v_aload_n (am_Dk d_MM_holds (k := 163) rfl) rfl ?_
                                                refine v_get (am_Dk d_MM_holds (k := 164) rfl) f_MM_123 y4_1 rfl ?_
                                                refine v_if_le (tgt := 328) (am_Dk d_MM_holds (k := 165) rfl) (by decide) (fun c504 => ?_) (fun c504 => ?_)
                                                · exact absurd ((errR_le heR1).mp c504) heY
                                                · try have heZ : ¬ (W.1 z).1 = 0 := fun z => c504 ((errR_le heR2).mpr z)
                                                  refine v_aload_n (am_Dk d_MM_holds (k := 166) rfl) rfl ?_
                                                  refine v_iconst (v := 1) (am_Dk d_MM_holds (k := 167) rfl) (by decide) ?_
                                                  refine v_put (am_Dk d_MM_holds (k := 168) rfl) f_MM_64 y4_1 (Nat.le_of_ble_eq_true rfl) rfl rfl ?_
                                                  refine v_iconst (v := 0) (am_Dk d_MM_holds (k := 169) rfl) (by decide) ?_
                                                  have hrx7 := rx_frK hrx y5_1
                                                  have hrc7 := rcell_fr hrc1 (y5_1 1225 (by omega))
                                                  exact v_ireturn (am_Dk d_MM_holds (k := 170) rfl) rfl rfl (by omega) (by omega) ⟨rfl, fun i hi => (am_up_ne (show i ≠ 1211 from by omega)).trans (((y5_1 i (by omega)).trans (hfT i (by omega)))), rx_fr9 hrx7 (fun i hi => (am_up_ne (show i ≠ 1211 from by omega)).trans (rfl)), rcell_fr hrc7 ((am_up_ne (show 1225 ≠ 1211 from by decide)).trans (rfl)), ⟨⟨_, (am_up_ne (show 1236 ≠ 1211 from by omega)).trans (y1_1)⟩, ⟨_, (am_up_ne (show 1237 ≠ 1211 from by omega)).trans (y2_1)⟩, ⟨_, (am_up_ne (show 1238 ≠ 1211 from by omega)).trans (y3_1)⟩⟩, Or.inr ⟨W, t, sz, _, hok, Or.inr ⟨hcm, Or.inl ⟨by rw [hW1]; exact heY, rfl, by rw [hW1]; exact am_up_eq _ _ _⟩⟩⟩⟩
                                              · have heY : (W.1 y).1 = 0 := c503
                                                rw [heY] at y4_1
                                                refine v_aload_n (am_Dk d_MM_holds (k := 156) rfl) rfl ?_
                                                refine v_aload_n (am_Dk d_MM_holds (k := 157) rfl) rfl ?_
                                                refine v_get (am_Dk d_MM_holds (k := 158) rfl) f_MM_20 y4_1 rfl ?_
                                                refine v_iload_n (am_Dk d_MM_holds (k := 159) rfl) rfl ?_
                                                refine v_iconst (v := 1) (am_Dk d_MM_holds (k := 160) rfl) (by decide) ?_
                                                refine v_callV (rest := [.ref 1211]) (As := [.int (nI t), .int 1]) (mc' := 0) (ms' := 0) (am_Dk d_MM_holds (k := 161) rfl) c_MM_139 (Or.inl ⟨_, _, _, _, _, b493, cq_ok10⟩) (t_MT_part G (d := 0) (b := b) (i := 1) (by omega) (ARs_fr hX.1 (fun i z1 z2 => y5_1 i (by omega))) (by omega) hFb (by omega)) (by omega) (by omega) (by omega) (by simp [Value.category]) rfl (fun v505 M506 n507 h508 => ?_) (fun _ _ _ h508 => ?_)
                                                rotate_left
                                                · exact absurd h508.1 (by simp)
                                                obtain ⟨h508, e509, e510⟩ := h508
                                                replace e509 := e509.symm
                                                replace e510 := e510.symm
                                                subst e509
                                                subst e510
                                                cases h508
                                                show am_V G _ _ _ _ _ 311 [(9, .long rr1), (8, .int 0), (7, .int 1), (6, .int 0), (5, .int 0), (4, .int 0), (3, .int 0), (2, .int (nI k)), (1, .int (nI t)), (0, .ref 1211)] [.int (Pa (b + 1)), .ref 1211] M490 nx 0 0
                                                rw [hPz]
                                                show am_V G _ _ _ _ _ 311 [(9, .long rr1), (8, .int 0), (7, .int 1), (6, .int 0), (5, .int 0), (4, .int 0), (3, .int 0), (2, .int (nI k)), (1, .int (nI t)), (0, .ref 1211)] [.int (nI z), .ref 1211] M490 nx 0 0
                                                have hX2 := RSx_fr (M1 := M490) hX (fun i hi => y5_1 i (by omega))
                                                have hTb2 : tbl M490 c Vl Vg Vn P Q := tbl_fr hTb (fun i z1 z2 => y5_1 i (by omega))
                                                refine v_callV (rest := []) (As := [.int (nI z)]) (mc' := 0) (ms' := 0) (am_Dk d_MM_holds (k := 162) rfl) c_MM_176 (Or.inl ⟨_, _, _, _, _, y4_1, cq_ok9⟩) (t_MM_reckon G (d := 7) (by omega) hX2 (by omega) (by omega) (by omega) (by omega) (by omega) hTb2 hLU b502 y4_1 y1_1 y2_1 y3_1 (show z < sz from by omega)) (by omega) (by omega) (by omega) (by simp [Value.category]) rfl (fun v511 M512 n513 h514 => ?_) (fun _ _ _ h514 => ?_)
                                                rotate_left
                                                · obtain ⟨_, _, _, _, hx9, _⟩ := h514; cases hx9
                                                obtain ⟨Wk2, Sg2, Lf2, rr2, h514, hx9, ⟨y1_2, y2_2, y3_2, y4_2, y5_2⟩, y6_2⟩ := h514
                                                cases h514
                                                replace hx9 := hx9.symm
                                                subst hx9
                                                have heR2 := ar_E hX.2.2.2.1 (z + 1) z (by omega) (by omega)
                                                have b515 : M512 1213 = some (.inr (10, [.ref 1214, .ref 1215, .ref 1216, .ref 1217, .ref 1218, .ref 1219, .int (nI sz), .int (nI pt)])) := (y5_2 1213 (by omega)).trans (b493)
                                                have b516 : M512 1214 = some (.inl (1, 9000, .inl Kd)) := (y5_2 1214 (by omega)).trans (b494)
                                                have b517 : M512 1215 = some (.inl (1, 9000, .inl Nm)) := (y5_2 1215 (by omega)).trans (b495)
                                                have b518 : M512 1216 = some (.inl (1, 9000, .inl Fi)) := (y5_2 1216 (by omega)).trans (b496)
                                                have b519 : M512 1217 = some (.inl (1, 9000, .inl Ma)) := (y5_2 1217 (by omega)).trans (b497)
                                                have b520 : M512 1218 = some (.inl (1, 9000, .inl Pa)) := (y5_2 1218 (by omega)).trans (b498)
                                                have b521 : M512 1220 = some (.inr (11, [.ref 1221, .ref 1222, .ref 1223, .ref 1224, .int (nI ns), .int (nI tx)])) := (y5_2 1220 (by omega)).trans (b499)
                                                have b522 : M512 1221 = some (.inl (0, 5000, .inl T)) := (y5_2 1221 (by omega)).trans (b500)
                                                have b523 : M512 1222 = some (.inl (1, 9001, .inl A9)) := (y5_2 1222 (by omega)).trans (b501)
                                                have b524 : M512 1225 = some (.inr (12, [.ref 1226, .ref 1227, .ref 1228, .ref 1213, .ref 1220, sv, .int n9, .int a9, .int b9, .int t9, .int o9, .long u9, .ref 1229, .int l9, .ref 1230, .int p9, .int q9, .ref 1231, .int v9, .int k9, .int r9, .ref 1232])) := (y5_2 1225 (by omega)).trans (b502)
                                                show am_V G _ _ _ _ _ 314 [(9, .long rr1), (8, .int 0), (7, .int 1), (6, .int 0), (5, .int 0), (4, .int 0), (3, .int 0), (2, .int (nI k)), (1, .int (nI t)), (0, .ref 1211)] [] M512 nx 0 0
                                                refine v_aload_n (am_Dk d_MM_holds (k := 163) rfl) rfl ?_
                                                refine v_get (am_Dk d_MM_holds (k := 164) rfl) f_MM_123 y4_2 rfl ?_
                                                refine v_if_le (tgt := 328) (am_Dk d_MM_holds (k := 165) rfl) (by decide) (fun c525 => ?_) (fun c525 => ?_)
                                                · have heZ : (W.1 z).1 = 0 := (errR_le heR2).mp c525
                                                  refine v_iload_n (am_Dk d_MM_holds (k := 171) rfl) rfl ?_
                                                  refine v_if_eq (tgt := 350) (am_Dk d_MM_holds (k := 172) rfl) (by decide) (fun c526 => ?_) (fun c526 => ?_)
                                                  · refine v_iload (am_Dk d_MM_holds (k := 182) rfl) rfl ?_
                                                    refine v_if_eq (tgt := 373) (am_Dk d_MM_holds (k := 183) rfl) (by decide) (fun c527 => ?_) (fun c527 => ?_)
                                                    · refine v_iload (am_Dk d_MM_holds (k := 193) rfl) rfl ?_
                                                      refine v_if_eq (tgt := 396) (am_Dk d_MM_holds (k := 194) rfl) (by decide) (fun c528 => ?_) (fun c528 => ?_)
                                                      · refine v_iload (am_Dk d_MM_holds (k := 204) rfl) rfl ?_
                                                        refine v_if_eq (tgt := 419) (am_Dk d_MM_holds (k := 205) rfl) (by decide) (fun c529 => ?_) (fun c529 => ?_)
                                                        · refine v_iload (am_Dk d_MM_holds (k := 215) rfl) rfl ?_
                                                          refine v_lload (am_Dk d_MM_holds (k := 216) rfl) rfl ?_
                                                          refine v_aload_n (am_Dk d_MM_holds (k := 217) rfl) rfl ?_
                                                          refine v_get (am_Dk d_MM_holds (k := 218) rfl) f_MM_132 y4_2 rfl ?_
                                                          refine v_lcmp (am_Dk d_MM_holds (k := 219) rfl) ?_
                                                          refine v_if_ne (tgt := 435) (am_Dk d_MM_holds (k := 220) rfl) (by decide) (fun c530 => ?_) (fun c530 => ?_)
                                                          · have hcp := fun z => c530 ((lg_cmp_eq _ _).mpr z)
                                                            refine v_iconst (v := 0) (am_Dk d_MM_holds (k := 223) rfl) (by decide) ?_
                                                            refine v_icmp_ne (tgt := 443) (am_Dk d_MM_holds (k := 224) rfl) (by decide) (fun c531 => ?_) (fun c531 => ?_)
                                                            · refine v_iconst (v := 0) (am_Dk d_MM_holds (k := 227) rfl) (by decide) ?_
                                                              have hrx7 := rx_frK hrx y5_1
                                                              have hrc7 := rcell_fr hrc1 (y5_1 1225 (by omega))
                                                              replace hrx7 := rx_frK hrx7 y5_2
                                                              replace hrc7 := rcell_fr hrc7 (y5_2 1225 (by omega))
                                                              rw [heZ] at y4_2
                                                              have q1 := y6_1 heY
                                                              have q2 := y6_2 heZ
                                                              subst q1
                                                              subst q2
                                                              have htr : truK 15 (W.1 y).2 (W.1 z).2 = false := by rw [truK, if_neg (by decide), if_neg (by decide), if_neg (by decide), if_neg (by decide), if_pos rfl]; exact decide_eq_false (hcp)
                                                              exact v_ireturn (am_Dk d_MM_holds (k := 228) rfl) rfl rfl (by omega) (by omega) ⟨rfl, fun i hi => ((y5_2 i (by omega)).trans ((y5_1 i (by omega)).trans (hfT i (by omega)))), rx_fr9 hrx7 (fun i hi => rfl), rcell_fr hrc7 (rfl), ⟨⟨_, y1_2⟩, ⟨_, y2_2⟩, ⟨_, y3_2⟩⟩, Or.inr ⟨W, t, sz, _, hok, Or.inr ⟨hcm, Or.inr (Or.inr ⟨by rw [hW1]; exact heY, by rw [hW2]; exact heZ, by rw [hW1, hW2, hW0x, ho, htr]; rfl, y4_2⟩)⟩⟩⟩
                                                            · exact absurd c531 (by decide)
                                                          · have hcp := (lg_cmp_eq _ _).mp c530
                                                            refine v_iconst (v := 1) (am_Dk d_MM_holds (k := 221) rfl) (by decide) ?_
                                                            refine v_goto (tgt := 436) (am_Dk d_MM_holds (k := 222) rfl) (by decide) ?_
                                                            refine v_icmp_ne (tgt := 443) (am_Dk d_MM_holds (k := 224) rfl) (by decide) (fun c532 => ?_) (fun c532 => ?_)
                                                            · exact absurd (by decide) c532
                                                            · refine v_iconst (v := 1) (am_Dk d_MM_holds (k := 225) rfl) (by decide) ?_
                                                              refine v_goto (tgt := 444) (am_Dk d_MM_holds (k := 226) rfl) (by decide) ?_
                                                              have hrx7 := rx_frK hrx y5_1
                                                              have hrc7 := rcell_fr hrc1 (y5_1 1225 (by omega))
                                                              replace hrx7 := rx_frK hrx7 y5_2
                                                              replace hrc7 := rcell_fr hrc7 (y5_2 1225 (by omega))
                                                              rw [heZ] at y4_2
                                                              have q1 := y6_1 heY
                                                              have q2 := y6_2 heZ
                                                              subst q1
                                                              subst q2
                                                              have htr : truK 15 (W.1 y).2 (W.1 z).2 = true := by rw [truK, if_neg (by decide), if_neg (by decide), if_neg (by decide), if_neg (by decide), if_pos rfl]; exact decide_eq_true (hcp)
                                                              exact v_ireturn (am_Dk d_MM_holds (k := 228) rfl) rfl rfl (by omega) (by omega) ⟨rfl, fun i hi => ((y5_2 i (by omega)).trans ((y5_1 i (by omega)).trans (hfT i (by omega)))), rx_fr9 hrx7 (fun i hi => rfl), rcell_fr hrc7 (rfl), ⟨⟨_, y1_2⟩, ⟨_, y2_2⟩, ⟨_, y3_2⟩⟩, Or.inr ⟨W, t, sz, _, hok, Or.inr ⟨hcm, Or.inr (Or.inr ⟨by rw [hW1]; exact heY, by rw [hW2]; exact heZ, by rw [hW1, hW2, hW0x, ho, htr]; rfl, y4_2⟩)⟩⟩⟩
                                                        · exact absurd (by decide) c529
                                                      · exact absurd (by decide) c528
                                                    · exact absurd (by decide) c527
                                                  · exact absurd (by decide) c526
                                                · try have heZ : ¬ (W.1 z).1 = 0 := fun z => c525 ((errR_le heR2).mpr z)
                                                  refine v_aload_n (am_Dk d_MM_holds (k := 166) rfl) rfl ?_
                                                  refine v_iconst (v := 1) (am_Dk d_MM_holds (k := 167) rfl) (by decide) ?_
                                                  refine v_put (am_Dk d_MM_holds (k := 168) rfl) f_MM_64 y4_2 (Nat.le_of_ble_eq_true rfl) rfl rfl ?_
                                                  refine v_iconst (v := 0) (am_Dk d_MM_holds (k := 169) rfl) (by decide) ?_
                                                  have hrx7 := rx_frK hrx y5_1
                                                  have hrc7 := rcell_fr hrc1 (y5_1 1225 (by omega))
                                                  replace hrx7 := rx_frK hrx7 y5_2
                                                  replace hrc7 := rcell_fr hrc7 (y5_2 1225 (by omega))
                                                  exact v_ireturn (am_Dk d_MM_holds (k := 170) rfl) rfl rfl (by omega) (by omega) ⟨rfl, fun i hi => (am_up_ne (show i ≠ 1211 from by omega)).trans (((y5_2 i (by omega)).trans ((y5_1 i (by omega)).trans (hfT i (by omega))))), rx_fr9 hrx7 (fun i hi => (am_up_ne (show i ≠ 1211 from by omega)).trans (rfl)), rcell_fr hrc7 ((am_up_ne (show 1225 ≠ 1211 from by decide)).trans (rfl)), ⟨⟨_, (am_up_ne (show 1236 ≠ 1211 from by omega)).trans (y1_2)⟩, ⟨_, (am_up_ne (show 1237 ≠ 1211 from by omega)).trans (y2_2)⟩, ⟨_, (am_up_ne (show 1238 ≠ 1211 from by omega)).trans (y3_2)⟩⟩, Or.inr ⟨W, t, sz, _, hok, Or.inr ⟨hcm, Or.inr (Or.inl ⟨by rw [hW1]; exact heY, by rw [hW2]; exact heZ, rfl, by rw [hW2]; exact am_up_eq _ _ _⟩)⟩⟩⟩
                                            · exact absurd c482 (by decide)
                                  · exact absurd (by decide) c477
                          · exact absurd (by decide) c461
                      · exact absurd (by decide) c453
                  · exact absurd (by decide) c445
              · exact absurd (by decide) c437
        · exact absurd c428 (nI_nm1 (by omega))
      · have qs11 : bi (spv (kn_w 11) (nmL F k) (nmW T F k)) = 0 := by rw [spv_iff (by decide), show decide (spg (nmL F k) (nmW T F k) = 11) = false from decide_eq_false (fun z => absurd (ho.symm.trans z) (by decide))]; rfl
        have qs12 : bi (spv (kn_w 12) (nmL F k) (nmW T F k)) = 0 := by rw [spv_iff (by decide), show decide (spg (nmL F k) (nmW T F k) = 12) = false from decide_eq_false (fun z => absurd (ho.symm.trans z) (by decide))]; rfl
        have qs13 : bi (spv (kn_w 13) (nmL F k) (nmW T F k)) = 0 := by rw [spv_iff (by decide), show decide (spg (nmL F k) (nmW T F k) = 13) = false from decide_eq_false (fun z => absurd (ho.symm.trans z) (by decide))]; rfl
        have qs14 : bi (spv (kn_w 14) (nmL F k) (nmW T F k)) = 0 := by rw [spv_iff (by decide), show decide (spg (nmL F k) (nmW T F k) = 14) = false from decide_eq_false (fun z => absurd (ho.symm.trans z) (by decide))]; rfl
        have qs15 : bi (spv (kn_w 15) (nmL F k) (nmW T F k)) = 0 := by rw [spv_iff (by decide), show decide (spg (nmL F k) (nmW T F k) = 15) = false from decide_eq_false (fun z => absurd (ho.symm.trans z) (by decide))]; rfl
        have qs16 : bi (spv (kn_w 16) (nmL F k) (nmW T F k)) = 1 := by rw [spv_iff (by decide), show decide (spg (nmL F k) (nmW T F k) = 16) = true from decide_eq_true ho]; rfl
        have hcm : cmpK (W.2.1 t).1 = true := by rw [hW0x, ho]; rfl
        show am_V G _ _ _ _ _ 4 [(0, .ref 1211)] [.int (nI t)] M2 nx 0 0
        refine v_istore_n (L1 := [(1, .int (nI t)), (0, .ref 1211)]) (am_Dk d_MM_holds (k := 2) rfl) (by decide) rfl ?_
        refine v_iload_n (am_Dk d_MM_holds (k := 3) rfl) rfl ?_
        refine v_iconst (v := (-1)) (am_Dk d_MM_holds (k := 4) rfl) (by decide) ?_
        refine v_icmp_ne (tgt := 17) (am_Dk d_MM_holds (k := 5) rfl) (by decide) (fun c533 => ?_) (fun c533 => ?_)
        · refine v_aload_n (am_Dk d_MM_holds (k := 11) rfl) rfl ?_
          refine v_get (am_Dk d_MM_holds (k := 12) rfl) f_MM_20 q11 rfl ?_
          refine v_get9 (am_Dk d_MM_holds (k := 13) rfl) r_MM_95 hX.1.1 rfl ?_
          refine v_iload_n (am_Dk d_MM_holds (k := 14) rfl) rfl ?_
          refine v_iald (am_Dk d_MM_holds (k := 15) rfl) hNm rfl (vp_in_nI (by omega) (by omega)) ?_
          rw [nI_clamp (n := t) (by omega)]
          rw [show Nm t = nI k from hNk]
          refine v_istore_n (L1 := [(2, .int (nI k)), (1, .int (nI t)), (0, .ref 1211)]) (am_Dk d_MM_holds (k := 16) rfl) (by decide) rfl ?_
          refine v_aload_n (am_Dk d_MM_holds (k := 17) rfl) rfl ?_
          refine v_get (am_Dk d_MM_holds (k := 18) rfl) f_MM_27 q11 rfl ?_
          refine v_get (am_Dk d_MM_holds (k := 19) rfl) f_MM_181 hN rfl ?_
          refine v_if_le (tgt := 67) (am_Dk d_MM_holds (k := 20) rfl) (by decide) (fun c534 => ?_) (fun c534 => ?_)
          · exact absurd ((nI_leI (a := ns) (b := 0) (by omega) (by omega)).mp c534) (by omega)
          · refine v_aload_n (am_Dk d_MM_holds (k := 21) rfl) rfl ?_
            refine v_get (am_Dk d_MM_holds (k := 22) rfl) f_MM_20 q11 rfl ?_
            refine v_get9 (am_Dk d_MM_holds (k := 23) rfl) r_MM_98 hX.1.1 rfl ?_
            refine v_iload_n (am_Dk d_MM_holds (k := 24) rfl) rfl ?_
            refine v_iald (am_Dk d_MM_holds (k := 25) rfl) hMa rfl (vp_in_nI (by omega) (by omega)) ?_
            rw [nI_clamp (n := t) (by omega)]
            rw [show Ma t = 2 from hM2]
            refine v_iconst (v := 2) (am_Dk d_MM_holds (k := 26) rfl) (by decide) ?_
            refine v_icmp_ne (tgt := 67) (am_Dk d_MM_holds (k := 27) rfl) (by decide) (fun c535 => ?_) (fun c535 => ?_)
            · exact absurd (by decide) c535
            · refine v_aload_n (am_Dk d_MM_holds (k := 28) rfl) rfl ?_
              refine v_get (am_Dk d_MM_holds (k := 29) rfl) f_MM_27 q11 rfl ?_
              refine v_iload_n (am_Dk d_MM_holds (k := 30) rfl) rfl ?_
              refine v_ldcS (i := 135) (tx := "<") (am_Dk d_MM_holds (k := 31) rfl) (by decide +kernel) ?_
              refine v_callV (rest := []) (As := [.int (nI k), .ref 135]) (mc' := 0) (ms' := 0) (am_Dk d_MM_holds (k := 32) rfl) c_MM_103 (Or.inl ⟨_, _, _, _, _, hN, cq_ok11⟩) (t_MN_spells G (d := 4) (by omega) (hN) (hT) hO (hF) hA hk (by omega) (by omega) mmS_135) (by omega) (by omega) (by omega) (by simp [Value.category]) rfl (fun v536 M537 n538 h539 => ?_) (fun _ _ _ h539 => ?_)
              rotate_left
              · exact absurd h539.1 (by simp)
              obtain ⟨h539, e540, e541⟩ := h539
              replace e540 := e540.symm
              replace e541 := e541.symm
              subst e540
              subst e541
              cases h539
              show am_V G _ _ _ _ _ 60 [(2, .int (nI k)), (1, .int (nI t)), (0, .ref 1211)] [.int (bi (spv (kn_w 11) (nmL F k) (nmW T F k)))] M2 nx 0 0
              rw [qs11]
              show am_V G _ _ _ _ _ 60 [(2, .int (nI k)), (1, .int (nI t)), (0, .ref 1211)] [.int 0] M2 nx 0 0
              refine v_if_eq (tgt := 67) (am_Dk d_MM_holds (k := 33) rfl) (by decide) (fun c542 => ?_) (fun c542 => ?_)
              · refine v_iconst (v := 0) (am_Dk d_MM_holds (k := 36) rfl) (by decide) ?_
                refine v_istore_n (L1 := [(3, .int 0), (2, .int (nI k)), (1, .int (nI t)), (0, .ref 1211)]) (am_Dk d_MM_holds (k := 37) rfl) (by decide) rfl ?_
                refine v_aload_n (am_Dk d_MM_holds (k := 38) rfl) rfl ?_
                refine v_get (am_Dk d_MM_holds (k := 39) rfl) f_MM_20 q11 rfl ?_
                refine v_get9 (am_Dk d_MM_holds (k := 40) rfl) r_MM_98 hX.1.1 rfl ?_
                refine v_iload_n (am_Dk d_MM_holds (k := 41) rfl) rfl ?_
                refine v_iald (am_Dk d_MM_holds (k := 42) rfl) hMa rfl (vp_in_nI (by omega) (by omega)) ?_
                rw [nI_clamp (n := t) (by omega)]
                rw [show Ma t = 2 from hM2]
                refine v_iconst (v := 2) (am_Dk d_MM_holds (k := 43) rfl) (by decide) ?_
                refine v_icmp_ne (tgt := 99) (am_Dk d_MM_holds (k := 44) rfl) (by decide) (fun c543 => ?_) (fun c543 => ?_)
                · exact absurd (by decide) c543
                · refine v_aload_n (am_Dk d_MM_holds (k := 45) rfl) rfl ?_
                  refine v_get (am_Dk d_MM_holds (k := 46) rfl) f_MM_27 q11 rfl ?_
                  refine v_iload_n (am_Dk d_MM_holds (k := 47) rfl) rfl ?_
                  refine v_ldcS (i := 136) (tx := ">") (am_Dk d_MM_holds (k := 48) rfl) (by decide +kernel) ?_
                  refine v_callV (rest := []) (As := [.int (nI k), .ref 136]) (mc' := 0) (ms' := 0) (am_Dk d_MM_holds (k := 49) rfl) c_MM_103 (Or.inl ⟨_, _, _, _, _, hN, cq_ok11⟩) (t_MN_spells G (d := 4) (by omega) (hN) (hT) hO (hF) hA hk (by omega) (by omega) mmS_136) (by omega) (by omega) (by omega) (by simp [Value.category]) rfl (fun v544 M545 n546 h547 => ?_) (fun _ _ _ h547 => ?_)
                  rotate_left
                  · exact absurd h547.1 (by simp)
                  obtain ⟨h547, e548, e549⟩ := h547
                  replace e548 := e548.symm
                  replace e549 := e549.symm
                  subst e548
                  subst e549
                  cases h547
                  show am_V G _ _ _ _ _ 92 [(3, .int 0), (2, .int (nI k)), (1, .int (nI t)), (0, .ref 1211)] [.int (bi (spv (kn_w 12) (nmL F k) (nmW T F k)))] M2 nx 0 0
                  rw [qs12]
                  show am_V G _ _ _ _ _ 92 [(3, .int 0), (2, .int (nI k)), (1, .int (nI t)), (0, .ref 1211)] [.int 0] M2 nx 0 0
                  refine v_if_eq (tgt := 99) (am_Dk d_MM_holds (k := 50) rfl) (by decide) (fun c550 => ?_) (fun c550 => ?_)
                  · refine v_iconst (v := 0) (am_Dk d_MM_holds (k := 53) rfl) (by decide) ?_
                    refine v_istore (L1 := [(4, .int 0), (3, .int 0), (2, .int (nI k)), (1, .int (nI t)), (0, .ref 1211)]) (am_Dk d_MM_holds (k := 54) rfl) (by decide) rfl ?_
                    refine v_aload_n (am_Dk d_MM_holds (k := 55) rfl) rfl ?_
                    refine v_get (am_Dk d_MM_holds (k := 56) rfl) f_MM_20 q11 rfl ?_
                    refine v_get9 (am_Dk d_MM_holds (k := 57) rfl) r_MM_98 hX.1.1 rfl ?_
                    refine v_iload_n (am_Dk d_MM_holds (k := 58) rfl) rfl ?_
                    refine v_iald (am_Dk d_MM_holds (k := 59) rfl) hMa rfl (vp_in_nI (by omega) (by omega)) ?_
                    rw [nI_clamp (n := t) (by omega)]
                    rw [show Ma t = 2 from hM2]
                    refine v_iconst (v := 2) (am_Dk d_MM_holds (k := 60) rfl) (by decide) ?_
                    refine v_icmp_ne (tgt := 132) (am_Dk d_MM_holds (k := 61) rfl) (by decide) (fun c551 => ?_) (fun c551 => ?_)
                    · exact absurd (by decide) c551
                    · refine v_aload_n (am_Dk d_MM_holds (k := 62) rfl) rfl ?_
                      refine v_get (am_Dk d_MM_holds (k := 63) rfl) f_MM_27 q11 rfl ?_
                      refine v_iload_n (am_Dk d_MM_holds (k := 64) rfl) rfl ?_
                      refine v_ldcS (i := 137) (tx := "=<") (am_Dk d_MM_holds (k := 65) rfl) (by decide +kernel) ?_
                      refine v_callV (rest := []) (As := [.int (nI k), .ref 137]) (mc' := 0) (ms' := 0) (am_Dk d_MM_holds (k := 66) rfl) c_MM_103 (Or.inl ⟨_, _, _, _, _, hN, cq_ok11⟩) (t_MN_spells G (d := 4) (by omega) (hN) (hT) hO (hF) hA hk (by omega) (by omega) mmS_137) (by omega) (by omega) (by omega) (by simp [Value.category]) rfl (fun v552 M553 n554 h555 => ?_) (fun _ _ _ h555 => ?_)
                      rotate_left
                      · exact absurd h555.1 (by simp)
                      obtain ⟨h555, e556, e557⟩ := h555
                      replace e556 := e556.symm
                      replace e557 := e557.symm
                      subst e556
                      subst e557
                      cases h555
                      show am_V G _ _ _ _ _ 125 [(4, .int 0), (3, .int 0), (2, .int (nI k)), (1, .int (nI t)), (0, .ref 1211)] [.int (bi (spv (kn_w 13) (nmL F k) (nmW T F k)))] M2 nx 0 0
                      rw [qs13]
                      show am_V G _ _ _ _ _ 125 [(4, .int 0), (3, .int 0), (2, .int (nI k)), (1, .int (nI t)), (0, .ref 1211)] [.int 0] M2 nx 0 0
                      refine v_if_eq (tgt := 132) (am_Dk d_MM_holds (k := 67) rfl) (by decide) (fun c558 => ?_) (fun c558 => ?_)
                      · refine v_iconst (v := 0) (am_Dk d_MM_holds (k := 70) rfl) (by decide) ?_
                        refine v_istore (L1 := [(5, .int 0), (4, .int 0), (3, .int 0), (2, .int (nI k)), (1, .int (nI t)), (0, .ref 1211)]) (am_Dk d_MM_holds (k := 71) rfl) (by decide) rfl ?_
                        refine v_aload_n (am_Dk d_MM_holds (k := 72) rfl) rfl ?_
                        refine v_get (am_Dk d_MM_holds (k := 73) rfl) f_MM_20 q11 rfl ?_
                        refine v_get9 (am_Dk d_MM_holds (k := 74) rfl) r_MM_98 hX.1.1 rfl ?_
                        refine v_iload_n (am_Dk d_MM_holds (k := 75) rfl) rfl ?_
                        refine v_iald (am_Dk d_MM_holds (k := 76) rfl) hMa rfl (vp_in_nI (by omega) (by omega)) ?_
                        rw [nI_clamp (n := t) (by omega)]
                        rw [show Ma t = 2 from hM2]
                        refine v_iconst (v := 2) (am_Dk d_MM_holds (k := 77) rfl) (by decide) ?_
                        refine v_icmp_ne (tgt := 165) (am_Dk d_MM_holds (k := 78) rfl) (by decide) (fun c559 => ?_) (fun c559 => ?_)
                        · exact absurd (by decide) c559
                        · refine v_aload_n (am_Dk d_MM_holds (k := 79) rfl) rfl ?_
                          refine v_get (am_Dk d_MM_holds (k := 80) rfl) f_MM_27 q11 rfl ?_
                          refine v_iload_n (am_Dk d_MM_holds (k := 81) rfl) rfl ?_
                          refine v_ldcS (i := 138) (tx := ">=") (am_Dk d_MM_holds (k := 82) rfl) (by decide +kernel) ?_
                          refine v_callV (rest := []) (As := [.int (nI k), .ref 138]) (mc' := 0) (ms' := 0) (am_Dk d_MM_holds (k := 83) rfl) c_MM_103 (Or.inl ⟨_, _, _, _, _, hN, cq_ok11⟩) (t_MN_spells G (d := 4) (by omega) (hN) (hT) hO (hF) hA hk (by omega) (by omega) mmS_138) (by omega) (by omega) (by omega) (by simp [Value.category]) rfl (fun v560 M561 n562 h563 => ?_) (fun _ _ _ h563 => ?_)
                          rotate_left
                          · exact absurd h563.1 (by simp)
                          obtain ⟨h563, e564, e565⟩ := h563
                          replace e564 := e564.symm
                          replace e565 := e565.symm
                          subst e564
                          subst e565
                          cases h563
                          show am_V G _ _ _ _ _ 158 [(5, .int 0), (4, .int 0), (3, .int 0), (2, .int (nI k)), (1, .int (nI t)), (0, .ref 1211)] [.int (bi (spv (kn_w 14) (nmL F k) (nmW T F k)))] M2 nx 0 0
                          rw [qs14]
                          show am_V G _ _ _ _ _ 158 [(5, .int 0), (4, .int 0), (3, .int 0), (2, .int (nI k)), (1, .int (nI t)), (0, .ref 1211)] [.int 0] M2 nx 0 0
                          refine v_if_eq (tgt := 165) (am_Dk d_MM_holds (k := 84) rfl) (by decide) (fun c566 => ?_) (fun c566 => ?_)
                          · refine v_iconst (v := 0) (am_Dk d_MM_holds (k := 87) rfl) (by decide) ?_
                            refine v_istore (L1 := [(6, .int 0), (5, .int 0), (4, .int 0), (3, .int 0), (2, .int (nI k)), (1, .int (nI t)), (0, .ref 1211)]) (am_Dk d_MM_holds (k := 88) rfl) (by decide) rfl ?_
                            refine v_aload_n (am_Dk d_MM_holds (k := 89) rfl) rfl ?_
                            refine v_get (am_Dk d_MM_holds (k := 90) rfl) f_MM_20 q11 rfl ?_
                            refine v_get9 (am_Dk d_MM_holds (k := 91) rfl) r_MM_98 hX.1.1 rfl ?_
                            refine v_iload_n (am_Dk d_MM_holds (k := 92) rfl) rfl ?_
                            refine v_iald (am_Dk d_MM_holds (k := 93) rfl) hMa rfl (vp_in_nI (by omega) (by omega)) ?_
                            rw [nI_clamp (n := t) (by omega)]
                            rw [show Ma t = 2 from hM2]
                            refine v_iconst (v := 2) (am_Dk d_MM_holds (k := 94) rfl) (by decide) ?_
                            refine v_icmp_ne (tgt := 198) (am_Dk d_MM_holds (k := 95) rfl) (by decide) (fun c567 => ?_) (fun c567 => ?_)
                            · exact absurd (by decide) c567
                            · refine v_aload_n (am_Dk d_MM_holds (k := 96) rfl) rfl ?_
                              refine v_get (am_Dk d_MM_holds (k := 97) rfl) f_MM_27 q11 rfl ?_
                              refine v_iload_n (am_Dk d_MM_holds (k := 98) rfl) rfl ?_
                              refine v_ldcS (i := 139) (tx := "=:=") (am_Dk d_MM_holds (k := 99) rfl) (by decide +kernel) ?_
                              refine v_callV (rest := []) (As := [.int (nI k), .ref 139]) (mc' := 0) (ms' := 0) (am_Dk d_MM_holds (k := 100) rfl) c_MM_103 (Or.inl ⟨_, _, _, _, _, hN, cq_ok11⟩) (t_MN_spells G (d := 4) (by omega) (hN) (hT) hO (hF) hA hk (by omega) (by omega) mmS_139) (by omega) (by omega) (by omega) (by simp [Value.category]) rfl (fun v568 M569 n570 h571 => ?_) (fun _ _ _ h571 => ?_)
                              rotate_left
                              · exact absurd h571.1 (by simp)
                              obtain ⟨h571, e572, e573⟩ := h571
                              replace e572 := e572.symm
                              replace e573 := e573.symm
                              subst e572
                              subst e573
                              cases h571
                              show am_V G _ _ _ _ _ 191 [(6, .int 0), (5, .int 0), (4, .int 0), (3, .int 0), (2, .int (nI k)), (1, .int (nI t)), (0, .ref 1211)] [.int (bi (spv (kn_w 15) (nmL F k) (nmW T F k)))] M2 nx 0 0
                              rw [qs15]
                              show am_V G _ _ _ _ _ 191 [(6, .int 0), (5, .int 0), (4, .int 0), (3, .int 0), (2, .int (nI k)), (1, .int (nI t)), (0, .ref 1211)] [.int 0] M2 nx 0 0
                              refine v_if_eq (tgt := 198) (am_Dk d_MM_holds (k := 101) rfl) (by decide) (fun c574 => ?_) (fun c574 => ?_)
                              · refine v_iconst (v := 0) (am_Dk d_MM_holds (k := 104) rfl) (by decide) ?_
                                refine v_istore (L1 := [(7, .int 0), (6, .int 0), (5, .int 0), (4, .int 0), (3, .int 0), (2, .int (nI k)), (1, .int (nI t)), (0, .ref 1211)]) (am_Dk d_MM_holds (k := 105) rfl) (by decide) rfl ?_
                                refine v_aload_n (am_Dk d_MM_holds (k := 106) rfl) rfl ?_
                                refine v_get (am_Dk d_MM_holds (k := 107) rfl) f_MM_20 q11 rfl ?_
                                refine v_get9 (am_Dk d_MM_holds (k := 108) rfl) r_MM_98 hX.1.1 rfl ?_
                                refine v_iload_n (am_Dk d_MM_holds (k := 109) rfl) rfl ?_
                                refine v_iald (am_Dk d_MM_holds (k := 110) rfl) hMa rfl (vp_in_nI (by omega) (by omega)) ?_
                                rw [nI_clamp (n := t) (by omega)]
                                rw [show Ma t = 2 from hM2]
                                refine v_iconst (v := 2) (am_Dk d_MM_holds (k := 111) rfl) (by decide) ?_
                                refine v_icmp_ne (tgt := 231) (am_Dk d_MM_holds (k := 112) rfl) (by decide) (fun c575 => ?_) (fun c575 => ?_)
                                · exact absurd (by decide) c575
                                · refine v_aload_n (am_Dk d_MM_holds (k := 113) rfl) rfl ?_
                                  refine v_get (am_Dk d_MM_holds (k := 114) rfl) f_MM_27 q11 rfl ?_
                                  refine v_iload_n (am_Dk d_MM_holds (k := 115) rfl) rfl ?_
                                  refine v_ldcS (i := 140) (tx := "=\\=") (am_Dk d_MM_holds (k := 116) rfl) (by decide +kernel) ?_
                                  refine v_callV (rest := []) (As := [.int (nI k), .ref 140]) (mc' := 0) (ms' := 0) (am_Dk d_MM_holds (k := 117) rfl) c_MM_103 (Or.inl ⟨_, _, _, _, _, hN, cq_ok11⟩) (t_MN_spells G (d := 4) (by omega) (hN) (hT) hO (hF) hA hk (by omega) (by omega) mmS_140) (by omega) (by omega) (by omega) (by simp [Value.category]) rfl (fun v576 M577 n578 h579 => ?_) (fun _ _ _ h579 => ?_)
                                  rotate_left
                                  · exact absurd h579.1 (by simp)
                                  obtain ⟨h579, e580, e581⟩ := h579
                                  replace e580 := e580.symm
                                  replace e581 := e581.symm
                                  subst e580
                                  subst e581
                                  cases h579
                                  show am_V G _ _ _ _ _ 224 [(7, .int 0), (6, .int 0), (5, .int 0), (4, .int 0), (3, .int 0), (2, .int (nI k)), (1, .int (nI t)), (0, .ref 1211)] [.int (bi (spv (kn_w 16) (nmL F k) (nmW T F k)))] M2 nx 0 0
                                  rw [qs16]
                                  show am_V G _ _ _ _ _ 224 [(7, .int 0), (6, .int 0), (5, .int 0), (4, .int 0), (3, .int 0), (2, .int (nI k)), (1, .int (nI t)), (0, .ref 1211)] [.int 1] M2 nx 0 0
                                  refine v_if_eq (tgt := 231) (am_Dk d_MM_holds (k := 118) rfl) (by decide) (fun c582 => ?_) (fun c582 => ?_)
                                  · exact absurd c582 (by decide)
                                  · refine v_iconst (v := 1) (am_Dk d_MM_holds (k := 119) rfl) (by decide) ?_
                                    refine v_goto (tgt := 232) (am_Dk d_MM_holds (k := 120) rfl) (by decide) ?_
                                    refine v_istore (L1 := [(8, .int 1), (7, .int 0), (6, .int 0), (5, .int 0), (4, .int 0), (3, .int 0), (2, .int (nI k)), (1, .int (nI t)), (0, .ref 1211)]) (am_Dk d_MM_holds (k := 122) rfl) (by decide) rfl ?_
                                    refine v_iload_n (am_Dk d_MM_holds (k := 123) rfl) rfl ?_
                                    refine v_if_ne (tgt := 275) (am_Dk d_MM_holds (k := 124) rfl) (by decide) (fun c583 => ?_) (fun c583 => ?_)
                                    · exact absurd (by decide) c583
                                    · refine v_iload (am_Dk d_MM_holds (k := 125) rfl) rfl ?_
                                      refine v_if_ne (tgt := 275) (am_Dk d_MM_holds (k := 126) rfl) (by decide) (fun c584 => ?_) (fun c584 => ?_)
                                      · exact absurd (by decide) c584
                                      · refine v_iload (am_Dk d_MM_holds (k := 127) rfl) rfl ?_
                                        refine v_if_ne (tgt := 275) (am_Dk d_MM_holds (k := 128) rfl) (by decide) (fun c585 => ?_) (fun c585 => ?_)
                                        · exact absurd (by decide) c585
                                        · refine v_iload (am_Dk d_MM_holds (k := 129) rfl) rfl ?_
                                          refine v_if_ne (tgt := 275) (am_Dk d_MM_holds (k := 130) rfl) (by decide) (fun c586 => ?_) (fun c586 => ?_)
                                          · exact absurd (by decide) c586
                                          · refine v_iload (am_Dk d_MM_holds (k := 131) rfl) rfl ?_
                                            refine v_if_ne (tgt := 275) (am_Dk d_MM_holds (k := 132) rfl) (by decide) (fun c587 => ?_) (fun c587 => ?_)
                                            · exact absurd (by decide) c587
                                            · refine v_iload (am_Dk d_MM_holds (k := 133) rfl) rfl ?_
                                              refine v_if_ne (tgt := 275) (am_Dk d_MM_holds (k := 134) rfl) (by decide) (fun c588 => ?_) (fun c588 => ?_)
                                              · refine v_aload_n (am_Dk d_MM_holds (k := 143) rfl) rfl ?_
                                                refine v_aload_n (am_Dk d_MM_holds (k := 144) rfl) rfl ?_
                                                refine v_get (am_Dk d_MM_holds (k := 145) rfl) f_MM_20 q11 rfl ?_
                                                refine v_iload_n (am_Dk d_MM_holds (k := 146) rfl) rfl ?_
                                                refine v_iconst (v := 0) (am_Dk d_MM_holds (k := 147) rfl) (by decide) ?_
                                                refine v_callV (rest := [.ref 1211]) (As := [.int (nI t), .int 0]) (mc' := 0) (ms' := 0) (am_Dk d_MM_holds (k := 148) rfl) c_MM_139 (Or.inl ⟨_, _, _, _, _, hX.1.1, cq_ok10⟩) (t_MT_part G (d := 0) (b := b) (i := 0) (by omega) (ARs_fr hX.1 (fun i z1 z2 => rfl)) (by omega) hFb (by omega)) (by omega) (by omega) (by omega) (by simp [Value.category]) rfl (fun v589 M590 n591 h592 => ?_) (fun _ _ _ h592 => ?_)
                                                rotate_left
                                                · exact absurd h592.1 (by simp)
                                                obtain ⟨h592, e593, e594⟩ := h592
                                                replace e593 := e593.symm
                                                replace e594 := e594.symm
                                                subst e593
                                                subst e594
                                                cases h592
                                                show am_V G _ _ _ _ _ 285 [(8, .int 1), (7, .int 0), (6, .int 0), (5, .int 0), (4, .int 0), (3, .int 0), (2, .int (nI k)), (1, .int (nI t)), (0, .ref 1211)] [.int (Pa (b + 0)), .ref 1211] M2 nx 0 0
                                                rw [hPy]
                                                show am_V G _ _ _ _ _ 285 [(8, .int 1), (7, .int 0), (6, .int 0), (5, .int 0), (4, .int 0), (3, .int 0), (2, .int (nI k)), (1, .int (nI t)), (0, .ref 1211)] [.int (nI y), .ref 1211] M2 nx 0 0
                                                refine v_callV (rest := []) (As := [.int (nI y)]) (mc' := 0) (ms' := 0) (am_Dk d_MM_holds (k := 149) rfl) c_MM_176 (Or.inl ⟨_, _, _, _, _, q11, cq_ok9⟩) (t_MM_reckon G (d := 7) (by omega) hX (by omega) (by omega) (by omega) (by omega) (by omega) hTb hLU hrcx q11 hW0 hS0 hL0 (show y < sz from by omega)) (by omega) (by omega) (by omega) (by simp [Value.category]) rfl (fun v595 M596 n597 h598 => ?_) (fun _ _ _ h598 => ?_)
                                                rotate_left
                                                · obtain ⟨_, _, _, _, hx9, _⟩ := h598; cases hx9
                                                obtain ⟨Wk1, Sg1, Lf1, rr1, h598, hx9, ⟨y1_1, y2_1, y3_1, y4_1, y5_1⟩, y6_1⟩ := h598
                                                cases h598
                                                replace hx9 := hx9.symm
                                                subst hx9
                                                have heR1 := ar_E hX.2.2.2.1 (y + 1) y (by omega) (by omega)
                                                have b599 : M596 1213 = some (.inr (10, [.ref 1214, .ref 1215, .ref 1216, .ref 1217, .ref 1218, .ref 1219, .int (nI sz), .int (nI pt)])) := (y5_1 1213 (by omega)).trans (hX.1.1)
                                                have b600 : M596 1214 = some (.inl (1, 9000, .inl Kd)) := (y5_1 1214 (by omega)).trans (hKd)
                                                have b601 : M596 1215 = some (.inl (1, 9000, .inl Nm)) := (y5_1 1215 (by omega)).trans (hNm)
                                                have b602 : M596 1216 = some (.inl (1, 9000, .inl Fi)) := (y5_1 1216 (by omega)).trans (hFi)
                                                have b603 : M596 1217 = some (.inl (1, 9000, .inl Ma)) := (y5_1 1217 (by omega)).trans (hMa)
                                                have b604 : M596 1218 = some (.inl (1, 9000, .inl Pa)) := (y5_1 1218 (by omega)).trans (hPa)
                                                have b605 : M596 1220 = some (.inr (11, [.ref 1221, .ref 1222, .ref 1223, .ref 1224, .int (nI ns), .int (nI tx)])) := (y5_1 1220 (by omega)).trans (hN)
                                                have b606 : M596 1221 = some (.inl (0, 5000, .inl T)) := (y5_1 1221 (by omega)).trans (hT)
                                                have b607 : M596 1222 = some (.inl (1, 9001, .inl A9)) := (y5_1 1222 (by omega)).trans (hF)
                                                have b608 : M596 1225 = some (.inr (12, [.ref 1226, .ref 1227, .ref 1228, .ref 1213, .ref 1220, sv, .int n9, .int a9, .int b9, .int t9, .int o9, .long u9, .ref 1229, .int l9, .ref 1230, .int p9, .int q9, .ref 1231, .int v9, .int k9, .int r9, .ref 1232])) := (y5_1 1225 (by omega)).trans (hrcx)
                                                show am_V G _ _ _ _ _ 288 [(8, .int 1), (7, .int 0), (6, .int 0), (5, .int 0), (4, .int 0), (3, .int 0), (2, .int (nI k)), (1, .int (nI t)), (0, .ref 1211)] [] M596 nx 0 0
                                                refine v_aload_n (am_Dk d_MM_holds (k := 150) rfl) rfl ?_
                                                refine v_get (am_Dk d_MM_holds (k := 151) rfl) f_MM_132 y4_1 rfl ?_
                                                refine v_lstore (L1 := [(9, .long rr1), (8, .int 1), (7, .int 0), (6, .int 0), (5, .int 0), (4, .int 0), (3, .int 0), (2, .int (nI k)), (1, .int (nI t)), (0, .ref 1211)]) (am_Dk d_MM_holds (k := 152) rfl) (by decide) rfl ?_
                                                refine v_aload_n (am_Dk d_MM_holds (k := 153) rfl) rfl ?_
                                                refine v_get (am_Dk d_MM_holds (k := 154) rfl) f_MM_123 y4_1 rfl ?_
                                                refine v_if_ne (tgt := 314) (am_Dk d_MM_holds (k := 155) rfl) (by decide) (fun c609 => ?_) (fun c609 => ?_)
                                                · have heY : ¬ (W.1 y).1 = 0 := c609
                                                  refine v_aload_n (am_Dk d_MM_holds (k := 163) rfl) rfl ?_
                                                  refine v_get (am_Dk d_MM_holds (k := 164) rfl) f_MM_123 y4_1 rfl ?_
                                                  refine v_if_le (tgt := 328) (am_Dk d_MM_holds (k := 165) rfl) (by decide) (fun c610 => ?_) (fun c610 => ?_)
                                                  · exact absurd ((errR_le heR1).mp c610) heY
                                                  · try have heZ : ¬ (W.1 z).1 = 0 := fun z => c610 ((errR_le heR2).mpr z)
                                                    refine v_aload_n (am_Dk d_MM_holds (k := 166) rfl) rfl ?_
                                                    refine v_iconst (v := 1) (am_Dk d_MM_holds (k := 167) rfl) (by decide) ?_
                                                    refine v_put (am_Dk d_MM_holds (k := 168) rfl) f_MM_64 y4_1 (Nat.le_of_ble_eq_true rfl) rfl rfl ?_
                                                    refine v_iconst (v := 0) (am_Dk d_MM_holds (k := 169) rfl) (by decide) ?_
                                                    have hrx7 := rx_frK hrx y5_1
                                                    have hrc7 := rcell_fr hrc1 (y5_1 1225 (by omega))
                                                    exact v_ireturn (am_Dk d_MM_holds (k := 170) rfl) rfl rfl (by omega) (by omega) ⟨rfl, fun i hi => (am_up_ne (show i ≠ 1211 from by omega)).trans (((y5_1 i (by omega)).trans (hfT i (by omega)))), rx_fr9 hrx7 (fun i hi => (am_up_ne (show i ≠ 1211 from by omega)).trans (rfl)), rcell_fr hrc7 ((am_up_ne (show 1225 ≠ 1211 from by decide)).trans (rfl)), ⟨⟨_, (am_up_ne (show 1236 ≠ 1211 from by omega)).trans (y1_1)⟩, ⟨_, (am_up_ne (show 1237 ≠ 1211 from by omega)).trans (y2_1)⟩, ⟨_, (am_up_ne (show 1238 ≠ 1211 from by omega)).trans (y3_1)⟩⟩, Or.inr ⟨W, t, sz, _, hok, Or.inr ⟨hcm, Or.inl ⟨by rw [hW1]; exact heY, rfl, by rw [hW1]; exact am_up_eq _ _ _⟩⟩⟩⟩
                                                · have heY : (W.1 y).1 = 0 := c609
                                                  rw [heY] at y4_1
                                                  refine v_aload_n (am_Dk d_MM_holds (k := 156) rfl) rfl ?_
                                                  refine v_aload_n (am_Dk d_MM_holds (k := 157) rfl) rfl ?_
                                                  refine v_get (am_Dk d_MM_holds (k := 158) rfl) f_MM_20 y4_1 rfl ?_
                                                  refine v_iload_n (am_Dk d_MM_holds (k := 159) rfl) rfl ?_
                                                  refine v_iconst (v := 1) (am_Dk d_MM_holds (k := 160) rfl) (by decide) ?_
                                                  refine v_callV (rest := [.ref 1211]) (As := [.int (nI t), .int 1]) (mc' := 0) (ms' := 0) (am_Dk d_MM_holds (k := 161) rfl) c_MM_139 (Or.inl ⟨_, _, _, _, _, b599, cq_ok10⟩) (t_MT_part G (d := 0) (b := b) (i := 1) (by omega) (ARs_fr hX.1 (fun i z1 z2 => y5_1 i (by omega))) (by omega) hFb (by omega)) (by omega) (by omega) (by omega) (by simp [Value.category]) rfl (fun v611 M612 n613 h614 => ?_) (fun _ _ _ h614 => ?_)
                                                  rotate_left
                                                  · exact absurd h614.1 (by simp)
                                                  obtain ⟨h614, e615, e616⟩ := h614
                                                  replace e615 := e615.symm
                                                  replace e616 := e616.symm
                                                  subst e615
                                                  subst e616
                                                  cases h614
                                                  show am_V G _ _ _ _ _ 311 [(9, .long rr1), (8, .int 1), (7, .int 0), (6, .int 0), (5, .int 0), (4, .int 0), (3, .int 0), (2, .int (nI k)), (1, .int (nI t)), (0, .ref 1211)] [.int (Pa (b + 1)), .ref 1211] M596 nx 0 0
                                                  rw [hPz]
                                                  show am_V G _ _ _ _ _ 311 [(9, .long rr1), (8, .int 1), (7, .int 0), (6, .int 0), (5, .int 0), (4, .int 0), (3, .int 0), (2, .int (nI k)), (1, .int (nI t)), (0, .ref 1211)] [.int (nI z), .ref 1211] M596 nx 0 0
                                                  have hX2 := RSx_fr (M1 := M596) hX (fun i hi => y5_1 i (by omega))
                                                  have hTb2 : tbl M596 c Vl Vg Vn P Q := tbl_fr hTb (fun i z1 z2 => y5_1 i (by omega))
                                                  refine v_callV (rest := []) (As := [.int (nI z)]) (mc' := 0) (ms' := 0) (am_Dk d_MM_holds (k := 162) rfl) c_MM_176 (Or.inl ⟨_, _, _, _, _, y4_1, cq_ok9⟩) (t_MM_reckon G (d := 7) (by omega) hX2 (by omega) (by omega) (by omega) (by omega) (by omega) hTb2 hLU b608 y4_1 y1_1 y2_1 y3_1 (show z < sz from by omega)) (by omega) (by omega) (by omega) (by simp [Value.category]) rfl (fun v617 M618 n619 h620 => ?_) (fun _ _ _ h620 => ?_)
                                                  rotate_left
                                                  · obtain ⟨_, _, _, _, hx9, _⟩ := h620; cases hx9
                                                  obtain ⟨Wk2, Sg2, Lf2, rr2, h620, hx9, ⟨y1_2, y2_2, y3_2, y4_2, y5_2⟩, y6_2⟩ := h620
                                                  cases h620
                                                  replace hx9 := hx9.symm
                                                  subst hx9
                                                  have heR2 := ar_E hX.2.2.2.1 (z + 1) z (by omega) (by omega)
                                                  have b621 : M618 1213 = some (.inr (10, [.ref 1214, .ref 1215, .ref 1216, .ref 1217, .ref 1218, .ref 1219, .int (nI sz), .int (nI pt)])) := (y5_2 1213 (by omega)).trans (b599)
                                                  have b622 : M618 1214 = some (.inl (1, 9000, .inl Kd)) := (y5_2 1214 (by omega)).trans (b600)
                                                  have b623 : M618 1215 = some (.inl (1, 9000, .inl Nm)) := (y5_2 1215 (by omega)).trans (b601)
                                                  have b624 : M618 1216 = some (.inl (1, 9000, .inl Fi)) := (y5_2 1216 (by omega)).trans (b602)
                                                  have b625 : M618 1217 = some (.inl (1, 9000, .inl Ma)) := (y5_2 1217 (by omega)).trans (b603)
                                                  have b626 : M618 1218 = some (.inl (1, 9000, .inl Pa)) := (y5_2 1218 (by omega)).trans (b604)
                                                  have b627 : M618 1220 = some (.inr (11, [.ref 1221, .ref 1222, .ref 1223, .ref 1224, .int (nI ns), .int (nI tx)])) := (y5_2 1220 (by omega)).trans (b605)
                                                  have b628 : M618 1221 = some (.inl (0, 5000, .inl T)) := (y5_2 1221 (by omega)).trans (b606)
                                                  have b629 : M618 1222 = some (.inl (1, 9001, .inl A9)) := (y5_2 1222 (by omega)).trans (b607)
                                                  have b630 : M618 1225 = some (.inr (12, [.ref 1226, .ref 1227, .ref 1228, .ref 1213, .ref 1220, sv, .int n9, .int a9, .int b9, .int t9, .int o9, .long u9, .ref 1229, .int l9, .ref 1230, .int p9, .int q9, .ref 1231, .int v9, .int k9, .int r9, .ref 1232])) := (y5_2 1225 (by omega)).trans (b608)
                                                  show am_V G _ _ _ _ _ 314 [(9, .long rr1), (8, .int 1), (7, .int 0), (6, .int 0), (5, .int 0), (4, .int 0), (3, .int 0), (2, .int (nI k)), (1, .int (nI t)), (0, .ref 1211)] [] M618 nx 0 0
                                                  refine v_aload_n (am_Dk d_MM_holds (k := 163) rfl) rfl ?_
                                                  refine v_get (am_Dk d_MM_holds (k := 164) rfl) f_MM_123 y4_2 rfl ?_
                                                  refine v_if_le (tgt := 328) (am_Dk d_MM_holds (k := 165) rfl) (by decide) (fun c631 => ?_) (fun c631 => ?_)
                                                  · have heZ : (W.1 z).1 = 0 := (errR_le heR2).mp c631
                                                    refine v_iload_n (am_Dk d_MM_holds (k := 171) rfl) rfl ?_
                                                    refine v_if_eq (tgt := 350) (am_Dk d_MM_holds (k := 172) rfl) (by decide) (fun c632 => ?_) (fun c632 => ?_)
                                                    · refine v_iload (am_Dk d_MM_holds (k := 182) rfl) rfl ?_
                                                      refine v_if_eq (tgt := 373) (am_Dk d_MM_holds (k := 183) rfl) (by decide) (fun c633 => ?_) (fun c633 => ?_)
                                                      · refine v_iload (am_Dk d_MM_holds (k := 193) rfl) rfl ?_
                                                        refine v_if_eq (tgt := 396) (am_Dk d_MM_holds (k := 194) rfl) (by decide) (fun c634 => ?_) (fun c634 => ?_)
                                                        · refine v_iload (am_Dk d_MM_holds (k := 204) rfl) rfl ?_
                                                          refine v_if_eq (tgt := 419) (am_Dk d_MM_holds (k := 205) rfl) (by decide) (fun c635 => ?_) (fun c635 => ?_)
                                                          · refine v_iload (am_Dk d_MM_holds (k := 215) rfl) rfl ?_
                                                            refine v_lload (am_Dk d_MM_holds (k := 216) rfl) rfl ?_
                                                            refine v_aload_n (am_Dk d_MM_holds (k := 217) rfl) rfl ?_
                                                            refine v_get (am_Dk d_MM_holds (k := 218) rfl) f_MM_132 y4_2 rfl ?_
                                                            refine v_lcmp (am_Dk d_MM_holds (k := 219) rfl) ?_
                                                            refine v_if_ne (tgt := 435) (am_Dk d_MM_holds (k := 220) rfl) (by decide) (fun c636 => ?_) (fun c636 => ?_)
                                                            · have hcp := fun z => c636 ((lg_cmp_eq _ _).mpr z)
                                                              refine v_iconst (v := 0) (am_Dk d_MM_holds (k := 223) rfl) (by decide) ?_
                                                              refine v_icmp_ne (tgt := 443) (am_Dk d_MM_holds (k := 224) rfl) (by decide) (fun c637 => ?_) (fun c637 => ?_)
                                                              · exact absurd (by decide) c637
                                                              · refine v_iconst (v := 1) (am_Dk d_MM_holds (k := 225) rfl) (by decide) ?_
                                                                refine v_goto (tgt := 444) (am_Dk d_MM_holds (k := 226) rfl) (by decide) ?_
                                                                have hrx7 := rx_frK hrx y5_1
                                                                have hrc7 := rcell_fr hrc1 (y5_1 1225 (by omega))
                                                                replace hrx7 := rx_frK hrx7 y5_2
                                                                replace hrc7 := rcell_fr hrc7 (y5_2 1225 (by omega))
                                                                rw [heZ] at y4_2
                                                                have q1 := y6_1 heY
                                                                have q2 := y6_2 heZ
                                                                subst q1
                                                                subst q2
                                                                have htr : truK 16 (W.1 y).2 (W.1 z).2 = true := by rw [truK, if_neg (by decide), if_neg (by decide), if_neg (by decide), if_neg (by decide), if_neg (by decide)]; exact decide_eq_true (hcp)
                                                                exact v_ireturn (am_Dk d_MM_holds (k := 228) rfl) rfl rfl (by omega) (by omega) ⟨rfl, fun i hi => ((y5_2 i (by omega)).trans ((y5_1 i (by omega)).trans (hfT i (by omega)))), rx_fr9 hrx7 (fun i hi => rfl), rcell_fr hrc7 (rfl), ⟨⟨_, y1_2⟩, ⟨_, y2_2⟩, ⟨_, y3_2⟩⟩, Or.inr ⟨W, t, sz, _, hok, Or.inr ⟨hcm, Or.inr (Or.inr ⟨by rw [hW1]; exact heY, by rw [hW2]; exact heZ, by rw [hW1, hW2, hW0x, ho, htr]; rfl, y4_2⟩)⟩⟩⟩
                                                            · have hcp := (lg_cmp_eq _ _).mp c636
                                                              refine v_iconst (v := 1) (am_Dk d_MM_holds (k := 221) rfl) (by decide) ?_
                                                              refine v_goto (tgt := 436) (am_Dk d_MM_holds (k := 222) rfl) (by decide) ?_
                                                              refine v_icmp_ne (tgt := 443) (am_Dk d_MM_holds (k := 224) rfl) (by decide) (fun c638 => ?_) (fun c638 => ?_)
                                                              · refine v_iconst (v := 0) (am_Dk d_MM_holds (k := 227) rfl) (by decide) ?_
                                                                have hrx7 := rx_frK hrx y5_1
                                                                have hrc7 := rcell_fr hrc1 (y5_1 1225 (by omega))
                                                                replace hrx7 := rx_frK hrx7 y5_2
                                                                replace hrc7 := rcell_fr hrc7 (y5_2 1225 (by omega))
                                                                rw [heZ] at y4_2
                                                                have q1 := y6_1 heY
                                                                have q2 := y6_2 heZ
                                                                subst q1
                                                                subst q2
                                                                have htr : truK 16 (W.1 y).2 (W.1 z).2 = false := by rw [truK, if_neg (by decide), if_neg (by decide), if_neg (by decide), if_neg (by decide), if_neg (by decide)]; exact decide_eq_false (fun z => z hcp)
                                                                exact v_ireturn (am_Dk d_MM_holds (k := 228) rfl) rfl rfl (by omega) (by omega) ⟨rfl, fun i hi => ((y5_2 i (by omega)).trans ((y5_1 i (by omega)).trans (hfT i (by omega)))), rx_fr9 hrx7 (fun i hi => rfl), rcell_fr hrc7 (rfl), ⟨⟨_, y1_2⟩, ⟨_, y2_2⟩, ⟨_, y3_2⟩⟩, Or.inr ⟨W, t, sz, _, hok, Or.inr ⟨hcm, Or.inr (Or.inr ⟨by rw [hW1]; exact heY, by rw [hW2]; exact heZ, by rw [hW1, hW2, hW0x, ho, htr]; rfl, y4_2⟩)⟩⟩⟩
                                                              · exact absurd c638 (by decide)
                                                          · exact absurd (by decide) c635
                                                        · exact absurd (by decide) c634
                                                      · exact absurd (by decide) c633
                                                    · exact absurd (by decide) c632
                                                  · try have heZ : ¬ (W.1 z).1 = 0 := fun z => c631 ((errR_le heR2).mpr z)
                                                    refine v_aload_n (am_Dk d_MM_holds (k := 166) rfl) rfl ?_
                                                    refine v_iconst (v := 1) (am_Dk d_MM_holds (k := 167) rfl) (by decide) ?_
                                                    refine v_put (am_Dk d_MM_holds (k := 168) rfl) f_MM_64 y4_2 (Nat.le_of_ble_eq_true rfl) rfl rfl ?_
                                                    refine v_iconst (v := 0) (am_Dk d_MM_holds (k := 169) rfl) (by decide) ?_
                                                    have hrx7 := rx_frK hrx y5_1
                                                    have hrc7 := rcell_fr hrc1 (y5_1 1225 (by omega))
                                                    replace hrx7 := rx_frK hrx7 y5_2
                                                    replace hrc7 := rcell_fr hrc7 (y5_2 1225 (by omega))
                                                    exact v_ireturn (am_Dk d_MM_holds (k := 170) rfl) rfl rfl (by omega) (by omega) ⟨rfl, fun i hi => (am_up_ne (show i ≠ 1211 from by omega)).trans (((y5_2 i (by omega)).trans ((y5_1 i (by omega)).trans (hfT i (by omega))))), rx_fr9 hrx7 (fun i hi => (am_up_ne (show i ≠ 1211 from by omega)).trans (rfl)), rcell_fr hrc7 ((am_up_ne (show 1225 ≠ 1211 from by decide)).trans (rfl)), ⟨⟨_, (am_up_ne (show 1236 ≠ 1211 from by omega)).trans (y1_2)⟩, ⟨_, (am_up_ne (show 1237 ≠ 1211 from by omega)).trans (y2_2)⟩, ⟨_, (am_up_ne (show 1238 ≠ 1211 from by omega)).trans (y3_2)⟩⟩, Or.inr ⟨W, t, sz, _, hok, Or.inr ⟨hcm, Or.inr (Or.inl ⟨by rw [hW1]; exact heY, by rw [hW2]; exact heZ, rfl, by rw [hW2]; exact am_up_eq _ _ _⟩)⟩⟩⟩
                                              · exact absurd c588 (by decide)
                              · exact absurd (by decide) c574
                          · exact absurd (by decide) c566
                      · exact absurd (by decide) c558
                  · exact absurd (by decide) c550
              · exact absurd (by decide) c542
        · exact absurd c533 (nI_nm1 (by omega))
      · have qs11 : bi (spv (kn_w 11) (nmL F k) (nmW T F k)) = 0 := by rw [spv_iff (by decide), show decide (spg (nmL F k) (nmW T F k) = 11) = false from decide_eq_false (fun z => ho (by rw [show ordN T F k = 11 from z]; decide))]; rfl
        have qs12 : bi (spv (kn_w 12) (nmL F k) (nmW T F k)) = 0 := by rw [spv_iff (by decide), show decide (spg (nmL F k) (nmW T F k) = 12) = false from decide_eq_false (fun z => ho (by rw [show ordN T F k = 12 from z]; decide))]; rfl
        have qs13 : bi (spv (kn_w 13) (nmL F k) (nmW T F k)) = 0 := by rw [spv_iff (by decide), show decide (spg (nmL F k) (nmW T F k) = 13) = false from decide_eq_false (fun z => ho (by rw [show ordN T F k = 13 from z]; decide))]; rfl
        have qs14 : bi (spv (kn_w 14) (nmL F k) (nmW T F k)) = 0 := by rw [spv_iff (by decide), show decide (spg (nmL F k) (nmW T F k) = 14) = false from decide_eq_false (fun z => ho (by rw [show ordN T F k = 14 from z]; decide))]; rfl
        have qs15 : bi (spv (kn_w 15) (nmL F k) (nmW T F k)) = 0 := by rw [spv_iff (by decide), show decide (spg (nmL F k) (nmW T F k) = 15) = false from decide_eq_false (fun z => ho (by rw [show ordN T F k = 15 from z]; decide))]; rfl
        have qs16 : bi (spv (kn_w 16) (nmL F k) (nmW T F k)) = 0 := by rw [spv_iff (by decide), show decide (spg (nmL F k) (nmW T F k) = 16) = false from decide_eq_false (fun z => ho (by rw [show ordN T F k = 16 from z]; decide))]; rfl
        have hcm : cmpK (W.2.1 t).1 = false := by rw [hW0x]; exact decide_eq_false ho
        show am_V G _ _ _ _ _ 4 [(0, .ref 1211)] [.int (nI t)] M2 nx 0 0
        refine v_istore_n (L1 := [(1, .int (nI t)), (0, .ref 1211)]) (am_Dk d_MM_holds (k := 2) rfl) (by decide) rfl ?_
        refine v_iload_n (am_Dk d_MM_holds (k := 3) rfl) rfl ?_
        refine v_iconst (v := (-1)) (am_Dk d_MM_holds (k := 4) rfl) (by decide) ?_
        refine v_icmp_ne (tgt := 17) (am_Dk d_MM_holds (k := 5) rfl) (by decide) (fun c639 => ?_) (fun c639 => ?_)
        · refine v_aload_n (am_Dk d_MM_holds (k := 11) rfl) rfl ?_
          refine v_get (am_Dk d_MM_holds (k := 12) rfl) f_MM_20 q11 rfl ?_
          refine v_get9 (am_Dk d_MM_holds (k := 13) rfl) r_MM_95 hX.1.1 rfl ?_
          refine v_iload_n (am_Dk d_MM_holds (k := 14) rfl) rfl ?_
          refine v_iald (am_Dk d_MM_holds (k := 15) rfl) hNm rfl (vp_in_nI (by omega) (by omega)) ?_
          rw [nI_clamp (n := t) (by omega)]
          rw [show Nm t = nI k from hNk]
          refine v_istore_n (L1 := [(2, .int (nI k)), (1, .int (nI t)), (0, .ref 1211)]) (am_Dk d_MM_holds (k := 16) rfl) (by decide) rfl ?_
          refine v_aload_n (am_Dk d_MM_holds (k := 17) rfl) rfl ?_
          refine v_get (am_Dk d_MM_holds (k := 18) rfl) f_MM_27 q11 rfl ?_
          refine v_get (am_Dk d_MM_holds (k := 19) rfl) f_MM_181 hN rfl ?_
          refine v_if_le (tgt := 67) (am_Dk d_MM_holds (k := 20) rfl) (by decide) (fun c640 => ?_) (fun c640 => ?_)
          · exact absurd ((nI_leI (a := ns) (b := 0) (by omega) (by omega)).mp c640) (by omega)
          · refine v_aload_n (am_Dk d_MM_holds (k := 21) rfl) rfl ?_
            refine v_get (am_Dk d_MM_holds (k := 22) rfl) f_MM_20 q11 rfl ?_
            refine v_get9 (am_Dk d_MM_holds (k := 23) rfl) r_MM_98 hX.1.1 rfl ?_
            refine v_iload_n (am_Dk d_MM_holds (k := 24) rfl) rfl ?_
            refine v_iald (am_Dk d_MM_holds (k := 25) rfl) hMa rfl (vp_in_nI (by omega) (by omega)) ?_
            rw [nI_clamp (n := t) (by omega)]
            rw [show Ma t = 2 from hM2]
            refine v_iconst (v := 2) (am_Dk d_MM_holds (k := 26) rfl) (by decide) ?_
            refine v_icmp_ne (tgt := 67) (am_Dk d_MM_holds (k := 27) rfl) (by decide) (fun c641 => ?_) (fun c641 => ?_)
            · exact absurd (by decide) c641
            · refine v_aload_n (am_Dk d_MM_holds (k := 28) rfl) rfl ?_
              refine v_get (am_Dk d_MM_holds (k := 29) rfl) f_MM_27 q11 rfl ?_
              refine v_iload_n (am_Dk d_MM_holds (k := 30) rfl) rfl ?_
              refine v_ldcS (i := 135) (tx := "<") (am_Dk d_MM_holds (k := 31) rfl) (by decide +kernel) ?_
              refine v_callV (rest := []) (As := [.int (nI k), .ref 135]) (mc' := 0) (ms' := 0) (am_Dk d_MM_holds (k := 32) rfl) c_MM_103 (Or.inl ⟨_, _, _, _, _, hN, cq_ok11⟩) (t_MN_spells G (d := 4) (by omega) (hN) (hT) hO (hF) hA hk (by omega) (by omega) mmS_135) (by omega) (by omega) (by omega) (by simp [Value.category]) rfl (fun v642 M643 n644 h645 => ?_) (fun _ _ _ h645 => ?_)
              rotate_left
              · exact absurd h645.1 (by simp)
              obtain ⟨h645, e646, e647⟩ := h645
              replace e646 := e646.symm
              replace e647 := e647.symm
              subst e646
              subst e647
              cases h645
              show am_V G _ _ _ _ _ 60 [(2, .int (nI k)), (1, .int (nI t)), (0, .ref 1211)] [.int (bi (spv (kn_w 11) (nmL F k) (nmW T F k)))] M2 nx 0 0
              rw [qs11]
              show am_V G _ _ _ _ _ 60 [(2, .int (nI k)), (1, .int (nI t)), (0, .ref 1211)] [.int 0] M2 nx 0 0
              refine v_if_eq (tgt := 67) (am_Dk d_MM_holds (k := 33) rfl) (by decide) (fun c648 => ?_) (fun c648 => ?_)
              · refine v_iconst (v := 0) (am_Dk d_MM_holds (k := 36) rfl) (by decide) ?_
                refine v_istore_n (L1 := [(3, .int 0), (2, .int (nI k)), (1, .int (nI t)), (0, .ref 1211)]) (am_Dk d_MM_holds (k := 37) rfl) (by decide) rfl ?_
                refine v_aload_n (am_Dk d_MM_holds (k := 38) rfl) rfl ?_
                refine v_get (am_Dk d_MM_holds (k := 39) rfl) f_MM_20 q11 rfl ?_
                refine v_get9 (am_Dk d_MM_holds (k := 40) rfl) r_MM_98 hX.1.1 rfl ?_
                refine v_iload_n (am_Dk d_MM_holds (k := 41) rfl) rfl ?_
                refine v_iald (am_Dk d_MM_holds (k := 42) rfl) hMa rfl (vp_in_nI (by omega) (by omega)) ?_
                rw [nI_clamp (n := t) (by omega)]
                rw [show Ma t = 2 from hM2]
                refine v_iconst (v := 2) (am_Dk d_MM_holds (k := 43) rfl) (by decide) ?_
                refine v_icmp_ne (tgt := 99) (am_Dk d_MM_holds (k := 44) rfl) (by decide) (fun c649 => ?_) (fun c649 => ?_)
                · exact absurd (by decide) c649
                · refine v_aload_n (am_Dk d_MM_holds (k := 45) rfl) rfl ?_
                  refine v_get (am_Dk d_MM_holds (k := 46) rfl) f_MM_27 q11 rfl ?_
                  refine v_iload_n (am_Dk d_MM_holds (k := 47) rfl) rfl ?_
                  refine v_ldcS (i := 136) (tx := ">") (am_Dk d_MM_holds (k := 48) rfl) (by decide +kernel) ?_
                  refine v_callV (rest := []) (As := [.int (nI k), .ref 136]) (mc' := 0) (ms' := 0) (am_Dk d_MM_holds (k := 49) rfl) c_MM_103 (Or.inl ⟨_, _, _, _, _, hN, cq_ok11⟩) (t_MN_spells G (d := 4) (by omega) (hN) (hT) hO (hF) hA hk (by omega) (by omega) mmS_136) (by omega) (by omega) (by omega) (by simp [Value.category]) rfl (fun v650 M651 n652 h653 => ?_) (fun _ _ _ h653 => ?_)
                  rotate_left
                  · exact absurd h653.1 (by simp)
                  obtain ⟨h653, e654, e655⟩ := h653
                  replace e654 := e654.symm
                  replace e655 := e655.symm
                  subst e654
                  subst e655
                  cases h653
                  show am_V G _ _ _ _ _ 92 [(3, .int 0), (2, .int (nI k)), (1, .int (nI t)), (0, .ref 1211)] [.int (bi (spv (kn_w 12) (nmL F k) (nmW T F k)))] M2 nx 0 0
                  rw [qs12]
                  show am_V G _ _ _ _ _ 92 [(3, .int 0), (2, .int (nI k)), (1, .int (nI t)), (0, .ref 1211)] [.int 0] M2 nx 0 0
                  refine v_if_eq (tgt := 99) (am_Dk d_MM_holds (k := 50) rfl) (by decide) (fun c656 => ?_) (fun c656 => ?_)
                  · refine v_iconst (v := 0) (am_Dk d_MM_holds (k := 53) rfl) (by decide) ?_
                    refine v_istore (L1 := [(4, .int 0), (3, .int 0), (2, .int (nI k)), (1, .int (nI t)), (0, .ref 1211)]) (am_Dk d_MM_holds (k := 54) rfl) (by decide) rfl ?_
                    refine v_aload_n (am_Dk d_MM_holds (k := 55) rfl) rfl ?_
                    refine v_get (am_Dk d_MM_holds (k := 56) rfl) f_MM_20 q11 rfl ?_
                    refine v_get9 (am_Dk d_MM_holds (k := 57) rfl) r_MM_98 hX.1.1 rfl ?_
                    refine v_iload_n (am_Dk d_MM_holds (k := 58) rfl) rfl ?_
                    refine v_iald (am_Dk d_MM_holds (k := 59) rfl) hMa rfl (vp_in_nI (by omega) (by omega)) ?_
                    rw [nI_clamp (n := t) (by omega)]
                    rw [show Ma t = 2 from hM2]
                    refine v_iconst (v := 2) (am_Dk d_MM_holds (k := 60) rfl) (by decide) ?_
                    refine v_icmp_ne (tgt := 132) (am_Dk d_MM_holds (k := 61) rfl) (by decide) (fun c657 => ?_) (fun c657 => ?_)
                    · exact absurd (by decide) c657
                    · refine v_aload_n (am_Dk d_MM_holds (k := 62) rfl) rfl ?_
                      refine v_get (am_Dk d_MM_holds (k := 63) rfl) f_MM_27 q11 rfl ?_
                      refine v_iload_n (am_Dk d_MM_holds (k := 64) rfl) rfl ?_
                      refine v_ldcS (i := 137) (tx := "=<") (am_Dk d_MM_holds (k := 65) rfl) (by decide +kernel) ?_
                      refine v_callV (rest := []) (As := [.int (nI k), .ref 137]) (mc' := 0) (ms' := 0) (am_Dk d_MM_holds (k := 66) rfl) c_MM_103 (Or.inl ⟨_, _, _, _, _, hN, cq_ok11⟩) (t_MN_spells G (d := 4) (by omega) (hN) (hT) hO (hF) hA hk (by omega) (by omega) mmS_137) (by omega) (by omega) (by omega) (by simp [Value.category]) rfl (fun v658 M659 n660 h661 => ?_) (fun _ _ _ h661 => ?_)
                      rotate_left
                      · exact absurd h661.1 (by simp)
                      obtain ⟨h661, e662, e663⟩ := h661
                      replace e662 := e662.symm
                      replace e663 := e663.symm
                      subst e662
                      subst e663
                      cases h661
                      show am_V G _ _ _ _ _ 125 [(4, .int 0), (3, .int 0), (2, .int (nI k)), (1, .int (nI t)), (0, .ref 1211)] [.int (bi (spv (kn_w 13) (nmL F k) (nmW T F k)))] M2 nx 0 0
                      rw [qs13]
                      show am_V G _ _ _ _ _ 125 [(4, .int 0), (3, .int 0), (2, .int (nI k)), (1, .int (nI t)), (0, .ref 1211)] [.int 0] M2 nx 0 0
                      refine v_if_eq (tgt := 132) (am_Dk d_MM_holds (k := 67) rfl) (by decide) (fun c664 => ?_) (fun c664 => ?_)
                      · refine v_iconst (v := 0) (am_Dk d_MM_holds (k := 70) rfl) (by decide) ?_
                        refine v_istore (L1 := [(5, .int 0), (4, .int 0), (3, .int 0), (2, .int (nI k)), (1, .int (nI t)), (0, .ref 1211)]) (am_Dk d_MM_holds (k := 71) rfl) (by decide) rfl ?_
                        refine v_aload_n (am_Dk d_MM_holds (k := 72) rfl) rfl ?_
                        refine v_get (am_Dk d_MM_holds (k := 73) rfl) f_MM_20 q11 rfl ?_
                        refine v_get9 (am_Dk d_MM_holds (k := 74) rfl) r_MM_98 hX.1.1 rfl ?_
                        refine v_iload_n (am_Dk d_MM_holds (k := 75) rfl) rfl ?_
                        refine v_iald (am_Dk d_MM_holds (k := 76) rfl) hMa rfl (vp_in_nI (by omega) (by omega)) ?_
                        rw [nI_clamp (n := t) (by omega)]
                        rw [show Ma t = 2 from hM2]
                        refine v_iconst (v := 2) (am_Dk d_MM_holds (k := 77) rfl) (by decide) ?_
                        refine v_icmp_ne (tgt := 165) (am_Dk d_MM_holds (k := 78) rfl) (by decide) (fun c665 => ?_) (fun c665 => ?_)
                        · exact absurd (by decide) c665
                        · refine v_aload_n (am_Dk d_MM_holds (k := 79) rfl) rfl ?_
                          refine v_get (am_Dk d_MM_holds (k := 80) rfl) f_MM_27 q11 rfl ?_
                          refine v_iload_n (am_Dk d_MM_holds (k := 81) rfl) rfl ?_
                          refine v_ldcS (i := 138) (tx := ">=") (am_Dk d_MM_holds (k := 82) rfl) (by decide +kernel) ?_
                          refine v_callV (rest := []) (As := [.int (nI k), .ref 138]) (mc' := 0) (ms' := 0) (am_Dk d_MM_holds (k := 83) rfl) c_MM_103 (Or.inl ⟨_, _, _, _, _, hN, cq_ok11⟩) (t_MN_spells G (d := 4) (by omega) (hN) (hT) hO (hF) hA hk (by omega) (by omega) mmS_138) (by omega) (by omega) (by omega) (by simp [Value.category]) rfl (fun v666 M667 n668 h669 => ?_) (fun _ _ _ h669 => ?_)
                          rotate_left
                          · exact absurd h669.1 (by simp)
                          obtain ⟨h669, e670, e671⟩ := h669
                          replace e670 := e670.symm
                          replace e671 := e671.symm
                          subst e670
                          subst e671
                          cases h669
                          show am_V G _ _ _ _ _ 158 [(5, .int 0), (4, .int 0), (3, .int 0), (2, .int (nI k)), (1, .int (nI t)), (0, .ref 1211)] [.int (bi (spv (kn_w 14) (nmL F k) (nmW T F k)))] M2 nx 0 0
                          rw [qs14]
                          show am_V G _ _ _ _ _ 158 [(5, .int 0), (4, .int 0), (3, .int 0), (2, .int (nI k)), (1, .int (nI t)), (0, .ref 1211)] [.int 0] M2 nx 0 0
                          refine v_if_eq (tgt := 165) (am_Dk d_MM_holds (k := 84) rfl) (by decide) (fun c672 => ?_) (fun c672 => ?_)
                          · refine v_iconst (v := 0) (am_Dk d_MM_holds (k := 87) rfl) (by decide) ?_
                            refine v_istore (L1 := [(6, .int 0), (5, .int 0), (4, .int 0), (3, .int 0), (2, .int (nI k)), (1, .int (nI t)), (0, .ref 1211)]) (am_Dk d_MM_holds (k := 88) rfl) (by decide) rfl ?_
                            refine v_aload_n (am_Dk d_MM_holds (k := 89) rfl) rfl ?_
                            refine v_get (am_Dk d_MM_holds (k := 90) rfl) f_MM_20 q11 rfl ?_
                            refine v_get9 (am_Dk d_MM_holds (k := 91) rfl) r_MM_98 hX.1.1 rfl ?_
                            refine v_iload_n (am_Dk d_MM_holds (k := 92) rfl) rfl ?_
                            refine v_iald (am_Dk d_MM_holds (k := 93) rfl) hMa rfl (vp_in_nI (by omega) (by omega)) ?_
                            rw [nI_clamp (n := t) (by omega)]
                            rw [show Ma t = 2 from hM2]
                            refine v_iconst (v := 2) (am_Dk d_MM_holds (k := 94) rfl) (by decide) ?_
                            refine v_icmp_ne (tgt := 198) (am_Dk d_MM_holds (k := 95) rfl) (by decide) (fun c673 => ?_) (fun c673 => ?_)
                            · exact absurd (by decide) c673
                            · refine v_aload_n (am_Dk d_MM_holds (k := 96) rfl) rfl ?_
                              refine v_get (am_Dk d_MM_holds (k := 97) rfl) f_MM_27 q11 rfl ?_
                              refine v_iload_n (am_Dk d_MM_holds (k := 98) rfl) rfl ?_
                              refine v_ldcS (i := 139) (tx := "=:=") (am_Dk d_MM_holds (k := 99) rfl) (by decide +kernel) ?_
                              refine v_callV (rest := []) (As := [.int (nI k), .ref 139]) (mc' := 0) (ms' := 0) (am_Dk d_MM_holds (k := 100) rfl) c_MM_103 (Or.inl ⟨_, _, _, _, _, hN, cq_ok11⟩) (t_MN_spells G (d := 4) (by omega) (hN) (hT) hO (hF) hA hk (by omega) (by omega) mmS_139) (by omega) (by omega) (by omega) (by simp [Value.category]) rfl (fun v674 M675 n676 h677 => ?_) (fun _ _ _ h677 => ?_)
                              rotate_left
                              · exact absurd h677.1 (by simp)
                              obtain ⟨h677, e678, e679⟩ := h677
                              replace e678 := e678.symm
                              replace e679 := e679.symm
                              subst e678
                              subst e679
                              cases h677
                              show am_V G _ _ _ _ _ 191 [(6, .int 0), (5, .int 0), (4, .int 0), (3, .int 0), (2, .int (nI k)), (1, .int (nI t)), (0, .ref 1211)] [.int (bi (spv (kn_w 15) (nmL F k) (nmW T F k)))] M2 nx 0 0
                              rw [qs15]
                              show am_V G _ _ _ _ _ 191 [(6, .int 0), (5, .int 0), (4, .int 0), (3, .int 0), (2, .int (nI k)), (1, .int (nI t)), (0, .ref 1211)] [.int 0] M2 nx 0 0
                              refine v_if_eq (tgt := 198) (am_Dk d_MM_holds (k := 101) rfl) (by decide) (fun c680 => ?_) (fun c680 => ?_)
                              · refine v_iconst (v := 0) (am_Dk d_MM_holds (k := 104) rfl) (by decide) ?_
                                refine v_istore (L1 := [(7, .int 0), (6, .int 0), (5, .int 0), (4, .int 0), (3, .int 0), (2, .int (nI k)), (1, .int (nI t)), (0, .ref 1211)]) (am_Dk d_MM_holds (k := 105) rfl) (by decide) rfl ?_
                                refine v_aload_n (am_Dk d_MM_holds (k := 106) rfl) rfl ?_
                                refine v_get (am_Dk d_MM_holds (k := 107) rfl) f_MM_20 q11 rfl ?_
                                refine v_get9 (am_Dk d_MM_holds (k := 108) rfl) r_MM_98 hX.1.1 rfl ?_
                                refine v_iload_n (am_Dk d_MM_holds (k := 109) rfl) rfl ?_
                                refine v_iald (am_Dk d_MM_holds (k := 110) rfl) hMa rfl (vp_in_nI (by omega) (by omega)) ?_
                                rw [nI_clamp (n := t) (by omega)]
                                rw [show Ma t = 2 from hM2]
                                refine v_iconst (v := 2) (am_Dk d_MM_holds (k := 111) rfl) (by decide) ?_
                                refine v_icmp_ne (tgt := 231) (am_Dk d_MM_holds (k := 112) rfl) (by decide) (fun c681 => ?_) (fun c681 => ?_)
                                · exact absurd (by decide) c681
                                · refine v_aload_n (am_Dk d_MM_holds (k := 113) rfl) rfl ?_
                                  refine v_get (am_Dk d_MM_holds (k := 114) rfl) f_MM_27 q11 rfl ?_
                                  refine v_iload_n (am_Dk d_MM_holds (k := 115) rfl) rfl ?_
                                  refine v_ldcS (i := 140) (tx := "=\\=") (am_Dk d_MM_holds (k := 116) rfl) (by decide +kernel) ?_
                                  refine v_callV (rest := []) (As := [.int (nI k), .ref 140]) (mc' := 0) (ms' := 0) (am_Dk d_MM_holds (k := 117) rfl) c_MM_103 (Or.inl ⟨_, _, _, _, _, hN, cq_ok11⟩) (t_MN_spells G (d := 4) (by omega) (hN) (hT) hO (hF) hA hk (by omega) (by omega) mmS_140) (by omega) (by omega) (by omega) (by simp [Value.category]) rfl (fun v682 M683 n684 h685 => ?_) (fun _ _ _ h685 => ?_)
                                  rotate_left
                                  · exact absurd h685.1 (by simp)
                                  obtain ⟨h685, e686, e687⟩ := h685
                                  replace e686 := e686.symm
                                  replace e687 := e687.symm
                                  subst e686
                                  subst e687
                                  cases h685
                                  show am_V G _ _ _ _ _ 224 [(7, .int 0), (6, .int 0), (5, .int 0), (4, .int 0), (3, .int 0), (2, .int (nI k)), (1, .int (nI t)), (0, .ref 1211)] [.int (bi (spv (kn_w 16) (nmL F k) (nmW T F k)))] M2 nx 0 0
                                  rw [qs16]
                                  show am_V G _ _ _ _ _ 224 [(7, .int 0), (6, .int 0), (5, .int 0), (4, .int 0), (3, .int 0), (2, .int (nI k)), (1, .int (nI t)), (0, .ref 1211)] [.int 0] M2 nx 0 0
                                  refine v_if_eq (tgt := 231) (am_Dk d_MM_holds (k := 118) rfl) (by decide) (fun c688 => ?_) (fun c688 => ?_)
                                  · refine v_iconst (v := 0) (am_Dk d_MM_holds (k := 121) rfl) (by decide) ?_
                                    refine v_istore (L1 := [(8, .int 0), (7, .int 0), (6, .int 0), (5, .int 0), (4, .int 0), (3, .int 0), (2, .int (nI k)), (1, .int (nI t)), (0, .ref 1211)]) (am_Dk d_MM_holds (k := 122) rfl) (by decide) rfl ?_
                                    refine v_iload_n (am_Dk d_MM_holds (k := 123) rfl) rfl ?_
                                    refine v_if_ne (tgt := 275) (am_Dk d_MM_holds (k := 124) rfl) (by decide) (fun c689 => ?_) (fun c689 => ?_)
                                    · exact absurd (by decide) c689
                                    · refine v_iload (am_Dk d_MM_holds (k := 125) rfl) rfl ?_
                                      refine v_if_ne (tgt := 275) (am_Dk d_MM_holds (k := 126) rfl) (by decide) (fun c690 => ?_) (fun c690 => ?_)
                                      · exact absurd (by decide) c690
                                      · refine v_iload (am_Dk d_MM_holds (k := 127) rfl) rfl ?_
                                        refine v_if_ne (tgt := 275) (am_Dk d_MM_holds (k := 128) rfl) (by decide) (fun c691 => ?_) (fun c691 => ?_)
                                        · exact absurd (by decide) c691
                                        · refine v_iload (am_Dk d_MM_holds (k := 129) rfl) rfl ?_
                                          refine v_if_ne (tgt := 275) (am_Dk d_MM_holds (k := 130) rfl) (by decide) (fun c692 => ?_) (fun c692 => ?_)
                                          · exact absurd (by decide) c692
                                          · refine v_iload (am_Dk d_MM_holds (k := 131) rfl) rfl ?_
                                            refine v_if_ne (tgt := 275) (am_Dk d_MM_holds (k := 132) rfl) (by decide) (fun c693 => ?_) (fun c693 => ?_)
                                            · exact absurd (by decide) c693
                                            · refine v_iload (am_Dk d_MM_holds (k := 133) rfl) rfl ?_
                                              refine v_if_ne (tgt := 275) (am_Dk d_MM_holds (k := 134) rfl) (by decide) (fun c694 => ?_) (fun c694 => ?_)
                                              · exact absurd (by decide) c694
                                              · refine v_aload_n (am_Dk d_MM_holds (k := 135) rfl) rfl ?_
                                                refine v_iconst (v := 0) (am_Dk d_MM_holds (k := 136) rfl) (by decide) ?_
                                                refine v_put (am_Dk d_MM_holds (k := 137) rfl) f_MM_9 q11 (Nat.le_of_ble_eq_true rfl) rfl rfl ?_
                                                refine v_aload_n (am_Dk d_MM_holds (k := 138) rfl) rfl ?_
                                                refine v_iconst (v := 2) (am_Dk d_MM_holds (k := 139) rfl) (by decide) ?_
                                                have m695 : (am_up M2 1211 (.inr (9, [.int 0, .int 0, .int 0, .int 0, .int (nI c), .ref 1212, .ref 1213, .ref 1220, .ref 1225, .ref 1233, .ref 1234, .ref 1235, .ref 1236, .ref 1237, .ref 1238, .long re]))) 1211 = some (.inr (9, [.int 0, .int 0, .int 0, .int 0, .int (nI c), .ref 1212, .ref 1213, .ref 1220, .ref 1225, .ref 1233, .ref 1234, .ref 1235, .ref 1236, .ref 1237, .ref 1238, .long re])) := am_up_eq _ _ _
                                                refine v_put (am_Dk d_MM_holds (k := 140) rfl) f_MM_64 m695 (Nat.le_of_ble_eq_true rfl) rfl rfl ?_
                                                rw [am_uu0 (a := 1211)]
                                                refine v_iconst (v := 0) (am_Dk d_MM_holds (k := 141) rfl) (by decide) ?_
                                                exact v_ireturn (am_Dk d_MM_holds (k := 142) rfl) rfl rfl (by omega) (by omega) ⟨rfl, fun i hi => (am_up_ne (show i ≠ 1211 from by omega)).trans ((hfT i (by omega))), rx_fr9 hrx (fun i hi => (am_up_ne (show i ≠ 1211 from by omega)).trans (rfl)), rcell_fr hrc1 ((am_up_ne (show 1225 ≠ 1211 from by decide)).trans (rfl)), ⟨⟨_, (am_up_ne (show 1236 ≠ 1211 from by omega)).trans (hW0)⟩, ⟨_, (am_up_ne (show 1237 ≠ 1211 from by omega)).trans (hS0)⟩, ⟨_, (am_up_ne (show 1238 ≠ 1211 from by omega)).trans (hL0)⟩⟩, Or.inr ⟨W, t, sz, _, hok, Or.inl ⟨hcm, rfl, am_up_eq _ _ _⟩⟩⟩
                                  · exact absurd (by decide) c688
                              · exact absurd (by decide) c680
                          · exact absurd (by decide) c672
                      · exact absurd (by decide) c664
                  · exact absurd (by decide) c656
              · exact absurd (by decide) c648
        · exact absurd c639 (nI_nm1 (by omega))
  · cases hv
    show am_V G _ _ _ _ _ 4 [(0, .ref 1211)] [.int (-1)] M2 nx 0 0
    refine v_istore_n (L1 := [(1, .int (-1)), (0, .ref 1211)]) (am_Dk d_MM_holds (k := 2) rfl) (by decide) rfl ?_
    refine v_iload_n (am_Dk d_MM_holds (k := 3) rfl) rfl ?_
    refine v_iconst (v := (-1)) (am_Dk d_MM_holds (k := 4) rfl) (by decide) ?_
    refine v_icmp_ne (tgt := 17) (am_Dk d_MM_holds (k := 5) rfl) (by decide) (fun c696 => ?_) (fun c696 => ?_)
    · exact absurd (by decide) c696
    · refine v_aload_n (am_Dk d_MM_holds (k := 6) rfl) rfl ?_
      refine v_iconst (v := 2) (am_Dk d_MM_holds (k := 7) rfl) (by decide) ?_
      refine v_put (am_Dk d_MM_holds (k := 8) rfl) f_MM_64 q11 (Nat.le_of_ble_eq_true rfl) rfl rfl ?_
      refine v_iconst (v := 0) (am_Dk d_MM_holds (k := 9) rfl) (by decide) ?_
      exact v_ireturn (am_Dk d_MM_holds (k := 10) rfl) rfl rfl (by omega) (by omega) ⟨rfl, fun i hi => (am_up_ne (show i ≠ 1211 from by omega)).trans ((hfT i (by omega))), rx_fr9 hrx (fun i hi => (am_up_ne (show i ≠ 1211 from by omega)).trans (rfl)), rcell_fr hrc1 ((am_up_ne (show 1225 ≠ 1211 from by decide)).trans (rfl)), ⟨⟨_, (am_up_ne (show 1236 ≠ 1211 from by omega)).trans (hW0)⟩, ⟨_, (am_up_ne (show 1237 ≠ 1211 from by omega)).trans (hS0)⟩, ⟨_, (am_up_ne (show 1238 ≠ 1211 from by omega)).trans (hL0)⟩⟩, Or.inl ⟨wB, _, hwn, hbad, rfl, am_up_eq _ _ _⟩⟩
