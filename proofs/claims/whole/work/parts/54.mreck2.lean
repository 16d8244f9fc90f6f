/-! THE REFERENCE RECKONS A TERM'S WORTH (mine; rows laid by the walker) -/
def RKm (M M2 : am_M) (th ta pl va : Int32) (Wk Sg : Nat → Int32) (Lf : Nat → Int64) (er : Int32) (re : Int64) : Prop := M2 1236 = some (.inl (1, 9000, .inl Wk)) ∧ M2 1237 = some (.inl (1, 9000, .inl Sg)) ∧ M2 1238 = some (.inl (2, 9000, .inr (.inl Lf))) ∧ M2 1211 = some (.inr (9, [.int th, .int ta, .int pl, .int er, .int va, .ref 1212, .ref 1213, .ref 1220, .ref 1225, .ref 1233, .ref 1234, .ref 1235, .ref 1236, .ref 1237, .ref 1238, .long re])) ∧ ∀ i, ¬ (i = 1211 ∨ i = 1236 ∨ i = 1237 ∨ i = 1238) → M2 i = M i
set_option maxRecDepth 20000 in
set_option maxHeartbeats 4000000 in
theorem l_reck (G : am_G) {d nx : Nat} (hd : 7 ≤ d) {M : am_M} {LU : Nat → (Nat → Int32) → Option Int64} {sz pt ns tx vb e1 e2 : Nat} {W : Gho} {On : Nat → Nat} {Vx : Nat → Option (Nat × (Nat → Int32))} {Kd Nm Fi Ma Pa : Nat → Int32} {Nu : Nat → Int64} {T : Nat → Int32} {F : Nat → Nat} {Va : Nat → Int32} (hX : RSx LU M sz pt ns tx vb e1 e2 W On Vx (Kd, Nm, Fi, Ma, Pa, Nu) T F Va) (hsz : sz ≤ 4200) (hpt : pt ≤ 9000) (hns : ns ≤ 9000) (htx : tx ≤ 5000) (hvb : vb ≤ 4200) {c : Nat} {Vl : Nat → Nat} {Vg : Nat → Nat → Int32} {Vn : Nat → Int64} {P : Nat → Int32} {Q : Nat → Nat} (hT9 : tbl M c Vl Vg Vn P Q) (hLU : LU = luT c Vl Vg Vn) {th ta pl : Int32} {x0 x1 x2 x3 x4 x5 x6 x7 x8 x9 x10 x11 x12 : Value} (h12 : M 1225 = some (.inr (12, [.ref 1226, .ref 1227, .ref 1228, .ref 1213, .ref 1220, x12, x0, x1, x2, x3, x4, x5, .ref 1229, x6, .ref 1230, x7, x8, .ref 1231, x9, x10, x11, .ref 1232]))) {Q9 : am_Qt} : ∀ N x, x < N → x < sz → ∀ (M2 : am_M) (Wk Sg : Nat → Int32) (Lf : Nat → Int64) (re : Int64) (top : Nat), RKm M M2 th ta pl (nI c) Wk Sg Lf 0 re → top + x < 9000 → Wk top = nI x → Sg top = 0 → (∀ (M3 : am_M) (Wk1 Sg1 : Nat → Int32) (Lf1 : Nat → Int64), RKm M M3 th ta pl (nI c) Wk1 Sg1 Lf1 0 (W.1 x).2 → (∀ i, i < top → Wk1 i = Wk i ∧ Sg1 i = Sg i ∧ Lf1 i = Lf i) → (W.1 x).1 = 0 → am_V G m_MM_reckon d 0 0 Q9 16 [(2, .int (nI top + (-1))), (0, .ref 1211)] [] M3 nx 0 0) → (∀ (M3 : am_M) (Wk1 Sg1 : Nat → Int32) (Lf1 : Nat → Int64) (r1 : Int64) (j e : Int32), RKm M M3 th ta pl (nI c) Wk1 Sg1 Lf1 e r1 → e = (W.1 x).1 → ¬ e = 0 → am_V G m_MM_reckon d 0 0 Q9 16 [(2, .int j), (0, .ref 1211)] [] M3 nx 0 0) → am_V G m_MM_reckon d 0 0 Q9 16 [(2, .int (nI top)), (0, .ref 1211)] [] M2 nx 0 0 := by
  intro N
  induction N with
  | zero => intro x hx; omega
  | succ N ih =>
    intro x hxN hxs M2 Wk Sg Lf re top hM hto hWx hSx kc1 kc2
    have hok := hX.2.2.2.1 x hxs
    have hNM := hX.2.1
    rcases hok with ⟨v1, v2, v3, v, v4, v5, v6⟩ | ⟨i1, i2, i3, i4, i5, i6⟩ | ⟨k1, k2, k, cc, b, k3, k4, k5⟩
    · replace v1 : Kd x = 0 := v1
      replace v5 : Nm x = nI v := v5
      obtain ⟨qW, qS, qL, q0, qf⟩ := hM
      have qA : ARs M2 (Kd, Nm, Fi, Ma, Pa, Nu) sz pt := ARs_fr hX.1 (fun i z1 z2 => qf i (by omega))
      have qN : NMs M2 ns tx T F := NMs_fr hX.2.1 (fun i z1 z2 => qf i (by omega))
      have qKd : M2 1214 = some (.inl (1, 9000, .inl Kd)) := qA.2.1
      have qNm : M2 1215 = some (.inl (1, 9000, .inl Nm)) := qA.2.2.1
      have qNu : M2 1219 = some (.inl (2, 9000, .inr (.inl Nu))) := qA.2.2.2.2.2.2
      have qT : tbl M2 c Vl Vg Vn P Q := by
        obtain ⟨t1, t2, ⟨Qa, t3, t4⟩, ⟨Vr, t5, t6⟩, t7⟩ := hT9
        exact ⟨(qf _ (by omega)).trans t1, t2, ⟨Qa, (qf _ (by omega)).trans t3, t4⟩, ⟨Vr, (qf _ (by omega)).trans t5, t6⟩, t7⟩
      obtain ⟨Vr, qV, qVn⟩ := qT.2.2.2.1
      have hc50 := hT9.2.2.2.2.2.2
      obtain ⟨xk, hxk, hw⟩ : ∃ xk : Option Nat, ((xk = none ∧ Va v = -1) ∨ ∃ k, xk = some k ∧ k < ns ∧ Va v = nI k) ∧ W.1 x = lvW ((vfx c Vl Vg T F xk).map Vn) := by
        rcases v6 with ⟨w1, w2, w3⟩ | ⟨k, l, g, w1, w2, w3, w4, w5⟩
        · exact ⟨none, Or.inl ⟨rfl, w1⟩, w2⟩
        · refine ⟨some k, Or.inr ⟨k, rfl, w1, w2⟩, ?_⟩
          rw [w5, hLU]
          show lvW ((vfF (vmt Vl Vg l g) c 0).map Vn) = lvW ((vfF (vmt Vl Vg (nmL F k) (nmW T F k)) c 0).map Vn)
          have : vmt Vl Vg l g = vmt Vl Vg (nmL F k) (nmW T F k) := by
            funext i
            rw [vmt, vmt, w3.1]
            congr 1
            apply propext
            constructor
            · exact fun ⟨a1, a2⟩ => ⟨a1, fun j hj => (a2 j hj).trans (w3.2 j hj).symm⟩
            · exact fun ⟨a1, a2⟩ => ⟨a1, fun j hj => (a2 j hj).trans (w3.2 j hj)⟩
          rw [this]
      refine v_iload_n (am_Dk d_MM_reckon (k := 12) rfl) rfl ?_
      refine v_if_lt (tgt := 282) (am_Dk d_MM_reckon (k := 13) rfl) (by decide) (fun c1 => ?_) (fun c1 => ?_)
      · exact absurd c1 (nI_pos (by omega))
      · refine v_aload_n (am_Dk d_MM_reckon (k := 14) rfl) rfl ?_
        refine v_get (am_Dk d_MM_reckon (k := 15) rfl) f_MM_123 q0 rfl ?_
        refine v_if_ne (tgt := 282) (am_Dk d_MM_reckon (k := 16) rfl) (by decide) (fun c2 => ?_) (fun c2 => ?_)
        · exact absurd (by decide) c2
        · refine v_aload_n (am_Dk d_MM_reckon (k := 17) rfl) rfl ?_
          refine v_get (am_Dk d_MM_reckon (k := 18) rfl) f_MM_52 q0 rfl ?_
          refine v_iload_n (am_Dk d_MM_reckon (k := 19) rfl) rfl ?_
          refine v_iald (am_Dk d_MM_reckon (k := 20) rfl) qW rfl (vp_in_nI (by omega) (by omega)) ?_
          rw [nI_clamp (n := top) (by omega)]
          rw [show Wk top = nI x from hWx]
          refine v_istore_n (L1 := [(3, .int (nI x)), (2, .int (nI top)), (0, .ref 1211)]) (am_Dk d_MM_reckon (k := 21) rfl) (by decide) rfl ?_
          refine v_aload_n (am_Dk d_MM_reckon (k := 22) rfl) rfl ?_
          refine v_iload_n (am_Dk d_MM_reckon (k := 23) rfl) rfl ?_
          refine v_callV (rest := []) (As := [.int (nI x)]) (mc' := 0) (ms' := 0) (am_Dk d_MM_reckon (k := 24) rfl) c_MM_126 (Or.inl ⟨_, _, _, _, _, q0, cq_ok9⟩) (t_MM_sort G (d := 5) (k := 0) (by omega) q0 (ARs_fr qA (fun i z1 z2 => rfl)) (by omega) (NMs_fr qN (fun i z1 z2 => rfl)) hns htx (fun z => absurd (v1.symm.trans z) (by decide))) (by omega) (by omega) (by omega) (by simp [Value.category]) rfl (fun v3 M4 n5 h6 => ?_) (fun _ _ _ h6 => ?_)
          rotate_left
          · exact absurd h6.1 (by simp)
          obtain ⟨h6, e7, e8⟩ := h6
          replace e7 := e7.symm
          replace e8 := e8.symm
          subst e7
          subst e8
          cases h6
          show am_V G _ _ _ _ _ 39 [(3, .int (nI x)), (2, .int (nI top)), (0, .ref 1211)] [.int (srtV (Kd x) (Ma x) (ordN T F 0))] M2 nx 0 0
          refine v_istore (L1 := [(4, .int (srtV (Kd x) (Ma x) (ordN T F 0))), (3, .int (nI x)), (2, .int (nI top)), (0, .ref 1211)]) (am_Dk d_MM_reckon (k := 25) rfl) (by decide) rfl ?_
          refine v_aload_n (am_Dk d_MM_reckon (k := 26) rfl) rfl ?_
          refine v_get (am_Dk d_MM_reckon (k := 27) rfl) f_MM_20 q0 rfl ?_
          refine v_get9 (am_Dk d_MM_reckon (k := 28) rfl) r_MM_92 qA.1 rfl ?_
          refine v_iload_n (am_Dk d_MM_reckon (k := 29) rfl) rfl ?_
          refine v_iald (am_Dk d_MM_reckon (k := 30) rfl) qKd rfl (vp_in_nI (by omega) (by omega)) ?_
          rw [nI_clamp (n := x) (by omega)]
          refine v_iconst (v := 1) (am_Dk d_MM_reckon (k := 31) rfl) (by decide) ?_
          refine v_icmp_ne (tgt := 73) (am_Dk d_MM_reckon (k := 32) rfl) (by decide) (fun c9 => ?_) (fun c9 => ?_)
          · refine v_aload_n (am_Dk d_MM_reckon (k := 42) rfl) rfl ?_
            refine v_get (am_Dk d_MM_reckon (k := 43) rfl) f_MM_20 q0 rfl ?_
            refine v_get9 (am_Dk d_MM_reckon (k := 44) rfl) r_MM_92 qA.1 rfl ?_
            refine v_iload_n (am_Dk d_MM_reckon (k := 45) rfl) rfl ?_
            refine v_iald (am_Dk d_MM_reckon (k := 46) rfl) qKd rfl (vp_in_nI (by omega) (by omega)) ?_
            rw [nI_clamp (n := x) (by omega)]
            refine v_if_ne (tgt := 131) (am_Dk d_MM_reckon (k := 47) rfl) (by decide) (fun c10 => ?_) (fun c10 => ?_)
            · exact absurd v1 c10
            · refine v_aload_n (am_Dk d_MM_reckon (k := 48) rfl) rfl ?_
              refine v_aload_n (am_Dk d_MM_reckon (k := 49) rfl) rfl ?_
              refine v_get (am_Dk d_MM_reckon (k := 50) rfl) f_MM_20 q0 rfl ?_
              refine v_get9 (am_Dk d_MM_reckon (k := 51) rfl) r_MM_95 qA.1 rfl ?_
              refine v_iload_n (am_Dk d_MM_reckon (k := 52) rfl) rfl ?_
              refine v_iald (am_Dk d_MM_reckon (k := 53) rfl) qNm rfl (vp_in_nI (by omega) (by omega)) ?_
              rw [nI_clamp (n := x) (by omega)]
              rw [show Nm x = nI v from v5]
              refine v_callV (rest := []) (As := [.int (nI v)]) (mc' := 0) (ms' := 0) (am_Dk d_MM_reckon (k := 54) rfl) c_MM_136 (Or.inl ⟨_, _, _, _, _, q0, cq_ok9⟩) (t_MM_variable G (d := 2) (by omega) qT q0 qN hns htx (by omega) ((qf _ (by omega)).trans hX.2.2.1) ((qf _ (by omega)).trans h12) hxk) (by omega) (by omega) (by omega) (by simp [Value.category]) rfl (fun v11 M12 n13 h14 => ?_) (fun _ _ _ h14 => ?_)
              rotate_left
              · exact absurd h14.1 (by simp)
              obtain ⟨h14, e15, e16⟩ := h14
              replace e15 := e15.symm
              replace e16 := e16.symm
              subst e15
              subst e16
              cases h14
              show am_V G _ _ _ _ _ 98 [(4, .int (srtV (Kd x) (Ma x) (ordN T F 0))), (3, .int (nI x)), (2, .int (nI top)), (0, .ref 1211)] [.int (oI (vfx c Vl Vg T F xk))] M2 nx 0 0
              rcases hvf : vfx c Vl Vg T F xk with _ | i0
              · show am_V G _ _ _ _ _ 98 [(4, .int (srtV (Kd x) (Ma x) (ordN T F 0))), (3, .int (nI x)), (2, .int (nI top)), (0, .ref 1211)] [.int (-1)] M2 nx 0 0
                refine v_istore (L1 := [(5, .int (-1)), (4, .int (srtV (Kd x) (Ma x) (ordN T F 0))), (3, .int (nI x)), (2, .int (nI top)), (0, .ref 1211)]) (am_Dk d_MM_reckon (k := 55) rfl) (by decide) rfl ?_
                refine v_iload (am_Dk d_MM_reckon (k := 56) rfl) rfl ?_
                refine v_iconst (v := (-1)) (am_Dk d_MM_reckon (k := 57) rfl) (by decide) ?_
                refine v_icmp_ne (tgt := 114) (am_Dk d_MM_reckon (k := 58) rfl) (by decide) (fun c17 => ?_) (fun c17 => ?_)
                · exact absurd (by decide) c17
                · refine v_aload_n (am_Dk d_MM_reckon (k := 59) rfl) rfl ?_
                  refine v_iconst (v := 1) (am_Dk d_MM_reckon (k := 60) rfl) (by decide) ?_
                  refine v_put (am_Dk d_MM_reckon (k := 61) rfl) f_MM_123 q0 (Nat.le_of_ble_eq_true rfl) rfl rfl ?_
                  refine v_goto (tgt := 125) (am_Dk d_MM_reckon (k := 62) rfl) (by decide) ?_
                  refine v_iinc (v := (nI top) + (-1)) (L1 := [(2, .int ((nI top) + (-1))), (5, .int (-1)), (4, .int (srtV (Kd x) (Ma x) (ordN T F 0))), (3, .int (nI x)), (0, .ref 1211)]) (am_Dk d_MM_reckon (k := 69) rfl) rfl rfl (by decide) rfl ?_
                  refine v_goto (tgt := 279) (am_Dk d_MM_reckon (k := 70) rfl) (by decide) ?_
                  refine v_goto (tgt := 16) (am_Dk d_MM_reckon (k := 158) rfl) (by decide) ?_
                  have hw1 : W.1 x = (1, 0) := by rw [hw, hvf]; rfl
                  exact v_drop (kc2 _ Wk Sg Lf re ((nI top) + (-1)) 1 ⟨(am_up_ne (show 1236 ≠ 1211 from by decide)).trans (qW), (am_up_ne (show 1237 ≠ 1211 from by decide)).trans (qS), (am_up_ne (show 1238 ≠ 1211 from by decide)).trans (qL), am_up_eq _ _ _, fun i hi => (am_up_ne (show i ≠ 1211 from by omega)).trans (qf i hi)⟩ (by rw [hw1]) (by decide)) (by simp)
              · have hi0 : i0 < c := by
                  rcases hxk with ⟨z1, _⟩ | ⟨k9, z1, _⟩
                  · rw [z1] at hvf; cases hvf
                  · rw [z1] at hvf; exact vf_lt hvf
                show am_V G _ _ _ _ _ 98 [(4, .int (srtV (Kd x) (Ma x) (ordN T F 0))), (3, .int (nI x)), (2, .int (nI top)), (0, .ref 1211)] [.int (nI i0)] M2 nx 0 0
                refine v_istore (L1 := [(5, .int (nI i0)), (4, .int (srtV (Kd x) (Ma x) (ordN T F 0))), (3, .int (nI x)), (2, .int (nI top)), (0, .ref 1211)]) (am_Dk d_MM_reckon (k := 55) rfl) (by decide) rfl ?_
                refine v_iload (am_Dk d_MM_reckon (k := 56) rfl) rfl ?_
                refine v_iconst (v := (-1)) (am_Dk d_MM_reckon (k := 57) rfl) (by decide) ?_
                refine v_icmp_ne (tgt := 114) (am_Dk d_MM_reckon (k := 58) rfl) (by decide) (fun c18 => ?_) (fun c18 => ?_)
                · refine v_aload_n (am_Dk d_MM_reckon (k := 63) rfl) rfl ?_
                  refine v_aload_n (am_Dk d_MM_reckon (k := 64) rfl) rfl ?_
                  refine v_get (am_Dk d_MM_reckon (k := 65) rfl) f_MM_48 q0 rfl ?_
                  refine v_iload (am_Dk d_MM_reckon (k := 66) rfl) rfl ?_
                  refine v_lald (am_Dk d_MM_reckon (k := 67) rfl) qV rfl (vp_in_nI (by omega) (by omega)) ?_
                  rw [nI_clamp (n := i0) (by omega), qVn i0 hi0]
                  refine v_put (am_Dk d_MM_reckon (k := 68) rfl) f_MM_132 q0 (Nat.le_of_ble_eq_true rfl) rfl rfl ?_
                  refine v_iinc (v := (nI top) + (-1)) (L1 := [(2, .int ((nI top) + (-1))), (5, .int (nI i0)), (4, .int (srtV (Kd x) (Ma x) (ordN T F 0))), (3, .int (nI x)), (0, .ref 1211)]) (am_Dk d_MM_reckon (k := 69) rfl) rfl rfl (by decide) rfl ?_
                  refine v_goto (tgt := 279) (am_Dk d_MM_reckon (k := 70) rfl) (by decide) ?_
                  refine v_goto (tgt := 16) (am_Dk d_MM_reckon (k := 158) rfl) (by decide) ?_
                  have hrn := (hT9.2.2.2.2.2.1 i0 hi0).2.2.2
                  have hw1 : W.1 x = (0, Vn i0) := by rw [hw, hvf]; show (setE (Vn i0), setN (Vn i0)) = _; rw [(set_R hrn).1, (set_R hrn).2]
                  exact v_drop (kc1 _ Wk Sg Lf (by rw [hw1]; exact ⟨(am_up_ne (show 1236 ≠ 1211 from by decide)).trans (qW), (am_up_ne (show 1237 ≠ 1211 from by decide)).trans (qS), (am_up_ne (show 1238 ≠ 1211 from by decide)).trans (qL), am_up_eq _ _ _, fun i hi => (am_up_ne (show i ≠ 1211 from by omega)).trans (qf i hi)⟩) (fun i hi => ⟨rfl, rfl, rfl⟩) (by rw [hw1])) (by simp)
                · exact absurd c18 (nI_nm1 (by omega))
          · exact absurd (v1.symm.trans c9) (by decide)
    · replace i1 : Kd x = 1 := i1
      replace i4 : W.1 x = (0, Nu x) := i4
      obtain ⟨qW, qS, qL, q0, qf⟩ := hM
      have qA : ARs M2 (Kd, Nm, Fi, Ma, Pa, Nu) sz pt := ARs_fr hX.1 (fun i z1 z2 => qf i (by omega))
      have qN : NMs M2 ns tx T F := NMs_fr hX.2.1 (fun i z1 z2 => qf i (by omega))
      have qKd : M2 1214 = some (.inl (1, 9000, .inl Kd)) := qA.2.1
      have qNm : M2 1215 = some (.inl (1, 9000, .inl Nm)) := qA.2.2.1
      have qNu : M2 1219 = some (.inl (2, 9000, .inr (.inl Nu))) := qA.2.2.2.2.2.2
      refine v_iload_n (am_Dk d_MM_reckon (k := 12) rfl) rfl ?_
      refine v_if_lt (tgt := 282) (am_Dk d_MM_reckon (k := 13) rfl) (by decide) (fun c1 => ?_) (fun c1 => ?_)
      · exact absurd c1 (nI_pos (by omega))
      · refine v_aload_n (am_Dk d_MM_reckon (k := 14) rfl) rfl ?_
        refine v_get (am_Dk d_MM_reckon (k := 15) rfl) f_MM_123 q0 rfl ?_
        refine v_if_ne (tgt := 282) (am_Dk d_MM_reckon (k := 16) rfl) (by decide) (fun c2 => ?_) (fun c2 => ?_)
        · exact absurd (by decide) c2
        · refine v_aload_n (am_Dk d_MM_reckon (k := 17) rfl) rfl ?_
          refine v_get (am_Dk d_MM_reckon (k := 18) rfl) f_MM_52 q0 rfl ?_
          refine v_iload_n (am_Dk d_MM_reckon (k := 19) rfl) rfl ?_
          refine v_iald (am_Dk d_MM_reckon (k := 20) rfl) qW rfl (vp_in_nI (by omega) (by omega)) ?_
          rw [nI_clamp (n := top) (by omega)]
          rw [show Wk top = nI x from hWx]
          refine v_istore_n (L1 := [(3, .int (nI x)), (2, .int (nI top)), (0, .ref 1211)]) (am_Dk d_MM_reckon (k := 21) rfl) (by decide) rfl ?_
          refine v_aload_n (am_Dk d_MM_reckon (k := 22) rfl) rfl ?_
          refine v_iload_n (am_Dk d_MM_reckon (k := 23) rfl) rfl ?_
          refine v_callV (rest := []) (As := [.int (nI x)]) (mc' := 0) (ms' := 0) (am_Dk d_MM_reckon (k := 24) rfl) c_MM_126 (Or.inl ⟨_, _, _, _, _, q0, cq_ok9⟩) (t_MM_sort G (d := 5) (k := 0) (by omega) q0 (ARs_fr qA (fun i z1 z2 => rfl)) (by omega) (NMs_fr qN (fun i z1 z2 => rfl)) hns htx (fun z => absurd (i1.symm.trans z) (by decide))) (by omega) (by omega) (by omega) (by simp [Value.category]) rfl (fun v3 M4 n5 h6 => ?_) (fun _ _ _ h6 => ?_)
          rotate_left
          · exact absurd h6.1 (by simp)
          obtain ⟨h6, e7, e8⟩ := h6
          replace e7 := e7.symm
          replace e8 := e8.symm
          subst e7
          subst e8
          cases h6
          show am_V G _ _ _ _ _ 39 [(3, .int (nI x)), (2, .int (nI top)), (0, .ref 1211)] [.int (srtV (Kd x) (Ma x) (ordN T F 0))] M2 nx 0 0
          refine v_istore (L1 := [(4, .int (srtV (Kd x) (Ma x) (ordN T F 0))), (3, .int (nI x)), (2, .int (nI top)), (0, .ref 1211)]) (am_Dk d_MM_reckon (k := 25) rfl) (by decide) rfl ?_
          refine v_aload_n (am_Dk d_MM_reckon (k := 26) rfl) rfl ?_
          refine v_get (am_Dk d_MM_reckon (k := 27) rfl) f_MM_20 q0 rfl ?_
          refine v_get9 (am_Dk d_MM_reckon (k := 28) rfl) r_MM_92 qA.1 rfl ?_
          refine v_iload_n (am_Dk d_MM_reckon (k := 29) rfl) rfl ?_
          refine v_iald (am_Dk d_MM_reckon (k := 30) rfl) qKd rfl (vp_in_nI (by omega) (by omega)) ?_
          rw [nI_clamp (n := x) (by omega)]
          refine v_iconst (v := 1) (am_Dk d_MM_reckon (k := 31) rfl) (by decide) ?_
          refine v_icmp_ne (tgt := 73) (am_Dk d_MM_reckon (k := 32) rfl) (by decide) (fun c9 => ?_) (fun c9 => ?_)
          · exact absurd i1 c9
          · refine v_aload_n (am_Dk d_MM_reckon (k := 33) rfl) rfl ?_
            refine v_aload_n (am_Dk d_MM_reckon (k := 34) rfl) rfl ?_
            refine v_get (am_Dk d_MM_reckon (k := 35) rfl) f_MM_20 q0 rfl ?_
            refine v_get9 (am_Dk d_MM_reckon (k := 36) rfl) r_MM_129 qA.1 rfl ?_
            refine v_iload_n (am_Dk d_MM_reckon (k := 37) rfl) rfl ?_
            refine v_lald (am_Dk d_MM_reckon (k := 38) rfl) qNu rfl (vp_in_nI (by omega) (by omega)) ?_
            rw [nI_clamp (n := x) (by omega)]
            refine v_put (am_Dk d_MM_reckon (k := 39) rfl) f_MM_132 q0 (Nat.le_of_ble_eq_true rfl) rfl rfl ?_
            refine v_iinc (v := (nI top) + (-1)) (L1 := [(2, .int ((nI top) + (-1))), (4, .int (srtV (Kd x) (Ma x) (ordN T F 0))), (3, .int (nI x)), (0, .ref 1211)]) (am_Dk d_MM_reckon (k := 40) rfl) rfl rfl (by decide) rfl ?_
            refine v_goto (tgt := 279) (am_Dk d_MM_reckon (k := 41) rfl) (by decide) ?_
            refine v_goto (tgt := 16) (am_Dk d_MM_reckon (k := 158) rfl) (by decide) ?_
            exact v_drop (kc1 _ Wk Sg Lf (by rw [i4]; exact ⟨(am_up_ne (show 1236 ≠ 1211 from by decide)).trans (qW), (am_up_ne (show 1237 ≠ 1211 from by decide)).trans (qS), (am_up_ne (show 1238 ≠ 1211 from by decide)).trans (qL), am_up_eq _ _ _, fun i hi => (am_up_ne (show i ≠ 1211 from by omega)).trans (qf i hi)⟩) (fun i hi => ⟨rfl, rfl, rfl⟩) (by rw [i4])) (by simp)
    · replace k1 : Kd x = 2 := k1
      replace k4 : Nm x = nI k := k4
      obtain ⟨p1, p2, p3, p4, p5, p6, p7, p8, p9⟩ := k5
      replace p2 : Ma x = nI cc := p2
      have hkn : Kd x = 2 → k < ns ∧ Nm x = nI k := fun _ => ⟨k3, k4⟩
      have c2n : (nI cc = 2) ↔ cc = 2 := by rw [show (2 : Int32) = nI 2 from rfl, nI_eq (by omega) (by omega)]
      have c1n : (nI cc = 1) ↔ cc = 1 := by rw [show (1 : Int32) = nI 1 from rfl, nI_eq (by omega) (by omega)]
      rcases (show (srtV (Kd x) (Ma x) (ordN T F k) = 0 ∧ W.1 x = (2, 0)) ∨ (srtV (Kd x) (Ma x) (ordN T F k) = 1 ∧ cc = 2 ∧ twoK (ordN T F k) = true) ∨ (srtV (Kd x) (Ma x) (ordN T F k) = 2 ∧ cc = 1 ∧ oneK (ordN T F k) = true) from by
        rw [srtV, if_pos k1, p2]
        by_cases hc2 : cc = 2
        · rw [if_pos (c2n.mpr hc2)]
          by_cases ht : twoK (ordN T F k) = true
          · rw [if_pos ht]; exact Or.inr (Or.inl ⟨rfl, hc2, ht⟩)
          · rw [if_neg ht]
            obtain ⟨y, z, _, _, _, _, e, _⟩ := p7 hc2
            exact Or.inl ⟨rfl, by rw [e, rk2, if_neg ht]⟩
        · rw [if_neg (fun z => hc2 (c2n.mp z))]
          by_cases hc1 : cc = 1
          · rw [if_pos (c1n.mpr hc1)]
            by_cases ht : oneK (ordN T F k) = true
            · rw [if_pos ht]; exact Or.inr (Or.inr ⟨rfl, hc1, ht⟩)
            · rw [if_neg ht]
              obtain ⟨y, _, _, e⟩ := p6 hc1
              exact Or.inl ⟨rfl, by rw [e, rk1, if_neg ht]⟩
          · rw [if_neg (fun z => hc1 (c1n.mp z))]
            exact Or.inl ⟨rfl, p8 hc1 hc2⟩) with ⟨hs, hw⟩ | ⟨hs, hc2, htw⟩ | ⟨hs, hc1, htw⟩
      · obtain ⟨qW, qS, qL, q0, qf⟩ := hM
        have qA : ARs M2 (Kd, Nm, Fi, Ma, Pa, Nu) sz pt := ARs_fr hX.1 (fun i z1 z2 => qf i (by omega))
        have qN : NMs M2 ns tx T F := NMs_fr hX.2.1 (fun i z1 z2 => qf i (by omega))
        have qKd : M2 1214 = some (.inl (1, 9000, .inl Kd)) := qA.2.1
        have qNm : M2 1215 = some (.inl (1, 9000, .inl Nm)) := qA.2.2.1
        have qNu : M2 1219 = some (.inl (2, 9000, .inr (.inl Nu))) := qA.2.2.2.2.2.2
        refine v_iload_n (am_Dk d_MM_reckon (k := 12) rfl) rfl ?_
        refine v_if_lt (tgt := 282) (am_Dk d_MM_reckon (k := 13) rfl) (by decide) (fun c1 => ?_) (fun c1 => ?_)
        · exact absurd c1 (nI_pos (by omega))
        · refine v_aload_n (am_Dk d_MM_reckon (k := 14) rfl) rfl ?_
          refine v_get (am_Dk d_MM_reckon (k := 15) rfl) f_MM_123 q0 rfl ?_
          refine v_if_ne (tgt := 282) (am_Dk d_MM_reckon (k := 16) rfl) (by decide) (fun c2 => ?_) (fun c2 => ?_)
          · exact absurd (by decide) c2
          · refine v_aload_n (am_Dk d_MM_reckon (k := 17) rfl) rfl ?_
            refine v_get (am_Dk d_MM_reckon (k := 18) rfl) f_MM_52 q0 rfl ?_
            refine v_iload_n (am_Dk d_MM_reckon (k := 19) rfl) rfl ?_
            refine v_iald (am_Dk d_MM_reckon (k := 20) rfl) qW rfl (vp_in_nI (by omega) (by omega)) ?_
            rw [nI_clamp (n := top) (by omega)]
            rw [show Wk top = nI x from hWx]
            refine v_istore_n (L1 := [(3, .int (nI x)), (2, .int (nI top)), (0, .ref 1211)]) (am_Dk d_MM_reckon (k := 21) rfl) (by decide) rfl ?_
            refine v_aload_n (am_Dk d_MM_reckon (k := 22) rfl) rfl ?_
            refine v_iload_n (am_Dk d_MM_reckon (k := 23) rfl) rfl ?_
            refine v_callV (rest := []) (As := [.int (nI x)]) (mc' := 0) (ms' := 0) (am_Dk d_MM_reckon (k := 24) rfl) c_MM_126 (Or.inl ⟨_, _, _, _, _, q0, cq_ok9⟩) (t_MM_sort G (d := 5) (k := k) (by omega) q0 (ARs_fr qA (fun i z1 z2 => rfl)) (by omega) (NMs_fr qN (fun i z1 z2 => rfl)) hns htx hkn) (by omega) (by omega) (by omega) (by simp [Value.category]) rfl (fun v3 M4 n5 h6 => ?_) (fun _ _ _ h6 => ?_)
            rotate_left
            · exact absurd h6.1 (by simp)
            obtain ⟨h6, e7, e8⟩ := h6
            replace e7 := e7.symm
            replace e8 := e8.symm
            subst e7
            subst e8
            cases h6
            show am_V G _ _ _ _ _ 39 [(3, .int (nI x)), (2, .int (nI top)), (0, .ref 1211)] [.int (srtV (Kd x) (Ma x) (ordN T F k))] M2 nx 0 0
            rw [hs]
            show am_V G _ _ _ _ _ 39 [(3, .int (nI x)), (2, .int (nI top)), (0, .ref 1211)] [.int 0] M2 nx 0 0
            refine v_istore (L1 := [(4, .int 0), (3, .int (nI x)), (2, .int (nI top)), (0, .ref 1211)]) (am_Dk d_MM_reckon (k := 25) rfl) (by decide) rfl ?_
            refine v_aload_n (am_Dk d_MM_reckon (k := 26) rfl) rfl ?_
            refine v_get (am_Dk d_MM_reckon (k := 27) rfl) f_MM_20 q0 rfl ?_
            refine v_get9 (am_Dk d_MM_reckon (k := 28) rfl) r_MM_92 qA.1 rfl ?_
            refine v_iload_n (am_Dk d_MM_reckon (k := 29) rfl) rfl ?_
            refine v_iald (am_Dk d_MM_reckon (k := 30) rfl) qKd rfl (vp_in_nI (by omega) (by omega)) ?_
            rw [nI_clamp (n := x) (by omega)]
            refine v_iconst (v := 1) (am_Dk d_MM_reckon (k := 31) rfl) (by decide) ?_
            refine v_icmp_ne (tgt := 73) (am_Dk d_MM_reckon (k := 32) rfl) (by decide) (fun c9 => ?_) (fun c9 => ?_)
            · refine v_aload_n (am_Dk d_MM_reckon (k := 42) rfl) rfl ?_
              refine v_get (am_Dk d_MM_reckon (k := 43) rfl) f_MM_20 q0 rfl ?_
              refine v_get9 (am_Dk d_MM_reckon (k := 44) rfl) r_MM_92 qA.1 rfl ?_
              refine v_iload_n (am_Dk d_MM_reckon (k := 45) rfl) rfl ?_
              refine v_iald (am_Dk d_MM_reckon (k := 46) rfl) qKd rfl (vp_in_nI (by omega) (by omega)) ?_
              rw [nI_clamp (n := x) (by omega)]
              refine v_if_ne (tgt := 131) (am_Dk d_MM_reckon (k := 47) rfl) (by decide) (fun c10 => ?_) (fun c10 => ?_)
              · refine v_iload (am_Dk d_MM_reckon (k := 71) rfl) rfl ?_
                refine v_if_ne (tgt := 144) (am_Dk d_MM_reckon (k := 72) rfl) (by decide) (fun c11 => ?_) (fun c11 => ?_)
                · exact absurd (by decide) c11
                · refine v_aload_n (am_Dk d_MM_reckon (k := 73) rfl) rfl ?_
                  refine v_iconst (v := 2) (am_Dk d_MM_reckon (k := 74) rfl) (by decide) ?_
                  refine v_put (am_Dk d_MM_reckon (k := 75) rfl) f_MM_123 q0 (Nat.le_of_ble_eq_true rfl) rfl rfl ?_
                  refine v_goto (tgt := 279) (am_Dk d_MM_reckon (k := 76) rfl) (by decide) ?_
                  refine v_goto (tgt := 16) (am_Dk d_MM_reckon (k := 158) rfl) (by decide) ?_
                  exact v_drop (kc2 _ Wk Sg Lf re (nI top) 2 ⟨(am_up_ne (show 1236 ≠ 1211 from by decide)).trans (qW), (am_up_ne (show 1237 ≠ 1211 from by decide)).trans (qS), (am_up_ne (show 1238 ≠ 1211 from by decide)).trans (qL), am_up_eq _ _ _, fun i hi => (am_up_ne (show i ≠ 1211 from by omega)).trans (qf i hi)⟩ (by rw [hw]) (by decide)) (by simp)
              · exact absurd (k1.symm.trans c10) (by decide)
            · exact absurd (k1.symm.trans c9) (by decide)
      · obtain ⟨y, z, y1, z1, y2, z2, hw, _⟩ := p7 hc2
        replace y2 : Pa (b + 0) = nI y := y2
        replace z2 : Pa (b + 1) = nI z := z2
        have hRy : inR (W.1 y).2 := ar_R (hX.2.2.2.1 y (by omega))
        have hRz : inR (W.1 z).2 := ar_R (hX.2.2.2.1 z (by omega))
        have hv2 : ∀ (M3 : am_M) (Wk3 Sg3 : Nat → Int32) (Lf3 : Nat → Int64), RKm M M3 th ta pl (nI c) Wk3 Sg3 Lf3 0 (W.1 z).2 → (∀ i, i < top → Wk3 i = Wk i ∧ Sg3 i = Sg i ∧ Lf3 i = Lf i) → Wk3 top = nI x → Sg3 top = 2 → Lf3 top = (W.1 y).2 → (W.1 y).1 = 0 → (W.1 z).1 = 0 → am_V G m_MM_reckon d 0 0 Q9 16 [(2, .int (nI top)), (0, .ref 1211)] [] M3 nx 0 0 := by
          intro M3 Wk3 Sg3 Lf3 hM3 hag hW3 hS3 hL3 hy0 hz0
          obtain ⟨qW, qS, qL, q0, qf⟩ := hM3
          have qA : ARs M3 (Kd, Nm, Fi, Ma, Pa, Nu) sz pt := ARs_fr hX.1 (fun i z1 z2 => qf i (by omega))
          have qN : NMs M3 ns tx T F := NMs_fr hX.2.1 (fun i z1 z2 => qf i (by omega))
          have qKd : M3 1214 = some (.inl (1, 9000, .inl Kd)) := qA.2.1
          have qNm : M3 1215 = some (.inl (1, 9000, .inl Nm)) := qA.2.2.1
          have qNu : M3 1219 = some (.inl (2, 9000, .inr (.inl Nu))) := qA.2.2.2.2.2.2
          have hwd : W.1 x = dn1 (ordN T F k) true (W.1 y).2 (W.1 z).2 := by rw [hw, hy0, hz0, dn1, if_pos rfl]
          have hRa : true = true → inR (W.1 y).2 := fun _ => hRy
          have hRb := hRz
          have htw9 : if true = true then twoK (ordN T F k) = true else oneK (ordN T F k) = true := by rw [if_pos rfl]; exact htw
          refine v_iload_n (am_Dk d_MM_reckon (k := 12) rfl) rfl ?_
          refine v_if_lt (tgt := 282) (am_Dk d_MM_reckon (k := 13) rfl) (by decide) (fun c1 => ?_) (fun c1 => ?_)
          · exact absurd c1 (nI_pos (by omega))
          · refine v_aload_n (am_Dk d_MM_reckon (k := 14) rfl) rfl ?_
            refine v_get (am_Dk d_MM_reckon (k := 15) rfl) f_MM_123 q0 rfl ?_
            refine v_if_ne (tgt := 282) (am_Dk d_MM_reckon (k := 16) rfl) (by decide) (fun c2 => ?_) (fun c2 => ?_)
            · exact absurd (by decide) c2
            · refine v_aload_n (am_Dk d_MM_reckon (k := 17) rfl) rfl ?_
              refine v_get (am_Dk d_MM_reckon (k := 18) rfl) f_MM_52 q0 rfl ?_
              refine v_iload_n (am_Dk d_MM_reckon (k := 19) rfl) rfl ?_
              refine v_iald (am_Dk d_MM_reckon (k := 20) rfl) qW rfl (vp_in_nI (by omega) (by omega)) ?_
              rw [nI_clamp (n := top) (by omega)]
              rw [show Wk3 top = nI x from hW3]
              refine v_istore_n (L1 := [(3, .int (nI x)), (2, .int (nI top)), (0, .ref 1211)]) (am_Dk d_MM_reckon (k := 21) rfl) (by decide) rfl ?_
              refine v_aload_n (am_Dk d_MM_reckon (k := 22) rfl) rfl ?_
              refine v_iload_n (am_Dk d_MM_reckon (k := 23) rfl) rfl ?_
              refine v_callV (rest := []) (As := [.int (nI x)]) (mc' := 0) (ms' := 0) (am_Dk d_MM_reckon (k := 24) rfl) c_MM_126 (Or.inl ⟨_, _, _, _, _, q0, cq_ok9⟩) (t_MM_sort G (d := 5) (k := k) (by omega) q0 (ARs_fr qA (fun i z1 z2 => rfl)) (by omega) (NMs_fr qN (fun i z1 z2 => rfl)) hns htx hkn) (by omega) (by omega) (by omega) (by simp [Value.category]) rfl (fun v3 M4 n5 h6 => ?_) (fun _ _ _ h6 => ?_)
              rotate_left
              · exact absurd h6.1 (by simp)
              obtain ⟨h6, e7, e8⟩ := h6
              replace e7 := e7.symm
              replace e8 := e8.symm
              subst e7
              subst e8
              cases h6
              show am_V G _ _ _ _ _ 39 [(3, .int (nI x)), (2, .int (nI top)), (0, .ref 1211)] [.int (srtV (Kd x) (Ma x) (ordN T F k))] M3 nx 0 0
              rw [hs]
              show am_V G _ _ _ _ _ 39 [(3, .int (nI x)), (2, .int (nI top)), (0, .ref 1211)] [.int 1] M3 nx 0 0
              refine v_istore (L1 := [(4, .int 1), (3, .int (nI x)), (2, .int (nI top)), (0, .ref 1211)]) (am_Dk d_MM_reckon (k := 25) rfl) (by decide) rfl ?_
              refine v_aload_n (am_Dk d_MM_reckon (k := 26) rfl) rfl ?_
              refine v_get (am_Dk d_MM_reckon (k := 27) rfl) f_MM_20 q0 rfl ?_
              refine v_get9 (am_Dk d_MM_reckon (k := 28) rfl) r_MM_92 qA.1 rfl ?_
              refine v_iload_n (am_Dk d_MM_reckon (k := 29) rfl) rfl ?_
              refine v_iald (am_Dk d_MM_reckon (k := 30) rfl) qKd rfl (vp_in_nI (by omega) (by omega)) ?_
              rw [nI_clamp (n := x) (by omega)]
              refine v_iconst (v := 1) (am_Dk d_MM_reckon (k := 31) rfl) (by decide) ?_
              refine v_icmp_ne (tgt := 73) (am_Dk d_MM_reckon (k := 32) rfl) (by decide) (fun c9 => ?_) (fun c9 => ?_)
              · refine v_aload_n (am_Dk d_MM_reckon (k := 42) rfl) rfl ?_
                refine v_get (am_Dk d_MM_reckon (k := 43) rfl) f_MM_20 q0 rfl ?_
                refine v_get9 (am_Dk d_MM_reckon (k := 44) rfl) r_MM_92 qA.1 rfl ?_
                refine v_iload_n (am_Dk d_MM_reckon (k := 45) rfl) rfl ?_
                refine v_iald (am_Dk d_MM_reckon (k := 46) rfl) qKd rfl (vp_in_nI (by omega) (by omega)) ?_
                rw [nI_clamp (n := x) (by omega)]
                refine v_if_ne (tgt := 131) (am_Dk d_MM_reckon (k := 47) rfl) (by decide) (fun c10 => ?_) (fun c10 => ?_)
                · refine v_iload (am_Dk d_MM_reckon (k := 71) rfl) rfl ?_
                  refine v_if_ne (tgt := 144) (am_Dk d_MM_reckon (k := 72) rfl) (by decide) (fun c11 => ?_) (fun c11 => ?_)
                  · refine v_aload_n (am_Dk d_MM_reckon (k := 77) rfl) rfl ?_
                    refine v_get (am_Dk d_MM_reckon (k := 78) rfl) f_MM_55 q0 rfl ?_
                    refine v_iload_n (am_Dk d_MM_reckon (k := 79) rfl) rfl ?_
                    refine v_iald (am_Dk d_MM_reckon (k := 80) rfl) qS rfl (vp_in_nI (by omega) (by omega)) ?_
                    rw [nI_clamp (n := top) (by omega)]
                    rw [show Sg3 top = 2 from hS3]
                    refine v_if_eq (tgt := 169) (am_Dk d_MM_reckon (k := 81) rfl) (by decide) (fun c12 => ?_) (fun c12 => ?_)
                    · exact absurd c12 (by decide)
                    · refine v_iload (am_Dk d_MM_reckon (k := 82) rfl) rfl ?_
                      refine v_iconst (v := 1) (am_Dk d_MM_reckon (k := 83) rfl) (by decide) ?_
                      refine v_icmp_ne (tgt := 238) (am_Dk d_MM_reckon (k := 84) rfl) (by decide) (fun c13 => ?_) (fun c13 => ?_)
                      · exact absurd (by decide) c13
                      · refine v_aload_n (am_Dk d_MM_reckon (k := 85) rfl) rfl ?_
                        refine v_get (am_Dk d_MM_reckon (k := 86) rfl) f_MM_55 q0 rfl ?_
                        refine v_iload_n (am_Dk d_MM_reckon (k := 87) rfl) rfl ?_
                        refine v_iald (am_Dk d_MM_reckon (k := 88) rfl) qS rfl (vp_in_nI (by omega) (by omega)) ?_
                        rw [nI_clamp (n := top) (by omega)]
                        rw [show Sg3 top = 2 from hS3]
                        refine v_iconst (v := 1) (am_Dk d_MM_reckon (k := 89) rfl) (by decide) ?_
                        refine v_icmp_ne (tgt := 238) (am_Dk d_MM_reckon (k := 90) rfl) (by decide) (fun c14 => ?_) (fun c14 => ?_)
                        · refine v_aload_n (am_Dk d_MM_reckon (k := 136) rfl) rfl ?_
                          refine v_aload_n (am_Dk d_MM_reckon (k := 137) rfl) rfl ?_
                          refine v_aload_n (am_Dk d_MM_reckon (k := 138) rfl) rfl ?_
                          refine v_get (am_Dk d_MM_reckon (k := 139) rfl) f_MM_20 q0 rfl ?_
                          refine v_get9 (am_Dk d_MM_reckon (k := 140) rfl) r_MM_95 qA.1 rfl ?_
                          refine v_iload_n (am_Dk d_MM_reckon (k := 141) rfl) rfl ?_
                          refine v_iald (am_Dk d_MM_reckon (k := 142) rfl) qNm rfl (vp_in_nI (by omega) (by omega)) ?_
                          rw [nI_clamp (n := x) (by omega)]
                          rw [show Nm x = nI k from k4]
                          refine v_iload (am_Dk d_MM_reckon (k := 143) rfl) rfl ?_
                          refine v_iconst (v := 1) (am_Dk d_MM_reckon (k := 144) rfl) (by decide) ?_
                          refine v_icmp_ne (tgt := 259) (am_Dk d_MM_reckon (k := 145) rfl) (by decide) (fun c15 => ?_) (fun c15 => ?_)
                          · exact absurd (by decide) c15
                          · refine v_iconst (v := 1) (am_Dk d_MM_reckon (k := 146) rfl) (by decide) ?_
                            refine v_goto (tgt := 260) (am_Dk d_MM_reckon (k := 147) rfl) (by decide) ?_
                            refine v_aload_n (am_Dk d_MM_reckon (k := 149) rfl) rfl ?_
                            refine v_get (am_Dk d_MM_reckon (k := 150) rfl) f_MM_58 q0 rfl ?_
                            refine v_iload_n (am_Dk d_MM_reckon (k := 151) rfl) rfl ?_
                            refine v_lald (am_Dk d_MM_reckon (k := 152) rfl) qL rfl (vp_in_nI (by omega) (by omega)) ?_
                            rw [nI_clamp (n := top) (by omega)]
                            rw [hL3]
                            refine v_aload_n (am_Dk d_MM_reckon (k := 153) rfl) rfl ?_
                            refine v_get (am_Dk d_MM_reckon (k := 154) rfl) f_MM_132 q0 rfl ?_
                            refine v_callV (rest := [.ref 1211]) (As := [.int (nI k), .int 1, .long (W.1 y).2, .long ((W.1 z).2)]) (mc' := 0) (ms' := 0) (am_Dk d_MM_reckon (k := 155) rfl) c_MM_142 (Or.inl ⟨_, _, _, _, _, q0, cq_ok9⟩) (t_MM_done G (d := 5) (k := k) (two := true) (a := (W.1 y).2) (b := (W.1 z).2) (by omega) q0 (NMs_fr qN (fun i z1 z2 => rfl)) k3 hns htx hRa hRb htw9) (by omega) (by omega) (by omega) (by simp [Value.category]) rfl (fun v16 M17 n18 h19 => ?_) (fun _ _ _ h19 => ?_)
                            rotate_left
                            · obtain ⟨_, hx9, _⟩ := h19; cases hx9
                            obtain ⟨v9, h19, hM9, hx9, hv9⟩ := h19
                            cases h19
                            replace hM9 := hM9.symm
                            replace hx9 := hx9.symm
                            subst hM9
                            subst hx9
                            show am_V G _ _ _ _ _ 273 [(4, .int 1), (3, .int (nI x)), (2, .int (nI top)), (0, .ref 1211)] [.long v9, .ref 1211] (am_up M3 1211 (.inr (9, [.int th, .int ta, .int pl, .int (dn1 (ordN T F k) true (W.1 y).2 (W.1 z).2).1, .int (nI c), .ref 1212, .ref 1213, .ref 1220, .ref 1225, .ref 1233, .ref 1234, .ref 1235, .ref 1236, .ref 1237, .ref 1238, .long ((W.1 z).2)]))) nx 0 0
                            have m20 : (am_up M3 1211 (.inr (9, [.int th, .int ta, .int pl, .int (dn1 (ordN T F k) true (W.1 y).2 (W.1 z).2).1, .int (nI c), .ref 1212, .ref 1213, .ref 1220, .ref 1225, .ref 1233, .ref 1234, .ref 1235, .ref 1236, .ref 1237, .ref 1238, .long ((W.1 z).2)]))) 1211 = some (.inr (9, [.int th, .int ta, .int pl, .int (dn1 (ordN T F k) true (W.1 y).2 (W.1 z).2).1, .int (nI c), .ref 1212, .ref 1213, .ref 1220, .ref 1225, .ref 1233, .ref 1234, .ref 1235, .ref 1236, .ref 1237, .ref 1238, .long ((W.1 z).2)])) := am_up_eq _ _ _
                            refine v_put (am_Dk d_MM_reckon (k := 156) rfl) f_MM_132 m20 (Nat.le_of_ble_eq_true rfl) rfl rfl ?_
                            rw [am_uu0 (a := 1211)]
                            refine v_iinc (v := (nI top) + (-1)) (L1 := [(2, .int ((nI top) + (-1))), (4, .int 1), (3, .int (nI x)), (0, .ref 1211)]) (am_Dk d_MM_reckon (k := 157) rfl) rfl rfl (by decide) rfl ?_
                            refine v_goto (tgt := 16) (am_Dk d_MM_reckon (k := 158) rfl) (by decide) ?_
                            by_cases he9 : (W.1 x).1 = 0
                            · have e1 : (dn1 (ordN T F k) true (W.1 y).2 (W.1 z).2).1 = 0 := by rw [← hwd]; exact he9
                              rw [e1, hv9 e1]
                              exact v_drop (kc1 _ Wk3 Sg3 Lf3 (by rw [hwd]; exact ⟨(am_up_ne (show 1236 ≠ 1211 from by decide)).trans (qW), (am_up_ne (show 1237 ≠ 1211 from by decide)).trans (qS), (am_up_ne (show 1238 ≠ 1211 from by decide)).trans (qL), am_up_eq _ _ _, fun i hi => (am_up_ne (show i ≠ 1211 from by omega)).trans (qf i hi)⟩) hag he9) (by simp)
                            · exact v_drop (kc2 _ Wk3 Sg3 Lf3 v9 ((nI top) + (-1)) _ ⟨(am_up_ne (show 1236 ≠ 1211 from by decide)).trans (qW), (am_up_ne (show 1237 ≠ 1211 from by decide)).trans (qS), (am_up_ne (show 1238 ≠ 1211 from by decide)).trans (qL), am_up_eq _ _ _, fun i hi => (am_up_ne (show i ≠ 1211 from by omega)).trans (qf i hi)⟩ (by rw [hwd]) (by rw [← hwd]; exact he9)) (by simp)
                        · exact absurd c14 (by decide)
                  · exact absurd c11 (by decide)
                · exact absurd (k1.symm.trans c10) (by decide)
              · exact absurd (k1.symm.trans c9) (by decide)
        have hv1 : ∀ (M3 : am_M) (Wk3 Sg3 : Nat → Int32) (Lf3 : Nat → Int64), RKm M M3 th ta pl (nI c) Wk3 Sg3 Lf3 0 (W.1 y).2 → (∀ i, i < top → Wk3 i = Wk i ∧ Sg3 i = Sg i ∧ Lf3 i = Lf i) → Wk3 top = nI x → Sg3 top = 1 → (W.1 y).1 = 0 → am_V G m_MM_reckon d 0 0 Q9 16 [(2, .int (nI top)), (0, .ref 1211)] [] M3 nx 0 0 := by
          intro M3 Wk3 Sg3 Lf3 hM3 hag hW3 hS3 hy0
          obtain ⟨qW, qS, qL, q0, qf⟩ := hM3
          have qA : ARs M3 (Kd, Nm, Fi, Ma, Pa, Nu) sz pt := ARs_fr hX.1 (fun i z1 z2 => qf i (by omega))
          have qN : NMs M3 ns tx T F := NMs_fr hX.2.1 (fun i z1 z2 => qf i (by omega))
          have qKd : M3 1214 = some (.inl (1, 9000, .inl Kd)) := qA.2.1
          have qNm : M3 1215 = some (.inl (1, 9000, .inl Nm)) := qA.2.2.1
          have qNu : M3 1219 = some (.inl (2, 9000, .inr (.inl Nu))) := qA.2.2.2.2.2.2
          refine v_iload_n (am_Dk d_MM_reckon (k := 12) rfl) rfl ?_
          refine v_if_lt (tgt := 282) (am_Dk d_MM_reckon (k := 13) rfl) (by decide) (fun c1 => ?_) (fun c1 => ?_)
          · exact absurd c1 (nI_pos (by omega))
          · refine v_aload_n (am_Dk d_MM_reckon (k := 14) rfl) rfl ?_
            refine v_get (am_Dk d_MM_reckon (k := 15) rfl) f_MM_123 q0 rfl ?_
            refine v_if_ne (tgt := 282) (am_Dk d_MM_reckon (k := 16) rfl) (by decide) (fun c2 => ?_) (fun c2 => ?_)
            · exact absurd (by decide) c2
            · refine v_aload_n (am_Dk d_MM_reckon (k := 17) rfl) rfl ?_
              refine v_get (am_Dk d_MM_reckon (k := 18) rfl) f_MM_52 q0 rfl ?_
              refine v_iload_n (am_Dk d_MM_reckon (k := 19) rfl) rfl ?_
              refine v_iald (am_Dk d_MM_reckon (k := 20) rfl) qW rfl (vp_in_nI (by omega) (by omega)) ?_
              rw [nI_clamp (n := top) (by omega)]
              rw [show Wk3 top = nI x from hW3]
              refine v_istore_n (L1 := [(3, .int (nI x)), (2, .int (nI top)), (0, .ref 1211)]) (am_Dk d_MM_reckon (k := 21) rfl) (by decide) rfl ?_
              refine v_aload_n (am_Dk d_MM_reckon (k := 22) rfl) rfl ?_
              refine v_iload_n (am_Dk d_MM_reckon (k := 23) rfl) rfl ?_
              refine v_callV (rest := []) (As := [.int (nI x)]) (mc' := 0) (ms' := 0) (am_Dk d_MM_reckon (k := 24) rfl) c_MM_126 (Or.inl ⟨_, _, _, _, _, q0, cq_ok9⟩) (t_MM_sort G (d := 5) (k := k) (by omega) q0 (ARs_fr qA (fun i z1 z2 => rfl)) (by omega) (NMs_fr qN (fun i z1 z2 => rfl)) hns htx hkn) (by omega) (by omega) (by omega) (by simp [Value.category]) rfl (fun v3 M4 n5 h6 => ?_) (fun _ _ _ h6 => ?_)
              rotate_left
              · exact absurd h6.1 (by simp)
              obtain ⟨h6, e7, e8⟩ := h6
              replace e7 := e7.symm
              replace e8 := e8.symm
              subst e7
              subst e8
              cases h6
              show am_V G _ _ _ _ _ 39 [(3, .int (nI x)), (2, .int (nI top)), (0, .ref 1211)] [.int (srtV (Kd x) (Ma x) (ordN T F k))] M3 nx 0 0
              rw [hs]
              show am_V G _ _ _ _ _ 39 [(3, .int (nI x)), (2, .int (nI top)), (0, .ref 1211)] [.int 1] M3 nx 0 0
              refine v_istore (L1 := [(4, .int 1), (3, .int (nI x)), (2, .int (nI top)), (0, .ref 1211)]) (am_Dk d_MM_reckon (k := 25) rfl) (by decide) rfl ?_
              refine v_aload_n (am_Dk d_MM_reckon (k := 26) rfl) rfl ?_
              refine v_get (am_Dk d_MM_reckon (k := 27) rfl) f_MM_20 q0 rfl ?_
              refine v_get9 (am_Dk d_MM_reckon (k := 28) rfl) r_MM_92 qA.1 rfl ?_
              refine v_iload_n (am_Dk d_MM_reckon (k := 29) rfl) rfl ?_
              refine v_iald (am_Dk d_MM_reckon (k := 30) rfl) qKd rfl (vp_in_nI (by omega) (by omega)) ?_
              rw [nI_clamp (n := x) (by omega)]
              refine v_iconst (v := 1) (am_Dk d_MM_reckon (k := 31) rfl) (by decide) ?_
              refine v_icmp_ne (tgt := 73) (am_Dk d_MM_reckon (k := 32) rfl) (by decide) (fun c9 => ?_) (fun c9 => ?_)
              · refine v_aload_n (am_Dk d_MM_reckon (k := 42) rfl) rfl ?_
                refine v_get (am_Dk d_MM_reckon (k := 43) rfl) f_MM_20 q0 rfl ?_
                refine v_get9 (am_Dk d_MM_reckon (k := 44) rfl) r_MM_92 qA.1 rfl ?_
                refine v_iload_n (am_Dk d_MM_reckon (k := 45) rfl) rfl ?_
                refine v_iald (am_Dk d_MM_reckon (k := 46) rfl) qKd rfl (vp_in_nI (by omega) (by omega)) ?_
                rw [nI_clamp (n := x) (by omega)]
                refine v_if_ne (tgt := 131) (am_Dk d_MM_reckon (k := 47) rfl) (by decide) (fun c10 => ?_) (fun c10 => ?_)
                · refine v_iload (am_Dk d_MM_reckon (k := 71) rfl) rfl ?_
                  refine v_if_ne (tgt := 144) (am_Dk d_MM_reckon (k := 72) rfl) (by decide) (fun c11 => ?_) (fun c11 => ?_)
                  · refine v_aload_n (am_Dk d_MM_reckon (k := 77) rfl) rfl ?_
                    refine v_get (am_Dk d_MM_reckon (k := 78) rfl) f_MM_55 q0 rfl ?_
                    refine v_iload_n (am_Dk d_MM_reckon (k := 79) rfl) rfl ?_
                    refine v_iald (am_Dk d_MM_reckon (k := 80) rfl) qS rfl (vp_in_nI (by omega) (by omega)) ?_
                    rw [nI_clamp (n := top) (by omega)]
                    rw [show Sg3 top = 1 from hS3]
                    refine v_if_eq (tgt := 169) (am_Dk d_MM_reckon (k := 81) rfl) (by decide) (fun c12 => ?_) (fun c12 => ?_)
                    · exact absurd c12 (by decide)
                    · refine v_iload (am_Dk d_MM_reckon (k := 82) rfl) rfl ?_
                      refine v_iconst (v := 1) (am_Dk d_MM_reckon (k := 83) rfl) (by decide) ?_
                      refine v_icmp_ne (tgt := 238) (am_Dk d_MM_reckon (k := 84) rfl) (by decide) (fun c13 => ?_) (fun c13 => ?_)
                      · exact absurd (by decide) c13
                      · refine v_aload_n (am_Dk d_MM_reckon (k := 85) rfl) rfl ?_
                        refine v_get (am_Dk d_MM_reckon (k := 86) rfl) f_MM_55 q0 rfl ?_
                        refine v_iload_n (am_Dk d_MM_reckon (k := 87) rfl) rfl ?_
                        refine v_iald (am_Dk d_MM_reckon (k := 88) rfl) qS rfl (vp_in_nI (by omega) (by omega)) ?_
                        rw [nI_clamp (n := top) (by omega)]
                        rw [show Sg3 top = 1 from hS3]
                        refine v_iconst (v := 1) (am_Dk d_MM_reckon (k := 89) rfl) (by decide) ?_
                        refine v_icmp_ne (tgt := 238) (am_Dk d_MM_reckon (k := 90) rfl) (by decide) (fun c14 => ?_) (fun c14 => ?_)
                        · exact absurd (by decide) c14
                        · refine v_aload_n (am_Dk d_MM_reckon (k := 91) rfl) rfl ?_
                          refine v_get (am_Dk d_MM_reckon (k := 92) rfl) f_MM_55 q0 rfl ?_
                          refine v_iload_n (am_Dk d_MM_reckon (k := 93) rfl) rfl ?_
                          refine v_iald (am_Dk d_MM_reckon (k := 94) rfl) qS rfl (vp_in_nI (by omega) (by omega)) ?_
                          rw [nI_clamp (n := top) (by omega)]
                          rw [show Sg3 top = 1 from hS3]
                          refine v_iconst (v := 1) (am_Dk d_MM_reckon (k := 95) rfl) (by decide) ?_
                          refine v_icmp_ne (tgt := 189) (am_Dk d_MM_reckon (k := 96) rfl) (by decide) (fun c15 => ?_) (fun c15 => ?_)
                          · exact absurd (by decide) c15
                          · refine v_aload_n (am_Dk d_MM_reckon (k := 97) rfl) rfl ?_
                            refine v_get (am_Dk d_MM_reckon (k := 98) rfl) f_MM_58 q0 rfl ?_
                            refine v_iload_n (am_Dk d_MM_reckon (k := 99) rfl) rfl ?_
                            refine v_aload_n (am_Dk d_MM_reckon (k := 100) rfl) rfl ?_
                            refine v_get (am_Dk d_MM_reckon (k := 101) rfl) f_MM_132 q0 rfl ?_
                            refine v_last (am_Dk d_MM_reckon (k := 102) rfl) qL rfl (vp_in_nI (by omega) (by omega)) ?_
                            rw [nI_clamp (n := top) (by omega)]
                            refine v_aload_n (am_Dk d_MM_reckon (k := 103) rfl) rfl ?_
                            have m16 : (am_up M3 1238 (.inl (2, 9000, .inr (.inl (vp_updL Lf3 (top) ((W.1 y).2)))))) 1211 = some (.inr (9, [.int th, .int ta, .int pl, .int 0, .int (nI c), .ref 1212, .ref 1213, .ref 1220, .ref 1225, .ref 1233, .ref 1234, .ref 1235, .ref 1236, .ref 1237, .ref 1238, .long ((W.1 y).2)])) := (am_up_ne (show 1211 ≠ 1238 from by decide)).trans (q0)
                            refine v_get (am_Dk d_MM_reckon (k := 104) rfl) f_MM_55 m16 rfl ?_
                            refine v_iload_n (am_Dk d_MM_reckon (k := 105) rfl) rfl ?_
                            refine v_dup2 (am_Dk d_MM_reckon (k := 106) rfl) rfl rfl ?_
                            have m17 : (am_up M3 1238 (.inl (2, 9000, .inr (.inl (vp_updL Lf3 (top) ((W.1 y).2)))))) 1237 = some (.inl (1, 9000, .inl Sg3)) := (am_up_ne (show 1237 ≠ 1238 from by decide)).trans (qS)
                            refine v_iald (am_Dk d_MM_reckon (k := 107) rfl) m17 rfl (vp_in_nI (by omega) (by omega)) ?_
                            rw [nI_clamp (n := top) (by omega)]
                            rw [show Sg3 top = 1 from hS3]
                            refine v_iconst (v := 1) (am_Dk d_MM_reckon (k := 108) rfl) (by decide) ?_
                            refine v_iadd (am_Dk d_MM_reckon (k := 109) rfl) ?_
                            rw [show (1 + 1 : Int32) = 2 from by decide]
                            refine v_iast (am_Dk d_MM_reckon (k := 110) rfl) m17 rfl (vp_in_nI (by omega) (by omega)) ?_
                            rw [nI_clamp (n := top) (by omega)]
                            refine v_aload_n (am_Dk d_MM_reckon (k := 111) rfl) rfl ?_
                            have m18 : (am_up (am_up M3 1238 (.inl (2, 9000, .inr (.inl (vp_updL Lf3 (top) ((W.1 y).2)))))) 1237 (.inl (1, 9000, .inl (upd Sg3 (top) 2)))) 1211 = some (.inr (9, [.int th, .int ta, .int pl, .int 0, .int (nI c), .ref 1212, .ref 1213, .ref 1220, .ref 1225, .ref 1233, .ref 1234, .ref 1235, .ref 1236, .ref 1237, .ref 1238, .long ((W.1 y).2)])) := (am_up_ne (show 1211 ≠ 1237 from by decide)).trans ((am_up_ne (show 1211 ≠ 1238 from by decide)).trans (q0))
                            refine v_get (am_Dk d_MM_reckon (k := 112) rfl) f_MM_52 m18 rfl ?_
                            refine v_iload_n (am_Dk d_MM_reckon (k := 113) rfl) rfl ?_
                            refine v_iconst (v := 1) (am_Dk d_MM_reckon (k := 114) rfl) (by decide) ?_
                            refine v_iadd (am_Dk d_MM_reckon (k := 115) rfl) ?_
                            rw [nI_1]
                            refine v_aload_n (am_Dk d_MM_reckon (k := 116) rfl) rfl ?_
                            refine v_get (am_Dk d_MM_reckon (k := 117) rfl) f_MM_20 m18 rfl ?_
                            refine v_iload_n (am_Dk d_MM_reckon (k := 118) rfl) rfl ?_
                            refine v_aload_n (am_Dk d_MM_reckon (k := 119) rfl) rfl ?_
                            refine v_get (am_Dk d_MM_reckon (k := 120) rfl) f_MM_55 m18 rfl ?_
                            refine v_iload_n (am_Dk d_MM_reckon (k := 121) rfl) rfl ?_
                            have m19 : (am_up (am_up M3 1238 (.inl (2, 9000, .inr (.inl (vp_updL Lf3 (top) ((W.1 y).2)))))) 1237 (.inl (1, 9000, .inl (upd Sg3 (top) 2)))) 1237 = some (.inl (1, 9000, .inl (upd Sg3 (top) 2))) := am_up_eq _ _ _
                            refine v_iald (am_Dk d_MM_reckon (k := 122) rfl) m19 rfl (vp_in_nI (by omega) (by omega)) ?_
                            rw [nI_clamp (n := top) (by omega)]
                            rw [show (upd Sg3 (top) 2) top = 2 from upd_at _ _ _]
                            refine v_iconst (v := 1) (am_Dk d_MM_reckon (k := 123) rfl) (by decide) ?_
                            refine v_isub (am_Dk d_MM_reckon (k := 124) rfl) ?_
                            rw [show (2 - 1 : Int32) = nI 1 from by decide]
                            have m20 : (am_up (am_up M3 1238 (.inl (2, 9000, .inr (.inl (vp_updL Lf3 (top) ((W.1 y).2)))))) 1237 (.inl (1, 9000, .inl (upd Sg3 (top) 2)))) 1213 = some (.inr (10, [.ref 1214, .ref 1215, .ref 1216, .ref 1217, .ref 1218, .ref 1219, .int (nI sz), .int (nI pt)])) := (am_up_ne (show 1213 ≠ 1237 from by decide)).trans ((am_up_ne (show 1213 ≠ 1238 from by decide)).trans (qA.1))
                            refine v_callV (rest := [.int (nI (top + 1)), .ref 1236]) (As := [.int (nI x), .int (nI 1)]) (mc' := 0) (ms' := 0) (am_Dk d_MM_reckon (k := 125) rfl) c_MM_139 (Or.inl ⟨_, _, _, _, _, m20, cq_ok10⟩) (t_MT_part G (d := 0) (b := b) (i := 1) (by omega) (ARs_fr qA (fun i z1 z2 => (am_up_ne (show i ≠ 1237 from by omega)).trans ((am_up_ne (show i ≠ 1238 from by omega)).trans (rfl)))) (by omega) (p3 (by omega)) (by omega)) (by omega) (by omega) (by omega) (by simp [Value.category]) rfl (fun v21 M22 n23 h24 => ?_) (fun _ _ _ h24 => ?_)
                            rotate_left
                            · exact absurd h24.1 (by simp)
                            obtain ⟨h24, e25, e26⟩ := h24
                            replace e25 := e25.symm
                            replace e26 := e26.symm
                            subst e25
                            subst e26
                            cases h24
                            show am_V G _ _ _ _ _ 222 [(4, .int 1), (3, .int (nI x)), (2, .int (nI top)), (0, .ref 1211)] [.int (Pa (b + 1)), .int (nI (top + 1)), .ref 1236] (am_up (am_up M3 1238 (.inl (2, 9000, .inr (.inl (vp_updL Lf3 (top) ((W.1 y).2)))))) 1237 (.inl (1, 9000, .inl (upd Sg3 (top) 2)))) nx 0 0
                            rw [show Pa (b + 1) = nI z from z2]
                            show am_V G _ _ _ _ _ 222 [(4, .int 1), (3, .int (nI x)), (2, .int (nI top)), (0, .ref 1211)] [.int (nI z), .int (nI (top + 1)), .ref 1236] (am_up (am_up M3 1238 (.inl (2, 9000, .inr (.inl (vp_updL Lf3 (top) ((W.1 y).2)))))) 1237 (.inl (1, 9000, .inl (upd Sg3 (top) 2)))) nx 0 0
                            have m27 : (am_up (am_up M3 1238 (.inl (2, 9000, .inr (.inl (vp_updL Lf3 (top) ((W.1 y).2)))))) 1237 (.inl (1, 9000, .inl (upd Sg3 (top) 2)))) 1236 = some (.inl (1, 9000, .inl Wk3)) := (am_up_ne (show 1236 ≠ 1237 from by decide)).trans ((am_up_ne (show 1236 ≠ 1238 from by decide)).trans (qW))
                            refine v_iast (am_Dk d_MM_reckon (k := 126) rfl) m27 rfl (vp_in_nI (by omega) (by omega)) ?_
                            rw [nI_clamp (n := top + 1) (by omega)]
                            refine v_aload_n (am_Dk d_MM_reckon (k := 127) rfl) rfl ?_
                            have m28 : (am_up (am_up (am_up M3 1238 (.inl (2, 9000, .inr (.inl (vp_updL Lf3 (top) ((W.1 y).2)))))) 1237 (.inl (1, 9000, .inl (upd Sg3 (top) 2)))) 1236 (.inl (1, 9000, .inl (upd Wk3 (top + 1) (nI z))))) 1211 = some (.inr (9, [.int th, .int ta, .int pl, .int 0, .int (nI c), .ref 1212, .ref 1213, .ref 1220, .ref 1225, .ref 1233, .ref 1234, .ref 1235, .ref 1236, .ref 1237, .ref 1238, .long ((W.1 y).2)])) := (am_up_ne (show 1211 ≠ 1236 from by decide)).trans ((am_up_ne (show 1211 ≠ 1237 from by decide)).trans ((am_up_ne (show 1211 ≠ 1238 from by decide)).trans (q0)))
                            refine v_get (am_Dk d_MM_reckon (k := 128) rfl) f_MM_55 m28 rfl ?_
                            refine v_iload_n (am_Dk d_MM_reckon (k := 129) rfl) rfl ?_
                            refine v_iconst (v := 1) (am_Dk d_MM_reckon (k := 130) rfl) (by decide) ?_
                            refine v_iadd (am_Dk d_MM_reckon (k := 131) rfl) ?_
                            rw [nI_1]
                            refine v_iconst (v := 0) (am_Dk d_MM_reckon (k := 132) rfl) (by decide) ?_
                            have m29 : (am_up (am_up (am_up M3 1238 (.inl (2, 9000, .inr (.inl (vp_updL Lf3 (top) ((W.1 y).2)))))) 1237 (.inl (1, 9000, .inl (upd Sg3 (top) 2)))) 1236 (.inl (1, 9000, .inl (upd Wk3 (top + 1) (nI z))))) 1237 = some (.inl (1, 9000, .inl (upd Sg3 (top) 2))) := (am_up_ne (show 1237 ≠ 1236 from by decide)).trans (am_up_eq _ _ _)
                            refine v_iast (am_Dk d_MM_reckon (k := 133) rfl) m29 rfl (vp_in_nI (by omega) (by omega)) ?_
                            rw [nI_clamp (n := top + 1) (by omega)]
                            rw [am_uu1 (a := 1237)]
                            refine v_iinc (v := nI (top + 1)) (L1 := [(2, .int (nI (top + 1))), (4, .int 1), (3, .int (nI x)), (0, .ref 1211)]) (am_Dk d_MM_reckon (k := 134) rfl) rfl (nI_1 _) (by decide) rfl ?_
                            refine v_goto (tgt := 279) (am_Dk d_MM_reckon (k := 135) rfl) (by decide) ?_
                            refine v_goto (tgt := 16) (am_Dk d_MM_reckon (k := 158) rfl) (by decide) ?_
                            refine v_drop (ih z (by omega) (by omega) _ (upd Wk3 (top + 1) (nI z)) (upd (upd Sg3 (top) 2) (top + 1) 0) (vp_updL Lf3 (top) ((W.1 y).2)) _ (top + 1) ⟨(am_up_ne (show 1236 ≠ 1237 from by decide)).trans (am_up_eq _ _ _), am_up_eq _ _ _, (am_up_ne (show 1238 ≠ 1237 from by decide)).trans ((am_up_ne (show 1238 ≠ 1236 from by decide)).trans (am_up_eq _ _ _)), (am_up_ne (show 1211 ≠ 1237 from by decide)).trans ((am_up_ne (show 1211 ≠ 1236 from by decide)).trans ((am_up_ne (show 1211 ≠ 1238 from by decide)).trans (q0))), fun i hi => (am_up_ne (show i ≠ 1237 from by omega)).trans ((am_up_ne (show i ≠ 1236 from by omega)).trans ((am_up_ne (show i ≠ 1238 from by omega)).trans (qf i hi)))⟩ (by omega) (upd_at _ _ _) (upd_at _ _ _) ?_ ?_) (by simp)
                            · intro M5 Wk5 Sg5 Lf5 hR5 hag5 hz0
                              rw [pk_m1]
                              obtain ⟨g1, g2, g3⟩ := hag5 top (by omega)
                              refine hv2 M5 Wk5 Sg5 Lf5 hR5 (fun i hi => ?_) (g1.trans ((upd_ne _ _ (by omega)).trans hW3)) (g2.trans ((upd_ne _ _ (by omega)).trans (upd_at _ _ _))) (g3.trans (updL_at _ _ _)) hy0 hz0
                              obtain ⟨g4, g5, g6⟩ := hag5 i (by omega)
                              obtain ⟨b1, b2, b3⟩ := hag i hi
                              exact ⟨g4.trans ((upd_ne _ _ (by omega)).trans b1), g5.trans ((upd_ne _ _ (by omega)).trans ((upd_ne _ _ (by omega)).trans b2)), g6.trans ((updL_ne _ _ (by omega)).trans b3)⟩
                            · intro M5 Wk5 Sg5 Lf5 r5 j5 e5 hR5 he5 hne5
                              exact kc2 M5 Wk5 Sg5 Lf5 r5 j5 e5 hR5 (by rw [hw, hy0, ← he5, rk2, if_pos htw, if_pos rfl, if_neg hne5]) hne5
                  · exact absurd c11 (by decide)
                · exact absurd (k1.symm.trans c10) (by decide)
              · exact absurd (k1.symm.trans c9) (by decide)
        obtain ⟨qW, qS, qL, q0, qf⟩ := hM
        have qA : ARs M2 (Kd, Nm, Fi, Ma, Pa, Nu) sz pt := ARs_fr hX.1 (fun i z1 z2 => qf i (by omega))
        have qN : NMs M2 ns tx T F := NMs_fr hX.2.1 (fun i z1 z2 => qf i (by omega))
        have qKd : M2 1214 = some (.inl (1, 9000, .inl Kd)) := qA.2.1
        have qNm : M2 1215 = some (.inl (1, 9000, .inl Nm)) := qA.2.2.1
        have qNu : M2 1219 = some (.inl (2, 9000, .inr (.inl Nu))) := qA.2.2.2.2.2.2
        refine v_iload_n (am_Dk d_MM_reckon (k := 12) rfl) rfl ?_
        refine v_if_lt (tgt := 282) (am_Dk d_MM_reckon (k := 13) rfl) (by decide) (fun c1 => ?_) (fun c1 => ?_)
        · exact absurd c1 (nI_pos (by omega))
        · refine v_aload_n (am_Dk d_MM_reckon (k := 14) rfl) rfl ?_
          refine v_get (am_Dk d_MM_reckon (k := 15) rfl) f_MM_123 q0 rfl ?_
          refine v_if_ne (tgt := 282) (am_Dk d_MM_reckon (k := 16) rfl) (by decide) (fun c2 => ?_) (fun c2 => ?_)
          · exact absurd (by decide) c2
          · refine v_aload_n (am_Dk d_MM_reckon (k := 17) rfl) rfl ?_
            refine v_get (am_Dk d_MM_reckon (k := 18) rfl) f_MM_52 q0 rfl ?_
            refine v_iload_n (am_Dk d_MM_reckon (k := 19) rfl) rfl ?_
            refine v_iald (am_Dk d_MM_reckon (k := 20) rfl) qW rfl (vp_in_nI (by omega) (by omega)) ?_
            rw [nI_clamp (n := top) (by omega)]
            rw [show Wk top = nI x from hWx]
            refine v_istore_n (L1 := [(3, .int (nI x)), (2, .int (nI top)), (0, .ref 1211)]) (am_Dk d_MM_reckon (k := 21) rfl) (by decide) rfl ?_
            refine v_aload_n (am_Dk d_MM_reckon (k := 22) rfl) rfl ?_
            refine v_iload_n (am_Dk d_MM_reckon (k := 23) rfl) rfl ?_
            refine v_callV (rest := []) (As := [.int (nI x)]) (mc' := 0) (ms' := 0) (am_Dk d_MM_reckon (k := 24) rfl) c_MM_126 (Or.inl ⟨_, _, _, _, _, q0, cq_ok9⟩) (t_MM_sort G (d := 5) (k := k) (by omega) q0 (ARs_fr qA (fun i z1 z2 => rfl)) (by omega) (NMs_fr qN (fun i z1 z2 => rfl)) hns htx hkn) (by omega) (by omega) (by omega) (by simp [Value.category]) rfl (fun v3 M4 n5 h6 => ?_) (fun _ _ _ h6 => ?_)
            rotate_left
            · exact absurd h6.1 (by simp)
            obtain ⟨h6, e7, e8⟩ := h6
            replace e7 := e7.symm
            replace e8 := e8.symm
            subst e7
            subst e8
            cases h6
            show am_V G _ _ _ _ _ 39 [(3, .int (nI x)), (2, .int (nI top)), (0, .ref 1211)] [.int (srtV (Kd x) (Ma x) (ordN T F k))] M2 nx 0 0
            rw [hs]
            show am_V G _ _ _ _ _ 39 [(3, .int (nI x)), (2, .int (nI top)), (0, .ref 1211)] [.int 1] M2 nx 0 0
            refine v_istore (L1 := [(4, .int 1), (3, .int (nI x)), (2, .int (nI top)), (0, .ref 1211)]) (am_Dk d_MM_reckon (k := 25) rfl) (by decide) rfl ?_
            refine v_aload_n (am_Dk d_MM_reckon (k := 26) rfl) rfl ?_
            refine v_get (am_Dk d_MM_reckon (k := 27) rfl) f_MM_20 q0 rfl ?_
            refine v_get9 (am_Dk d_MM_reckon (k := 28) rfl) r_MM_92 qA.1 rfl ?_
            refine v_iload_n (am_Dk d_MM_reckon (k := 29) rfl) rfl ?_
            refine v_iald (am_Dk d_MM_reckon (k := 30) rfl) qKd rfl (vp_in_nI (by omega) (by omega)) ?_
            rw [nI_clamp (n := x) (by omega)]
            refine v_iconst (v := 1) (am_Dk d_MM_reckon (k := 31) rfl) (by decide) ?_
            refine v_icmp_ne (tgt := 73) (am_Dk d_MM_reckon (k := 32) rfl) (by decide) (fun c9 => ?_) (fun c9 => ?_)
            · refine v_aload_n (am_Dk d_MM_reckon (k := 42) rfl) rfl ?_
              refine v_get (am_Dk d_MM_reckon (k := 43) rfl) f_MM_20 q0 rfl ?_
              refine v_get9 (am_Dk d_MM_reckon (k := 44) rfl) r_MM_92 qA.1 rfl ?_
              refine v_iload_n (am_Dk d_MM_reckon (k := 45) rfl) rfl ?_
              refine v_iald (am_Dk d_MM_reckon (k := 46) rfl) qKd rfl (vp_in_nI (by omega) (by omega)) ?_
              rw [nI_clamp (n := x) (by omega)]
              refine v_if_ne (tgt := 131) (am_Dk d_MM_reckon (k := 47) rfl) (by decide) (fun c10 => ?_) (fun c10 => ?_)
              · refine v_iload (am_Dk d_MM_reckon (k := 71) rfl) rfl ?_
                refine v_if_ne (tgt := 144) (am_Dk d_MM_reckon (k := 72) rfl) (by decide) (fun c11 => ?_) (fun c11 => ?_)
                · refine v_aload_n (am_Dk d_MM_reckon (k := 77) rfl) rfl ?_
                  refine v_get (am_Dk d_MM_reckon (k := 78) rfl) f_MM_55 q0 rfl ?_
                  refine v_iload_n (am_Dk d_MM_reckon (k := 79) rfl) rfl ?_
                  refine v_iald (am_Dk d_MM_reckon (k := 80) rfl) qS rfl (vp_in_nI (by omega) (by omega)) ?_
                  rw [nI_clamp (n := top) (by omega)]
                  rw [show Sg top = 0 from hSx]
                  refine v_if_eq (tgt := 169) (am_Dk d_MM_reckon (k := 81) rfl) (by decide) (fun c12 => ?_) (fun c12 => ?_)
                  · refine v_aload_n (am_Dk d_MM_reckon (k := 91) rfl) rfl ?_
                    refine v_get (am_Dk d_MM_reckon (k := 92) rfl) f_MM_55 q0 rfl ?_
                    refine v_iload_n (am_Dk d_MM_reckon (k := 93) rfl) rfl ?_
                    refine v_iald (am_Dk d_MM_reckon (k := 94) rfl) qS rfl (vp_in_nI (by omega) (by omega)) ?_
                    rw [nI_clamp (n := top) (by omega)]
                    rw [show Sg top = 0 from hSx]
                    refine v_iconst (v := 1) (am_Dk d_MM_reckon (k := 95) rfl) (by decide) ?_
                    refine v_icmp_ne (tgt := 189) (am_Dk d_MM_reckon (k := 96) rfl) (by decide) (fun c13 => ?_) (fun c13 => ?_)
                    · refine v_aload_n (am_Dk d_MM_reckon (k := 103) rfl) rfl ?_
                      refine v_get (am_Dk d_MM_reckon (k := 104) rfl) f_MM_55 q0 rfl ?_
                      refine v_iload_n (am_Dk d_MM_reckon (k := 105) rfl) rfl ?_
                      refine v_dup2 (am_Dk d_MM_reckon (k := 106) rfl) rfl rfl ?_
                      refine v_iald (am_Dk d_MM_reckon (k := 107) rfl) qS rfl (vp_in_nI (by omega) (by omega)) ?_
                      rw [nI_clamp (n := top) (by omega)]
                      rw [show Sg top = 0 from hSx]
                      refine v_iconst (v := 1) (am_Dk d_MM_reckon (k := 108) rfl) (by decide) ?_
                      refine v_iadd (am_Dk d_MM_reckon (k := 109) rfl) ?_
                      rw [show (0 + 1 : Int32) = 1 from by decide]
                      refine v_iast (am_Dk d_MM_reckon (k := 110) rfl) qS rfl (vp_in_nI (by omega) (by omega)) ?_
                      rw [nI_clamp (n := top) (by omega)]
                      refine v_aload_n (am_Dk d_MM_reckon (k := 111) rfl) rfl ?_
                      have m14 : (am_up M2 1237 (.inl (1, 9000, .inl (upd Sg (top) 1)))) 1211 = some (.inr (9, [.int th, .int ta, .int pl, .int 0, .int (nI c), .ref 1212, .ref 1213, .ref 1220, .ref 1225, .ref 1233, .ref 1234, .ref 1235, .ref 1236, .ref 1237, .ref 1238, .long re])) := (am_up_ne (show 1211 ≠ 1237 from by decide)).trans (q0)
                      refine v_get (am_Dk d_MM_reckon (k := 112) rfl) f_MM_52 m14 rfl ?_
                      refine v_iload_n (am_Dk d_MM_reckon (k := 113) rfl) rfl ?_
                      refine v_iconst (v := 1) (am_Dk d_MM_reckon (k := 114) rfl) (by decide) ?_
                      refine v_iadd (am_Dk d_MM_reckon (k := 115) rfl) ?_
                      rw [nI_1]
                      refine v_aload_n (am_Dk d_MM_reckon (k := 116) rfl) rfl ?_
                      refine v_get (am_Dk d_MM_reckon (k := 117) rfl) f_MM_20 m14 rfl ?_
                      refine v_iload_n (am_Dk d_MM_reckon (k := 118) rfl) rfl ?_
                      refine v_aload_n (am_Dk d_MM_reckon (k := 119) rfl) rfl ?_
                      refine v_get (am_Dk d_MM_reckon (k := 120) rfl) f_MM_55 m14 rfl ?_
                      refine v_iload_n (am_Dk d_MM_reckon (k := 121) rfl) rfl ?_
                      have m15 : (am_up M2 1237 (.inl (1, 9000, .inl (upd Sg (top) 1)))) 1237 = some (.inl (1, 9000, .inl (upd Sg (top) 1))) := am_up_eq _ _ _
                      refine v_iald (am_Dk d_MM_reckon (k := 122) rfl) m15 rfl (vp_in_nI (by omega) (by omega)) ?_
                      rw [nI_clamp (n := top) (by omega)]
                      rw [show (upd Sg (top) 1) top = 1 from upd_at _ _ _]
                      refine v_iconst (v := 1) (am_Dk d_MM_reckon (k := 123) rfl) (by decide) ?_
                      refine v_isub (am_Dk d_MM_reckon (k := 124) rfl) ?_
                      rw [show (1 - 1 : Int32) = nI 0 from by decide]
                      have m16 : (am_up M2 1237 (.inl (1, 9000, .inl (upd Sg (top) 1)))) 1213 = some (.inr (10, [.ref 1214, .ref 1215, .ref 1216, .ref 1217, .ref 1218, .ref 1219, .int (nI sz), .int (nI pt)])) := (am_up_ne (show 1213 ≠ 1237 from by decide)).trans (qA.1)
                      refine v_callV (rest := [.int (nI (top + 1)), .ref 1236]) (As := [.int (nI x), .int (nI 0)]) (mc' := 0) (ms' := 0) (am_Dk d_MM_reckon (k := 125) rfl) c_MM_139 (Or.inl ⟨_, _, _, _, _, m16, cq_ok10⟩) (t_MT_part G (d := 0) (b := b) (i := 0) (by omega) (ARs_fr qA (fun i z1 z2 => (am_up_ne (show i ≠ 1237 from by omega)).trans (rfl))) (by omega) (p3 (by omega)) (by omega)) (by omega) (by omega) (by omega) (by simp [Value.category]) rfl (fun v17 M18 n19 h20 => ?_) (fun _ _ _ h20 => ?_)
                      rotate_left
                      · exact absurd h20.1 (by simp)
                      obtain ⟨h20, e21, e22⟩ := h20
                      replace e21 := e21.symm
                      replace e22 := e22.symm
                      subst e21
                      subst e22
                      cases h20
                      show am_V G _ _ _ _ _ 222 [(4, .int 1), (3, .int (nI x)), (2, .int (nI top)), (0, .ref 1211)] [.int (Pa (b + 0)), .int (nI (top + 1)), .ref 1236] (am_up M2 1237 (.inl (1, 9000, .inl (upd Sg (top) 1)))) nx 0 0
                      rw [show Pa (b + 0) = nI y from y2]
                      show am_V G _ _ _ _ _ 222 [(4, .int 1), (3, .int (nI x)), (2, .int (nI top)), (0, .ref 1211)] [.int (nI y), .int (nI (top + 1)), .ref 1236] (am_up M2 1237 (.inl (1, 9000, .inl (upd Sg (top) 1)))) nx 0 0
                      have m23 : (am_up M2 1237 (.inl (1, 9000, .inl (upd Sg (top) 1)))) 1236 = some (.inl (1, 9000, .inl Wk)) := (am_up_ne (show 1236 ≠ 1237 from by decide)).trans (qW)
                      refine v_iast (am_Dk d_MM_reckon (k := 126) rfl) m23 rfl (vp_in_nI (by omega) (by omega)) ?_
                      rw [nI_clamp (n := top + 1) (by omega)]
                      refine v_aload_n (am_Dk d_MM_reckon (k := 127) rfl) rfl ?_
                      have m24 : (am_up (am_up M2 1237 (.inl (1, 9000, .inl (upd Sg (top) 1)))) 1236 (.inl (1, 9000, .inl (upd Wk (top + 1) (nI y))))) 1211 = some (.inr (9, [.int th, .int ta, .int pl, .int 0, .int (nI c), .ref 1212, .ref 1213, .ref 1220, .ref 1225, .ref 1233, .ref 1234, .ref 1235, .ref 1236, .ref 1237, .ref 1238, .long re])) := (am_up_ne (show 1211 ≠ 1236 from by decide)).trans ((am_up_ne (show 1211 ≠ 1237 from by decide)).trans (q0))
                      refine v_get (am_Dk d_MM_reckon (k := 128) rfl) f_MM_55 m24 rfl ?_
                      refine v_iload_n (am_Dk d_MM_reckon (k := 129) rfl) rfl ?_
                      refine v_iconst (v := 1) (am_Dk d_MM_reckon (k := 130) rfl) (by decide) ?_
                      refine v_iadd (am_Dk d_MM_reckon (k := 131) rfl) ?_
                      rw [nI_1]
                      refine v_iconst (v := 0) (am_Dk d_MM_reckon (k := 132) rfl) (by decide) ?_
                      have m25 : (am_up (am_up M2 1237 (.inl (1, 9000, .inl (upd Sg (top) 1)))) 1236 (.inl (1, 9000, .inl (upd Wk (top + 1) (nI y))))) 1237 = some (.inl (1, 9000, .inl (upd Sg (top) 1))) := (am_up_ne (show 1237 ≠ 1236 from by decide)).trans (am_up_eq _ _ _)
                      refine v_iast (am_Dk d_MM_reckon (k := 133) rfl) m25 rfl (vp_in_nI (by omega) (by omega)) ?_
                      rw [nI_clamp (n := top + 1) (by omega)]
                      rw [am_uu1 (a := 1237)]
                      refine v_iinc (v := nI (top + 1)) (L1 := [(2, .int (nI (top + 1))), (4, .int 1), (3, .int (nI x)), (0, .ref 1211)]) (am_Dk d_MM_reckon (k := 134) rfl) rfl (nI_1 _) (by decide) rfl ?_
                      refine v_goto (tgt := 279) (am_Dk d_MM_reckon (k := 135) rfl) (by decide) ?_
                      refine v_goto (tgt := 16) (am_Dk d_MM_reckon (k := 158) rfl) (by decide) ?_
                      refine v_drop (ih y (by omega) (by omega) _ (upd Wk (top + 1) (nI y)) (upd (upd Sg (top) 1) (top + 1) 0) Lf _ (top + 1) ⟨(am_up_ne (show 1236 ≠ 1237 from by decide)).trans (am_up_eq _ _ _), am_up_eq _ _ _, (am_up_ne (show 1238 ≠ 1237 from by decide)).trans ((am_up_ne (show 1238 ≠ 1236 from by decide)).trans (qL)), (am_up_ne (show 1211 ≠ 1237 from by decide)).trans ((am_up_ne (show 1211 ≠ 1236 from by decide)).trans (q0)), fun i hi => (am_up_ne (show i ≠ 1237 from by omega)).trans ((am_up_ne (show i ≠ 1236 from by omega)).trans (qf i hi))⟩ (by omega) (upd_at _ _ _) (upd_at _ _ _) ?_ ?_) (by simp)
                      · intro M5 Wk5 Sg5 Lf5 hR5 hag5 hz0
                        rw [pk_m1]
                        obtain ⟨g1, g2, g3⟩ := hag5 top (by omega)
                        refine hv1 M5 Wk5 Sg5 Lf5 hR5 (fun i hi => ?_) (g1.trans ((upd_ne _ _ (by omega)).trans hWx)) (g2.trans ((upd_ne _ _ (by omega)).trans (upd_at _ _ _))) hz0
                        obtain ⟨g4, g5, g6⟩ := hag5 i (by omega)
                        obtain ⟨b1, b2, b3⟩ := (show ∀ i, i < top → Wk i = Wk i ∧ Sg i = Sg i ∧ Lf i = Lf i from fun _ _ => ⟨rfl, rfl, rfl⟩) i hi
                        exact ⟨g4.trans ((upd_ne _ _ (by omega)).trans b1), g5.trans ((upd_ne _ _ (by omega)).trans ((upd_ne _ _ (by omega)).trans b2)), g6.trans (b3)⟩
                      · intro M5 Wk5 Sg5 Lf5 r5 j5 e5 hR5 he5 hne5
                        exact kc2 M5 Wk5 Sg5 Lf5 r5 j5 e5 hR5 (by rw [hw, ← he5, rk2, if_pos htw, if_neg hne5]) hne5
                    · exact absurd c13 (by decide)
                  · exact absurd (by decide) c12
                · exact absurd c11 (by decide)
              · exact absurd (k1.symm.trans c10) (by decide)
            · exact absurd (k1.symm.trans c9) (by decide)
      · obtain ⟨y, y1, y2, hw⟩ := p6 hc1
        replace y2 : Pa (b + 0) = nI y := y2
        have hRy : inR (W.1 y).2 := ar_R (hX.2.2.2.1 y (by omega))
        have hv1 : ∀ (M3 : am_M) (Wk3 Sg3 : Nat → Int32) (Lf3 : Nat → Int64), RKm M M3 th ta pl (nI c) Wk3 Sg3 Lf3 0 (W.1 y).2 → (∀ i, i < top → Wk3 i = Wk i ∧ Sg3 i = Sg i ∧ Lf3 i = Lf i) → Wk3 top = nI x → Sg3 top = 1 → (W.1 y).1 = 0 → am_V G m_MM_reckon d 0 0 Q9 16 [(2, .int (nI top)), (0, .ref 1211)] [] M3 nx 0 0 := by
          intro M3 Wk3 Sg3 Lf3 hM3 hag hW3 hS3 hy0
          obtain ⟨qW, qS, qL, q0, qf⟩ := hM3
          have qA : ARs M3 (Kd, Nm, Fi, Ma, Pa, Nu) sz pt := ARs_fr hX.1 (fun i z1 z2 => qf i (by omega))
          have qN : NMs M3 ns tx T F := NMs_fr hX.2.1 (fun i z1 z2 => qf i (by omega))
          have qKd : M3 1214 = some (.inl (1, 9000, .inl Kd)) := qA.2.1
          have qNm : M3 1215 = some (.inl (1, 9000, .inl Nm)) := qA.2.2.1
          have qNu : M3 1219 = some (.inl (2, 9000, .inr (.inl Nu))) := qA.2.2.2.2.2.2
          have hwd : W.1 x = dn1 (ordN T F k) false (Lf3 top) (W.1 y).2 := by rw [hw, hy0, dn1, if_neg (by decide)]
          have hRa : false = true → inR (Lf3 top) := fun z => absurd z (by decide)
          have hRb := hRy
          have htw9 : if false = true then twoK (ordN T F k) = true else oneK (ordN T F k) = true := by rw [if_neg (by decide)]; exact htw
          refine v_iload_n (am_Dk d_MM_reckon (k := 12) rfl) rfl ?_
          refine v_if_lt (tgt := 282) (am_Dk d_MM_reckon (k := 13) rfl) (by decide) (fun c1 => ?_) (fun c1 => ?_)
          · exact absurd c1 (nI_pos (by omega))
          · refine v_aload_n (am_Dk d_MM_reckon (k := 14) rfl) rfl ?_
            refine v_get (am_Dk d_MM_reckon (k := 15) rfl) f_MM_123 q0 rfl ?_
            refine v_if_ne (tgt := 282) (am_Dk d_MM_reckon (k := 16) rfl) (by decide) (fun c2 => ?_) (fun c2 => ?_)
            · exact absurd (by decide) c2
            · refine v_aload_n (am_Dk d_MM_reckon (k := 17) rfl) rfl ?_
              refine v_get (am_Dk d_MM_reckon (k := 18) rfl) f_MM_52 q0 rfl ?_
              refine v_iload_n (am_Dk d_MM_reckon (k := 19) rfl) rfl ?_
              refine v_iald (am_Dk d_MM_reckon (k := 20) rfl) qW rfl (vp_in_nI (by omega) (by omega)) ?_
              rw [nI_clamp (n := top) (by omega)]
              rw [show Wk3 top = nI x from hW3]
              refine v_istore_n (L1 := [(3, .int (nI x)), (2, .int (nI top)), (0, .ref 1211)]) (am_Dk d_MM_reckon (k := 21) rfl) (by decide) rfl ?_
              refine v_aload_n (am_Dk d_MM_reckon (k := 22) rfl) rfl ?_
              refine v_iload_n (am_Dk d_MM_reckon (k := 23) rfl) rfl ?_
              refine v_callV (rest := []) (As := [.int (nI x)]) (mc' := 0) (ms' := 0) (am_Dk d_MM_reckon (k := 24) rfl) c_MM_126 (Or.inl ⟨_, _, _, _, _, q0, cq_ok9⟩) (t_MM_sort G (d := 5) (k := k) (by omega) q0 (ARs_fr qA (fun i z1 z2 => rfl)) (by omega) (NMs_fr qN (fun i z1 z2 => rfl)) hns htx hkn) (by omega) (by omega) (by omega) (by simp [Value.category]) rfl (fun v3 M4 n5 h6 => ?_) (fun _ _ _ h6 => ?_)
              rotate_left
              · exact absurd h6.1 (by simp)
              obtain ⟨h6, e7, e8⟩ := h6
              replace e7 := e7.symm
              replace e8 := e8.symm
              subst e7
              subst e8
              cases h6
              show am_V G _ _ _ _ _ 39 [(3, .int (nI x)), (2, .int (nI top)), (0, .ref 1211)] [.int (srtV (Kd x) (Ma x) (ordN T F k))] M3 nx 0 0
              rw [hs]
              show am_V G _ _ _ _ _ 39 [(3, .int (nI x)), (2, .int (nI top)), (0, .ref 1211)] [.int 2] M3 nx 0 0
              refine v_istore (L1 := [(4, .int 2), (3, .int (nI x)), (2, .int (nI top)), (0, .ref 1211)]) (am_Dk d_MM_reckon (k := 25) rfl) (by decide) rfl ?_
              refine v_aload_n (am_Dk d_MM_reckon (k := 26) rfl) rfl ?_
              refine v_get (am_Dk d_MM_reckon (k := 27) rfl) f_MM_20 q0 rfl ?_
              refine v_get9 (am_Dk d_MM_reckon (k := 28) rfl) r_MM_92 qA.1 rfl ?_
              refine v_iload_n (am_Dk d_MM_reckon (k := 29) rfl) rfl ?_
              refine v_iald (am_Dk d_MM_reckon (k := 30) rfl) qKd rfl (vp_in_nI (by omega) (by omega)) ?_
              rw [nI_clamp (n := x) (by omega)]
              refine v_iconst (v := 1) (am_Dk d_MM_reckon (k := 31) rfl) (by decide) ?_
              refine v_icmp_ne (tgt := 73) (am_Dk d_MM_reckon (k := 32) rfl) (by decide) (fun c9 => ?_) (fun c9 => ?_)
              · refine v_aload_n (am_Dk d_MM_reckon (k := 42) rfl) rfl ?_
                refine v_get (am_Dk d_MM_reckon (k := 43) rfl) f_MM_20 q0 rfl ?_
                refine v_get9 (am_Dk d_MM_reckon (k := 44) rfl) r_MM_92 qA.1 rfl ?_
                refine v_iload_n (am_Dk d_MM_reckon (k := 45) rfl) rfl ?_
                refine v_iald (am_Dk d_MM_reckon (k := 46) rfl) qKd rfl (vp_in_nI (by omega) (by omega)) ?_
                rw [nI_clamp (n := x) (by omega)]
                refine v_if_ne (tgt := 131) (am_Dk d_MM_reckon (k := 47) rfl) (by decide) (fun c10 => ?_) (fun c10 => ?_)
                · refine v_iload (am_Dk d_MM_reckon (k := 71) rfl) rfl ?_
                  refine v_if_ne (tgt := 144) (am_Dk d_MM_reckon (k := 72) rfl) (by decide) (fun c11 => ?_) (fun c11 => ?_)
                  · refine v_aload_n (am_Dk d_MM_reckon (k := 77) rfl) rfl ?_
                    refine v_get (am_Dk d_MM_reckon (k := 78) rfl) f_MM_55 q0 rfl ?_
                    refine v_iload_n (am_Dk d_MM_reckon (k := 79) rfl) rfl ?_
                    refine v_iald (am_Dk d_MM_reckon (k := 80) rfl) qS rfl (vp_in_nI (by omega) (by omega)) ?_
                    rw [nI_clamp (n := top) (by omega)]
                    rw [show Sg3 top = 1 from hS3]
                    refine v_if_eq (tgt := 169) (am_Dk d_MM_reckon (k := 81) rfl) (by decide) (fun c12 => ?_) (fun c12 => ?_)
                    · exact absurd c12 (by decide)
                    · refine v_iload (am_Dk d_MM_reckon (k := 82) rfl) rfl ?_
                      refine v_iconst (v := 1) (am_Dk d_MM_reckon (k := 83) rfl) (by decide) ?_
                      refine v_icmp_ne (tgt := 238) (am_Dk d_MM_reckon (k := 84) rfl) (by decide) (fun c13 => ?_) (fun c13 => ?_)
                      · refine v_aload_n (am_Dk d_MM_reckon (k := 136) rfl) rfl ?_
                        refine v_aload_n (am_Dk d_MM_reckon (k := 137) rfl) rfl ?_
                        refine v_aload_n (am_Dk d_MM_reckon (k := 138) rfl) rfl ?_
                        refine v_get (am_Dk d_MM_reckon (k := 139) rfl) f_MM_20 q0 rfl ?_
                        refine v_get9 (am_Dk d_MM_reckon (k := 140) rfl) r_MM_95 qA.1 rfl ?_
                        refine v_iload_n (am_Dk d_MM_reckon (k := 141) rfl) rfl ?_
                        refine v_iald (am_Dk d_MM_reckon (k := 142) rfl) qNm rfl (vp_in_nI (by omega) (by omega)) ?_
                        rw [nI_clamp (n := x) (by omega)]
                        rw [show Nm x = nI k from k4]
                        refine v_iload (am_Dk d_MM_reckon (k := 143) rfl) rfl ?_
                        refine v_iconst (v := 1) (am_Dk d_MM_reckon (k := 144) rfl) (by decide) ?_
                        refine v_icmp_ne (tgt := 259) (am_Dk d_MM_reckon (k := 145) rfl) (by decide) (fun c14 => ?_) (fun c14 => ?_)
                        · refine v_iconst (v := 0) (am_Dk d_MM_reckon (k := 148) rfl) (by decide) ?_
                          refine v_aload_n (am_Dk d_MM_reckon (k := 149) rfl) rfl ?_
                          refine v_get (am_Dk d_MM_reckon (k := 150) rfl) f_MM_58 q0 rfl ?_
                          refine v_iload_n (am_Dk d_MM_reckon (k := 151) rfl) rfl ?_
                          refine v_lald (am_Dk d_MM_reckon (k := 152) rfl) qL rfl (vp_in_nI (by omega) (by omega)) ?_
                          rw [nI_clamp (n := top) (by omega)]
                          refine v_aload_n (am_Dk d_MM_reckon (k := 153) rfl) rfl ?_
                          refine v_get (am_Dk d_MM_reckon (k := 154) rfl) f_MM_132 q0 rfl ?_
                          refine v_callV (rest := [.ref 1211]) (As := [.int (nI k), .int 0, .long (Lf3 top), .long ((W.1 y).2)]) (mc' := 0) (ms' := 0) (am_Dk d_MM_reckon (k := 155) rfl) c_MM_142 (Or.inl ⟨_, _, _, _, _, q0, cq_ok9⟩) (t_MM_done G (d := 5) (k := k) (two := false) (a := (Lf3 top)) (b := (W.1 y).2) (by omega) q0 (NMs_fr qN (fun i z1 z2 => rfl)) k3 hns htx hRa hRb htw9) (by omega) (by omega) (by omega) (by simp [Value.category]) rfl (fun v15 M16 n17 h18 => ?_) (fun _ _ _ h18 => ?_)
                          rotate_left
                          · obtain ⟨_, hx9, _⟩ := h18; cases hx9
                          obtain ⟨v9, h18, hM9, hx9, hv9⟩ := h18
                          cases h18
                          replace hM9 := hM9.symm
                          replace hx9 := hx9.symm
                          subst hM9
                          subst hx9
                          show am_V G _ _ _ _ _ 273 [(4, .int 2), (3, .int (nI x)), (2, .int (nI top)), (0, .ref 1211)] [.long v9, .ref 1211] (am_up M3 1211 (.inr (9, [.int th, .int ta, .int pl, .int (dn1 (ordN T F k) false (Lf3 top) (W.1 y).2).1, .int (nI c), .ref 1212, .ref 1213, .ref 1220, .ref 1225, .ref 1233, .ref 1234, .ref 1235, .ref 1236, .ref 1237, .ref 1238, .long ((W.1 y).2)]))) nx 0 0
                          have m19 : (am_up M3 1211 (.inr (9, [.int th, .int ta, .int pl, .int (dn1 (ordN T F k) false (Lf3 top) (W.1 y).2).1, .int (nI c), .ref 1212, .ref 1213, .ref 1220, .ref 1225, .ref 1233, .ref 1234, .ref 1235, .ref 1236, .ref 1237, .ref 1238, .long ((W.1 y).2)]))) 1211 = some (.inr (9, [.int th, .int ta, .int pl, .int (dn1 (ordN T F k) false (Lf3 top) (W.1 y).2).1, .int (nI c), .ref 1212, .ref 1213, .ref 1220, .ref 1225, .ref 1233, .ref 1234, .ref 1235, .ref 1236, .ref 1237, .ref 1238, .long ((W.1 y).2)])) := am_up_eq _ _ _
                          refine v_put (am_Dk d_MM_reckon (k := 156) rfl) f_MM_132 m19 (Nat.le_of_ble_eq_true rfl) rfl rfl ?_
                          rw [am_uu0 (a := 1211)]
                          refine v_iinc (v := (nI top) + (-1)) (L1 := [(2, .int ((nI top) + (-1))), (4, .int 2), (3, .int (nI x)), (0, .ref 1211)]) (am_Dk d_MM_reckon (k := 157) rfl) rfl rfl (by decide) rfl ?_
                          refine v_goto (tgt := 16) (am_Dk d_MM_reckon (k := 158) rfl) (by decide) ?_
                          by_cases he9 : (W.1 x).1 = 0
                          · have e1 : (dn1 (ordN T F k) false (Lf3 top) (W.1 y).2).1 = 0 := by rw [← hwd]; exact he9
                            rw [e1, hv9 e1]
                            exact v_drop (kc1 _ Wk3 Sg3 Lf3 (by rw [hwd]; exact ⟨(am_up_ne (show 1236 ≠ 1211 from by decide)).trans (qW), (am_up_ne (show 1237 ≠ 1211 from by decide)).trans (qS), (am_up_ne (show 1238 ≠ 1211 from by decide)).trans (qL), am_up_eq _ _ _, fun i hi => (am_up_ne (show i ≠ 1211 from by omega)).trans (qf i hi)⟩) hag he9) (by simp)
                          · exact v_drop (kc2 _ Wk3 Sg3 Lf3 v9 ((nI top) + (-1)) _ ⟨(am_up_ne (show 1236 ≠ 1211 from by decide)).trans (qW), (am_up_ne (show 1237 ≠ 1211 from by decide)).trans (qS), (am_up_ne (show 1238 ≠ 1211 from by decide)).trans (qL), am_up_eq _ _ _, fun i hi => (am_up_ne (show i ≠ 1211 from by omega)).trans (qf i hi)⟩ (by rw [hwd]) (by rw [← hwd]; exact he9)) (by simp)
                        · exact absurd c14 (by decide)
                      · exact absurd c13 (by decide)
                  · exact absurd c11 (by decide)
                · exact absurd (k1.symm.trans c10) (by decide)
              · exact absurd (k1.symm.trans c9) (by decide)
        obtain ⟨qW, qS, qL, q0, qf⟩ := hM
        have qA : ARs M2 (Kd, Nm, Fi, Ma, Pa, Nu) sz pt := ARs_fr hX.1 (fun i z1 z2 => qf i (by omega))
        have qN : NMs M2 ns tx T F := NMs_fr hX.2.1 (fun i z1 z2 => qf i (by omega))
        have qKd : M2 1214 = some (.inl (1, 9000, .inl Kd)) := qA.2.1
        have qNm : M2 1215 = some (.inl (1, 9000, .inl Nm)) := qA.2.2.1
        have qNu : M2 1219 = some (.inl (2, 9000, .inr (.inl Nu))) := qA.2.2.2.2.2.2
        refine v_iload_n (am_Dk d_MM_reckon (k := 12) rfl) rfl ?_
        refine v_if_lt (tgt := 282) (am_Dk d_MM_reckon (k := 13) rfl) (by decide) (fun c1 => ?_) (fun c1 => ?_)
        · exact absurd c1 (nI_pos (by omega))
        · refine v_aload_n (am_Dk d_MM_reckon (k := 14) rfl) rfl ?_
          refine v_get (am_Dk d_MM_reckon (k := 15) rfl) f_MM_123 q0 rfl ?_
          refine v_if_ne (tgt := 282) (am_Dk d_MM_reckon (k := 16) rfl) (by decide) (fun c2 => ?_) (fun c2 => ?_)
          · exact absurd (by decide) c2
          · refine v_aload_n (am_Dk d_MM_reckon (k := 17) rfl) rfl ?_
            refine v_get (am_Dk d_MM_reckon (k := 18) rfl) f_MM_52 q0 rfl ?_
            refine v_iload_n (am_Dk d_MM_reckon (k := 19) rfl) rfl ?_
            refine v_iald (am_Dk d_MM_reckon (k := 20) rfl) qW rfl (vp_in_nI (by omega) (by omega)) ?_
            rw [nI_clamp (n := top) (by omega)]
            rw [show Wk top = nI x from hWx]
            refine v_istore_n (L1 := [(3, .int (nI x)), (2, .int (nI top)), (0, .ref 1211)]) (am_Dk d_MM_reckon (k := 21) rfl) (by decide) rfl ?_
            refine v_aload_n (am_Dk d_MM_reckon (k := 22) rfl) rfl ?_
            refine v_iload_n (am_Dk d_MM_reckon (k := 23) rfl) rfl ?_
            refine v_callV (rest := []) (As := [.int (nI x)]) (mc' := 0) (ms' := 0) (am_Dk d_MM_reckon (k := 24) rfl) c_MM_126 (Or.inl ⟨_, _, _, _, _, q0, cq_ok9⟩) (t_MM_sort G (d := 5) (k := k) (by omega) q0 (ARs_fr qA (fun i z1 z2 => rfl)) (by omega) (NMs_fr qN (fun i z1 z2 => rfl)) hns htx hkn) (by omega) (by omega) (by omega) (by simp [Value.category]) rfl (fun v3 M4 n5 h6 => ?_) (fun _ _ _ h6 => ?_)
            rotate_left
            · exact absurd h6.1 (by simp)
            obtain ⟨h6, e7, e8⟩ := h6
            replace e7 := e7.symm
            replace e8 := e8.symm
            subst e7
            subst e8
            cases h6
            show am_V G _ _ _ _ _ 39 [(3, .int (nI x)), (2, .int (nI top)), (0, .ref 1211)] [.int (srtV (Kd x) (Ma x) (ordN T F k))] M2 nx 0 0
            rw [hs]
            show am_V G _ _ _ _ _ 39 [(3, .int (nI x)), (2, .int (nI top)), (0, .ref 1211)] [.int 2] M2 nx 0 0
            refine v_istore (L1 := [(4, .int 2), (3, .int (nI x)), (2, .int (nI top)), (0, .ref 1211)]) (am_Dk d_MM_reckon (k := 25) rfl) (by decide) rfl ?_
            refine v_aload_n (am_Dk d_MM_reckon (k := 26) rfl) rfl ?_
            refine v_get (am_Dk d_MM_reckon (k := 27) rfl) f_MM_20 q0 rfl ?_
            refine v_get9 (am_Dk d_MM_reckon (k := 28) rfl) r_MM_92 qA.1 rfl ?_
            refine v_iload_n (am_Dk d_MM_reckon (k := 29) rfl) rfl ?_
            refine v_iald (am_Dk d_MM_reckon (k := 30) rfl) qKd rfl (vp_in_nI (by omega) (by omega)) ?_
            rw [nI_clamp (n := x) (by omega)]
            refine v_iconst (v := 1) (am_Dk d_MM_reckon (k := 31) rfl) (by decide) ?_
            refine v_icmp_ne (tgt := 73) (am_Dk d_MM_reckon (k := 32) rfl) (by decide) (fun c9 => ?_) (fun c9 => ?_)
            · refine v_aload_n (am_Dk d_MM_reckon (k := 42) rfl) rfl ?_
              refine v_get (am_Dk d_MM_reckon (k := 43) rfl) f_MM_20 q0 rfl ?_
              refine v_get9 (am_Dk d_MM_reckon (k := 44) rfl) r_MM_92 qA.1 rfl ?_
              refine v_iload_n (am_Dk d_MM_reckon (k := 45) rfl) rfl ?_
              refine v_iald (am_Dk d_MM_reckon (k := 46) rfl) qKd rfl (vp_in_nI (by omega) (by omega)) ?_
              rw [nI_clamp (n := x) (by omega)]
              refine v_if_ne (tgt := 131) (am_Dk d_MM_reckon (k := 47) rfl) (by decide) (fun c10 => ?_) (fun c10 => ?_)
              · refine v_iload (am_Dk d_MM_reckon (k := 71) rfl) rfl ?_
                refine v_if_ne (tgt := 144) (am_Dk d_MM_reckon (k := 72) rfl) (by decide) (fun c11 => ?_) (fun c11 => ?_)
                · refine v_aload_n (am_Dk d_MM_reckon (k := 77) rfl) rfl ?_
                  refine v_get (am_Dk d_MM_reckon (k := 78) rfl) f_MM_55 q0 rfl ?_
                  refine v_iload_n (am_Dk d_MM_reckon (k := 79) rfl) rfl ?_
                  refine v_iald (am_Dk d_MM_reckon (k := 80) rfl) qS rfl (vp_in_nI (by omega) (by omega)) ?_
                  rw [nI_clamp (n := top) (by omega)]
                  rw [show Sg top = 0 from hSx]
                  refine v_if_eq (tgt := 169) (am_Dk d_MM_reckon (k := 81) rfl) (by decide) (fun c12 => ?_) (fun c12 => ?_)
                  · refine v_aload_n (am_Dk d_MM_reckon (k := 91) rfl) rfl ?_
                    refine v_get (am_Dk d_MM_reckon (k := 92) rfl) f_MM_55 q0 rfl ?_
                    refine v_iload_n (am_Dk d_MM_reckon (k := 93) rfl) rfl ?_
                    refine v_iald (am_Dk d_MM_reckon (k := 94) rfl) qS rfl (vp_in_nI (by omega) (by omega)) ?_
                    rw [nI_clamp (n := top) (by omega)]
                    rw [show Sg top = 0 from hSx]
                    refine v_iconst (v := 1) (am_Dk d_MM_reckon (k := 95) rfl) (by decide) ?_
                    refine v_icmp_ne (tgt := 189) (am_Dk d_MM_reckon (k := 96) rfl) (by decide) (fun c13 => ?_) (fun c13 => ?_)
                    · refine v_aload_n (am_Dk d_MM_reckon (k := 103) rfl) rfl ?_
                      refine v_get (am_Dk d_MM_reckon (k := 104) rfl) f_MM_55 q0 rfl ?_
                      refine v_iload_n (am_Dk d_MM_reckon (k := 105) rfl) rfl ?_
                      refine v_dup2 (am_Dk d_MM_reckon (k := 106) rfl) rfl rfl ?_
                      refine v_iald (am_Dk d_MM_reckon (k := 107) rfl) qS rfl (vp_in_nI (by omega) (by omega)) ?_
                      rw [nI_clamp (n := top) (by omega)]
                      rw [show Sg top = 0 from hSx]
                      refine v_iconst (v := 1) (am_Dk d_MM_reckon (k := 108) rfl) (by decide) ?_
                      refine v_iadd (am_Dk d_MM_reckon (k := 109) rfl) ?_
                      rw [show (0 + 1 : Int32) = 1 from by decide]
                      refine v_iast (am_Dk d_MM_reckon (k := 110) rfl) qS rfl (vp_in_nI (by omega) (by omega)) ?_
                      rw [nI_clamp (n := top) (by omega)]
                      refine v_aload_n (am_Dk d_MM_reckon (k := 111) rfl) rfl ?_
                      have m14 : (am_up M2 1237 (.inl (1, 9000, .inl (upd Sg (top) 1)))) 1211 = some (.inr (9, [.int th, .int ta, .int pl, .int 0, .int (nI c), .ref 1212, .ref 1213, .ref 1220, .ref 1225, .ref 1233, .ref 1234, .ref 1235, .ref 1236, .ref 1237, .ref 1238, .long re])) := (am_up_ne (show 1211 ≠ 1237 from by decide)).trans (q0)
                      refine v_get (am_Dk d_MM_reckon (k := 112) rfl) f_MM_52 m14 rfl ?_
                      refine v_iload_n (am_Dk d_MM_reckon (k := 113) rfl) rfl ?_
                      refine v_iconst (v := 1) (am_Dk d_MM_reckon (k := 114) rfl) (by decide) ?_
                      refine v_iadd (am_Dk d_MM_reckon (k := 115) rfl) ?_
                      rw [nI_1]
                      refine v_aload_n (am_Dk d_MM_reckon (k := 116) rfl) rfl ?_
                      refine v_get (am_Dk d_MM_reckon (k := 117) rfl) f_MM_20 m14 rfl ?_
                      refine v_iload_n (am_Dk d_MM_reckon (k := 118) rfl) rfl ?_
                      refine v_aload_n (am_Dk d_MM_reckon (k := 119) rfl) rfl ?_
                      refine v_get (am_Dk d_MM_reckon (k := 120) rfl) f_MM_55 m14 rfl ?_
                      refine v_iload_n (am_Dk d_MM_reckon (k := 121) rfl) rfl ?_
                      have m15 : (am_up M2 1237 (.inl (1, 9000, .inl (upd Sg (top) 1)))) 1237 = some (.inl (1, 9000, .inl (upd Sg (top) 1))) := am_up_eq _ _ _
                      refine v_iald (am_Dk d_MM_reckon (k := 122) rfl) m15 rfl (vp_in_nI (by omega) (by omega)) ?_
                      rw [nI_clamp (n := top) (by omega)]
                      rw [show (upd Sg (top) 1) top = 1 from upd_at _ _ _]
                      refine v_iconst (v := 1) (am_Dk d_MM_reckon (k := 123) rfl) (by decide) ?_
                      refine v_isub (am_Dk d_MM_reckon (k := 124) rfl) ?_
                      rw [show (1 - 1 : Int32) = nI 0 from by decide]
                      have m16 : (am_up M2 1237 (.inl (1, 9000, .inl (upd Sg (top) 1)))) 1213 = some (.inr (10, [.ref 1214, .ref 1215, .ref 1216, .ref 1217, .ref 1218, .ref 1219, .int (nI sz), .int (nI pt)])) := (am_up_ne (show 1213 ≠ 1237 from by decide)).trans (qA.1)
                      refine v_callV (rest := [.int (nI (top + 1)), .ref 1236]) (As := [.int (nI x), .int (nI 0)]) (mc' := 0) (ms' := 0) (am_Dk d_MM_reckon (k := 125) rfl) c_MM_139 (Or.inl ⟨_, _, _, _, _, m16, cq_ok10⟩) (t_MT_part G (d := 0) (b := b) (i := 0) (by omega) (ARs_fr qA (fun i z1 z2 => (am_up_ne (show i ≠ 1237 from by omega)).trans (rfl))) (by omega) (p3 (by omega)) (by omega)) (by omega) (by omega) (by omega) (by simp [Value.category]) rfl (fun v17 M18 n19 h20 => ?_) (fun _ _ _ h20 => ?_)
                      rotate_left
                      · exact absurd h20.1 (by simp)
                      obtain ⟨h20, e21, e22⟩ := h20
                      replace e21 := e21.symm
                      replace e22 := e22.symm
                      subst e21
                      subst e22
                      cases h20
                      show am_V G _ _ _ _ _ 222 [(4, .int 2), (3, .int (nI x)), (2, .int (nI top)), (0, .ref 1211)] [.int (Pa (b + 0)), .int (nI (top + 1)), .ref 1236] (am_up M2 1237 (.inl (1, 9000, .inl (upd Sg (top) 1)))) nx 0 0
                      rw [show Pa (b + 0) = nI y from y2]
                      show am_V G _ _ _ _ _ 222 [(4, .int 2), (3, .int (nI x)), (2, .int (nI top)), (0, .ref 1211)] [.int (nI y), .int (nI (top + 1)), .ref 1236] (am_up M2 1237 (.inl (1, 9000, .inl (upd Sg (top) 1)))) nx 0 0
                      have m23 : (am_up M2 1237 (.inl (1, 9000, .inl (upd Sg (top) 1)))) 1236 = some (.inl (1, 9000, .inl Wk)) := (am_up_ne (show 1236 ≠ 1237 from by decide)).trans (qW)
                      refine v_iast (am_Dk d_MM_reckon (k := 126) rfl) m23 rfl (vp_in_nI (by omega) (by omega)) ?_
                      rw [nI_clamp (n := top + 1) (by omega)]
                      refine v_aload_n (am_Dk d_MM_reckon (k := 127) rfl) rfl ?_
                      have m24 : (am_up (am_up M2 1237 (.inl (1, 9000, .inl (upd Sg (top) 1)))) 1236 (.inl (1, 9000, .inl (upd Wk (top + 1) (nI y))))) 1211 = some (.inr (9, [.int th, .int ta, .int pl, .int 0, .int (nI c), .ref 1212, .ref 1213, .ref 1220, .ref 1225, .ref 1233, .ref 1234, .ref 1235, .ref 1236, .ref 1237, .ref 1238, .long re])) := (am_up_ne (show 1211 ≠ 1236 from by decide)).trans ((am_up_ne (show 1211 ≠ 1237 from by decide)).trans (q0))
                      refine v_get (am_Dk d_MM_reckon (k := 128) rfl) f_MM_55 m24 rfl ?_
                      refine v_iload_n (am_Dk d_MM_reckon (k := 129) rfl) rfl ?_
                      refine v_iconst (v := 1) (am_Dk d_MM_reckon (k := 130) rfl) (by decide) ?_
                      refine v_iadd (am_Dk d_MM_reckon (k := 131) rfl) ?_
                      rw [nI_1]
                      refine v_iconst (v := 0) (am_Dk d_MM_reckon (k := 132) rfl) (by decide) ?_
                      have m25 : (am_up (am_up M2 1237 (.inl (1, 9000, .inl (upd Sg (top) 1)))) 1236 (.inl (1, 9000, .inl (upd Wk (top + 1) (nI y))))) 1237 = some (.inl (1, 9000, .inl (upd Sg (top) 1))) := (am_up_ne (show 1237 ≠ 1236 from by decide)).trans (am_up_eq _ _ _)
                      refine v_iast (am_Dk d_MM_reckon (k := 133) rfl) m25 rfl (vp_in_nI (by omega) (by omega)) ?_
                      rw [nI_clamp (n := top + 1) (by omega)]
                      rw [am_uu1 (a := 1237)]
                      refine v_iinc (v := nI (top + 1)) (L1 := [(2, .int (nI (top + 1))), (4, .int 2), (3, .int (nI x)), (0, .ref 1211)]) (am_Dk d_MM_reckon (k := 134) rfl) rfl (nI_1 _) (by decide) rfl ?_
                      refine v_goto (tgt := 279) (am_Dk d_MM_reckon (k := 135) rfl) (by decide) ?_
                      refine v_goto (tgt := 16) (am_Dk d_MM_reckon (k := 158) rfl) (by decide) ?_
                      refine v_drop (ih y (by omega) (by omega) _ (upd Wk (top + 1) (nI y)) (upd (upd Sg (top) 1) (top + 1) 0) Lf _ (top + 1) ⟨(am_up_ne (show 1236 ≠ 1237 from by decide)).trans (am_up_eq _ _ _), am_up_eq _ _ _, (am_up_ne (show 1238 ≠ 1237 from by decide)).trans ((am_up_ne (show 1238 ≠ 1236 from by decide)).trans (qL)), (am_up_ne (show 1211 ≠ 1237 from by decide)).trans ((am_up_ne (show 1211 ≠ 1236 from by decide)).trans (q0)), fun i hi => (am_up_ne (show i ≠ 1237 from by omega)).trans ((am_up_ne (show i ≠ 1236 from by omega)).trans (qf i hi))⟩ (by omega) (upd_at _ _ _) (upd_at _ _ _) ?_ ?_) (by simp)
                      · intro M5 Wk5 Sg5 Lf5 hR5 hag5 hz0
                        rw [pk_m1]
                        obtain ⟨g1, g2, g3⟩ := hag5 top (by omega)
                        refine hv1 M5 Wk5 Sg5 Lf5 hR5 (fun i hi => ?_) (g1.trans ((upd_ne _ _ (by omega)).trans hWx)) (g2.trans ((upd_ne _ _ (by omega)).trans (upd_at _ _ _))) hz0
                        obtain ⟨g4, g5, g6⟩ := hag5 i (by omega)
                        obtain ⟨b1, b2, b3⟩ := (show ∀ i, i < top → Wk i = Wk i ∧ Sg i = Sg i ∧ Lf i = Lf i from fun _ _ => ⟨rfl, rfl, rfl⟩) i hi
                        exact ⟨g4.trans ((upd_ne _ _ (by omega)).trans b1), g5.trans ((upd_ne _ _ (by omega)).trans ((upd_ne _ _ (by omega)).trans b2)), g6.trans (b3)⟩
                      · intro M5 Wk5 Sg5 Lf5 r5 j5 e5 hR5 he5 hne5
                        exact kc2 M5 Wk5 Sg5 Lf5 r5 j5 e5 hR5 (by rw [hw, ← he5, rk1, if_pos htw, if_neg hne5]) hne5
                    · exact absurd c13 (by decide)
                  · exact absurd (by decide) c12
                · exact absurd c11 (by decide)
              · exact absurd (k1.symm.trans c10) (by decide)
            · exact absurd (k1.symm.trans c9) (by decide)
