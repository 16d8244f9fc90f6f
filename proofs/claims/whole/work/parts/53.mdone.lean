/-! SORTS AND ARITHMETIC OF THE REFERENCE (mine; rows laid by the walker) -/
theorem mmS_125 : am_Str 125 225 (kn_w 17) := ⟨by decide +kernel, by decide +kernel, by decide +kernel, by decide +kernel, by decide +kernel, by decide +kernel⟩
theorem mmS_126 : am_Str 126 226 (kn_w 18) := ⟨by decide +kernel, by decide +kernel, by decide +kernel, by decide +kernel, by decide +kernel, by decide +kernel⟩
theorem mmS_127 : am_Str 127 227 (kn_w 19) := ⟨by decide +kernel, by decide +kernel, by decide +kernel, by decide +kernel, by decide +kernel, by decide +kernel⟩
theorem mmS_128 : am_Str 128 228 (kn_w 20) := ⟨by decide +kernel, by decide +kernel, by decide +kernel, by decide +kernel, by decide +kernel, by decide +kernel⟩
theorem mmS_129 : am_Str 129 229 (kn_w 21) := ⟨by decide +kernel, by decide +kernel, by decide +kernel, by decide +kernel, by decide +kernel, by decide +kernel⟩
theorem mmS_130 : am_Str 130 230 (kn_w 22) := ⟨by decide +kernel, by decide +kernel, by decide +kernel, by decide +kernel, by decide +kernel, by decide +kernel⟩
theorem mmS_131 : am_Str 131 231 (kn_w 24) := ⟨by decide +kernel, by decide +kernel, by decide +kernel, by decide +kernel, by decide +kernel, by decide +kernel⟩
theorem mmS_132 : am_Str 132 232 (kn_w 25) := ⟨by decide +kernel, by decide +kernel, by decide +kernel, by decide +kernel, by decide +kernel, by decide +kernel⟩
theorem mmS_133 : am_Str 133 233 (kn_w 23) := ⟨by decide +kernel, by decide +kernel, by decide +kernel, by decide +kernel, by decide +kernel, by decide +kernel⟩
theorem mmS_134 : am_Str 134 234 (kn_w 10) := ⟨by decide +kernel, by decide +kernel, by decide +kernel, by decide +kernel, by decide +kernel, by decide +kernel⟩
theorem mmS_135 : am_Str 135 235 (kn_w 11) := ⟨by decide +kernel, by decide +kernel, by decide +kernel, by decide +kernel, by decide +kernel, by decide +kernel⟩
theorem mmS_136 : am_Str 136 236 (kn_w 12) := ⟨by decide +kernel, by decide +kernel, by decide +kernel, by decide +kernel, by decide +kernel, by decide +kernel⟩
theorem mmS_137 : am_Str 137 237 (kn_w 13) := ⟨by decide +kernel, by decide +kernel, by decide +kernel, by decide +kernel, by decide +kernel, by decide +kernel⟩
theorem mmS_138 : am_Str 138 238 (kn_w 14) := ⟨by decide +kernel, by decide +kernel, by decide +kernel, by decide +kernel, by decide +kernel, by decide +kernel⟩
theorem mmS_139 : am_Str 139 239 (kn_w 15) := ⟨by decide +kernel, by decide +kernel, by decide +kernel, by decide +kernel, by decide +kernel, by decide +kernel⟩
theorem mmS_140 : am_Str 140 240 (kn_w 16) := ⟨by decide +kernel, by decide +kernel, by decide +kernel, by decide +kernel, by decide +kernel, by decide +kernel⟩
theorem jmin_lt (a b : Int64) : (if a < b then a else b) = jmin a b := by
  rw [jmin]
  by_cases h : a < b
  · rw [if_pos h, if_pos (Int64.le_of_lt h)]
  · rw [if_neg h]
    by_cases h2 : a ≤ b
    · rw [if_pos h2]
      exact Int64.le_antisymm (Int64.not_lt.mp h) h2
    · rw [if_neg h2]
theorem jmax_lt (a b : Int64) : (if b < a then a else b) = jmax a b := by
  rw [jmax]
  by_cases h : b < a
  · rw [if_pos h, if_pos (Int64.le_of_lt h)]
  · rw [if_neg h]
    by_cases h2 : b ≤ a
    · rw [if_pos h2]
      exact Int64.le_antisymm h2 (Int64.not_lt.mp h)
    · rw [if_neg h2]
def dn1 (o : Nat) (two : Bool) (a b : Int64) : Int32 × Int64 := if two = true then rk2 o 0 a 0 b else rk1 o 0 b
set_option maxRecDepth 20000 in
theorem t_MM_done (G : am_G) {d nx : Nat} (hd : 5 ≤ d) {M : am_M} {th ta pl va : Int32} {re : Int64} (h0 : M 1211 = some (.inr (9, [.int th, .int ta, .int pl, .int 0, .int va, .ref 1212, .ref 1213, .ref 1220, .ref 1225, .ref 1233, .ref 1234, .ref 1235, .ref 1236, .ref 1237, .ref 1238, .long re]))) {ns tx k : Nat} {T : Nat → Int32} {F : Nat → Nat} (hNM : NMs M ns tx T F) (hk : k < ns) (hns : ns ≤ 9000) (htx : tx ≤ 5000) {two : Bool} {a b : Int64} (ha : two = true → inR a) (hb : inR b) (htw : if two = true then twoK (ordN T F k) = true else oneK (ordN T F k) = true) : am_Tr G m_MM_done d 0 0 [.ref 1211, .int (nI k), .int (bi two), .long a, .long b] M nx (fun r M1 nx1 => ∃ v, r = .inl (some (.long v)) ∧ M1 = am_up M 1211 (.inr (9, [.int th, .int ta, .int pl, .int ((dn1 (ordN T F k) two a b).1), .int va, .ref 1212, .ref 1213, .ref 1220, .ref 1225, .ref 1233, .ref 1234, .ref 1235, .ref 1236, .ref 1237, .ref 1238, .long re])) ∧ nx1 = nx ∧ ((dn1 (ordN T F k) two a b).1 = 0 → v = (dn1 (ordN T F k) two a b).2)) := by
  refine am_TrOf (by decide) (Nat.le_of_ble_eq_true rfl) ?_
  show am_V G _ _ _ _ _ 0 [(0, .ref 1211), (1, .int (nI k)), (2, .int (bi two)), (3, .long a), (5, .long b)] [] M nx 0 0
  obtain ⟨hN, hT, _, hO, ⟨A9, hF, hA⟩, _, _⟩ := hNM
  have h273 : ∀ (v : Int64) (e : Int32), (e = 0 → dn1 (ordN T F k) two a b = (setE v, setN v)) → (¬ e = 0 → (dn1 (ordN T F k) two a b).1 = e) → am_V G m_MM_done d 0 0 (fun r M1 nx1 => ∃ v, r = .inl (some (.long v)) ∧ M1 = am_up M 1211 (.inr (9, [.int th, .int ta, .int pl, .int ((dn1 (ordN T F k) two a b).1), .int va, .ref 1212, .ref 1213, .ref 1220, .ref 1225, .ref 1233, .ref 1234, .ref 1235, .ref 1236, .ref 1237, .ref 1238, .long re])) ∧ nx1 = nx ∧ ((dn1 (ordN T F k) two a b).1 = 0 → v = (dn1 (ordN T F k) two a b).2)) 273 [(7, .long v), (0, .ref 1211)] [] (am_up M 1211 (.inr (9, [.int th, .int ta, .int pl, .int e, .int va, .ref 1212, .ref 1213, .ref 1220, .ref 1225, .ref 1233, .ref 1234, .ref 1235, .ref 1236, .ref 1237, .ref 1238, .long re]))) nx 0 0 := by
    intro v e h1 h2
    refine v_aload_n (am_Dk d_MM_done (k := 139) rfl) rfl ?_
    have m1 : (am_up M 1211 (.inr (9, [.int th, .int ta, .int pl, .int e, .int va, .ref 1212, .ref 1213, .ref 1220, .ref 1225, .ref 1233, .ref 1234, .ref 1235, .ref 1236, .ref 1237, .ref 1238, .long re]))) 1211 = some (.inr (9, [.int th, .int ta, .int pl, .int e, .int va, .ref 1212, .ref 1213, .ref 1220, .ref 1225, .ref 1233, .ref 1234, .ref 1235, .ref 1236, .ref 1237, .ref 1238, .long re])) := am_up_eq _ _ _
    refine v_get (am_Dk d_MM_done (k := 140) rfl) f_MM_123 m1 rfl ?_
    refine v_if_ne (tgt := 303) (am_Dk d_MM_done (k := 141) rfl) (by decide) (fun c2 => ?_) (fun c2 => ?_)
    · have hE0 : ¬ e = 0 := c2
      refine v_lload (am_Dk d_MM_done (k := 153) rfl) rfl ?_
      exact v_lreturn (am_Dk d_MM_done (k := 154) rfl) rfl (by omega) (by omega) ⟨v, rfl, by rw [h2 hE0], rfl, fun z => absurd ((h2 hE0).symm.trans z) hE0⟩
    · have hE0 : e = 0 := c2
      refine v_lload (am_Dk d_MM_done (k := 142) rfl) rfl ?_
      refine v_ldc2 (am_Dk d_MM_done (k := 143) rfl) k_MM_151 ?_
      refine v_lcmp (am_Dk d_MM_done (k := 144) rfl) ?_
      refine v_if_gt (tgt := 298) (am_Dk d_MM_done (k := 145) rfl) (by decide) (fun c3 => ?_) (fun c3 => ?_)
      · have hgt := (lg_cmp_gt _ _).mp c3
        refine v_aload_n (am_Dk d_MM_done (k := 150) rfl) rfl ?_
        refine v_iconst (v := 4) (am_Dk d_MM_done (k := 151) rfl) (by decide) ?_
        refine v_put (am_Dk d_MM_done (k := 152) rfl) f_MM_123 m1 (Nat.le_of_ble_eq_true rfl) rfl rfl ?_
        rw [am_uu0 (a := 1211)]
        refine v_lload (am_Dk d_MM_done (k := 153) rfl) rfl ?_
        have hx := h1 hE0
        have hse : setE v = 4 := by rw [setE, if_neg (show ¬ fitP v = true from ne_true_of_eq_false (decide_eq_false (by first | exact fun z => absurd z.1 (Int64.not_le.mpr hgt) | exact fun z => absurd z.2 hlt)))]
        exact v_lreturn (am_Dk d_MM_done (k := 154) rfl) rfl (by omega) (by omega) ⟨v, rfl, by rw [hx, hse]; rfl, rfl, fun z => absurd (by rw [hx] at z; exact hse.symm.trans z) (by decide)⟩
      · have hgt : ¬ 9007199254740991 < v := fun z => c3 ((lg_cmp_gt _ _).mpr z)
        refine v_lload (am_Dk d_MM_done (k := 146) rfl) rfl ?_
        refine v_ldc2 (am_Dk d_MM_done (k := 147) rfl) k_MM_153 ?_
        refine v_lcmp (am_Dk d_MM_done (k := 148) rfl) ?_
        refine v_if_ge (tgt := 303) (am_Dk d_MM_done (k := 149) rfl) (by decide) (fun c4 => ?_) (fun c4 => ?_)
        · have hlt : -9007199254740991 ≤ v := (lg_cmp_ge _ _).mp c4
          refine v_lload (am_Dk d_MM_done (k := 153) rfl) rfl ?_
          by_cases hE9 : e = 0
          · have hx := h1 hE9
            have hf : fitP v = true := decide_eq_true ⟨Int64.not_lt.mp hgt, hlt⟩
            exact v_lreturn (am_Dk d_MM_done (k := 154) rfl) rfl (by omega) (by omega) ⟨v, rfl, by rw [hx, hE9, setE, if_pos hf], rfl, fun _ => by rw [hx]; show v = setN v; rw [setN, if_pos hf]⟩
          · exact absurd hE0 hE9
        · have hlt : ¬ -9007199254740991 ≤ v := fun z => c4 ((lg_cmp_ge _ _).mpr z)
          refine v_aload_n (am_Dk d_MM_done (k := 150) rfl) rfl ?_
          refine v_iconst (v := 4) (am_Dk d_MM_done (k := 151) rfl) (by decide) ?_
          refine v_put (am_Dk d_MM_done (k := 152) rfl) f_MM_123 m1 (Nat.le_of_ble_eq_true rfl) rfl rfl ?_
          rw [am_uu0 (a := 1211)]
          refine v_lload (am_Dk d_MM_done (k := 153) rfl) rfl ?_
          have hx := h1 hE0
          have hse : setE v = 4 := by rw [setE, if_neg (show ¬ fitP v = true from ne_true_of_eq_false (decide_eq_false (by first | exact fun z => absurd z.1 (Int64.not_le.mpr hgt) | exact fun z => absurd z.2 hlt)))]
          exact v_lreturn (am_Dk d_MM_done (k := 154) rfl) rfl (by omega) (by omega) ⟨v, rfl, by rw [hx, hse]; rfl, rfl, fun z => absurd (by rw [hx] at z; exact hse.symm.trans z) (by decide)⟩
  refine v_iload_n (am_Dk d_MM_done (k := 0) rfl) rfl ?_
  refine v_if_ne (tgt := 43) (am_Dk d_MM_done (k := 1) rfl) (by decide) (fun c1 => ?_) (fun c1 => ?_)
  · have h2t : two = true := bi1 c1
    rw [if_pos h2t] at htw
    refine v_aload_n (am_Dk d_MM_done (k := 21) rfl) rfl ?_
    refine v_get (am_Dk d_MM_done (k := 22) rfl) f_MM_27 h0 rfl ?_
    refine v_iload_n (am_Dk d_MM_done (k := 23) rfl) rfl ?_
    refine v_ldcS (i := 125) (tx := "+") (am_Dk d_MM_done (k := 24) rfl) (by decide +kernel) ?_
    refine v_callV (rest := []) (As := [.int (nI k), .ref 125]) (mc' := 0) (ms' := 0) (am_Dk d_MM_done (k := 25) rfl) c_MM_103 (Or.inl ⟨_, _, _, _, _, hN, cq_ok11⟩) (t_MN_spells G (d := 4) (by omega) hN hT hO hF hA hk hns htx mmS_125) (by omega) (by omega) (by omega) (by simp [Value.category]) rfl (fun v2 M3 n4 h5 => ?_) (fun _ _ _ h5 => ?_)
    rotate_left
    · exact absurd h5.1 (by simp)
    obtain ⟨h5, e6, e7⟩ := h5
    replace e6 := e6.symm
    replace e7 := e7.symm
    subst e6
    subst e7
    cases h5
    show am_V G _ _ _ _ _ 53 [(0, .ref 1211), (1, .int (nI k)), (2, .int (bi two)), (3, .long a), (5, .long b)] [.int (bi (spv (kn_w 17) (nmL F k) (nmW T F k)))] M nx 0 0
    refine v_if_eq (tgt := 65) (am_Dk d_MM_done (k := 26) rfl) (by decide) (fun c8 => ?_) (fun c8 => ?_)
    · have n_17 : ¬ ordN T F k = 17 := of_decide_eq_false ((spv_iff (l := nmL F k) (g := nmW T F k) (k := 17) (by decide)).symm.trans (bi0.mp c8))
      refine v_aload_n (am_Dk d_MM_done (k := 32) rfl) rfl ?_
      refine v_get (am_Dk d_MM_done (k := 33) rfl) f_MM_27 h0 rfl ?_
      refine v_iload_n (am_Dk d_MM_done (k := 34) rfl) rfl ?_
      refine v_ldcS (i := 126) (tx := "-") (am_Dk d_MM_done (k := 35) rfl) (by decide +kernel) ?_
      refine v_callV (rest := []) (As := [.int (nI k), .ref 126]) (mc' := 0) (ms' := 0) (am_Dk d_MM_done (k := 36) rfl) c_MM_103 (Or.inl ⟨_, _, _, _, _, hN, cq_ok11⟩) (t_MN_spells G (d := 4) (by omega) hN hT hO hF hA hk hns htx mmS_126) (by omega) (by omega) (by omega) (by simp [Value.category]) rfl (fun v9 M10 n11 h12 => ?_) (fun _ _ _ h12 => ?_)
      rotate_left
      · exact absurd h12.1 (by simp)
      obtain ⟨h12, e13, e14⟩ := h12
      replace e13 := e13.symm
      replace e14 := e14.symm
      subst e13
      subst e14
      cases h12
      show am_V G _ _ _ _ _ 75 [(0, .ref 1211), (1, .int (nI k)), (2, .int (bi two)), (3, .long a), (5, .long b)] [.int (bi (spv (kn_w 18) (nmL F k) (nmW T F k)))] M nx 0 0
      refine v_if_eq (tgt := 87) (am_Dk d_MM_done (k := 37) rfl) (by decide) (fun c15 => ?_) (fun c15 => ?_)
      · have n_18 : ¬ ordN T F k = 18 := of_decide_eq_false ((spv_iff (l := nmL F k) (g := nmW T F k) (k := 18) (by decide)).symm.trans (bi0.mp c15))
        refine v_aload_n (am_Dk d_MM_done (k := 43) rfl) rfl ?_
        refine v_get (am_Dk d_MM_done (k := 44) rfl) f_MM_27 h0 rfl ?_
        refine v_iload_n (am_Dk d_MM_done (k := 45) rfl) rfl ?_
        refine v_ldcS (i := 131) (tx := "min") (am_Dk d_MM_done (k := 46) rfl) (by decide +kernel) ?_
        refine v_callV (rest := []) (As := [.int (nI k), .ref 131]) (mc' := 0) (ms' := 0) (am_Dk d_MM_done (k := 47) rfl) c_MM_103 (Or.inl ⟨_, _, _, _, _, hN, cq_ok11⟩) (t_MN_spells G (d := 4) (by omega) hN hT hO hF hA hk hns htx mmS_131) (by omega) (by omega) (by omega) (by simp [Value.category]) rfl (fun v16 M17 n18 h19 => ?_) (fun _ _ _ h19 => ?_)
        rotate_left
        · exact absurd h19.1 (by simp)
        obtain ⟨h19, e20, e21⟩ := h19
        replace e20 := e20.symm
        replace e21 := e21.symm
        subst e20
        subst e21
        cases h19
        show am_V G _ _ _ _ _ 97 [(0, .ref 1211), (1, .int (nI k)), (2, .int (bi two)), (3, .long a), (5, .long b)] [.int (bi (spv (kn_w 24) (nmL F k) (nmW T F k)))] M nx 0 0
        refine v_if_eq (tgt := 118) (am_Dk d_MM_done (k := 48) rfl) (by decide) (fun c22 => ?_) (fun c22 => ?_)
        · have n_24 : ¬ ordN T F k = 24 := of_decide_eq_false ((spv_iff (l := nmL F k) (g := nmW T F k) (k := 24) (by decide)).symm.trans (bi0.mp c22))
          refine v_aload_n (am_Dk d_MM_done (k := 58) rfl) rfl ?_
          refine v_get (am_Dk d_MM_done (k := 59) rfl) f_MM_27 h0 rfl ?_
          refine v_iload_n (am_Dk d_MM_done (k := 60) rfl) rfl ?_
          refine v_ldcS (i := 132) (tx := "max") (am_Dk d_MM_done (k := 61) rfl) (by decide +kernel) ?_
          refine v_callV (rest := []) (As := [.int (nI k), .ref 132]) (mc' := 0) (ms' := 0) (am_Dk d_MM_done (k := 62) rfl) c_MM_103 (Or.inl ⟨_, _, _, _, _, hN, cq_ok11⟩) (t_MN_spells G (d := 4) (by omega) hN hT hO hF hA hk hns htx mmS_132) (by omega) (by omega) (by omega) (by simp [Value.category]) rfl (fun v23 M24 n25 h26 => ?_) (fun _ _ _ h26 => ?_)
          rotate_left
          · exact absurd h26.1 (by simp)
          obtain ⟨h26, e27, e28⟩ := h26
          replace e27 := e27.symm
          replace e28 := e28.symm
          subst e27
          subst e28
          cases h26
          show am_V G _ _ _ _ _ 128 [(0, .ref 1211), (1, .int (nI k)), (2, .int (bi two)), (3, .long a), (5, .long b)] [.int (bi (spv (kn_w 25) (nmL F k) (nmW T F k)))] M nx 0 0
          refine v_if_eq (tgt := 149) (am_Dk d_MM_done (k := 63) rfl) (by decide) (fun c29 => ?_) (fun c29 => ?_)
          · have n_25 : ¬ ordN T F k = 25 := of_decide_eq_false ((spv_iff (l := nmL F k) (g := nmW T F k) (k := 25) (by decide)).symm.trans (bi0.mp c29))
            refine v_aload_n (am_Dk d_MM_done (k := 73) rfl) rfl ?_
            refine v_get (am_Dk d_MM_done (k := 74) rfl) f_MM_27 h0 rfl ?_
            refine v_iload_n (am_Dk d_MM_done (k := 75) rfl) rfl ?_
            refine v_ldcS (i := 127) (tx := "*") (am_Dk d_MM_done (k := 76) rfl) (by decide +kernel) ?_
            refine v_callV (rest := []) (As := [.int (nI k), .ref 127]) (mc' := 0) (ms' := 0) (am_Dk d_MM_done (k := 77) rfl) c_MM_103 (Or.inl ⟨_, _, _, _, _, hN, cq_ok11⟩) (t_MN_spells G (d := 4) (by omega) hN hT hO hF hA hk hns htx mmS_127) (by omega) (by omega) (by omega) (by simp [Value.category]) rfl (fun v30 M31 n32 h33 => ?_) (fun _ _ _ h33 => ?_)
            rotate_left
            · exact absurd h33.1 (by simp)
            obtain ⟨h33, e34, e35⟩ := h33
            replace e34 := e34.symm
            replace e35 := e35.symm
            subst e34
            subst e35
            cases h33
            show am_V G _ _ _ _ _ 159 [(0, .ref 1211), (1, .int (nI k)), (2, .int (bi two)), (3, .long a), (5, .long b)] [.int (bi (spv (kn_w 19) (nmL F k) (nmW T F k)))] M nx 0 0
            refine v_if_eq (tgt := 199) (am_Dk d_MM_done (k := 78) rfl) (by decide) (fun c36 => ?_) (fun c36 => ?_)
            · have n_19 : ¬ ordN T F k = 19 := of_decide_eq_false ((spv_iff (l := nmL F k) (g := nmW T F k) (k := 19) (by decide)).symm.trans (bi0.mp c36))
              refine v_lload (am_Dk d_MM_done (k := 99) rfl) rfl ?_
              refine v_lconst (v := 0) (am_Dk d_MM_done (k := 100) rfl) (by decide) ?_
              refine v_lcmp (am_Dk d_MM_done (k := 101) rfl) ?_
              refine v_if_ne (tgt := 217) (am_Dk d_MM_done (k := 102) rfl) (by decide) (fun c37 => ?_) (fun c37 => ?_)
              · have hb0 : ¬ b = 0 := fun z => c37 ((lg_cmp_eq _ _).mpr z)
                refine v_aload_n (am_Dk d_MM_done (k := 109) rfl) rfl ?_
                refine v_get (am_Dk d_MM_done (k := 110) rfl) f_MM_27 h0 rfl ?_
                refine v_iload_n (am_Dk d_MM_done (k := 111) rfl) rfl ?_
                refine v_ldcS (i := 128) (tx := "//") (am_Dk d_MM_done (k := 112) rfl) (by decide +kernel) ?_
                refine v_callV (rest := []) (As := [.int (nI k), .ref 128]) (mc' := 0) (ms' := 0) (am_Dk d_MM_done (k := 113) rfl) c_MM_103 (Or.inl ⟨_, _, _, _, _, hN, cq_ok11⟩) (t_MN_spells G (d := 4) (by omega) hN hT hO hF hA hk hns htx mmS_128) (by omega) (by omega) (by omega) (by simp [Value.category]) rfl (fun v38 M39 n40 h41 => ?_) (fun _ _ _ h41 => ?_)
                rotate_left
                · exact absurd h41.1 (by simp)
                obtain ⟨h41, e42, e43⟩ := h41
                replace e42 := e42.symm
                replace e43 := e43.symm
                subst e42
                subst e43
                cases h41
                show am_V G _ _ _ _ _ 227 [(0, .ref 1211), (1, .int (nI k)), (2, .int (bi two)), (3, .long a), (5, .long b)] [.int (bi (spv (kn_w 20) (nmL F k) (nmW T F k)))] M nx 0 0
                refine v_if_eq (tgt := 239) (am_Dk d_MM_done (k := 114) rfl) (by decide) (fun c44 => ?_) (fun c44 => ?_)
                · have n_20 : ¬ ordN T F k = 20 := of_decide_eq_false ((spv_iff (l := nmL F k) (g := nmW T F k) (k := 20) (by decide)).symm.trans (bi0.mp c44))
                  refine v_aload_n (am_Dk d_MM_done (k := 120) rfl) rfl ?_
                  refine v_get (am_Dk d_MM_done (k := 121) rfl) f_MM_27 h0 rfl ?_
                  refine v_iload_n (am_Dk d_MM_done (k := 122) rfl) rfl ?_
                  refine v_ldcS (i := 130) (tx := "rem") (am_Dk d_MM_done (k := 123) rfl) (by decide +kernel) ?_
                  refine v_callV (rest := []) (As := [.int (nI k), .ref 130]) (mc' := 0) (ms' := 0) (am_Dk d_MM_done (k := 124) rfl) c_MM_103 (Or.inl ⟨_, _, _, _, _, hN, cq_ok11⟩) (t_MN_spells G (d := 4) (by omega) hN hT hO hF hA hk hns htx mmS_130) (by omega) (by omega) (by omega) (by simp [Value.category]) rfl (fun v45 M46 n47 h48 => ?_) (fun _ _ _ h48 => ?_)
                  rotate_left
                  · exact absurd h48.1 (by simp)
                  obtain ⟨h48, e49, e50⟩ := h48
                  replace e49 := e49.symm
                  replace e50 := e50.symm
                  subst e49
                  subst e50
                  cases h48
                  show am_V G _ _ _ _ _ 249 [(0, .ref 1211), (1, .int (nI k)), (2, .int (bi two)), (3, .long a), (5, .long b)] [.int (bi (spv (kn_w 22) (nmL F k) (nmW T F k)))] M nx 0 0
                  refine v_if_eq (tgt := 261) (am_Dk d_MM_done (k := 125) rfl) (by decide) (fun c51 => ?_) (fun c51 => ?_)
                  · have n_22 : ¬ ordN T F k = 22 := of_decide_eq_false ((spv_iff (l := nmL F k) (g := nmW T F k) (k := 22) (by decide)).symm.trans (bi0.mp c51))
                    refine v_lload_n (am_Dk d_MM_done (k := 131) rfl) rfl ?_
                    refine v_lload (am_Dk d_MM_done (k := 132) rfl) rfl ?_
                    refine v_lrem (am_Dk d_MM_done (k := 133) rfl) hb0 ?_
                    refine v_lload (am_Dk d_MM_done (k := 134) rfl) rfl ?_
                    refine v_ladd (am_Dk d_MM_done (k := 135) rfl) ?_
                    refine v_lload (am_Dk d_MM_done (k := 136) rfl) rfl ?_
                    refine v_lrem (am_Dk d_MM_done (k := 137) rfl) hb0 ?_
                    refine v_lstore (L1 := [(7, .long ((((((a) - (a) / (b) * (b))) + (b))) - (((((a) - (a) / (b) * (b))) + (b))) / (b) * (b))), (0, .ref 1211), (1, .int (nI k)), (2, .int (bi two)), (3, .long a), (5, .long b)]) (am_Dk d_MM_done (k := 138) rfl) (by decide) rfl ?_
                    have s_21 : ordN T F k = 21 := by have := of_decide_eq_true htw; omega
                    refine v_drop (am_V_eq (am_up_id h0) (h273 ((((((a) - (a) / (b) * (b))) + (b))) - (((((a) - (a) / (b) * (b))) + (b))) / (b) * (b)) 0 (fun _ => ?_) (fun z => absurd rfl z))) (by simp)
                    exact by rw [dn1, if_pos h2t, s_21, rk2, if_pos (by decide), if_pos rfl, if_pos rfl, if_neg (fun z => hb0 z.2), if_neg (fun z => absurd z.1 (by decide)), show resK 21 a b = (if b = 0 then 0 else jfm a b) from rfl, if_neg hb0, ← jmod_eq (ha h2t) hb hb0]
                  · have s_22 : ordN T F k = 22 := of_decide_eq_true ((spv_iff (l := nmL F k) (g := nmW T F k) (k := 22) (by decide)).symm.trans (bi1 c51))
                    refine v_lload_n (am_Dk d_MM_done (k := 126) rfl) rfl ?_
                    refine v_lload (am_Dk d_MM_done (k := 127) rfl) rfl ?_
                    refine v_lrem (am_Dk d_MM_done (k := 128) rfl) hb0 ?_
                    refine v_lstore (L1 := [(7, .long ((a) - (a) / (b) * (b))), (0, .ref 1211), (1, .int (nI k)), (2, .int (bi two)), (3, .long a), (5, .long b)]) (am_Dk d_MM_done (k := 129) rfl) (by decide) rfl ?_
                    refine v_goto (tgt := 273) (am_Dk d_MM_done (k := 130) rfl) (by decide) ?_
                    refine v_drop (am_V_eq (am_up_id h0) (h273 ((a) - (a) / (b) * (b)) 0 (fun _ => ?_) (fun z => absurd rfl z))) (by simp)
                    exact by rw [dn1, if_pos h2t, s_22, rk2, if_pos (by decide), if_pos rfl, if_pos rfl, if_neg (fun z => hb0 z.2), if_neg (fun z => absurd z.1 (by decide)), show resK 22 a b = (if b = 0 then 0 else a - a / b * b) from rfl, if_neg hb0]
                · have s_20 : ordN T F k = 20 := of_decide_eq_true ((spv_iff (l := nmL F k) (g := nmW T F k) (k := 20) (by decide)).symm.trans (bi1 c44))
                  refine v_lload_n (am_Dk d_MM_done (k := 115) rfl) rfl ?_
                  refine v_lload (am_Dk d_MM_done (k := 116) rfl) rfl ?_
                  refine v_ldiv (am_Dk d_MM_done (k := 117) rfl) hb0 ?_
                  refine v_lstore (L1 := [(7, .long ((a) / (b))), (0, .ref 1211), (1, .int (nI k)), (2, .int (bi two)), (3, .long a), (5, .long b)]) (am_Dk d_MM_done (k := 118) rfl) (by decide) rfl ?_
                  refine v_goto (tgt := 273) (am_Dk d_MM_done (k := 119) rfl) (by decide) ?_
                  refine v_drop (am_V_eq (am_up_id h0) (h273 ((a) / (b)) 0 (fun _ => ?_) (fun z => absurd rfl z))) (by simp)
                  exact by rw [dn1, if_pos h2t, s_20, rk2, if_pos (by decide), if_pos rfl, if_pos rfl, if_neg (fun z => hb0 z.2), if_neg (fun z => absurd z.1 (by decide)), show resK 20 a b = (if b = 0 then 0 else a / b) from rfl, if_neg hb0]
              · have hb0 : b = 0 := (lg_cmp_eq _ _).mp c37
                refine v_aload_n (am_Dk d_MM_done (k := 103) rfl) rfl ?_
                refine v_iconst (v := 3) (am_Dk d_MM_done (k := 104) rfl) (by decide) ?_
                refine v_put (am_Dk d_MM_done (k := 105) rfl) f_MM_123 h0 (Nat.le_of_ble_eq_true rfl) rfl rfl ?_
                refine v_lconst (v := 0) (am_Dk d_MM_done (k := 106) rfl) (by decide) ?_
                refine v_lstore (L1 := [(7, .long 0), (0, .ref 1211), (1, .int (nI k)), (2, .int (bi two)), (3, .long a), (5, .long b)]) (am_Dk d_MM_done (k := 107) rfl) (by decide) rfl ?_
                refine v_goto (tgt := 273) (am_Dk d_MM_done (k := 108) rfl) (by decide) ?_
                have hdv : dvsK (ordN T F k) = true := decide_eq_true (by have := of_decide_eq_true htw; omega)
                exact v_drop (h273 0 3 (fun z => absurd z (by decide)) (fun _ => by rw [dn1, if_pos h2t, rk2, if_pos htw, if_pos rfl, if_pos rfl, if_pos ⟨hdv, hb0⟩])) (by simp)
            · have s_19 : ordN T F k = 19 := of_decide_eq_true ((spv_iff (l := nmL F k) (g := nmW T F k) (k := 19) (by decide)).symm.trans (bi1 c36))
              refine v_lload_n (am_Dk d_MM_done (k := 79) rfl) rfl ?_
              refine v_lconst (v := 0) (am_Dk d_MM_done (k := 80) rfl) (by decide) ?_
              refine v_lcmp (am_Dk d_MM_done (k := 81) rfl) ?_
              refine v_if_eq (tgt := 190) (am_Dk d_MM_done (k := 82) rfl) (by decide) (fun c52 => ?_) (fun c52 => ?_)
              · have ha0 : a = 0 := (lg_cmp_eq _ _).mp c52
                refine v_lload_n (am_Dk d_MM_done (k := 94) rfl) rfl ?_
                refine v_lload (am_Dk d_MM_done (k := 95) rfl) rfl ?_
                refine v_lmul (am_Dk d_MM_done (k := 96) rfl) ?_
                refine v_lstore (L1 := [(7, .long ((a) * (b))), (0, .ref 1211), (1, .int (nI k)), (2, .int (bi two)), (3, .long a), (5, .long b)]) (am_Dk d_MM_done (k := 97) rfl) (by decide) rfl ?_
                refine v_goto (tgt := 273) (am_Dk d_MM_done (k := 98) rfl) (by decide) ?_
                have hpt9 : ¬ (19 = 19 ∧ ptg a b = true) := fun z => by first | exact absurd (hpt.symm.trans z.2) (by decide) | exact (of_decide_eq_true z.2).1 ha0
                refine v_drop (am_V_eq (am_up_id h0) (h273 ((a) * (b)) 0 (fun _ => ?_) (fun z => absurd rfl z))) (by simp)
                exact by rw [dn1, if_pos h2t, s_19, rk2, if_pos (by decide), if_pos rfl, if_pos rfl, if_neg (fun z => absurd z.1 (by decide)), if_neg hpt9, show resK 19 a b = a * b from rfl]
              · have ha0 : ¬ a = 0 := fun z => c52 ((lg_cmp_eq _ _).mpr z)
                refine v_lload (am_Dk d_MM_done (k := 83) rfl) rfl ?_
                refine v_callS (rest := []) (As := [.long b]) (mc' := 0) (ms' := 0) (am_Dk d_MM_done (k := 84) rfl) c_MM_146 (t_jM_abs G (d := 0) (by omega)) (by omega) (by omega) (by omega) (by simp [Value.category]) rfl (fun v53 M54 n55 h56 => ?_) (fun _ _ _ h56 => ?_)
                rotate_left
                · exact absurd h56.1 (by simp)
                obtain ⟨h56, e57, e58⟩ := h56
                replace e57 := e57.symm
                replace e58 := e58.symm
                subst e57
                subst e58
                cases h56
                show am_V G _ _ _ _ _ 173 [(0, .ref 1211), (1, .int (nI k)), (2, .int (bi two)), (3, .long a), (5, .long b)] [.long (jabs b)] M nx 0 0
                refine v_ldc2 (am_Dk d_MM_done (k := 85) rfl) k_MM_151 ?_
                refine v_lload_n (am_Dk d_MM_done (k := 86) rfl) rfl ?_
                refine v_callS (rest := [.long 9007199254740991, .long (jabs b)]) (As := [.long a]) (mc' := 0) (ms' := 0) (am_Dk d_MM_done (k := 87) rfl) c_MM_146 (t_jM_abs G (d := 0) (by omega)) (by omega) (by omega) (by omega) (by simp [Value.category]) rfl (fun v59 M60 n61 h62 => ?_) (fun _ _ _ h62 => ?_)
                rotate_left
                · exact absurd h62.1 (by simp)
                obtain ⟨h62, e63, e64⟩ := h62
                replace e63 := e63.symm
                replace e64 := e64.symm
                subst e63
                subst e64
                cases h62
                show am_V G _ _ _ _ _ 180 [(0, .ref 1211), (1, .int (nI k)), (2, .int (bi two)), (3, .long a), (5, .long b)] [.long (jabs a), .long 9007199254740991, .long (jabs b)] M nx 0 0
                refine v_ldiv (am_Dk d_MM_done (k := 88) rfl) (jabs_ne ha0) ?_
                refine v_lcmp (am_Dk d_MM_done (k := 89) rfl) ?_
                refine v_if_le (tgt := 190) (am_Dk d_MM_done (k := 90) rfl) (by decide) (fun c65 => ?_) (fun c65 => ?_)
                · have hpt : ptg a b = false := decide_eq_false (fun z => absurd z.2 (Int64.not_lt.mpr ((lg_cmp_le _ _).mp c65)))
                  refine v_lload_n (am_Dk d_MM_done (k := 94) rfl) rfl ?_
                  refine v_lload (am_Dk d_MM_done (k := 95) rfl) rfl ?_
                  refine v_lmul (am_Dk d_MM_done (k := 96) rfl) ?_
                  refine v_lstore (L1 := [(7, .long ((a) * (b))), (0, .ref 1211), (1, .int (nI k)), (2, .int (bi two)), (3, .long a), (5, .long b)]) (am_Dk d_MM_done (k := 97) rfl) (by decide) rfl ?_
                  refine v_goto (tgt := 273) (am_Dk d_MM_done (k := 98) rfl) (by decide) ?_
                  have hpt9 : ¬ (19 = 19 ∧ ptg a b = true) := fun z => by first | exact absurd (hpt.symm.trans z.2) (by decide) | exact (of_decide_eq_true z.2).1 ha0
                  refine v_drop (am_V_eq (am_up_id h0) (h273 ((a) * (b)) 0 (fun _ => ?_) (fun z => absurd rfl z))) (by simp)
                  exact by rw [dn1, if_pos h2t, s_19, rk2, if_pos (by decide), if_pos rfl, if_pos rfl, if_neg (fun z => absurd z.1 (by decide)), if_neg hpt9, show resK 19 a b = a * b from rfl]
                · have hpt : ptg a b = true := decide_eq_true ⟨ha0, Int64.not_le.mp (fun z => c65 ((lg_cmp_le _ _).mpr z))⟩
                  refine v_aload_n (am_Dk d_MM_done (k := 91) rfl) rfl ?_
                  refine v_iconst (v := 4) (am_Dk d_MM_done (k := 92) rfl) (by decide) ?_
                  refine v_put (am_Dk d_MM_done (k := 93) rfl) f_MM_123 h0 (Nat.le_of_ble_eq_true rfl) rfl rfl ?_
                  refine v_lload_n (am_Dk d_MM_done (k := 94) rfl) rfl ?_
                  refine v_lload (am_Dk d_MM_done (k := 95) rfl) rfl ?_
                  refine v_lmul (am_Dk d_MM_done (k := 96) rfl) ?_
                  refine v_lstore (L1 := [(7, .long ((a) * (b))), (0, .ref 1211), (1, .int (nI k)), (2, .int (bi two)), (3, .long a), (5, .long b)]) (am_Dk d_MM_done (k := 97) rfl) (by decide) rfl ?_
                  refine v_goto (tgt := 273) (am_Dk d_MM_done (k := 98) rfl) (by decide) ?_
                  exact v_drop (h273 ((a) * (b)) 4 (fun z => absurd z (by decide)) (fun _ => by rw [dn1, if_pos h2t, s_19, rk2, if_pos (by decide), if_pos rfl, if_pos rfl, if_neg (fun z => absurd z.1 (by decide)), if_pos ⟨rfl, hpt⟩])) (by simp)
          · have s_25 : ordN T F k = 25 := of_decide_eq_true ((spv_iff (l := nmL F k) (g := nmW T F k) (k := 25) (by decide)).symm.trans (bi1 c29))
            refine v_lload_n (am_Dk d_MM_done (k := 64) rfl) rfl ?_
            refine v_lload (am_Dk d_MM_done (k := 65) rfl) rfl ?_
            refine v_lcmp (am_Dk d_MM_done (k := 66) rfl) ?_
            refine v_if_le (tgt := 142) (am_Dk d_MM_done (k := 67) rfl) (by decide) (fun c66 => ?_) (fun c66 => ?_)
            · have hab : ¬ b < a := Int64.not_lt.mpr ((lg_cmp_le _ _).mp c66)
              refine v_lload (am_Dk d_MM_done (k := 70) rfl) rfl ?_
              refine v_lstore (L1 := [(7, .long b), (0, .ref 1211), (1, .int (nI k)), (2, .int (bi two)), (3, .long a), (5, .long b)]) (am_Dk d_MM_done (k := 71) rfl) (by decide) rfl ?_
              refine v_goto (tgt := 273) (am_Dk d_MM_done (k := 72) rfl) (by decide) ?_
              refine v_drop (am_V_eq (am_up_id h0) (h273 (b) 0 (fun _ => ?_) (fun z => absurd rfl z))) (by simp)
              exact by rw [dn1, if_pos h2t, s_25, rk2, if_pos (by decide), if_pos rfl, if_pos rfl, if_neg (fun z => absurd z.1 (by decide)), if_neg (fun z => absurd z.1 (by decide)), show resK 25 a b = jmax a b from rfl, ← jmax_lt, if_neg hab]
            · have hab : b < a := Int64.not_le.mp (fun z => c66 ((lg_cmp_le _ _).mpr z))
              refine v_lload_n (am_Dk d_MM_done (k := 68) rfl) rfl ?_
              refine v_goto (tgt := 144) (am_Dk d_MM_done (k := 69) rfl) (by decide) ?_
              refine v_lstore (L1 := [(7, .long a), (0, .ref 1211), (1, .int (nI k)), (2, .int (bi two)), (3, .long a), (5, .long b)]) (am_Dk d_MM_done (k := 71) rfl) (by decide) rfl ?_
              refine v_goto (tgt := 273) (am_Dk d_MM_done (k := 72) rfl) (by decide) ?_
              refine v_drop (am_V_eq (am_up_id h0) (h273 (a) 0 (fun _ => ?_) (fun z => absurd rfl z))) (by simp)
              exact by rw [dn1, if_pos h2t, s_25, rk2, if_pos (by decide), if_pos rfl, if_pos rfl, if_neg (fun z => absurd z.1 (by decide)), if_neg (fun z => absurd z.1 (by decide)), show resK 25 a b = jmax a b from rfl, ← jmax_lt, if_pos hab]
        · have s_24 : ordN T F k = 24 := of_decide_eq_true ((spv_iff (l := nmL F k) (g := nmW T F k) (k := 24) (by decide)).symm.trans (bi1 c22))
          refine v_lload_n (am_Dk d_MM_done (k := 49) rfl) rfl ?_
          refine v_lload (am_Dk d_MM_done (k := 50) rfl) rfl ?_
          refine v_lcmp (am_Dk d_MM_done (k := 51) rfl) ?_
          refine v_if_ge (tgt := 111) (am_Dk d_MM_done (k := 52) rfl) (by decide) (fun c67 => ?_) (fun c67 => ?_)
          · have hab : ¬ a < b := Int64.not_lt.mpr ((lg_cmp_ge _ _).mp c67)
            refine v_lload (am_Dk d_MM_done (k := 55) rfl) rfl ?_
            refine v_lstore (L1 := [(7, .long b), (0, .ref 1211), (1, .int (nI k)), (2, .int (bi two)), (3, .long a), (5, .long b)]) (am_Dk d_MM_done (k := 56) rfl) (by decide) rfl ?_
            refine v_goto (tgt := 273) (am_Dk d_MM_done (k := 57) rfl) (by decide) ?_
            refine v_drop (am_V_eq (am_up_id h0) (h273 (b) 0 (fun _ => ?_) (fun z => absurd rfl z))) (by simp)
            exact by rw [dn1, if_pos h2t, s_24, rk2, if_pos (by decide), if_pos rfl, if_pos rfl, if_neg (fun z => absurd z.1 (by decide)), if_neg (fun z => absurd z.1 (by decide)), show resK 24 a b = jmin a b from rfl, ← jmin_lt, if_neg hab]
          · have hab : a < b := Int64.not_le.mp (fun z => c67 ((lg_cmp_ge _ _).mpr z))
            refine v_lload_n (am_Dk d_MM_done (k := 53) rfl) rfl ?_
            refine v_goto (tgt := 113) (am_Dk d_MM_done (k := 54) rfl) (by decide) ?_
            refine v_lstore (L1 := [(7, .long a), (0, .ref 1211), (1, .int (nI k)), (2, .int (bi two)), (3, .long a), (5, .long b)]) (am_Dk d_MM_done (k := 56) rfl) (by decide) rfl ?_
            refine v_goto (tgt := 273) (am_Dk d_MM_done (k := 57) rfl) (by decide) ?_
            refine v_drop (am_V_eq (am_up_id h0) (h273 (a) 0 (fun _ => ?_) (fun z => absurd rfl z))) (by simp)
            exact by rw [dn1, if_pos h2t, s_24, rk2, if_pos (by decide), if_pos rfl, if_pos rfl, if_neg (fun z => absurd z.1 (by decide)), if_neg (fun z => absurd z.1 (by decide)), show resK 24 a b = jmin a b from rfl, ← jmin_lt, if_pos hab]
      · have s_18 : ordN T F k = 18 := of_decide_eq_true ((spv_iff (l := nmL F k) (g := nmW T F k) (k := 18) (by decide)).symm.trans (bi1 c15))
        refine v_lload_n (am_Dk d_MM_done (k := 38) rfl) rfl ?_
        refine v_lload (am_Dk d_MM_done (k := 39) rfl) rfl ?_
        refine v_lsub (am_Dk d_MM_done (k := 40) rfl) ?_
        refine v_lstore (L1 := [(7, .long ((a) - (b))), (0, .ref 1211), (1, .int (nI k)), (2, .int (bi two)), (3, .long a), (5, .long b)]) (am_Dk d_MM_done (k := 41) rfl) (by decide) rfl ?_
        refine v_goto (tgt := 273) (am_Dk d_MM_done (k := 42) rfl) (by decide) ?_
        refine v_drop (am_V_eq (am_up_id h0) (h273 ((a) - (b)) 0 (fun _ => ?_) (fun z => absurd rfl z))) (by simp)
        exact by rw [dn1, if_pos h2t, s_18, rk2, if_pos (by decide), if_pos rfl, if_pos rfl, if_neg (fun z => absurd z.1 (by decide)), if_neg (fun z => absurd z.1 (by decide)), show resK 18 a b = a - b from rfl]
    · have s_17 : ordN T F k = 17 := of_decide_eq_true ((spv_iff (l := nmL F k) (g := nmW T F k) (k := 17) (by decide)).symm.trans (bi1 c8))
      refine v_lload_n (am_Dk d_MM_done (k := 27) rfl) rfl ?_
      refine v_lload (am_Dk d_MM_done (k := 28) rfl) rfl ?_
      refine v_ladd (am_Dk d_MM_done (k := 29) rfl) ?_
      refine v_lstore (L1 := [(7, .long ((a) + (b))), (0, .ref 1211), (1, .int (nI k)), (2, .int (bi two)), (3, .long a), (5, .long b)]) (am_Dk d_MM_done (k := 30) rfl) (by decide) rfl ?_
      refine v_goto (tgt := 273) (am_Dk d_MM_done (k := 31) rfl) (by decide) ?_
      refine v_drop (am_V_eq (am_up_id h0) (h273 ((a) + (b)) 0 (fun _ => ?_) (fun z => absurd rfl z))) (by simp)
      exact by rw [dn1, if_pos h2t, s_17, rk2, if_pos (by decide), if_pos rfl, if_pos rfl, if_neg (fun z => absurd z.1 (by decide)), if_neg (fun z => absurd z.1 (by decide)), show resK 17 a b = a + b from rfl]
  · have h2t : two = false := bi0.mp c1
    rw [if_neg (ne_true_of_eq_false h2t)] at htw
    refine v_aload_n (am_Dk d_MM_done (k := 2) rfl) rfl ?_
    refine v_get (am_Dk d_MM_done (k := 3) rfl) f_MM_27 h0 rfl ?_
    refine v_iload_n (am_Dk d_MM_done (k := 4) rfl) rfl ?_
    refine v_ldcS (i := 126) (tx := "-") (am_Dk d_MM_done (k := 5) rfl) (by decide +kernel) ?_
    refine v_callV (rest := []) (As := [.int (nI k), .ref 126]) (mc' := 0) (ms' := 0) (am_Dk d_MM_done (k := 6) rfl) c_MM_103 (Or.inl ⟨_, _, _, _, _, hN, cq_ok11⟩) (t_MN_spells G (d := 4) (by omega) hN hT hO hF hA hk hns htx mmS_126) (by omega) (by omega) (by omega) (by simp [Value.category]) rfl (fun v68 M69 n70 h71 => ?_) (fun _ _ _ h71 => ?_)
    rotate_left
    · exact absurd h71.1 (by simp)
    obtain ⟨h71, e72, e73⟩ := h71
    replace e72 := e72.symm
    replace e73 := e73.symm
    subst e72
    subst e73
    cases h71
    show am_V G _ _ _ _ _ 14 [(0, .ref 1211), (1, .int (nI k)), (2, .int (bi two)), (3, .long a), (5, .long b)] [.int (bi (spv (kn_w 18) (nmL F k) (nmW T F k)))] M nx 0 0
    refine v_if_eq (tgt := 23) (am_Dk d_MM_done (k := 7) rfl) (by decide) (fun c74 => ?_) (fun c74 => ?_)
    · have n_18 : ¬ ordN T F k = 18 := of_decide_eq_false ((spv_iff (l := nmL F k) (g := nmW T F k) (k := 18) (by decide)).symm.trans (bi0.mp c74))
      refine v_lload (am_Dk d_MM_done (k := 11) rfl) rfl ?_
      refine v_lconst (v := 0) (am_Dk d_MM_done (k := 12) rfl) (by decide) ?_
      refine v_lcmp (am_Dk d_MM_done (k := 13) rfl) ?_
      refine v_if_ge (tgt := 36) (am_Dk d_MM_done (k := 14) rfl) (by decide) (fun c75 => ?_) (fun c75 => ?_)
      · have hb0 : 0 ≤ b := (lg_cmp_ge _ _).mp c75
        refine v_lload (am_Dk d_MM_done (k := 18) rfl) rfl ?_
        refine v_lstore (L1 := [(7, .long b), (0, .ref 1211), (1, .int (nI k)), (2, .int (bi two)), (3, .long a), (5, .long b)]) (am_Dk d_MM_done (k := 19) rfl) (by decide) rfl ?_
        refine v_goto (tgt := 273) (am_Dk d_MM_done (k := 20) rfl) (by decide) ?_
        refine v_drop (am_V_eq (am_up_id h0) (h273 (b) 0 (fun _ => ?_) (fun z => absurd rfl z))) (by simp)
        exact by rw [dn1, if_neg (ne_true_of_eq_false h2t), rk1, if_pos htw, if_pos rfl, if_neg n_18, jabs, if_pos hb0]
      · have hb0 : ¬ 0 ≤ b := fun z => c75 ((lg_cmp_ge _ _).mpr z)
        refine v_lload (am_Dk d_MM_done (k := 15) rfl) rfl ?_
        refine v_lneg (am_Dk d_MM_done (k := 16) rfl) ?_
        refine v_goto (tgt := 38) (am_Dk d_MM_done (k := 17) rfl) (by decide) ?_
        refine v_lstore (L1 := [(7, .long (-b)), (0, .ref 1211), (1, .int (nI k)), (2, .int (bi two)), (3, .long a), (5, .long b)]) (am_Dk d_MM_done (k := 19) rfl) (by decide) rfl ?_
        refine v_goto (tgt := 273) (am_Dk d_MM_done (k := 20) rfl) (by decide) ?_
        refine v_drop (am_V_eq (am_up_id h0) (h273 (-b) 0 (fun _ => ?_) (fun z => absurd rfl z))) (by simp)
        exact by rw [dn1, if_neg (ne_true_of_eq_false h2t), rk1, if_pos htw, if_pos rfl, if_neg n_18, jabs, if_neg hb0]
    · have s_18 : ordN T F k = 18 := of_decide_eq_true ((spv_iff (l := nmL F k) (g := nmW T F k) (k := 18) (by decide)).symm.trans (bi1 c74))
      refine v_lload (am_Dk d_MM_done (k := 8) rfl) rfl ?_
      refine v_lneg (am_Dk d_MM_done (k := 9) rfl) ?_
      refine v_goto (tgt := 38) (am_Dk d_MM_done (k := 10) rfl) (by decide) ?_
      refine v_lstore (L1 := [(7, .long (-b)), (0, .ref 1211), (1, .int (nI k)), (2, .int (bi two)), (3, .long a), (5, .long b)]) (am_Dk d_MM_done (k := 19) rfl) (by decide) rfl ?_
      refine v_goto (tgt := 273) (am_Dk d_MM_done (k := 20) rfl) (by decide) ?_
      refine v_drop (am_V_eq (am_up_id h0) (h273 (-b) 0 (fun _ => ?_) (fun z => absurd rfl z))) (by simp)
      exact by rw [dn1, if_neg (ne_true_of_eq_false h2t), s_18, rk1, if_pos (by decide), if_pos rfl, if_pos rfl]
def srtV (kd ma : Int32) (o : Nat) : Int32 := if kd = 2 then (if ma = 2 then (if twoK o = true then 1 else 0) else if ma = 1 then (if oneK o = true then 2 else 0) else 0) else 0
set_option maxRecDepth 20000 in
theorem t_MM_sort (G : am_G) {d nx : Nat} (hd : 5 ≤ d) {M : am_M} {th ta pl er va : Int32} {re : Int64} (h0 : M 1211 = some (.inr (9, [.int th, .int ta, .int pl, .int er, .int va, .ref 1212, .ref 1213, .ref 1220, .ref 1225, .ref 1233, .ref 1234, .ref 1235, .ref 1236, .ref 1237, .ref 1238, .long re]))) {sz pt : Nat} {Kd Nm Fi Ma Pa : Nat → Int32} {Nu : Nat → Int64} (hAr : ARs M (Kd, Nm, Fi, Ma, Pa, Nu) sz pt) {t : Nat} (ht : t < 9000) {ns tx k : Nat} {T : Nat → Int32} {F : Nat → Nat} (hNM : NMs M ns tx T F) (hns : ns ≤ 9000) (htx : tx ≤ 5000) (hkn : Kd t = 2 → k < ns ∧ Nm t = nI k) : am_Tr G m_MM_sort d 0 0 [.ref 1211, .int (nI t)] M nx (fun r M1 nx1 => r = .inl (some (.int (srtV (Kd t) (Ma t) (ordN T F k)))) ∧ M1 = M ∧ nx1 = nx) := by
  refine am_TrOf (by decide) (Nat.le_of_ble_eq_true rfl) ?_
  show am_V G _ _ _ _ _ 0 [(0, .ref 1211), (1, .int (nI t))] [] M nx 0 0
  obtain ⟨hN, hT, _, hO, ⟨A9, hF, hA⟩, _, _⟩ := hNM
  have hKd : M 1214 = some (.inl (1, 9000, .inl Kd)) := hAr.2.1
  have hNm9 : M 1215 = some (.inl (1, 9000, .inl Nm)) := hAr.2.2.1
  have hMa : M 1217 = some (.inl (1, 9000, .inl Ma)) := hAr.2.2.2.2.1
  refine v_aload_n (am_Dk d_MM_sort (k := 0) rfl) rfl ?_
  refine v_get (am_Dk d_MM_sort (k := 1) rfl) f_MM_20 h0 rfl ?_
  refine v_get9 (am_Dk d_MM_sort (k := 2) rfl) r_MM_92 hAr.1 rfl ?_
  refine v_iload_n (am_Dk d_MM_sort (k := 3) rfl) rfl ?_
  refine v_iald (am_Dk d_MM_sort (k := 4) rfl) hKd rfl (vp_in_nI (by omega) (by omega)) ?_
  rw [nI_clamp (n := t) (by omega)]
  refine v_iconst (v := 2) (am_Dk d_MM_sort (k := 5) rfl) (by decide) ?_
  refine v_icmp_eq (tgt := 15) (am_Dk d_MM_sort (k := 6) rfl) (by decide) (fun c1 => ?_) (fun c1 => ?_)
  · have hK2 : Kd t = 2 := c1
    obtain ⟨hk, hnk⟩ := hkn hK2
    refine v_aload_n (am_Dk d_MM_sort (k := 9) rfl) rfl ?_
    refine v_get (am_Dk d_MM_sort (k := 10) rfl) f_MM_20 h0 rfl ?_
    refine v_get9 (am_Dk d_MM_sort (k := 11) rfl) r_MM_95 hAr.1 rfl ?_
    refine v_iload_n (am_Dk d_MM_sort (k := 12) rfl) rfl ?_
    refine v_iald (am_Dk d_MM_sort (k := 13) rfl) hNm9 rfl (vp_in_nI (by omega) (by omega)) ?_
    rw [nI_clamp (n := t) (by omega)]
    rw [show Nm t = nI k from hnk]
    refine v_istore_n (L1 := [(2, .int (nI k)), (0, .ref 1211), (1, .int (nI t))]) (am_Dk d_MM_sort (k := 14) rfl) (by decide) rfl ?_
    refine v_aload_n (am_Dk d_MM_sort (k := 15) rfl) rfl ?_
    refine v_get (am_Dk d_MM_sort (k := 16) rfl) f_MM_20 h0 rfl ?_
    refine v_get9 (am_Dk d_MM_sort (k := 17) rfl) r_MM_98 hAr.1 rfl ?_
    refine v_iload_n (am_Dk d_MM_sort (k := 18) rfl) rfl ?_
    refine v_iald (am_Dk d_MM_sort (k := 19) rfl) hMa rfl (vp_in_nI (by omega) (by omega)) ?_
    rw [nI_clamp (n := t) (by omega)]
    refine v_iconst (v := 2) (am_Dk d_MM_sort (k := 20) rfl) (by decide) ?_
    refine v_icmp_ne (tgt := 148) (am_Dk d_MM_sort (k := 21) rfl) (by decide) (fun c2 => ?_) (fun c2 => ?_)
    · have hM2 : ¬ Ma t = 2 := c2
      refine v_aload_n (am_Dk d_MM_sort (k := 74) rfl) rfl ?_
      refine v_get (am_Dk d_MM_sort (k := 75) rfl) f_MM_20 h0 rfl ?_
      refine v_get9 (am_Dk d_MM_sort (k := 76) rfl) r_MM_98 hAr.1 rfl ?_
      refine v_iload_n (am_Dk d_MM_sort (k := 77) rfl) rfl ?_
      refine v_iald (am_Dk d_MM_sort (k := 78) rfl) hMa rfl (vp_in_nI (by omega) (by omega)) ?_
      rw [nI_clamp (n := t) (by omega)]
      refine v_iconst (v := 1) (am_Dk d_MM_sort (k := 79) rfl) (by decide) ?_
      refine v_icmp_ne (tgt := 191) (am_Dk d_MM_sort (k := 80) rfl) (by decide) (fun c3 => ?_) (fun c3 => ?_)
      · have hM1 : ¬ Ma t = 1 := c3
        refine v_iconst (v := 0) (am_Dk d_MM_sort (k := 95) rfl) (by decide) ?_
        exact v_ireturn (am_Dk d_MM_sort (k := 96) rfl) rfl rfl (by omega) (by omega) ⟨by rw [srtV, if_pos hK2, if_neg hM2, if_neg hM1], rfl, rfl⟩
      · have hM1 : Ma t = 1 := c3
        refine v_aload_n (am_Dk d_MM_sort (k := 81) rfl) rfl ?_
        refine v_get (am_Dk d_MM_sort (k := 82) rfl) f_MM_27 h0 rfl ?_
        refine v_iload_n (am_Dk d_MM_sort (k := 83) rfl) rfl ?_
        refine v_ldcS (i := 126) (tx := "-") (am_Dk d_MM_sort (k := 84) rfl) (by decide +kernel) ?_
        refine v_callV (rest := []) (As := [.int (nI k), .ref 126]) (mc' := 0) (ms' := 0) (am_Dk d_MM_sort (k := 85) rfl) c_MM_103 (Or.inl ⟨_, _, _, _, _, hN, cq_ok11⟩) (t_MN_spells G (d := 4) (by omega) hN hT hO hF hA hk hns htx mmS_126) (by omega) (by omega) (by omega) (by simp [Value.category]) rfl (fun v4 M5 n6 h7 => ?_) (fun _ _ _ h7 => ?_)
        rotate_left
        · exact absurd h7.1 (by simp)
        obtain ⟨h7, e8, e9⟩ := h7
        replace e8 := e8.symm
        replace e9 := e9.symm
        subst e8
        subst e9
        cases h7
        show am_V G _ _ _ _ _ 171 [(2, .int (nI k)), (0, .ref 1211), (1, .int (nI t))] [.int (bi (spv (kn_w 18) (nmL F k) (nmW T F k)))] M nx 0 0
        refine v_if_ne (tgt := 187) (am_Dk d_MM_sort (k := 86) rfl) (by decide) (fun c10 => ?_) (fun c10 => ?_)
        · have s_18 : ordN T F k = 18 := of_decide_eq_true ((spv_iff (l := nmL F k) (g := nmW T F k) (k := 18) (by decide)).symm.trans (bi1 c10))
          refine v_iconst (v := 2) (am_Dk d_MM_sort (k := 93) rfl) (by decide) ?_
          refine v_goto (tgt := 192) (am_Dk d_MM_sort (k := 94) rfl) (by decide) ?_
          exact v_ireturn (am_Dk d_MM_sort (k := 96) rfl) rfl rfl (by omega) (by omega) ⟨by rw [srtV, if_pos hK2, if_neg hM2, if_pos hM1, if_pos (show oneK (ordN T F k) = true from decide_eq_true (by omega))], rfl, rfl⟩
        · have n_18 : ¬ ordN T F k = 18 := of_decide_eq_false ((spv_iff (l := nmL F k) (g := nmW T F k) (k := 18) (by decide)).symm.trans (bi0.mp c10))
          refine v_aload_n (am_Dk d_MM_sort (k := 87) rfl) rfl ?_
          refine v_get (am_Dk d_MM_sort (k := 88) rfl) f_MM_27 h0 rfl ?_
          refine v_iload_n (am_Dk d_MM_sort (k := 89) rfl) rfl ?_
          refine v_ldcS (i := 133) (tx := "abs") (am_Dk d_MM_sort (k := 90) rfl) (by decide +kernel) ?_
          refine v_callV (rest := []) (As := [.int (nI k), .ref 133]) (mc' := 0) (ms' := 0) (am_Dk d_MM_sort (k := 91) rfl) c_MM_103 (Or.inl ⟨_, _, _, _, _, hN, cq_ok11⟩) (t_MN_spells G (d := 4) (by omega) hN hT hO hF hA hk hns htx mmS_133) (by omega) (by omega) (by omega) (by simp [Value.category]) rfl (fun v11 M12 n13 h14 => ?_) (fun _ _ _ h14 => ?_)
          rotate_left
          · exact absurd h14.1 (by simp)
          obtain ⟨h14, e15, e16⟩ := h14
          replace e15 := e15.symm
          replace e16 := e16.symm
          subst e15
          subst e16
          cases h14
          show am_V G _ _ _ _ _ 184 [(2, .int (nI k)), (0, .ref 1211), (1, .int (nI t))] [.int (bi (spv (kn_w 23) (nmL F k) (nmW T F k)))] M nx 0 0
          refine v_if_eq (tgt := 191) (am_Dk d_MM_sort (k := 92) rfl) (by decide) (fun c17 => ?_) (fun c17 => ?_)
          · have n_23 : ¬ ordN T F k = 23 := of_decide_eq_false ((spv_iff (l := nmL F k) (g := nmW T F k) (k := 23) (by decide)).symm.trans (bi0.mp c17))
            refine v_iconst (v := 0) (am_Dk d_MM_sort (k := 95) rfl) (by decide) ?_
            exact v_ireturn (am_Dk d_MM_sort (k := 96) rfl) rfl rfl (by omega) (by omega) ⟨by rw [srtV, if_pos hK2, if_neg hM2, if_pos hM1, if_neg (show ¬ oneK (ordN T F k) = true from ne_true_of_eq_false (decide_eq_false (by omega)))], rfl, rfl⟩
          · have s_23 : ordN T F k = 23 := of_decide_eq_true ((spv_iff (l := nmL F k) (g := nmW T F k) (k := 23) (by decide)).symm.trans (bi1 c17))
            refine v_iconst (v := 2) (am_Dk d_MM_sort (k := 93) rfl) (by decide) ?_
            refine v_goto (tgt := 192) (am_Dk d_MM_sort (k := 94) rfl) (by decide) ?_
            exact v_ireturn (am_Dk d_MM_sort (k := 96) rfl) rfl rfl (by omega) (by omega) ⟨by rw [srtV, if_pos hK2, if_neg hM2, if_pos hM1, if_pos (show oneK (ordN T F k) = true from decide_eq_true (by omega))], rfl, rfl⟩
    · have hM2 : Ma t = 2 := c2
      refine v_aload_n (am_Dk d_MM_sort (k := 22) rfl) rfl ?_
      refine v_get (am_Dk d_MM_sort (k := 23) rfl) f_MM_27 h0 rfl ?_
      refine v_iload_n (am_Dk d_MM_sort (k := 24) rfl) rfl ?_
      refine v_ldcS (i := 125) (tx := "+") (am_Dk d_MM_sort (k := 25) rfl) (by decide +kernel) ?_
      refine v_callV (rest := []) (As := [.int (nI k), .ref 125]) (mc' := 0) (ms' := 0) (am_Dk d_MM_sort (k := 26) rfl) c_MM_103 (Or.inl ⟨_, _, _, _, _, hN, cq_ok11⟩) (t_MN_spells G (d := 4) (by omega) hN hT hO hF hA hk hns htx mmS_125) (by omega) (by omega) (by omega) (by simp [Value.category]) rfl (fun v18 M19 n20 h21 => ?_) (fun _ _ _ h21 => ?_)
      rotate_left
      · exact absurd h21.1 (by simp)
      obtain ⟨h21, e22, e23⟩ := h21
      replace e22 := e22.symm
      replace e23 := e23.symm
      subst e22
      subst e23
      cases h21
      show am_V G _ _ _ _ _ 48 [(2, .int (nI k)), (0, .ref 1211), (1, .int (nI t))] [.int (bi (spv (kn_w 17) (nmL F k) (nmW T F k)))] M nx 0 0
      refine v_if_ne (tgt := 142) (am_Dk d_MM_sort (k := 27) rfl) (by decide) (fun c24 => ?_) (fun c24 => ?_)
      · have s_17 : ordN T F k = 17 := of_decide_eq_true ((spv_iff (l := nmL F k) (g := nmW T F k) (k := 17) (by decide)).symm.trans (bi1 c24))
        refine v_iconst (v := 1) (am_Dk d_MM_sort (k := 70) rfl) (by decide) ?_
        refine v_goto (tgt := 147) (am_Dk d_MM_sort (k := 71) rfl) (by decide) ?_
        exact v_ireturn (am_Dk d_MM_sort (k := 73) rfl) rfl rfl (by omega) (by omega) ⟨by rw [srtV, if_pos hK2, if_pos hM2, if_pos (show twoK (ordN T F k) = true from decide_eq_true (by omega))], rfl, rfl⟩
      · have n_17 : ¬ ordN T F k = 17 := of_decide_eq_false ((spv_iff (l := nmL F k) (g := nmW T F k) (k := 17) (by decide)).symm.trans (bi0.mp c24))
        refine v_aload_n (am_Dk d_MM_sort (k := 28) rfl) rfl ?_
        refine v_get (am_Dk d_MM_sort (k := 29) rfl) f_MM_27 h0 rfl ?_
        refine v_iload_n (am_Dk d_MM_sort (k := 30) rfl) rfl ?_
        refine v_ldcS (i := 126) (tx := "-") (am_Dk d_MM_sort (k := 31) rfl) (by decide +kernel) ?_
        refine v_callV (rest := []) (As := [.int (nI k), .ref 126]) (mc' := 0) (ms' := 0) (am_Dk d_MM_sort (k := 32) rfl) c_MM_103 (Or.inl ⟨_, _, _, _, _, hN, cq_ok11⟩) (t_MN_spells G (d := 4) (by omega) hN hT hO hF hA hk hns htx mmS_126) (by omega) (by omega) (by omega) (by simp [Value.category]) rfl (fun v25 M26 n27 h28 => ?_) (fun _ _ _ h28 => ?_)
        rotate_left
        · exact absurd h28.1 (by simp)
        obtain ⟨h28, e29, e30⟩ := h28
        replace e29 := e29.symm
        replace e30 := e30.symm
        subst e29
        subst e30
        cases h28
        show am_V G _ _ _ _ _ 61 [(2, .int (nI k)), (0, .ref 1211), (1, .int (nI t))] [.int (bi (spv (kn_w 18) (nmL F k) (nmW T F k)))] M nx 0 0
        refine v_if_ne (tgt := 142) (am_Dk d_MM_sort (k := 33) rfl) (by decide) (fun c31 => ?_) (fun c31 => ?_)
        · have s_18 : ordN T F k = 18 := of_decide_eq_true ((spv_iff (l := nmL F k) (g := nmW T F k) (k := 18) (by decide)).symm.trans (bi1 c31))
          refine v_iconst (v := 1) (am_Dk d_MM_sort (k := 70) rfl) (by decide) ?_
          refine v_goto (tgt := 147) (am_Dk d_MM_sort (k := 71) rfl) (by decide) ?_
          exact v_ireturn (am_Dk d_MM_sort (k := 73) rfl) rfl rfl (by omega) (by omega) ⟨by rw [srtV, if_pos hK2, if_pos hM2, if_pos (show twoK (ordN T F k) = true from decide_eq_true (by omega))], rfl, rfl⟩
        · have n_18 : ¬ ordN T F k = 18 := of_decide_eq_false ((spv_iff (l := nmL F k) (g := nmW T F k) (k := 18) (by decide)).symm.trans (bi0.mp c31))
          refine v_aload_n (am_Dk d_MM_sort (k := 34) rfl) rfl ?_
          refine v_get (am_Dk d_MM_sort (k := 35) rfl) f_MM_27 h0 rfl ?_
          refine v_iload_n (am_Dk d_MM_sort (k := 36) rfl) rfl ?_
          refine v_ldcS (i := 127) (tx := "*") (am_Dk d_MM_sort (k := 37) rfl) (by decide +kernel) ?_
          refine v_callV (rest := []) (As := [.int (nI k), .ref 127]) (mc' := 0) (ms' := 0) (am_Dk d_MM_sort (k := 38) rfl) c_MM_103 (Or.inl ⟨_, _, _, _, _, hN, cq_ok11⟩) (t_MN_spells G (d := 4) (by omega) hN hT hO hF hA hk hns htx mmS_127) (by omega) (by omega) (by omega) (by simp [Value.category]) rfl (fun v32 M33 n34 h35 => ?_) (fun _ _ _ h35 => ?_)
          rotate_left
          · exact absurd h35.1 (by simp)
          obtain ⟨h35, e36, e37⟩ := h35
          replace e36 := e36.symm
          replace e37 := e37.symm
          subst e36
          subst e37
          cases h35
          show am_V G _ _ _ _ _ 74 [(2, .int (nI k)), (0, .ref 1211), (1, .int (nI t))] [.int (bi (spv (kn_w 19) (nmL F k) (nmW T F k)))] M nx 0 0
          refine v_if_ne (tgt := 142) (am_Dk d_MM_sort (k := 39) rfl) (by decide) (fun c38 => ?_) (fun c38 => ?_)
          · have s_19 : ordN T F k = 19 := of_decide_eq_true ((spv_iff (l := nmL F k) (g := nmW T F k) (k := 19) (by decide)).symm.trans (bi1 c38))
            refine v_iconst (v := 1) (am_Dk d_MM_sort (k := 70) rfl) (by decide) ?_
            refine v_goto (tgt := 147) (am_Dk d_MM_sort (k := 71) rfl) (by decide) ?_
            exact v_ireturn (am_Dk d_MM_sort (k := 73) rfl) rfl rfl (by omega) (by omega) ⟨by rw [srtV, if_pos hK2, if_pos hM2, if_pos (show twoK (ordN T F k) = true from decide_eq_true (by omega))], rfl, rfl⟩
          · have n_19 : ¬ ordN T F k = 19 := of_decide_eq_false ((spv_iff (l := nmL F k) (g := nmW T F k) (k := 19) (by decide)).symm.trans (bi0.mp c38))
            refine v_aload_n (am_Dk d_MM_sort (k := 40) rfl) rfl ?_
            refine v_get (am_Dk d_MM_sort (k := 41) rfl) f_MM_27 h0 rfl ?_
            refine v_iload_n (am_Dk d_MM_sort (k := 42) rfl) rfl ?_
            refine v_ldcS (i := 128) (tx := "//") (am_Dk d_MM_sort (k := 43) rfl) (by decide +kernel) ?_
            refine v_callV (rest := []) (As := [.int (nI k), .ref 128]) (mc' := 0) (ms' := 0) (am_Dk d_MM_sort (k := 44) rfl) c_MM_103 (Or.inl ⟨_, _, _, _, _, hN, cq_ok11⟩) (t_MN_spells G (d := 4) (by omega) hN hT hO hF hA hk hns htx mmS_128) (by omega) (by omega) (by omega) (by simp [Value.category]) rfl (fun v39 M40 n41 h42 => ?_) (fun _ _ _ h42 => ?_)
            rotate_left
            · exact absurd h42.1 (by simp)
            obtain ⟨h42, e43, e44⟩ := h42
            replace e43 := e43.symm
            replace e44 := e44.symm
            subst e43
            subst e44
            cases h42
            show am_V G _ _ _ _ _ 87 [(2, .int (nI k)), (0, .ref 1211), (1, .int (nI t))] [.int (bi (spv (kn_w 20) (nmL F k) (nmW T F k)))] M nx 0 0
            refine v_if_ne (tgt := 142) (am_Dk d_MM_sort (k := 45) rfl) (by decide) (fun c45 => ?_) (fun c45 => ?_)
            · have s_20 : ordN T F k = 20 := of_decide_eq_true ((spv_iff (l := nmL F k) (g := nmW T F k) (k := 20) (by decide)).symm.trans (bi1 c45))
              refine v_iconst (v := 1) (am_Dk d_MM_sort (k := 70) rfl) (by decide) ?_
              refine v_goto (tgt := 147) (am_Dk d_MM_sort (k := 71) rfl) (by decide) ?_
              exact v_ireturn (am_Dk d_MM_sort (k := 73) rfl) rfl rfl (by omega) (by omega) ⟨by rw [srtV, if_pos hK2, if_pos hM2, if_pos (show twoK (ordN T F k) = true from decide_eq_true (by omega))], rfl, rfl⟩
            · have n_20 : ¬ ordN T F k = 20 := of_decide_eq_false ((spv_iff (l := nmL F k) (g := nmW T F k) (k := 20) (by decide)).symm.trans (bi0.mp c45))
              refine v_aload_n (am_Dk d_MM_sort (k := 46) rfl) rfl ?_
              refine v_get (am_Dk d_MM_sort (k := 47) rfl) f_MM_27 h0 rfl ?_
              refine v_iload_n (am_Dk d_MM_sort (k := 48) rfl) rfl ?_
              refine v_ldcS (i := 129) (tx := "mod") (am_Dk d_MM_sort (k := 49) rfl) (by decide +kernel) ?_
              refine v_callV (rest := []) (As := [.int (nI k), .ref 129]) (mc' := 0) (ms' := 0) (am_Dk d_MM_sort (k := 50) rfl) c_MM_103 (Or.inl ⟨_, _, _, _, _, hN, cq_ok11⟩) (t_MN_spells G (d := 4) (by omega) hN hT hO hF hA hk hns htx mmS_129) (by omega) (by omega) (by omega) (by simp [Value.category]) rfl (fun v46 M47 n48 h49 => ?_) (fun _ _ _ h49 => ?_)
              rotate_left
              · exact absurd h49.1 (by simp)
              obtain ⟨h49, e50, e51⟩ := h49
              replace e50 := e50.symm
              replace e51 := e51.symm
              subst e50
              subst e51
              cases h49
              show am_V G _ _ _ _ _ 100 [(2, .int (nI k)), (0, .ref 1211), (1, .int (nI t))] [.int (bi (spv (kn_w 21) (nmL F k) (nmW T F k)))] M nx 0 0
              refine v_if_ne (tgt := 142) (am_Dk d_MM_sort (k := 51) rfl) (by decide) (fun c52 => ?_) (fun c52 => ?_)
              · have s_21 : ordN T F k = 21 := of_decide_eq_true ((spv_iff (l := nmL F k) (g := nmW T F k) (k := 21) (by decide)).symm.trans (bi1 c52))
                refine v_iconst (v := 1) (am_Dk d_MM_sort (k := 70) rfl) (by decide) ?_
                refine v_goto (tgt := 147) (am_Dk d_MM_sort (k := 71) rfl) (by decide) ?_
                exact v_ireturn (am_Dk d_MM_sort (k := 73) rfl) rfl rfl (by omega) (by omega) ⟨by rw [srtV, if_pos hK2, if_pos hM2, if_pos (show twoK (ordN T F k) = true from decide_eq_true (by omega))], rfl, rfl⟩
              · have n_21 : ¬ ordN T F k = 21 := of_decide_eq_false ((spv_iff (l := nmL F k) (g := nmW T F k) (k := 21) (by decide)).symm.trans (bi0.mp c52))
                refine v_aload_n (am_Dk d_MM_sort (k := 52) rfl) rfl ?_
                refine v_get (am_Dk d_MM_sort (k := 53) rfl) f_MM_27 h0 rfl ?_
                refine v_iload_n (am_Dk d_MM_sort (k := 54) rfl) rfl ?_
                refine v_ldcS (i := 130) (tx := "rem") (am_Dk d_MM_sort (k := 55) rfl) (by decide +kernel) ?_
                refine v_callV (rest := []) (As := [.int (nI k), .ref 130]) (mc' := 0) (ms' := 0) (am_Dk d_MM_sort (k := 56) rfl) c_MM_103 (Or.inl ⟨_, _, _, _, _, hN, cq_ok11⟩) (t_MN_spells G (d := 4) (by omega) hN hT hO hF hA hk hns htx mmS_130) (by omega) (by omega) (by omega) (by simp [Value.category]) rfl (fun v53 M54 n55 h56 => ?_) (fun _ _ _ h56 => ?_)
                rotate_left
                · exact absurd h56.1 (by simp)
                obtain ⟨h56, e57, e58⟩ := h56
                replace e57 := e57.symm
                replace e58 := e58.symm
                subst e57
                subst e58
                cases h56
                show am_V G _ _ _ _ _ 113 [(2, .int (nI k)), (0, .ref 1211), (1, .int (nI t))] [.int (bi (spv (kn_w 22) (nmL F k) (nmW T F k)))] M nx 0 0
                refine v_if_ne (tgt := 142) (am_Dk d_MM_sort (k := 57) rfl) (by decide) (fun c59 => ?_) (fun c59 => ?_)
                · have s_22 : ordN T F k = 22 := of_decide_eq_true ((spv_iff (l := nmL F k) (g := nmW T F k) (k := 22) (by decide)).symm.trans (bi1 c59))
                  refine v_iconst (v := 1) (am_Dk d_MM_sort (k := 70) rfl) (by decide) ?_
                  refine v_goto (tgt := 147) (am_Dk d_MM_sort (k := 71) rfl) (by decide) ?_
                  exact v_ireturn (am_Dk d_MM_sort (k := 73) rfl) rfl rfl (by omega) (by omega) ⟨by rw [srtV, if_pos hK2, if_pos hM2, if_pos (show twoK (ordN T F k) = true from decide_eq_true (by omega))], rfl, rfl⟩
                · have n_22 : ¬ ordN T F k = 22 := of_decide_eq_false ((spv_iff (l := nmL F k) (g := nmW T F k) (k := 22) (by decide)).symm.trans (bi0.mp c59))
                  refine v_aload_n (am_Dk d_MM_sort (k := 58) rfl) rfl ?_
                  refine v_get (am_Dk d_MM_sort (k := 59) rfl) f_MM_27 h0 rfl ?_
                  refine v_iload_n (am_Dk d_MM_sort (k := 60) rfl) rfl ?_
                  refine v_ldcS (i := 131) (tx := "min") (am_Dk d_MM_sort (k := 61) rfl) (by decide +kernel) ?_
                  refine v_callV (rest := []) (As := [.int (nI k), .ref 131]) (mc' := 0) (ms' := 0) (am_Dk d_MM_sort (k := 62) rfl) c_MM_103 (Or.inl ⟨_, _, _, _, _, hN, cq_ok11⟩) (t_MN_spells G (d := 4) (by omega) hN hT hO hF hA hk hns htx mmS_131) (by omega) (by omega) (by omega) (by simp [Value.category]) rfl (fun v60 M61 n62 h63 => ?_) (fun _ _ _ h63 => ?_)
                  rotate_left
                  · exact absurd h63.1 (by simp)
                  obtain ⟨h63, e64, e65⟩ := h63
                  replace e64 := e64.symm
                  replace e65 := e65.symm
                  subst e64
                  subst e65
                  cases h63
                  show am_V G _ _ _ _ _ 126 [(2, .int (nI k)), (0, .ref 1211), (1, .int (nI t))] [.int (bi (spv (kn_w 24) (nmL F k) (nmW T F k)))] M nx 0 0
                  refine v_if_ne (tgt := 142) (am_Dk d_MM_sort (k := 63) rfl) (by decide) (fun c66 => ?_) (fun c66 => ?_)
                  · have s_24 : ordN T F k = 24 := of_decide_eq_true ((spv_iff (l := nmL F k) (g := nmW T F k) (k := 24) (by decide)).symm.trans (bi1 c66))
                    refine v_iconst (v := 1) (am_Dk d_MM_sort (k := 70) rfl) (by decide) ?_
                    refine v_goto (tgt := 147) (am_Dk d_MM_sort (k := 71) rfl) (by decide) ?_
                    exact v_ireturn (am_Dk d_MM_sort (k := 73) rfl) rfl rfl (by omega) (by omega) ⟨by rw [srtV, if_pos hK2, if_pos hM2, if_pos (show twoK (ordN T F k) = true from decide_eq_true (by omega))], rfl, rfl⟩
                  · have n_24 : ¬ ordN T F k = 24 := of_decide_eq_false ((spv_iff (l := nmL F k) (g := nmW T F k) (k := 24) (by decide)).symm.trans (bi0.mp c66))
                    refine v_aload_n (am_Dk d_MM_sort (k := 64) rfl) rfl ?_
                    refine v_get (am_Dk d_MM_sort (k := 65) rfl) f_MM_27 h0 rfl ?_
                    refine v_iload_n (am_Dk d_MM_sort (k := 66) rfl) rfl ?_
                    refine v_ldcS (i := 132) (tx := "max") (am_Dk d_MM_sort (k := 67) rfl) (by decide +kernel) ?_
                    refine v_callV (rest := []) (As := [.int (nI k), .ref 132]) (mc' := 0) (ms' := 0) (am_Dk d_MM_sort (k := 68) rfl) c_MM_103 (Or.inl ⟨_, _, _, _, _, hN, cq_ok11⟩) (t_MN_spells G (d := 4) (by omega) hN hT hO hF hA hk hns htx mmS_132) (by omega) (by omega) (by omega) (by simp [Value.category]) rfl (fun v67 M68 n69 h70 => ?_) (fun _ _ _ h70 => ?_)
                    rotate_left
                    · exact absurd h70.1 (by simp)
                    obtain ⟨h70, e71, e72⟩ := h70
                    replace e71 := e71.symm
                    replace e72 := e72.symm
                    subst e71
                    subst e72
                    cases h70
                    show am_V G _ _ _ _ _ 139 [(2, .int (nI k)), (0, .ref 1211), (1, .int (nI t))] [.int (bi (spv (kn_w 25) (nmL F k) (nmW T F k)))] M nx 0 0
                    refine v_if_eq (tgt := 146) (am_Dk d_MM_sort (k := 69) rfl) (by decide) (fun c73 => ?_) (fun c73 => ?_)
                    · have n_25 : ¬ ordN T F k = 25 := of_decide_eq_false ((spv_iff (l := nmL F k) (g := nmW T F k) (k := 25) (by decide)).symm.trans (bi0.mp c73))
                      refine v_iconst (v := 0) (am_Dk d_MM_sort (k := 72) rfl) (by decide) ?_
                      exact v_ireturn (am_Dk d_MM_sort (k := 73) rfl) rfl rfl (by omega) (by omega) ⟨by rw [srtV, if_pos hK2, if_pos hM2, if_neg (show ¬ twoK (ordN T F k) = true from ne_true_of_eq_false (decide_eq_false (by omega)))], rfl, rfl⟩
                    · have s_25 : ordN T F k = 25 := of_decide_eq_true ((spv_iff (l := nmL F k) (g := nmW T F k) (k := 25) (by decide)).symm.trans (bi1 c73))
                      refine v_iconst (v := 1) (am_Dk d_MM_sort (k := 70) rfl) (by decide) ?_
                      refine v_goto (tgt := 147) (am_Dk d_MM_sort (k := 71) rfl) (by decide) ?_
                      exact v_ireturn (am_Dk d_MM_sort (k := 73) rfl) rfl rfl (by omega) (by omega) ⟨by rw [srtV, if_pos hK2, if_pos hM2, if_pos (show twoK (ordN T F k) = true from decide_eq_true (by omega))], rfl, rfl⟩
  · have hK2 : ¬ Kd t = 2 := c1
    refine v_iconst (v := 0) (am_Dk d_MM_sort (k := 7) rfl) (by decide) ?_
    exact v_ireturn (am_Dk d_MM_sort (k := 8) rfl) rfl rfl (by omega) (by omega) ⟨by rw [srtV, if_neg hK2], rfl, rfl⟩
