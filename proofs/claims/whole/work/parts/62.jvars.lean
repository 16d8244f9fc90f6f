/-! THE CLASS'S VARIABLES: ADD AND CLEAR (mine; rows laid by the walker) -/
set_option maxRecDepth 20000 in
theorem t_Vars_add (G : am_G) {d nx : Nat} (hd : 7 ≤ d) {M : am_M} {c ed cap : Nat} {Vi Vb Vl : Nat → Nat} {Vg : Nat → Nat → Int32} {Vn : Nat → Int64} {R : Nat → Option Nat} {mcn : Int32} (hV : vs M c Vi Vb Vl Vg Vn ed cap R mcn) (hw : vw M c Vi Vb ed cap R nx) (hx : 1240 ≤ nx) {f : Nat → Int32} (hb : tbB f) (h2 : M 1002 = some (.inl (0, 4096, .inl f))) {p e : Nat} (hpe : p < e) (he : e ≤ 4096) (hc : c < 50) {v : Int64} : am_Tr G m_Vars_add d 3 4173 [.ref 1003, .ref 1002, .int (nI p), .int (nI e), .long v] M nx (fun r M1 nx1 => r = .inl none ∧ nx ≤ nx1 ∧ nx1 ≤ nx + 3 ∧ (∀ i, 1000 ≤ i → i < 1240 → ¬ i = 1004 → M1 i = M i) ∧ vz M1 (c + 1) (nwL Vl c (e - p)) (nwG Vg c (va_cpy f (fun _ => 0) p 0 (e - p))) (vp_updL Vn c v) nx1) := by
  refine am_TrOf (by decide) (Nat.le_of_ble_eq_true rfl) ?_
  show am_V G _ _ _ _ _ 0 [(0, .ref 1003), (1, .ref 1002), (2, .int (nI p)), (3, .int (nI e)), (4, .long v)] [] M nx 0 0
  have hed : (ed = 54 ∨ 1240 ≤ ed) ∧ ed < nx := by
    rcases hw.1 with ⟨g1, _⟩ | ⟨g1, g2, _⟩
    · omega
    · omega
  have hV4 := hV.2.1
  have hV3 := hV.1
  refine v_iload_n (am_Dk d_Vars_add (k := 0) rfl) rfl ?_
  refine v_iload_n (am_Dk d_Vars_add (k := 1) rfl) rfl ?_
  refine v_isub (am_Dk d_Vars_add (k := 2) rfl) ?_
  rw [nI_sub (by omega)]
  refine v_new_byte (N := e - p) (am_Dk d_Vars_add (k := 3) rfl) am_ac_byte (nI_pos (by omega)) (nI_clamp (by omega)) (by rw [show componentBytes (newarray.typeOf ArrayType.byte) = 1 from rfl]; omega) (by omega) (by omega) ?_
  refine v_astore (L1 := [(6, .ref nx), (0, .ref 1003), (1, .ref 1002), (2, .int (nI p)), (3, .int (nI e)), (4, .long v)]) (am_Dk d_Vars_add (k := 4) rfl) (by decide) rfl ?_
  refine v_aload_n (am_Dk d_Vars_add (k := 5) rfl) rfl ?_
  refine v_iload_n (am_Dk d_Vars_add (k := 6) rfl) rfl ?_
  refine v_aload (am_Dk d_Vars_add (k := 7) rfl) rfl ?_
  refine v_iconst (v := 0) (am_Dk d_Vars_add (k := 8) rfl) (by decide) ?_
  refine v_aload (am_Dk d_Vars_add (k := 9) rfl) rfl ?_
  have m1 : (am_up M nx (.inl (0, (e - p), .inl (fun _ => 0)))) nx = some (.inl (0, (e - p), .inl (fun _ => 0))) := am_up_eq _ _ _
  refine v_alen (am_Dk d_Vars_add (k := 10) rfl) m1 rfl rfl ?_
  show am_V G _ _ _ _ _ 15 [(6, .ref nx), (0, .ref 1003), (1, .ref 1002), (2, .int (nI p)), (3, .int (nI e)), (4, .long v)] [.int (nI (e - p)), .int 0, .ref nx, .int (nI p), .ref 1002] (am_up M nx (.inl (0, (e - p), .inl (fun _ => 0)))) (nx + 1) 1 (0 + (e - p))
  refine v_copyb (am_Dk d_Vars_add (k := 11) rfl) am_cpV ((am_up_ne (show 1002 ≠ nx from by omega)).trans (h2)) (am_up_eq _ _ _) hb (by omega) (by omega) (by omega) (by omega) (by simp [Value.category]) ?_
  rw [am_uu0 (a := nx)]
  refine v_aload_n (am_Dk d_Vars_add (k := 12) rfl) rfl ?_
  have m2 : (am_up M nx (.inl (0, (e - p), .inl (va_cpy f (fun _ => 0) p 0 (e - p))))) 1003 = some (.inr (2, [.ref 1004])) := (am_up_ne (show 1003 ≠ nx from by omega)).trans (hV3)
  refine v_get (am_Dk d_Vars_add (k := 13) rfl) f_Vars_12 m2 rfl ?_
  refine v_new (fs := [.null, .long 0]) (am_Dk d_Vars_add (k := 14) rfl) cq_ok4 n_Vars_26 i_Var.1 i_Var.2 (by decide) rfl (by omega) (by omega) ?_
  refine v_dup (am_Dk d_Vars_add (k := 15) rfl) rfl ?_
  refine v_aload (am_Dk d_Vars_add (k := 16) rfl) rfl ?_
  refine v_lload (am_Dk d_Vars_add (k := 17) rfl) rfl ?_
  have m3 : (am_up (am_up M nx (.inl (0, (e - p), .inl (va_cpy f (fun _ => 0) p 0 (e - p))))) (nx + 1) (.inr (4, [.null, .long 0]))) (nx + 1) = some (.inr (4, [.null, .long 0])) := am_up_eq _ _ _
  refine v_callI (rest := [.ref (nx + 1), .ref 1004]) (As := [.ref nx, .long v]) (mc' := 0) (ms' := 0) (am_Dk d_Vars_add (k := 18) rfl) c_Vars_38 (t_Var_init G (d := 1) (by omega) m3) (by omega) (by omega) (by omega) (by simp [Value.category]) rfl (fun v4 M5 n6 h7 => ?_) (fun _ _ _ h7 => ?_)
  rotate_left
  · exact absurd h7.1 (by simp)
  obtain ⟨h7, e8, e9⟩ := h7
  replace e8 := e8.symm
  replace e9 := e9.symm
  subst e8
  subst e9
  cases h7
  rw [am_uu0 (a := nx + 1)]
  show am_V G _ _ _ _ _ 33 [(6, .ref nx), (0, .ref 1003), (1, .ref 1002), (2, .int (nI p)), (3, .int (nI e)), (4, .long v)] [.ref (nx + 1), .ref 1004] (am_up (am_up M nx (.inl (0, (e - p), .inl (va_cpy f (fun _ => 0) p 0 (e - p))))) (nx + 1) (.inr (4, [.ref nx, .long v]))) (nx + 2) 2 (0 + (e - p) + 2)
  have m10 : (am_up (am_up M nx (.inl (0, (e - p), .inl (va_cpy f (fun _ => 0) p 0 (e - p))))) (nx + 1) (.inr (4, [.ref nx, .long v]))) 1004 = some (.inr (3, [.int mcn, .ref ed, .int (nI c)])) := (am_up_ne (show 1004 ≠ (nx + 1) from by omega)).trans ((am_up_ne (show 1004 ≠ nx from by omega)).trans (hV4))
  refine v_callV (rest := []) (As := [.ref (nx + 1)]) (mc' := 1) (ms' := 75) (am_Dk d_Vars_add (k := 19) rfl) c_Vars_41 (Or.inl ⟨_, _, _, _, _, m10, cq_ok3⟩) (t_jA_add1 G (d := 6) (c := c) (cap := cap) (R := R) (x := nx + 1) (by omega) ((am_up_ne (show 1004 ≠ (nx + 1) from by omega)).trans ((am_up_ne (show 1004 ≠ nx from by omega)).trans (hV4))) (by omega) hc (by rcases hw.1 with g | ⟨g1, g2, g3, g4⟩; exact Or.inl g; exact Or.inr ⟨g1, by omega, ((am_up_ne (show ed ≠ (nx + 1) from by omega)).trans ((am_up_ne (show ed ≠ nx from by omega)).trans (rfl))).trans g3, g4⟩) hV.2.2.2.1 (fun i hi => by have k9 := hV.2.2.2.2.2.2 i hi; have k8 := (hw.2.1 i hi).1; exact ⟨Vi i, _, hV.2.2.2.2.2.1 i hi, by omega, ((am_up_ne (show (Vi i) ≠ (nx + 1) from by omega)).trans ((am_up_ne (show (Vi i) ≠ nx from by omega)).trans (rfl))).trans k9.1⟩) (am_up_eq _ _ _) (by omega)) (by omega) (by omega) (by omega) (by simp [Value.category]) rfl (fun v11 M12 n13 h14 => ?_) (fun _ _ _ h14 => ?_)
  rotate_left
  · obtain ⟨_, _, _, _, hx9, _⟩ := h14; cases hx9
  obtain ⟨ed1, cap1, R1, mc1, h14, p1, p2, p3, p4, p5, p6, p7, p8, p9, p10, p11, p12⟩ := h14
  cases h14
  show am_V G _ _ _ _ _ 36 [(6, .ref nx), (0, .ref 1003), (1, .ref 1002), (2, .int (nI p)), (3, .int (nI e)), (4, .long v)] [.int 1] M12 n13 3 (0 + (e - p) + 77)
  refine v_pop (am_Dk d_Vars_add (k := 20) rfl) rfl ?_
  exact v_return (am_Dk d_Vars_add (k := 21) rfl) rfl (by omega) (by omega) ⟨rfl, by omega, by omega, (fun i q1 q2 q3 => (p12 i q3 (by omega) (by omega)).trans ((am_up_ne (show i ≠ (nx + 1) from by omega)).trans ((am_up_ne (show i ≠ nx from by omega)).trans (rfl)))), vz_new hV hw hx (by omega) ((p12 1003 (by omega) (by omega) (by omega)).trans ((am_up_ne (show 1003 ≠ (nx + 1) from by omega)).trans ((am_up_ne (show 1003 ≠ nx from by omega)).trans (rfl)))) p3 p4 p5 p6 (by omega) p9 p10 p11 ((p12 nx (by omega) (by omega) (by omega)).trans ((am_up_ne (show nx ≠ (nx + 1) from by omega)).trans (am_up_eq _ _ _))) ((p12 (nx + 1) (by omega) (by omega) (by omega)).trans (am_up_eq _ _ _)) (by omega) (fun i q1 q2 q3 => (p12 i (by omega) q3 (by omega)).trans ((am_up_ne (show i ≠ (nx + 1) from by omega)).trans ((am_up_ne (show i ≠ nx from by omega)).trans (rfl))))⟩
set_option maxRecDepth 20000 in
theorem l_jA_clear1 (G : am_G) {d nx : Nat} {M : am_M} {c ed cap : Nat} {Vi Vb Vl : Nat → Nat} {Vg : Nat → Nat → Int32} {Vn : Nat → Int64} {R : Nat → Option Nat} {mcn : Int32} (hV : vs M c Vi Vb Vl Vg Vn ed cap R mcn) (hw : vw M c Vi Vb ed cap R nx) (hx : 1240 ≤ nx) {mc1 : Int32} : ∀ m i (M' : am_M), i + m = c → M' 1004 = some (.inr (3, [.int mc1, .ref ed, .int (nI 0)])) → (∀ j, ¬ j = 1004 → ¬ j = ed → M' j = M j) → (1240 ≤ ed → ∃ R', M' ed = some (.inl (3, cap, .inr (.inr (.inr (.inr R')))))) → am_V G m_jA_clear d 0 0 (fun r M1 nx1 => r = .inl none ∧ nx1 = nx ∧ (∀ i, 1000 ≤ i → i < 1240 → ¬ i = 1004 → M1 i = M i) ∧ vz M1 0 Vl Vg Vn nx) 27 [(3, .int (nI i)), (2, .int (nI c)), (1, .ref ed), (0, .ref 1004)] [] M' nx 0 0 := by
  have hed : (ed = 54 ∨ 1240 ≤ ed) ∧ ed < nx := by
    rcases hw.1 with ⟨g1, _⟩ | ⟨g1, g2, _⟩
    · omega
    · omega
  have hcap := hV.2.2.2.1
  have hcap2 := hV.2.2.2.2.1
  intro m
  induction m with
  | zero =>
    intro i M' him h4 hf hE
    refine v_iload_n (am_Dk d_jA_clear (k := 17) rfl) rfl ?_
    refine v_iload_n (am_Dk d_jA_clear (k := 18) rfl) rfl ?_
    refine v_icmp_ge (tgt := 42) (am_Dk d_jA_clear (k := 19) rfl) (by decide) (fun c1 => ?_) (fun c1 => ?_)
    · have Nc1 := (nI_leI (a := c) (b := i) (by omega) (by omega)).mp c1
      by_cases h9 : 1240 ≤ ed
      · obtain ⟨R9, hR9⟩ := hE h9
        exact v_return (am_Dk d_jA_clear (k := 26) rfl) rfl (by omega) (by omega) ⟨rfl, rfl, (fun i q1 q2 q3 => hf i q3 (by omega)), vz_clr (R1 := R9) hV hw (hf 1003 (by omega) (by omega)) h4 (fun _ => hR9)⟩
      · exact v_return (am_Dk d_jA_clear (k := 26) rfl) rfl (by omega) (by omega) ⟨rfl, rfl, (fun i q1 q2 q3 => hf i q3 (by omega)), vz_clr (R1 := R) hV hw (hf 1003 (by omega) (by omega)) h4 (fun z => absurd z h9)⟩
    · have Nc1 : ¬ c ≤ i := fun z => c1 ((nI_leI (a := c) (b := i) (by omega) (by omega)).mpr z)
      exfalso
      omega
  | succ m ih =>
    intro i M' him h4 hf hE
    have hk0 := hV.2.2.2.2.2.2 i (by omega)
    have h9 : 1240 ≤ ed := hk0.2.2.2.2.2
    obtain ⟨R9, hR9⟩ := hE h9
    refine v_iload_n (am_Dk d_jA_clear (k := 17) rfl) rfl ?_
    refine v_iload_n (am_Dk d_jA_clear (k := 18) rfl) rfl ?_
    refine v_icmp_ge (tgt := 42) (am_Dk d_jA_clear (k := 19) rfl) (by decide) (fun c1 => ?_) (fun c1 => ?_)
    · have Nc1 := (nI_leI (a := c) (b := i) (by omega) (by omega)).mp c1
      exfalso
      omega
    · have Nc1 : ¬ c ≤ i := fun z => c1 ((nI_leI (a := c) (b := i) (by omega) (by omega)).mpr z)
      refine v_aload_n (am_Dk d_jA_clear (k := 20) rfl) rfl ?_
      refine v_iload_n (am_Dk d_jA_clear (k := 21) rfl) rfl ?_
      refine v_null (am_Dk d_jA_clear (k := 22) rfl) ?_
      refine v_aastN (am_Dk d_jA_clear (k := 23) rfl) hR9 rfl (vp_in_nI (by omega) (by omega)) ?_
      rw [nI_clamp (n := i) (by omega)]
      refine v_iinc (v := nI (i + 1)) (L1 := [(3, .int (nI (i + 1))), (2, .int (nI c)), (1, .ref ed), (0, .ref 1004)]) (am_Dk d_jA_clear (k := 24) rfl) rfl (nI_1 _) (by decide) rfl ?_
      refine v_goto (tgt := 27) (am_Dk d_jA_clear (k := 25) rfl) (by decide) ?_
      exact ih (i + 1) _ (by omega) ((am_up_ne (by omega)).trans h4) (fun j q1 q2 => (am_up_ne q2).trans (hf j q1 q2)) (fun _ => ⟨_, am_up_eq _ _ _⟩)
set_option maxRecDepth 20000 in
theorem t_jA_clear (G : am_G) {d nx : Nat} (hd : 0 ≤ d) {M : am_M} {c ed cap : Nat} {Vi Vb Vl : Nat → Nat} {Vg : Nat → Nat → Int32} {Vn : Nat → Int64} {R : Nat → Option Nat} {mcn : Int32} (hV : vs M c Vi Vb Vl Vg Vn ed cap R mcn) (hw : vw M c Vi Vb ed cap R nx) (hx : 1240 ≤ nx) : am_Tr G m_jA_clear d 0 0 [.ref 1004] M nx (fun r M1 nx1 => r = .inl none ∧ nx1 = nx ∧ (∀ i, 1000 ≤ i → i < 1240 → ¬ i = 1004 → M1 i = M i) ∧ vz M1 0 Vl Vg Vn nx) := by
  refine am_TrOf (by decide) (Nat.le_of_ble_eq_true rfl) ?_
  show am_V G _ _ _ _ _ 0 [(0, .ref 1004)] [] M nx 0 0
  have hed : (ed = 54 ∨ 1240 ≤ ed) ∧ ed < nx := by
    rcases hw.1 with ⟨g1, _⟩ | ⟨g1, g2, _⟩
    · omega
    · omega
  have hV4 := hV.2.1
  refine v_aload_n (am_Dk d_jA_clear (k := 0) rfl) rfl ?_
  refine v_dup (am_Dk d_jA_clear (k := 1) rfl) rfl ?_
  refine v_get (am_Dk d_jA_clear (k := 2) rfl) f_jA_63 hV4 rfl ?_
  refine v_iconst (v := 1) (am_Dk d_jA_clear (k := 3) rfl) (by decide) ?_
  refine v_iadd (am_Dk d_jA_clear (k := 4) rfl) ?_
  refine v_put (am_Dk d_jA_clear (k := 5) rfl) f_jA_63 hV4 (Nat.le_of_ble_eq_true rfl) rfl rfl ?_
  refine v_aload_n (am_Dk d_jA_clear (k := 6) rfl) rfl ?_
  have m1 : (am_up M 1004 (.inr (3, [.int ((mcn) + (1)), .ref ed, .int (nI c)]))) 1004 = some (.inr (3, [.int ((mcn) + (1)), .ref ed, .int (nI c)])) := am_up_eq _ _ _
  refine v_get (am_Dk d_jA_clear (k := 7) rfl) f_jA_9 m1 rfl ?_
  refine v_astore_n (L1 := [(1, .ref ed), (0, .ref 1004)]) (am_Dk d_jA_clear (k := 8) rfl) (by decide) rfl ?_
  refine v_aload_n (am_Dk d_jA_clear (k := 9) rfl) rfl ?_
  refine v_get (am_Dk d_jA_clear (k := 10) rfl) f_jA_48 m1 rfl ?_
  refine v_istore_n (L1 := [(2, .int (nI c)), (1, .ref ed), (0, .ref 1004)]) (am_Dk d_jA_clear (k := 11) rfl) (by decide) rfl ?_
  refine v_aload_n (am_Dk d_jA_clear (k := 12) rfl) rfl ?_
  refine v_iconst (v := 0) (am_Dk d_jA_clear (k := 13) rfl) (by decide) ?_
  refine v_dup_x1 (am_Dk d_jA_clear (k := 14) rfl) rfl rfl ?_
  refine v_put (am_Dk d_jA_clear (k := 15) rfl) f_jA_48 m1 (Nat.le_of_ble_eq_true rfl) rfl rfl ?_
  rw [am_uu0 (a := 1004)]
  refine v_istore_n (L1 := [(3, .int 0), (2, .int (nI c)), (1, .ref ed), (0, .ref 1004)]) (am_Dk d_jA_clear (k := 16) rfl) (by decide) rfl ?_
  exact l_jA_clear1 G hV hw hx c 0 _ (by omega) (am_up_eq _ _ _) (fun j q1 q2 => (am_up_ne (show j ≠ 1004 from by omega)).trans (rfl)) (fun q => by rcases hw.1 with ⟨g1, _⟩ | ⟨_, _, g3, _⟩; omega; exact ⟨R, ((am_up_ne (show ed ≠ 1004 from by omega)).trans (rfl)).trans g3⟩)
set_option maxRecDepth 20000 in
theorem t_VR_clear (G : am_G) {d nx : Nat} (hd : 1 ≤ d) {M : am_M} {pl er : Int32} (h0 : M 1000 = some (.inr (0, [.ref 1001, .ref 1003, .ref 1005, .int pl, .int er]))) {c ed cap : Nat} {Vi Vb Vl : Nat → Nat} {Vg : Nat → Nat → Int32} {Vn : Nat → Int64} {R : Nat → Option Nat} {mcn : Int32} (hV : vs M c Vi Vb Vl Vg Vn ed cap R mcn) (hw : vw M c Vi Vb ed cap R nx) (hx : 1240 ≤ nx) : am_Tr G m_VR_clear d 0 0 [.ref 1000] M nx (fun r M1 nx1 => r = .inl (some (.int (nI c))) ∧ nx1 = nx ∧ (∀ i, 1000 ≤ i → i < 1240 → ¬ i = 1004 → M1 i = M i) ∧ vz M1 0 Vl Vg Vn nx) := by
  refine am_TrOf (by decide) (Nat.le_of_ble_eq_true rfl) ?_
  show am_V G _ _ _ _ _ 0 [(0, .ref 1000)] [] M nx 0 0
  have hV4 := hV.2.1
  have hV3 := hV.1
  refine v_aload_n (am_Dk d_VR_clear (k := 0) rfl) rfl ?_
  refine v_get (am_Dk d_VR_clear (k := 1) rfl) f_VR_19 h0 rfl ?_
  refine v_get9 (am_Dk d_VR_clear (k := 2) rfl) r_VR_119 hV3 rfl ?_
  refine v_callV (rest := []) (As := []) (mc' := 0) (ms' := 0) (am_Dk d_VR_clear (k := 3) rfl) c_VR_123 (Or.inl ⟨_, _, _, _, _, hV4, cq_ok3⟩) (t_jA_size G (d := 0) (by omega) hV4) (by omega) (by omega) (by omega) (by simp [Value.category]) rfl (fun v1 M2 n3 h4 => ?_) (fun _ _ _ h4 => ?_)
  rotate_left
  · exact absurd h4.1 (by simp)
  obtain ⟨h4, e5, e6⟩ := h4
  replace e5 := e5.symm
  replace e6 := e6.symm
  subst e5
  subst e6
  cases h4
  show am_V G _ _ _ _ _ 10 [(0, .ref 1000)] [.int (nI c)] M nx 0 0
  refine v_istore_n (L1 := [(1, .int (nI c)), (0, .ref 1000)]) (am_Dk d_VR_clear (k := 4) rfl) (by decide) rfl ?_
  refine v_aload_n (am_Dk d_VR_clear (k := 5) rfl) rfl ?_
  refine v_get (am_Dk d_VR_clear (k := 6) rfl) f_VR_19 h0 rfl ?_
  refine v_get9 (am_Dk d_VR_clear (k := 7) rfl) r_VR_119 hV3 rfl ?_
  refine v_callV (rest := []) (As := []) (mc' := 0) (ms' := 0) (am_Dk d_VR_clear (k := 8) rfl) c_VR_136 (Or.inl ⟨_, _, _, _, _, hV4, cq_ok3⟩) (t_jA_clear G (d := 0) (by omega) hV hw hx) (by omega) (by omega) (by omega) (by simp [Value.category]) rfl (fun v7 M8 n9 h10 => ?_) (fun _ _ _ h10 => ?_)
  rotate_left
  · exact absurd h10.1 (by simp)
  obtain ⟨h10, e8, p1, p2⟩ := h10
  cases h10
  replace e8 := e8.symm
  subst e8
  show am_V G _ _ _ _ _ 21 [(1, .int (nI c)), (0, .ref 1000)] [] M8 nx 0 0
  refine v_iload_n (am_Dk d_VR_clear (k := 9) rfl) rfl ?_
  exact v_ireturn (am_Dk d_VR_clear (k := 10) rfl) rfl rfl (by omega) (by omega) ⟨rfl, rfl, p1, p2⟩
