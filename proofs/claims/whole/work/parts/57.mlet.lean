/-! LET OF THE REFERENCE (mine; rows laid by the walker) -/
def letV (W : Gho) (t : Nat) : Option (Nat × (Nat → Int32)) := if (W.2.1 t).1 = 10 then W.2.2 (W.2.1 t).2.1 else none
def nwL (Vl : Nat → Nat) (c l : Nat) : Nat → Nat := fun i => if i = c then l else Vl i
def nwG (Vg : Nat → Nat → Int32) (c : Nat) (g : Nat → Int32) : Nat → Nat → Int32 := fun i => if i = c then g else Vg i
theorem ar_root {LU : Nat → (Nat → Int32) → Option Int64} {T : Nat → Int32} {F : Nat → Nat} {ns vb pt : Nat} {Va Kd Nm Fi Ma Pa : Nat → Int32} {Nu : Nat → Int64} {W : Gho} {x : Nat} (h : ar_ok LU T F ns Va vb pt (Kd, Nm, Fi, Ma, Pa, Nu) W x) : (¬ Ma x = 2 ∧ (W.2.1 x).1 = 0) ∨ ∃ k b y z, Ma x = 2 ∧ k < ns ∧ Nm x = nI k ∧ Fi x = nI b ∧ b + 2 ≤ pt ∧ Pa (b + 0) = nI y ∧ Pa (b + 1) = nI z ∧ y < x ∧ z < x ∧ W.2.1 x = (ordN T F k, y, z) := by
  rcases h with ⟨_, h2, h3, _⟩ | ⟨_, h2, h3, _⟩ | ⟨_, _, k, c, b, k3, k4, k5⟩
  · exact Or.inl ⟨fun z => absurd (h2.symm.trans z) (by decide), h3⟩
  · exact Or.inl ⟨fun z => absurd (h2.symm.trans z) (by decide), h3⟩
  · obtain ⟨p1, p2, p3, p4, p5, p6, p7, p8, p9⟩ := k5
    by_cases hc : c = 2
    · obtain ⟨y, z, y1, z1, y2, z2, _, e⟩ := p7 hc
      refine Or.inr ⟨k, b, y, z, ?_, k3, k4, p3 (by omega), by omega, y2, z2, y1, z1, e⟩
      rw [hc] at p2
      exact p2
    · refine Or.inl ⟨fun z => hc ?_, p9 hc⟩
      have z1 := p2.symm.trans z
      rw [show (2 : Int32) = nI 2 from rfl] at z1
      exact (nI_eq (by omega) (by omega)).mp z1
theorem ar_vn {LU : Nat → (Nat → Int32) → Option Int64} {T : Nat → Int32} {F : Nat → Nat} {ns vb pt : Nat} {Va Kd Nm Fi Ma Pa : Nat → Int32} {Nu : Nat → Int64} {W : Gho} {x : Nat} (h : ar_ok LU T F ns Va vb pt (Kd, Nm, Fi, Ma, Pa, Nu) W x) : (¬ Kd x = 0 ∧ W.2.2 x = none) ∨ ∃ v, Kd x = 0 ∧ v < vb ∧ Nm x = nI v ∧ ((Va v = -1 ∧ W.2.2 x = none) ∨ ∃ k l g, k < ns ∧ Va v = nI k ∧ nmQ T F k l g ∧ W.2.2 x = some (l, g)) := by
  rcases h with ⟨h1, _, _, v, h4, h5, h6⟩ | ⟨h1, _, _, _, h5, _⟩ | ⟨h1, h2, _⟩
  · refine Or.inr ⟨v, h1, h4, h5, ?_⟩
    rcases h6 with ⟨a, _, b⟩ | ⟨k, l, g, a, b, c, d, _⟩
    · exact Or.inl ⟨a, b⟩
    · exact Or.inr ⟨k, l, g, a, b, c, d⟩
  · exact Or.inl ⟨fun z => absurd (h1.symm.trans z) (by decide), h5⟩
  · exact Or.inl ⟨fun z => absurd (h1.symm.trans z) (by decide), h2⟩
theorem tbl_set {M M1 : am_M} {c : Nat} {Vl : Nat → Nat} {Vg : Nat → Nat → Int32} {Vn : Nat → Int64} {P : Nat → Int32} {Q : Nat → Nat} (h : tbl M c Vl Vg Vn P Q) {Vr : Nat → Int64} (h5 : M 1235 = some (.inl (2, 51, .inr (.inl Vr)))) {i : Nat} {v : Int64} (hv : inR v) (g3 : M1 1233 = M 1233) (g4 : M1 1234 = M 1234) (g5 : M1 1235 = some (.inl (2, 51, .inr (.inl (vp_updL Vr i v))))) : tbl M1 c Vl Vg (vp_updL Vn i v) P Q := by
  obtain ⟨t1, t2, ⟨Qa, t3, t4⟩, ⟨Vr', t5, t6⟩, t7, t8, t9⟩ := h
  have e : Vr' = Vr := by
    have := t5.symm.trans h5
    simpa using this
  subst e
  refine ⟨g3.trans t1, t2, ⟨Qa, g4.trans t3, t4⟩, ⟨_, g5, fun j hj => ?_⟩, t7, fun j hj => ?_, t9⟩
  · by_cases hji : j = i
    · rw [hji, updL_at, updL_at]
    · rw [updL_ne _ _ hji, updL_ne _ _ hji, t6 j hj]
  · obtain ⟨a, b, d, e⟩ := t8 j hj
    refine ⟨a, b, d, ?_⟩
    by_cases hji : j = i
    · rw [hji, updL_at]; exact hv
    · rw [updL_ne _ _ hji]; exact e
theorem tbl_new {M M1 : am_M} {c : Nat} {Vl : Nat → Nat} {Vg : Nat → Nat → Int32} {Vn : Nat → Int64} {P : Nat → Int32} {Q : Nat → Nat} (h : tbl M c Vl Vg Vn P Q) {Vr : Nat → Int64} (h5 : M 1235 = some (.inl (2, 51, .inr (.inl Vr)))) {Qa : Nat → Int32} (h4 : M 1234 = some (.inl (1, 52, .inl Qa))) (hc : c < 50) {l : Nat} (hl : l ≤ 4096) {g w : Nat → Int32} (hg : tbB w) (hgw : ∀ j, j < l → w j = g j) {v : Int64} (hv : inR v) (g3 : M1 1233 = some (.inl (0, 210000, .inl (nmT P (Q c) l w)))) (g4 : M1 1234 = some (.inl (1, 52, .inl (upd Qa (c + 1) (nI (Q c + l)))))) (g5 : M1 1235 = some (.inl (2, 51, .inr (.inl (vp_updL Vr c v))))) : tbl M1 (c + 1) (nwL Vl c l) (nwG Vg c g) (vp_updL Vn c v) (nmT P (Q c) l w) (fun i => if i = c + 1 then Q c + l else Q i) := by
  have hQ := tbl_Q h
  obtain ⟨t1, t2, ⟨Qa', t3, t4⟩, ⟨Vr', t5, t6⟩, t7, t8, t9⟩ := h
  have e : Vr' = Vr := by
    have := t5.symm.trans h5
    simpa using this
  subst e
  have e : Qa' = Qa := by
    have := t3.symm.trans h4
    simpa using this
  subst e
  have hmon : ∀ m i, i + m = c → Q i ≤ Q c := by
    intro m
    induction m with
    | zero => intro i him; rw [show i = c from by omega]; exact Nat.le_refl _
    | succ m ih =>
      intro i him
      have := ih (i + 1) (by omega)
      have := (t8 i (by omega)).1
      omega
  refine ⟨g3, tbB_nmT t2 hg, ⟨_, g4, fun j hj => ?_⟩, ⟨_, g5, fun j hj => ?_⟩, ?_, fun j hj => ?_, by omega⟩
  · show upd Qa' (c + 1) (nI (Q c + l)) j = nI (if j = c + 1 then Q c + l else Q j)
    by_cases hjc : j = c + 1
    · rw [hjc, upd_at, if_pos rfl]
    · rw [upd_ne _ _ hjc, if_neg hjc, t4 j (by omega)]
  · by_cases hji : j = c
    · rw [hji, updL_at, updL_at]
    · rw [updL_ne _ _ hji, updL_ne _ _ hji, t6 j (by omega)]
  · show (if 0 = c + 1 then Q c + l else Q 0) = 0
    rw [if_neg (by omega)]; exact t7
  · show (if j + 1 = c + 1 then Q c + l else Q (j + 1)) = (if j = c + 1 then Q c + l else Q j) + nwL Vl c l j ∧ nwL Vl c l j ≤ 4096 ∧ (∀ i, i < nwL Vl c l j → nmT P (Q c) l w ((if j = c + 1 then Q c + l else Q j) + i) = nwG Vg c g j i) ∧ inR (vp_updL Vn c v j)
    rw [if_neg (show ¬ j = c + 1 by omega)]
    by_cases hji : j = c
    · rw [if_pos (by omega), nwL, nwG, if_pos hji, if_pos hji, hji, updL_at]
      refine ⟨rfl, hl, fun i hi => ?_, hv⟩
      rw [nmT, if_pos (by omega), show Q c + i - Q c = i from by omega]
      exact hgw i hi
    · rw [if_neg (by omega), nwL, nwG, if_neg hji, if_neg hji, updL_ne _ _ hji]
      obtain ⟨a, b, d, e⟩ := t8 j (by omega)
      refine ⟨a, b, fun i hi => ?_, e⟩
      have := hmon (c - (j + 1)) (j + 1) (by omega)
      rw [nmT, if_neg (by omega)]
      exact d i hi
set_option maxRecDepth 20000 in
theorem l_let1 (G : am_G) {d nx : Nat} (hd : 1 ≤ d) {M : am_M} {th ta pl er va : Int32} {re : Int64} (h0 : M 1211 = some (.inr (9, [.int th, .int ta, .int pl, .int er, .int va, .ref 1212, .ref 1213, .ref 1220, .ref 1225, .ref 1233, .ref 1234, .ref 1235, .ref 1236, .ref 1237, .ref 1238, .long re]))) {ns tx k : Nat} {T : Nat → Int32} {F : Nat → Nat} (hNM : NMs M ns tx T F) (hk : k < ns) (hns : ns ≤ 9000) (htx : tx ≤ 5000) {P Qa : Nat → Int32} {q c : Nat} (hP : M 1233 = some (.inl (0, 210000, .inl P))) (hPB : tbB P) (hQa : M 1234 = some (.inl (1, 52, .inl Qa))) (hQc : Qa c = nI q) (hq : q ≤ 204800) (hc : c < 50) {Q9 : am_Qt} (kc : am_V G m_MM_let d 0 0 Q9 256 [(4, .int (nI k)), (3, .int (nI c)), (0, .ref 1211)] [] (am_up M 1233 (.inl (0, 210000, .inl (nmT P q (nmL F k) (nmW T F k))))) nx 0 0) : ∀ m j, j + m = nmL F k → am_V G m_MM_let d 0 0 Q9 210 [(5, .int (nI j)), (4, .int (nI k)), (3, .int (nI c)), (0, .ref 1211)] [] (am_up M 1233 (.inl (0, 210000, .inl (nmT P q j (nmW T F k))))) nx 0 0 := by
  obtain ⟨hN0, hT0, hTB, hO, ⟨A, hF0, hA⟩, _, _⟩ := hNM
  have hF1 := nmO_le hO (k + 1) (by omega)
  have hkL : nmL F k ≤ 5000 := by rw [nmL]; omega
  intro m
  induction m with
  | zero =>
    intro j hjm
    refine v_iload (am_Dk d_MM_let (k := 116) rfl) rfl ?_
    refine v_aload_n (am_Dk d_MM_let (k := 117) rfl) rfl ?_
    have m1 : (am_up M 1233 (.inl (0, 210000, .inl (nmT P q j (nmW T F k))))) 1211 = some (.inr (9, [.int th, .int ta, .int pl, .int er, .int va, .ref 1212, .ref 1213, .ref 1220, .ref 1225, .ref 1233, .ref 1234, .ref 1235, .ref 1236, .ref 1237, .ref 1238, .long re])) := (am_up_ne (show 1211 ≠ 1233 from by decide)).trans (h0)
    refine v_get (am_Dk d_MM_let (k := 118) rfl) f_MM_27 m1 rfl ?_
    refine v_iload (am_Dk d_MM_let (k := 119) rfl) rfl ?_
    have m2 : (am_up M 1233 (.inl (0, 210000, .inl (nmT P q j (nmW T F k))))) 1220 = some (.inr (11, [.ref 1221, .ref 1222, .ref 1223, .ref 1224, .int (nI ns), .int (nI tx)])) := (am_up_ne (show 1220 ≠ 1233 from by decide)).trans (hN0)
    refine v_callV (rest := [.int (nI j)]) (As := [.int (nI k)]) (mc' := 0) (ms' := 0) (am_Dk d_MM_let (k := 120) rfl) c_MM_85 (Or.inl ⟨_, _, _, _, _, m2, cq_ok11⟩) (t_MN_length G (d := 0) (by omega) ((am_up_ne (show 1220 ≠ 1233 from by decide)).trans (hN0)) ((am_up_ne (show 1221 ≠ 1233 from by decide)).trans (hT0)) hO ((am_up_ne (show 1222 ≠ 1233 from by decide)).trans (hF0)) hA hk hns htx) (by omega) (by omega) (by omega) (by simp [Value.category]) rfl (fun v3 M4 n5 h6 => ?_) (fun _ _ _ h6 => ?_)
    rotate_left
    · exact absurd h6.1 (by simp)
    obtain ⟨h6, e7, e8⟩ := h6
    replace e7 := e7.symm
    replace e8 := e8.symm
    subst e7
    subst e8
    cases h6
    show am_V G _ _ _ _ _ 221 [(5, .int (nI j)), (4, .int (nI k)), (3, .int (nI c)), (0, .ref 1211)] [.int (nI (nmL F k)), .int (nI j)] (am_up M 1233 (.inl (0, 210000, .inl (nmT P q j (nmW T F k))))) nx 0 0
    refine v_icmp_ge (tgt := 256) (am_Dk d_MM_let (k := 121) rfl) (by decide) (fun c9 => ?_) (fun c9 => ?_)
    · have Nc9 := (nI_leI (a := nmL F k) (b := j) (by omega) (by omega)).mp c9
      refine am_V_eq ?_ (v_drop kc (by simp))
      rw [show j = nmL F k from by omega]
    · have Nc9 : ¬ (nmL F k) ≤ j := fun z => c9 ((nI_leI (a := nmL F k) (b := j) (by omega) (by omega)).mpr z)
      exfalso
      omega
  | succ m ih =>
    intro j hjm
    refine v_iload (am_Dk d_MM_let (k := 116) rfl) rfl ?_
    refine v_aload_n (am_Dk d_MM_let (k := 117) rfl) rfl ?_
    have m1 : (am_up M 1233 (.inl (0, 210000, .inl (nmT P q j (nmW T F k))))) 1211 = some (.inr (9, [.int th, .int ta, .int pl, .int er, .int va, .ref 1212, .ref 1213, .ref 1220, .ref 1225, .ref 1233, .ref 1234, .ref 1235, .ref 1236, .ref 1237, .ref 1238, .long re])) := (am_up_ne (show 1211 ≠ 1233 from by decide)).trans (h0)
    refine v_get (am_Dk d_MM_let (k := 118) rfl) f_MM_27 m1 rfl ?_
    refine v_iload (am_Dk d_MM_let (k := 119) rfl) rfl ?_
    have m2 : (am_up M 1233 (.inl (0, 210000, .inl (nmT P q j (nmW T F k))))) 1220 = some (.inr (11, [.ref 1221, .ref 1222, .ref 1223, .ref 1224, .int (nI ns), .int (nI tx)])) := (am_up_ne (show 1220 ≠ 1233 from by decide)).trans (hN0)
    refine v_callV (rest := [.int (nI j)]) (As := [.int (nI k)]) (mc' := 0) (ms' := 0) (am_Dk d_MM_let (k := 120) rfl) c_MM_85 (Or.inl ⟨_, _, _, _, _, m2, cq_ok11⟩) (t_MN_length G (d := 0) (by omega) ((am_up_ne (show 1220 ≠ 1233 from by decide)).trans (hN0)) ((am_up_ne (show 1221 ≠ 1233 from by decide)).trans (hT0)) hO ((am_up_ne (show 1222 ≠ 1233 from by decide)).trans (hF0)) hA hk hns htx) (by omega) (by omega) (by omega) (by simp [Value.category]) rfl (fun v3 M4 n5 h6 => ?_) (fun _ _ _ h6 => ?_)
    rotate_left
    · exact absurd h6.1 (by simp)
    obtain ⟨h6, e7, e8⟩ := h6
    replace e7 := e7.symm
    replace e8 := e8.symm
    subst e7
    subst e8
    cases h6
    show am_V G _ _ _ _ _ 221 [(5, .int (nI j)), (4, .int (nI k)), (3, .int (nI c)), (0, .ref 1211)] [.int (nI (nmL F k)), .int (nI j)] (am_up M 1233 (.inl (0, 210000, .inl (nmT P q j (nmW T F k))))) nx 0 0
    refine v_icmp_ge (tgt := 256) (am_Dk d_MM_let (k := 121) rfl) (by decide) (fun c9 => ?_) (fun c9 => ?_)
    · have Nc9 := (nI_leI (a := nmL F k) (b := j) (by omega) (by omega)).mp c9
      exfalso
      omega
    · have Nc9 : ¬ (nmL F k) ≤ j := fun z => c9 ((nI_leI (a := nmL F k) (b := j) (by omega) (by omega)).mpr z)
      refine v_aload_n (am_Dk d_MM_let (k := 122) rfl) rfl ?_
      refine v_get (am_Dk d_MM_let (k := 123) rfl) f_MM_41 m1 rfl ?_
      refine v_aload_n (am_Dk d_MM_let (k := 124) rfl) rfl ?_
      refine v_get (am_Dk d_MM_let (k := 125) rfl) f_MM_44 m1 rfl ?_
      refine v_iload_n (am_Dk d_MM_let (k := 126) rfl) rfl ?_
      have m10 : (am_up M 1233 (.inl (0, 210000, .inl (nmT P q j (nmW T F k))))) 1234 = some (.inl (1, 52, .inl Qa)) := (am_up_ne (show 1234 ≠ 1233 from by decide)).trans (hQa)
      refine v_iald (am_Dk d_MM_let (k := 127) rfl) m10 rfl (vp_in_nI (by omega) (by omega)) ?_
      rw [nI_clamp (n := c) (by omega)]
      rw [show Qa c = nI q from hQc]
      refine v_iload (am_Dk d_MM_let (k := 128) rfl) rfl ?_
      refine v_iadd (am_Dk d_MM_let (k := 129) rfl) ?_
      rw [nI_add]
      refine v_aload_n (am_Dk d_MM_let (k := 130) rfl) rfl ?_
      refine v_get (am_Dk d_MM_let (k := 131) rfl) f_MM_27 m1 rfl ?_
      refine v_iload (am_Dk d_MM_let (k := 132) rfl) rfl ?_
      refine v_iload (am_Dk d_MM_let (k := 133) rfl) rfl ?_
      refine v_callV (rest := [.int (nI (q + j)), .ref 1233]) (As := [.int (nI k), .int (nI j)]) (mc' := 0) (ms' := 0) (am_Dk d_MM_let (k := 134) rfl) c_MM_88 (Or.inl ⟨_, _, _, _, _, m2, cq_ok11⟩) (t_MN_at G (d := 0) (by omega) ((am_up_ne (show 1220 ≠ 1233 from by decide)).trans (hN0)) ((am_up_ne (show 1221 ≠ 1233 from by decide)).trans (hT0)) hO ((am_up_ne (show 1222 ≠ 1233 from by decide)).trans (hF0)) hA hk hns htx (i := j) (by omega)) (by omega) (by omega) (by omega) (by simp [Value.category]) rfl (fun v11 M12 n13 h14 => ?_) (fun _ _ _ h14 => ?_)
      rotate_left
      · exact absurd h14.1 (by simp)
      obtain ⟨h14, e15, e16⟩ := h14
      replace e15 := e15.symm
      replace e16 := e16.symm
      subst e15
      subst e16
      cases h14
      show am_V G _ _ _ _ _ 248 [(5, .int (nI j)), (4, .int (nI k)), (3, .int (nI c)), (0, .ref 1211)] [.int (nmW T F k j), .int (nI (q + j)), .ref 1233] (am_up M 1233 (.inl (0, 210000, .inl (nmT P q j (nmW T F k))))) nx 0 0
      refine v_i2b (am_Dk d_MM_let (k := 135) rfl) rfl ?_
      have m17 : (am_up M 1233 (.inl (0, 210000, .inl (nmT P q j (nmW T F k))))) 1233 = some (.inl (0, 210000, .inl (nmT P q j (nmW T F k)))) := am_up_eq _ _ _
      refine v_bast (am_Dk d_MM_let (k := 136) rfl) m17 rfl (vp_in_nI (by omega) (by omega)) ?_
      rw [nI_clamp (n := q + j) (by omega), lt_nar (a := nmW T F k j) (hTB _), am_uu0 (a := 1233), nmT_1]
      refine v_iinc (v := nI (j + 1)) (L1 := [(5, .int (nI (j + 1))), (4, .int (nI k)), (3, .int (nI c)), (0, .ref 1211)]) (am_Dk d_MM_let (k := 137) rfl) rfl (nI_1 _) (by decide) rfl ?_
      refine v_goto (tgt := 210) (am_Dk d_MM_let (k := 138) rfl) (by decide) ?_
      exact ih (j + 1) (by omega)
theorem vmt_nm {Vl : Nat → Nat} {Vg : Nat → Nat → Int32} {T : Nat → Int32} {F : Nat → Nat} {k l : Nat} {g : Nat → Int32} (h : nmQ T F k l g) : vmt Vl Vg (nmL F k) (nmW T F k) = vmt Vl Vg l g := by
  funext i
  rw [vmt, vmt, h.1]
  congr 1
  apply propext
  constructor
  · exact fun ⟨a1, a2⟩ => ⟨a1, fun j hj => (a2 j hj).trans (h.2 j hj)⟩
  · exact fun ⟨a1, a2⟩ => ⟨a1, fun j hj => (a2 j hj).trans (h.2 j hj).symm⟩
theorem rx_fr3 {f : Nat → Int32} {M M1 : am_M} (h : rx f M) (hf : ∀ i, ¬ (i = 1211 ∨ (1233 ≤ i ∧ i ≤ 1238)) → M1 i = M i) : rx f M1 := by
  obtain ⟨a, ⟨A, sz, pt, b⟩, ⟨s9, t9, c⟩, ⟨T, d, d2⟩, ⟨A9, e⟩, ⟨X, e2⟩, ⟨Y, e3⟩, ⟨g, g1, g2⟩, ⟨S, g3⟩, ⟨V, g4⟩, ⟨kc, g5⟩⟩ := h
  exact ⟨mb_fr a (fun i hi => hf i (by omega)), ⟨A, sz, pt, ARs_fr b (fun i h1 h2 => hf i (by omega))⟩, ⟨s9, t9, (hf _ (by omega)).trans c⟩, ⟨T, (hf _ (by omega)).trans d, d2⟩, ⟨A9, (hf _ (by omega)).trans e⟩, ⟨X, (hf _ (by omega)).trans e2⟩, ⟨Y, (hf _ (by omega)).trans e3⟩, ⟨g, (hf _ (by omega)).trans g1, g2⟩, ⟨S, (hf _ (by omega)).trans g3⟩, ⟨V, (hf _ (by omega)).trans g4⟩, ⟨kc, (hf _ (by omega)).trans g5⟩⟩
set_option maxRecDepth 20000 in
theorem t_MM_let (G : am_G) {d nx : Nat} (hd : 412 ≤ d) {M : am_M} {f : Nat → Int32} {n : Nat} {LU : Nat → (Nat → Int32) → Option Int64} {lu : Nat → Nat → Option Int64} (hb : tbB f) (hn : n ≤ 4096) (hU : luOk f n LU lu) {c : Nat} {Vl : Nat → Nat} {Vg : Nat → Nat → Int32} {Vn : Nat → Int64} {P : Nat → Int32} {Q : Nat → Nat} (hT9 : tbl M c Vl Vg Vn P Q) (hLU : LU = luT c Vl Vg Vn) {th pl er : Int32} {re : Int64} (h0 : M 1211 = some (.inr (9, [.int th, .int (nI n), .int pl, .int er, .int (nI c), .ref 1212, .ref 1213, .ref 1220, .ref 1225, .ref 1233, .ref 1234, .ref 1235, .ref 1236, .ref 1237, .ref 1238, .long re]))) (hx : rx f M) (hrc : rcell M) (hwk : wks M) : am_Tr G m_MM_let d 0 0 [.ref 1211] M nx (fun r M1 nx1 => nx1 = nx ∧ (∀ i, i < 1211 ∨ 1238 < i → M1 i = M i) ∧ rx f M1 ∧ rcell M1 ∧ wks M1 ∧ ((∃ w re1, w ≤ n ∧ rdBad f n lu w ∧ r = .inl (some (.int 0)) ∧ tbl M1 c Vl Vg Vn P Q ∧ M1 1211 = some (.inr (9, [.int 2, .int 0, .int (nI w), .int 0, .int (nI c), .ref 1212, .ref 1213, .ref 1220, .ref 1225, .ref 1233, .ref 1234, .ref 1235, .ref 1236, .ref 1237, .ref 1238, .long re1]))) ∨ ∃ W t sz re1, rdOk f n lu W t sz ∧ ((letV W t = none ∧ r = .inl (some (.int 0)) ∧ tbl M1 c Vl Vg Vn P Q ∧ M1 1211 = some (.inr (9, [.int 2, .int 0, .int 0, .int 0, .int (nI c), .ref 1212, .ref 1213, .ref 1220, .ref 1225, .ref 1233, .ref 1234, .ref 1235, .ref 1236, .ref 1237, .ref 1238, .long re1]))) ∨ ∃ q, letV W t = some q ∧ ((¬ (W.1 (W.2.1 t).2.2).1 = 0 ∧ r = .inl (some (.int 0)) ∧ tbl M1 c Vl Vg Vn P Q ∧ M1 1211 = some (.inr (9, [.int 1, .int 0, .int (-1), .int ((W.1 (W.2.1 t).2.2).1), .int (nI c), .ref 1212, .ref 1213, .ref 1220, .ref 1225, .ref 1233, .ref 1234, .ref 1235, .ref 1236, .ref 1237, .ref 1238, .long re1]))) ∨ ((W.1 (W.2.1 t).2.2).1 = 0 ∧ inR (W.1 (W.2.1 t).2.2).2 ∧ ((∃ i, vfF (vmt Vl Vg q.1 q.2) c 0 = some i ∧ r = .inl (some (.int (nI c))) ∧ tbl M1 c Vl Vg (vp_updL Vn i (W.1 (W.2.1 t).2.2).2) P Q ∧ M1 1211 = some (.inr (9, [.int 0, .int 0, .int (-1), .int 0, .int (nI c), .ref 1212, .ref 1213, .ref 1220, .ref 1225, .ref 1233, .ref 1234, .ref 1235, .ref 1236, .ref 1237, .ref 1238, .long re1]))) ∨ (vfF (vmt Vl Vg q.1 q.2) c 0 = none ∧ c = 50 ∧ r = .inl (some (.int 0)) ∧ tbl M1 c Vl Vg Vn P Q ∧ M1 1211 = some (.inr (9, [.int 3, .int 0, .int (-1), .int 0, .int (nI c), .ref 1212, .ref 1213, .ref 1220, .ref 1225, .ref 1233, .ref 1234, .ref 1235, .ref 1236, .ref 1237, .ref 1238, .long re1]))) ∨ (vfF (vmt Vl Vg q.1 q.2) c 0 = none ∧ c < 50 ∧ r = .inl (some (.int (nI (c + 1)))) ∧ (∃ P' Q', tbl M1 (c + 1) (nwL Vl c q.1) (nwG Vg c q.2) (vp_updL Vn c (W.1 (W.2.1 t).2.2).2) P' Q') ∧ M1 1211 = some (.inr (9, [.int 0, .int 0, .int (-1), .int 0, .int (nI (c + 1)), .ref 1212, .ref 1213, .ref 1220, .ref 1225, .ref 1233, .ref 1234, .ref 1235, .ref 1236, .ref 1237, .ref 1238, .long re1]))))))))) := by
  refine am_TrOf (by decide) (Nat.le_of_ble_eq_true rfl) ?_
  show am_V G _ _ _ _ _ 0 [(0, .ref 1211)] [] M nx 0 0
  refine v_aload_n (am_Dk d_MM_let (k := 0) rfl) rfl ?_
  refine v_callV (rest := []) (As := []) (mc' := 0) (ms' := 0) (am_Dk d_MM_let (k := 1) rfl) c_MM_172 (Or.inl ⟨_, _, _, _, _, h0, cq_ok9⟩) (t_MM_text G (LU := LU) (lu := lu) (d := 411) (by omega) hb hn hU h0 hx hrc) (by omega) (by omega) (by omega) (by simp [Value.category]) rfl (fun v1 M2 n3 h4 => ?_) (fun _ _ _ h4 => ?_)
  rotate_left
  · obtain ⟨_, _, hT8⟩ := h4; rcases hT8 with ⟨_, _, _, _, _, _, _, _, _, _, _, hx9, _⟩ | ⟨_, _, hx9, _⟩ <;> cases hx9
  obtain ⟨hx9, hfT, hT8⟩ := h4
  replace hx9 := hx9.symm
  subst hx9
  have hTb : tbl M2 c Vl Vg Vn P Q := tbl_fr hT9 (fun i z1 z2 => hfT i (by omega))
  obtain ⟨⟨Wk0, hW0⟩, ⟨Sg0, hS0⟩, ⟨Lf0, hL0⟩⟩ := hwk
  replace hW0 := (hfT 1236 (by omega)).trans hW0
  replace hS0 := (hfT 1237 (by omega)).trans hS0
  replace hL0 := (hfT 1238 (by omega)).trans hL0
  rcases hT8 with ⟨t, sz, pt, ns, tx, vb, e1, e2, W, On, Vx, hv, hR, hrx, hrc1, q11, z1, z2, z3, z4, z5, z6, hok⟩ | ⟨wB, hwn, hv, hrx, hrc1, q11, hbad⟩
  · cases hv
    obtain ⟨sv, n9, a9, b9, t9, o9, l9, p9, q9, v9, k9, r9, u9, hrcx⟩ := hrc1
    have hrc1 : rcell M2 := ⟨sv, n9, a9, b9, t9, o9, l9, p9, q9, v9, k9, r9, u9, hrcx⟩
    obtain ⟨⟨Kd, Nm, Fi, Ma, Pa, Nu⟩, T, F, Va, hX⟩ := hR
    obtain ⟨hN, hT, hTB, hO, ⟨A9, hF, hA⟩, _, _⟩ := id hX.2.1
    have hKd : M2 1214 = some (.inl (1, 9000, .inl Kd)) := hX.1.2.1
    have hNm : M2 1215 = some (.inl (1, 9000, .inl Nm)) := hX.1.2.2.1
    have hFi : M2 1216 = some (.inl (1, 9000, .inl Fi)) := hX.1.2.2.2.1
    have hMa : M2 1217 = some (.inl (1, 9000, .inl Ma)) := hX.1.2.2.2.2.1
    have hPa : M2 1218 = some (.inl (1, 9000, .inl Pa)) := hX.1.2.2.2.2.2.1
    obtain ⟨hP, hPB, ⟨Qa, hQa, hQk⟩, ⟨Vr, hVr, hVk⟩, hQ0, hti, hc50⟩ := id hTb
    have hrt := hX.2.2.2.1 t z1
    rcases ar_root hrt with ⟨hM2, hr0⟩ | ⟨k, b, y, z, hM2, hk, hNk, hFb, hbp, hPy, hPz, hy, hz, hr3⟩
    · have hLn : letV W t = none := by rw [letV, hr0, if_neg (by decide)]
      show am_V G _ _ _ _ _ 4 [(0, .ref 1211)] [.int (nI t)] M2 nx 0 0
      refine v_istore_n (L1 := [(1, .int (nI t)), (0, .ref 1211)]) (am_Dk d_MM_let (k := 2) rfl) (by decide) rfl ?_
      refine v_iload_n (am_Dk d_MM_let (k := 3) rfl) rfl ?_
      refine v_iconst (v := (-1)) (am_Dk d_MM_let (k := 4) rfl) (by decide) ?_
      refine v_icmp_ne (tgt := 16) (am_Dk d_MM_let (k := 5) rfl) (by decide) (fun c5 => ?_) (fun c5 => ?_)
      · refine v_aload_n (am_Dk d_MM_let (k := 10) rfl) rfl ?_
        refine v_get (am_Dk d_MM_let (k := 11) rfl) f_MM_20 q11 rfl ?_
        refine v_get9 (am_Dk d_MM_let (k := 12) rfl) r_MM_98 hX.1.1 rfl ?_
        refine v_iload_n (am_Dk d_MM_let (k := 13) rfl) rfl ?_
        refine v_iald (am_Dk d_MM_let (k := 14) rfl) hMa rfl (vp_in_nI (by omega) (by omega)) ?_
        rw [nI_clamp (n := t) (by omega)]
        refine v_iconst (v := 2) (am_Dk d_MM_let (k := 15) rfl) (by decide) ?_
        refine v_icmp_ne (tgt := 62) (am_Dk d_MM_let (k := 16) rfl) (by decide) (fun c6 => ?_) (fun c6 => ?_)
        · refine v_iconst (v := (-1)) (am_Dk d_MM_let (k := 33) rfl) (by decide) ?_
          refine v_istore_n (L1 := [(2, .int (-1)), (1, .int (nI t)), (0, .ref 1211)]) (am_Dk d_MM_let (k := 34) rfl) (by decide) rfl ?_
          refine v_iload_n (am_Dk d_MM_let (k := 35) rfl) rfl ?_
          refine v_iconst (v := (-1)) (am_Dk d_MM_let (k := 36) rfl) (by decide) ?_
          refine v_icmp_eq (tgt := 102) (am_Dk d_MM_let (k := 37) rfl) (by decide) (fun c7 => ?_) (fun c7 => ?_)
          · refine v_aload_n (am_Dk d_MM_let (k := 55) rfl) rfl ?_
            refine v_iconst (v := 0) (am_Dk d_MM_let (k := 56) rfl) (by decide) ?_
            refine v_put (am_Dk d_MM_let (k := 57) rfl) f_MM_9 q11 (Nat.le_of_ble_eq_true rfl) rfl rfl ?_
            refine v_aload_n (am_Dk d_MM_let (k := 58) rfl) rfl ?_
            refine v_iconst (v := 2) (am_Dk d_MM_let (k := 59) rfl) (by decide) ?_
            have m8 : (am_up M2 1211 (.inr (9, [.int 0, .int 0, .int 0, .int 0, .int (nI c), .ref 1212, .ref 1213, .ref 1220, .ref 1225, .ref 1233, .ref 1234, .ref 1235, .ref 1236, .ref 1237, .ref 1238, .long re]))) 1211 = some (.inr (9, [.int 0, .int 0, .int 0, .int 0, .int (nI c), .ref 1212, .ref 1213, .ref 1220, .ref 1225, .ref 1233, .ref 1234, .ref 1235, .ref 1236, .ref 1237, .ref 1238, .long re])) := am_up_eq _ _ _
            refine v_callV (rest := []) (As := [.int 2]) (mc' := 0) (ms' := 0) (am_Dk d_MM_let (k := 60) rfl) c_MM_67 (Or.inl ⟨_, _, _, _, _, m8, cq_ok9⟩) (t_MM_fail G (d := 0) (n := 0) (by omega) m8) (by omega) (by omega) (by omega) (by simp [Value.category]) rfl (fun v9 M10 n11 h12 => ?_) (fun _ _ _ h12 => ?_)
            rotate_left
            · exact absurd h12.1 (by simp)
            obtain ⟨h12, e13, e14⟩ := h12
            replace e13 := e13.symm
            replace e14 := e14.symm
            subst e13
            subst e14
            cases h12
            rw [am_uu0 (a := 1211)]
            show am_V G _ _ _ _ _ 112 [(2, .int (-1)), (1, .int (nI t)), (0, .ref 1211)] [.int 0] (am_up M2 1211 (.inr (9, [.int 2, .int 0, .int 0, .int 0, .int (nI c), .ref 1212, .ref 1213, .ref 1220, .ref 1225, .ref 1233, .ref 1234, .ref 1235, .ref 1236, .ref 1237, .ref 1238, .long re]))) nx 0 0
            exact v_ireturn (am_Dk d_MM_let (k := 61) rfl) rfl rfl (by omega) (by omega) ⟨rfl, fun i hi => (am_up_ne (show i ≠ 1211 from by omega)).trans ((hfT i (by omega))), rx_fr3 hrx (fun i hi => (am_up_ne (show i ≠ 1211 from by omega)).trans (rfl)), rcell_fr hrc1 ((am_up_ne (show 1225 ≠ 1211 from by decide)).trans (rfl)), ⟨⟨_, (am_up_ne (show 1236 ≠ 1211 from by omega)).trans (hW0)⟩, ⟨_, (am_up_ne (show 1237 ≠ 1211 from by omega)).trans (hS0)⟩, ⟨_, (am_up_ne (show 1238 ≠ 1211 from by omega)).trans (hL0)⟩⟩, Or.inr ⟨W, t, sz, _, hok, Or.inl ⟨hLn, rfl, tbl_fr hTb (fun i z1 z2 => (am_up_ne (show i ≠ 1211 from by omega)).trans (rfl)), am_up_eq _ _ _⟩⟩⟩
          · exact absurd (by decide) c7
        · exact absurd c6 hM2
      · exact absurd c5 (nI_nm1 (by omega))
    · by_cases ho : ordN T F k = 10
      · have qs : bi (spv (kn_w 10) (nmL F k) (nmW T F k)) = 1 := by rw [spv_iff (by decide), show decide (spg (nmL F k) (nmW T F k) = 10) = true from decide_eq_true ho]; rfl
        have hW2 : (W.2.1 t).2.2 = z := by rw [hr3]
        have hW1 : (W.2.1 t).2.1 = y := by rw [hr3]
        have hLy : letV W t = W.2.2 y := by rw [letV, hr3, if_pos ho]
        rcases ar_vn (hX.2.2.2.1 y (by omega)) with ⟨hKy, hy2⟩ | ⟨v, hKy, hv, hNy, hy2⟩
        · have hLn : letV W t = none := hLy.trans hy2
          show am_V G _ _ _ _ _ 4 [(0, .ref 1211)] [.int (nI t)] M2 nx 0 0
          refine v_istore_n (L1 := [(1, .int (nI t)), (0, .ref 1211)]) (am_Dk d_MM_let (k := 2) rfl) (by decide) rfl ?_
          refine v_iload_n (am_Dk d_MM_let (k := 3) rfl) rfl ?_
          refine v_iconst (v := (-1)) (am_Dk d_MM_let (k := 4) rfl) (by decide) ?_
          refine v_icmp_ne (tgt := 16) (am_Dk d_MM_let (k := 5) rfl) (by decide) (fun c15 => ?_) (fun c15 => ?_)
          · refine v_aload_n (am_Dk d_MM_let (k := 10) rfl) rfl ?_
            refine v_get (am_Dk d_MM_let (k := 11) rfl) f_MM_20 q11 rfl ?_
            refine v_get9 (am_Dk d_MM_let (k := 12) rfl) r_MM_98 hX.1.1 rfl ?_
            refine v_iload_n (am_Dk d_MM_let (k := 13) rfl) rfl ?_
            refine v_iald (am_Dk d_MM_let (k := 14) rfl) hMa rfl (vp_in_nI (by omega) (by omega)) ?_
            rw [nI_clamp (n := t) (by omega)]
            rw [show Ma t = 2 from hM2]
            refine v_iconst (v := 2) (am_Dk d_MM_let (k := 15) rfl) (by decide) ?_
            refine v_icmp_ne (tgt := 62) (am_Dk d_MM_let (k := 16) rfl) (by decide) (fun c16 => ?_) (fun c16 => ?_)
            · exact absurd (by decide) c16
            · refine v_aload_n (am_Dk d_MM_let (k := 17) rfl) rfl ?_
              refine v_get (am_Dk d_MM_let (k := 18) rfl) f_MM_27 q11 rfl ?_
              refine v_aload_n (am_Dk d_MM_let (k := 19) rfl) rfl ?_
              refine v_get (am_Dk d_MM_let (k := 20) rfl) f_MM_20 q11 rfl ?_
              refine v_get9 (am_Dk d_MM_let (k := 21) rfl) r_MM_95 hX.1.1 rfl ?_
              refine v_iload_n (am_Dk d_MM_let (k := 22) rfl) rfl ?_
              refine v_iald (am_Dk d_MM_let (k := 23) rfl) hNm rfl (vp_in_nI (by omega) (by omega)) ?_
              rw [nI_clamp (n := t) (by omega)]
              rw [show Nm t = nI k from hNk]
              refine v_ldcS (i := 134) (tx := "is") (am_Dk d_MM_let (k := 24) rfl) (by decide +kernel) ?_
              refine v_callV (rest := []) (As := [.int (nI k), .ref 134]) (mc' := 0) (ms' := 0) (am_Dk d_MM_let (k := 25) rfl) c_MM_103 (Or.inl ⟨_, _, _, _, _, hN, cq_ok11⟩) (t_MN_spells G (d := 4) (by omega) (hN) (hT) hO (hF) hA hk (by omega) (by omega) mmS_134) (by omega) (by omega) (by omega) (by simp [Value.category]) rfl (fun v17 M18 n19 h20 => ?_) (fun _ _ _ h20 => ?_)
              rotate_left
              · exact absurd h20.1 (by simp)
              obtain ⟨h20, e21, e22⟩ := h20
              replace e21 := e21.symm
              replace e22 := e22.symm
              subst e21
              subst e22
              cases h20
              show am_V G _ _ _ _ _ 47 [(1, .int (nI t)), (0, .ref 1211)] [.int (bi (spv (kn_w 10) (nmL F k) (nmW T F k)))] M2 nx 0 0
              rw [qs]
              show am_V G _ _ _ _ _ 47 [(1, .int (nI t)), (0, .ref 1211)] [.int 1] M2 nx 0 0
              refine v_if_eq (tgt := 62) (am_Dk d_MM_let (k := 26) rfl) (by decide) (fun c23 => ?_) (fun c23 => ?_)
              · exact absurd c23 (by decide)
              · refine v_aload_n (am_Dk d_MM_let (k := 27) rfl) rfl ?_
                refine v_get (am_Dk d_MM_let (k := 28) rfl) f_MM_20 q11 rfl ?_
                refine v_iload_n (am_Dk d_MM_let (k := 29) rfl) rfl ?_
                refine v_iconst (v := 0) (am_Dk d_MM_let (k := 30) rfl) (by decide) ?_
                refine v_callV (rest := []) (As := [.int (nI t), .int 0]) (mc' := 0) (ms' := 0) (am_Dk d_MM_let (k := 31) rfl) c_MM_139 (Or.inl ⟨_, _, _, _, _, hX.1.1, cq_ok10⟩) (t_MT_part G (d := 0) (b := b) (i := 0) (by omega) (ARs_fr hX.1 (fun i z1 z2 => rfl)) (by omega) hFb (by omega)) (by omega) (by omega) (by omega) (by simp [Value.category]) rfl (fun v24 M25 n26 h27 => ?_) (fun _ _ _ h27 => ?_)
                rotate_left
                · exact absurd h27.1 (by simp)
                obtain ⟨h27, e28, e29⟩ := h27
                replace e28 := e28.symm
                replace e29 := e29.symm
                subst e28
                subst e29
                cases h27
                show am_V G _ _ _ _ _ 59 [(1, .int (nI t)), (0, .ref 1211)] [.int (Pa (b + 0))] M2 nx 0 0
                rw [hPy]
                show am_V G _ _ _ _ _ 59 [(1, .int (nI t)), (0, .ref 1211)] [.int (nI y)] M2 nx 0 0
                refine v_goto (tgt := 63) (am_Dk d_MM_let (k := 32) rfl) (by decide) ?_
                refine v_istore_n (L1 := [(2, .int (nI y)), (1, .int (nI t)), (0, .ref 1211)]) (am_Dk d_MM_let (k := 34) rfl) (by decide) rfl ?_
                refine v_iload_n (am_Dk d_MM_let (k := 35) rfl) rfl ?_
                refine v_iconst (v := (-1)) (am_Dk d_MM_let (k := 36) rfl) (by decide) ?_
                refine v_icmp_eq (tgt := 102) (am_Dk d_MM_let (k := 37) rfl) (by decide) (fun c30 => ?_) (fun c30 => ?_)
                · exact absurd c30 (nI_nm1 (by omega))
                · refine v_aload_n (am_Dk d_MM_let (k := 38) rfl) rfl ?_
                  refine v_get (am_Dk d_MM_let (k := 39) rfl) f_MM_20 q11 rfl ?_
                  refine v_get9 (am_Dk d_MM_let (k := 40) rfl) r_MM_92 hX.1.1 rfl ?_
                  refine v_iload_n (am_Dk d_MM_let (k := 41) rfl) rfl ?_
                  refine v_iald (am_Dk d_MM_let (k := 42) rfl) hKd rfl (vp_in_nI (by omega) (by omega)) ?_
                  rw [nI_clamp (n := y) (by omega)]
                  refine v_if_ne (tgt := 102) (am_Dk d_MM_let (k := 43) rfl) (by decide) (fun c31 => ?_) (fun c31 => ?_)
                  · refine v_aload_n (am_Dk d_MM_let (k := 55) rfl) rfl ?_
                    refine v_iconst (v := 0) (am_Dk d_MM_let (k := 56) rfl) (by decide) ?_
                    refine v_put (am_Dk d_MM_let (k := 57) rfl) f_MM_9 q11 (Nat.le_of_ble_eq_true rfl) rfl rfl ?_
                    refine v_aload_n (am_Dk d_MM_let (k := 58) rfl) rfl ?_
                    refine v_iconst (v := 2) (am_Dk d_MM_let (k := 59) rfl) (by decide) ?_
                    have m32 : (am_up M2 1211 (.inr (9, [.int 0, .int 0, .int 0, .int 0, .int (nI c), .ref 1212, .ref 1213, .ref 1220, .ref 1225, .ref 1233, .ref 1234, .ref 1235, .ref 1236, .ref 1237, .ref 1238, .long re]))) 1211 = some (.inr (9, [.int 0, .int 0, .int 0, .int 0, .int (nI c), .ref 1212, .ref 1213, .ref 1220, .ref 1225, .ref 1233, .ref 1234, .ref 1235, .ref 1236, .ref 1237, .ref 1238, .long re])) := am_up_eq _ _ _
                    refine v_callV (rest := []) (As := [.int 2]) (mc' := 0) (ms' := 0) (am_Dk d_MM_let (k := 60) rfl) c_MM_67 (Or.inl ⟨_, _, _, _, _, m32, cq_ok9⟩) (t_MM_fail G (d := 0) (n := 0) (by omega) m32) (by omega) (by omega) (by omega) (by simp [Value.category]) rfl (fun v33 M34 n35 h36 => ?_) (fun _ _ _ h36 => ?_)
                    rotate_left
                    · exact absurd h36.1 (by simp)
                    obtain ⟨h36, e37, e38⟩ := h36
                    replace e37 := e37.symm
                    replace e38 := e38.symm
                    subst e37
                    subst e38
                    cases h36
                    rw [am_uu0 (a := 1211)]
                    show am_V G _ _ _ _ _ 112 [(2, .int (nI y)), (1, .int (nI t)), (0, .ref 1211)] [.int 0] (am_up M2 1211 (.inr (9, [.int 2, .int 0, .int 0, .int 0, .int (nI c), .ref 1212, .ref 1213, .ref 1220, .ref 1225, .ref 1233, .ref 1234, .ref 1235, .ref 1236, .ref 1237, .ref 1238, .long re]))) nx 0 0
                    exact v_ireturn (am_Dk d_MM_let (k := 61) rfl) rfl rfl (by omega) (by omega) ⟨rfl, fun i hi => (am_up_ne (show i ≠ 1211 from by omega)).trans ((hfT i (by omega))), rx_fr3 hrx (fun i hi => (am_up_ne (show i ≠ 1211 from by omega)).trans (rfl)), rcell_fr hrc1 ((am_up_ne (show 1225 ≠ 1211 from by decide)).trans (rfl)), ⟨⟨_, (am_up_ne (show 1236 ≠ 1211 from by omega)).trans (hW0)⟩, ⟨_, (am_up_ne (show 1237 ≠ 1211 from by omega)).trans (hS0)⟩, ⟨_, (am_up_ne (show 1238 ≠ 1211 from by omega)).trans (hL0)⟩⟩, Or.inr ⟨W, t, sz, _, hok, Or.inl ⟨hLn, rfl, tbl_fr hTb (fun i z1 z2 => (am_up_ne (show i ≠ 1211 from by omega)).trans (rfl)), am_up_eq _ _ _⟩⟩⟩
                  · exact absurd c31 hKy
          · exact absurd c15 (nI_nm1 (by omega))
        · rcases hy2 with ⟨hVv, hy2⟩ | ⟨kk, l, g, hkk, hVv, hnq, hy2⟩
          · have hLn : letV W t = none := hLy.trans hy2
            show am_V G _ _ _ _ _ 4 [(0, .ref 1211)] [.int (nI t)] M2 nx 0 0
            refine v_istore_n (L1 := [(1, .int (nI t)), (0, .ref 1211)]) (am_Dk d_MM_let (k := 2) rfl) (by decide) rfl ?_
            refine v_iload_n (am_Dk d_MM_let (k := 3) rfl) rfl ?_
            refine v_iconst (v := (-1)) (am_Dk d_MM_let (k := 4) rfl) (by decide) ?_
            refine v_icmp_ne (tgt := 16) (am_Dk d_MM_let (k := 5) rfl) (by decide) (fun c39 => ?_) (fun c39 => ?_)
            · refine v_aload_n (am_Dk d_MM_let (k := 10) rfl) rfl ?_
              refine v_get (am_Dk d_MM_let (k := 11) rfl) f_MM_20 q11 rfl ?_
              refine v_get9 (am_Dk d_MM_let (k := 12) rfl) r_MM_98 hX.1.1 rfl ?_
              refine v_iload_n (am_Dk d_MM_let (k := 13) rfl) rfl ?_
              refine v_iald (am_Dk d_MM_let (k := 14) rfl) hMa rfl (vp_in_nI (by omega) (by omega)) ?_
              rw [nI_clamp (n := t) (by omega)]
              rw [show Ma t = 2 from hM2]
              refine v_iconst (v := 2) (am_Dk d_MM_let (k := 15) rfl) (by decide) ?_
              refine v_icmp_ne (tgt := 62) (am_Dk d_MM_let (k := 16) rfl) (by decide) (fun c40 => ?_) (fun c40 => ?_)
              · exact absurd (by decide) c40
              · refine v_aload_n (am_Dk d_MM_let (k := 17) rfl) rfl ?_
                refine v_get (am_Dk d_MM_let (k := 18) rfl) f_MM_27 q11 rfl ?_
                refine v_aload_n (am_Dk d_MM_let (k := 19) rfl) rfl ?_
                refine v_get (am_Dk d_MM_let (k := 20) rfl) f_MM_20 q11 rfl ?_
                refine v_get9 (am_Dk d_MM_let (k := 21) rfl) r_MM_95 hX.1.1 rfl ?_
                refine v_iload_n (am_Dk d_MM_let (k := 22) rfl) rfl ?_
                refine v_iald (am_Dk d_MM_let (k := 23) rfl) hNm rfl (vp_in_nI (by omega) (by omega)) ?_
                rw [nI_clamp (n := t) (by omega)]
                rw [show Nm t = nI k from hNk]
                refine v_ldcS (i := 134) (tx := "is") (am_Dk d_MM_let (k := 24) rfl) (by decide +kernel) ?_
                refine v_callV (rest := []) (As := [.int (nI k), .ref 134]) (mc' := 0) (ms' := 0) (am_Dk d_MM_let (k := 25) rfl) c_MM_103 (Or.inl ⟨_, _, _, _, _, hN, cq_ok11⟩) (t_MN_spells G (d := 4) (by omega) (hN) (hT) hO (hF) hA hk (by omega) (by omega) mmS_134) (by omega) (by omega) (by omega) (by simp [Value.category]) rfl (fun v41 M42 n43 h44 => ?_) (fun _ _ _ h44 => ?_)
                rotate_left
                · exact absurd h44.1 (by simp)
                obtain ⟨h44, e45, e46⟩ := h44
                replace e45 := e45.symm
                replace e46 := e46.symm
                subst e45
                subst e46
                cases h44
                show am_V G _ _ _ _ _ 47 [(1, .int (nI t)), (0, .ref 1211)] [.int (bi (spv (kn_w 10) (nmL F k) (nmW T F k)))] M2 nx 0 0
                rw [qs]
                show am_V G _ _ _ _ _ 47 [(1, .int (nI t)), (0, .ref 1211)] [.int 1] M2 nx 0 0
                refine v_if_eq (tgt := 62) (am_Dk d_MM_let (k := 26) rfl) (by decide) (fun c47 => ?_) (fun c47 => ?_)
                · exact absurd c47 (by decide)
                · refine v_aload_n (am_Dk d_MM_let (k := 27) rfl) rfl ?_
                  refine v_get (am_Dk d_MM_let (k := 28) rfl) f_MM_20 q11 rfl ?_
                  refine v_iload_n (am_Dk d_MM_let (k := 29) rfl) rfl ?_
                  refine v_iconst (v := 0) (am_Dk d_MM_let (k := 30) rfl) (by decide) ?_
                  refine v_callV (rest := []) (As := [.int (nI t), .int 0]) (mc' := 0) (ms' := 0) (am_Dk d_MM_let (k := 31) rfl) c_MM_139 (Or.inl ⟨_, _, _, _, _, hX.1.1, cq_ok10⟩) (t_MT_part G (d := 0) (b := b) (i := 0) (by omega) (ARs_fr hX.1 (fun i z1 z2 => rfl)) (by omega) hFb (by omega)) (by omega) (by omega) (by omega) (by simp [Value.category]) rfl (fun v48 M49 n50 h51 => ?_) (fun _ _ _ h51 => ?_)
                  rotate_left
                  · exact absurd h51.1 (by simp)
                  obtain ⟨h51, e52, e53⟩ := h51
                  replace e52 := e52.symm
                  replace e53 := e53.symm
                  subst e52
                  subst e53
                  cases h51
                  show am_V G _ _ _ _ _ 59 [(1, .int (nI t)), (0, .ref 1211)] [.int (Pa (b + 0))] M2 nx 0 0
                  rw [hPy]
                  show am_V G _ _ _ _ _ 59 [(1, .int (nI t)), (0, .ref 1211)] [.int (nI y)] M2 nx 0 0
                  refine v_goto (tgt := 63) (am_Dk d_MM_let (k := 32) rfl) (by decide) ?_
                  refine v_istore_n (L1 := [(2, .int (nI y)), (1, .int (nI t)), (0, .ref 1211)]) (am_Dk d_MM_let (k := 34) rfl) (by decide) rfl ?_
                  refine v_iload_n (am_Dk d_MM_let (k := 35) rfl) rfl ?_
                  refine v_iconst (v := (-1)) (am_Dk d_MM_let (k := 36) rfl) (by decide) ?_
                  refine v_icmp_eq (tgt := 102) (am_Dk d_MM_let (k := 37) rfl) (by decide) (fun c54 => ?_) (fun c54 => ?_)
                  · exact absurd c54 (nI_nm1 (by omega))
                  · refine v_aload_n (am_Dk d_MM_let (k := 38) rfl) rfl ?_
                    refine v_get (am_Dk d_MM_let (k := 39) rfl) f_MM_20 q11 rfl ?_
                    refine v_get9 (am_Dk d_MM_let (k := 40) rfl) r_MM_92 hX.1.1 rfl ?_
                    refine v_iload_n (am_Dk d_MM_let (k := 41) rfl) rfl ?_
                    refine v_iald (am_Dk d_MM_let (k := 42) rfl) hKd rfl (vp_in_nI (by omega) (by omega)) ?_
                    rw [nI_clamp (n := y) (by omega)]
                    rw [show Kd y = 0 from hKy]
                    refine v_if_ne (tgt := 102) (am_Dk d_MM_let (k := 43) rfl) (by decide) (fun c55 => ?_) (fun c55 => ?_)
                    · exact absurd (by decide) c55
                    · refine v_aload_n (am_Dk d_MM_let (k := 44) rfl) rfl ?_
                      refine v_get (am_Dk d_MM_let (k := 45) rfl) f_MM_36 q11 rfl ?_
                      refine v_get9 (am_Dk d_MM_let (k := 46) rfl) r_MM_75 hrcx rfl ?_
                      refine v_aload_n (am_Dk d_MM_let (k := 47) rfl) rfl ?_
                      refine v_get (am_Dk d_MM_let (k := 48) rfl) f_MM_20 q11 rfl ?_
                      refine v_get9 (am_Dk d_MM_let (k := 49) rfl) r_MM_95 hX.1.1 rfl ?_
                      refine v_iload_n (am_Dk d_MM_let (k := 50) rfl) rfl ?_
                      refine v_iald (am_Dk d_MM_let (k := 51) rfl) hNm rfl (vp_in_nI (by omega) (by omega)) ?_
                      rw [nI_clamp (n := y) (by omega)]
                      rw [show Nm y = nI v from hNy]
                      refine v_iald (am_Dk d_MM_let (k := 52) rfl) hX.2.2.1 rfl (vp_in_nI (by omega) (by omega)) ?_
                      rw [nI_clamp (n := v) (by omega)]
                      rw [show Va v = -1 from hVv]
                      refine v_iconst (v := (-1)) (am_Dk d_MM_let (k := 53) rfl) (by decide) ?_
                      refine v_icmp_ne (tgt := 113) (am_Dk d_MM_let (k := 54) rfl) (by decide) (fun c56 => ?_) (fun c56 => ?_)
                      · exact absurd (by decide) c56
                      · refine v_aload_n (am_Dk d_MM_let (k := 55) rfl) rfl ?_
                        refine v_iconst (v := 0) (am_Dk d_MM_let (k := 56) rfl) (by decide) ?_
                        refine v_put (am_Dk d_MM_let (k := 57) rfl) f_MM_9 q11 (Nat.le_of_ble_eq_true rfl) rfl rfl ?_
                        refine v_aload_n (am_Dk d_MM_let (k := 58) rfl) rfl ?_
                        refine v_iconst (v := 2) (am_Dk d_MM_let (k := 59) rfl) (by decide) ?_
                        have m57 : (am_up M2 1211 (.inr (9, [.int 0, .int 0, .int 0, .int 0, .int (nI c), .ref 1212, .ref 1213, .ref 1220, .ref 1225, .ref 1233, .ref 1234, .ref 1235, .ref 1236, .ref 1237, .ref 1238, .long re]))) 1211 = some (.inr (9, [.int 0, .int 0, .int 0, .int 0, .int (nI c), .ref 1212, .ref 1213, .ref 1220, .ref 1225, .ref 1233, .ref 1234, .ref 1235, .ref 1236, .ref 1237, .ref 1238, .long re])) := am_up_eq _ _ _
                        refine v_callV (rest := []) (As := [.int 2]) (mc' := 0) (ms' := 0) (am_Dk d_MM_let (k := 60) rfl) c_MM_67 (Or.inl ⟨_, _, _, _, _, m57, cq_ok9⟩) (t_MM_fail G (d := 0) (n := 0) (by omega) m57) (by omega) (by omega) (by omega) (by simp [Value.category]) rfl (fun v58 M59 n60 h61 => ?_) (fun _ _ _ h61 => ?_)
                        rotate_left
                        · exact absurd h61.1 (by simp)
                        obtain ⟨h61, e62, e63⟩ := h61
                        replace e62 := e62.symm
                        replace e63 := e63.symm
                        subst e62
                        subst e63
                        cases h61
                        rw [am_uu0 (a := 1211)]
                        show am_V G _ _ _ _ _ 112 [(2, .int (nI y)), (1, .int (nI t)), (0, .ref 1211)] [.int 0] (am_up M2 1211 (.inr (9, [.int 2, .int 0, .int 0, .int 0, .int (nI c), .ref 1212, .ref 1213, .ref 1220, .ref 1225, .ref 1233, .ref 1234, .ref 1235, .ref 1236, .ref 1237, .ref 1238, .long re]))) nx 0 0
                        exact v_ireturn (am_Dk d_MM_let (k := 61) rfl) rfl rfl (by omega) (by omega) ⟨rfl, fun i hi => (am_up_ne (show i ≠ 1211 from by omega)).trans ((hfT i (by omega))), rx_fr3 hrx (fun i hi => (am_up_ne (show i ≠ 1211 from by omega)).trans (rfl)), rcell_fr hrc1 ((am_up_ne (show 1225 ≠ 1211 from by decide)).trans (rfl)), ⟨⟨_, (am_up_ne (show 1236 ≠ 1211 from by omega)).trans (hW0)⟩, ⟨_, (am_up_ne (show 1237 ≠ 1211 from by omega)).trans (hS0)⟩, ⟨_, (am_up_ne (show 1238 ≠ 1211 from by omega)).trans (hL0)⟩⟩, Or.inr ⟨W, t, sz, _, hok, Or.inl ⟨hLn, rfl, tbl_fr hTb (fun i z1 z2 => (am_up_ne (show i ≠ 1211 from by omega)).trans (rfl)), am_up_eq _ _ _⟩⟩⟩
            · exact absurd c39 (nI_nm1 (by omega))
          · have hLq : letV W t = some (l, g) := hLy.trans hy2
            show am_V G _ _ _ _ _ 4 [(0, .ref 1211)] [.int (nI t)] M2 nx 0 0
            refine v_istore_n (L1 := [(1, .int (nI t)), (0, .ref 1211)]) (am_Dk d_MM_let (k := 2) rfl) (by decide) rfl ?_
            refine v_iload_n (am_Dk d_MM_let (k := 3) rfl) rfl ?_
            refine v_iconst (v := (-1)) (am_Dk d_MM_let (k := 4) rfl) (by decide) ?_
            refine v_icmp_ne (tgt := 16) (am_Dk d_MM_let (k := 5) rfl) (by decide) (fun c64 => ?_) (fun c64 => ?_)
            · refine v_aload_n (am_Dk d_MM_let (k := 10) rfl) rfl ?_
              refine v_get (am_Dk d_MM_let (k := 11) rfl) f_MM_20 q11 rfl ?_
              refine v_get9 (am_Dk d_MM_let (k := 12) rfl) r_MM_98 hX.1.1 rfl ?_
              refine v_iload_n (am_Dk d_MM_let (k := 13) rfl) rfl ?_
              refine v_iald (am_Dk d_MM_let (k := 14) rfl) hMa rfl (vp_in_nI (by omega) (by omega)) ?_
              rw [nI_clamp (n := t) (by omega)]
              rw [show Ma t = 2 from hM2]
              refine v_iconst (v := 2) (am_Dk d_MM_let (k := 15) rfl) (by decide) ?_
              refine v_icmp_ne (tgt := 62) (am_Dk d_MM_let (k := 16) rfl) (by decide) (fun c65 => ?_) (fun c65 => ?_)
              · exact absurd (by decide) c65
              · refine v_aload_n (am_Dk d_MM_let (k := 17) rfl) rfl ?_
                refine v_get (am_Dk d_MM_let (k := 18) rfl) f_MM_27 q11 rfl ?_
                refine v_aload_n (am_Dk d_MM_let (k := 19) rfl) rfl ?_
                refine v_get (am_Dk d_MM_let (k := 20) rfl) f_MM_20 q11 rfl ?_
                refine v_get9 (am_Dk d_MM_let (k := 21) rfl) r_MM_95 hX.1.1 rfl ?_
                refine v_iload_n (am_Dk d_MM_let (k := 22) rfl) rfl ?_
                refine v_iald (am_Dk d_MM_let (k := 23) rfl) hNm rfl (vp_in_nI (by omega) (by omega)) ?_
                rw [nI_clamp (n := t) (by omega)]
                rw [show Nm t = nI k from hNk]
                refine v_ldcS (i := 134) (tx := "is") (am_Dk d_MM_let (k := 24) rfl) (by decide +kernel) ?_
                refine v_callV (rest := []) (As := [.int (nI k), .ref 134]) (mc' := 0) (ms' := 0) (am_Dk d_MM_let (k := 25) rfl) c_MM_103 (Or.inl ⟨_, _, _, _, _, hN, cq_ok11⟩) (t_MN_spells G (d := 4) (by omega) (hN) (hT) hO (hF) hA hk (by omega) (by omega) mmS_134) (by omega) (by omega) (by omega) (by simp [Value.category]) rfl (fun v66 M67 n68 h69 => ?_) (fun _ _ _ h69 => ?_)
                rotate_left
                · exact absurd h69.1 (by simp)
                obtain ⟨h69, e70, e71⟩ := h69
                replace e70 := e70.symm
                replace e71 := e71.symm
                subst e70
                subst e71
                cases h69
                show am_V G _ _ _ _ _ 47 [(1, .int (nI t)), (0, .ref 1211)] [.int (bi (spv (kn_w 10) (nmL F k) (nmW T F k)))] M2 nx 0 0
                rw [qs]
                show am_V G _ _ _ _ _ 47 [(1, .int (nI t)), (0, .ref 1211)] [.int 1] M2 nx 0 0
                refine v_if_eq (tgt := 62) (am_Dk d_MM_let (k := 26) rfl) (by decide) (fun c72 => ?_) (fun c72 => ?_)
                · exact absurd c72 (by decide)
                · refine v_aload_n (am_Dk d_MM_let (k := 27) rfl) rfl ?_
                  refine v_get (am_Dk d_MM_let (k := 28) rfl) f_MM_20 q11 rfl ?_
                  refine v_iload_n (am_Dk d_MM_let (k := 29) rfl) rfl ?_
                  refine v_iconst (v := 0) (am_Dk d_MM_let (k := 30) rfl) (by decide) ?_
                  refine v_callV (rest := []) (As := [.int (nI t), .int 0]) (mc' := 0) (ms' := 0) (am_Dk d_MM_let (k := 31) rfl) c_MM_139 (Or.inl ⟨_, _, _, _, _, hX.1.1, cq_ok10⟩) (t_MT_part G (d := 0) (b := b) (i := 0) (by omega) (ARs_fr hX.1 (fun i z1 z2 => rfl)) (by omega) hFb (by omega)) (by omega) (by omega) (by omega) (by simp [Value.category]) rfl (fun v73 M74 n75 h76 => ?_) (fun _ _ _ h76 => ?_)
                  rotate_left
                  · exact absurd h76.1 (by simp)
                  obtain ⟨h76, e77, e78⟩ := h76
                  replace e77 := e77.symm
                  replace e78 := e78.symm
                  subst e77
                  subst e78
                  cases h76
                  show am_V G _ _ _ _ _ 59 [(1, .int (nI t)), (0, .ref 1211)] [.int (Pa (b + 0))] M2 nx 0 0
                  rw [hPy]
                  show am_V G _ _ _ _ _ 59 [(1, .int (nI t)), (0, .ref 1211)] [.int (nI y)] M2 nx 0 0
                  refine v_goto (tgt := 63) (am_Dk d_MM_let (k := 32) rfl) (by decide) ?_
                  refine v_istore_n (L1 := [(2, .int (nI y)), (1, .int (nI t)), (0, .ref 1211)]) (am_Dk d_MM_let (k := 34) rfl) (by decide) rfl ?_
                  refine v_iload_n (am_Dk d_MM_let (k := 35) rfl) rfl ?_
                  refine v_iconst (v := (-1)) (am_Dk d_MM_let (k := 36) rfl) (by decide) ?_
                  refine v_icmp_eq (tgt := 102) (am_Dk d_MM_let (k := 37) rfl) (by decide) (fun c79 => ?_) (fun c79 => ?_)
                  · exact absurd c79 (nI_nm1 (by omega))
                  · refine v_aload_n (am_Dk d_MM_let (k := 38) rfl) rfl ?_
                    refine v_get (am_Dk d_MM_let (k := 39) rfl) f_MM_20 q11 rfl ?_
                    refine v_get9 (am_Dk d_MM_let (k := 40) rfl) r_MM_92 hX.1.1 rfl ?_
                    refine v_iload_n (am_Dk d_MM_let (k := 41) rfl) rfl ?_
                    refine v_iald (am_Dk d_MM_let (k := 42) rfl) hKd rfl (vp_in_nI (by omega) (by omega)) ?_
                    rw [nI_clamp (n := y) (by omega)]
                    rw [show Kd y = 0 from hKy]
                    refine v_if_ne (tgt := 102) (am_Dk d_MM_let (k := 43) rfl) (by decide) (fun c80 => ?_) (fun c80 => ?_)
                    · exact absurd (by decide) c80
                    · refine v_aload_n (am_Dk d_MM_let (k := 44) rfl) rfl ?_
                      refine v_get (am_Dk d_MM_let (k := 45) rfl) f_MM_36 q11 rfl ?_
                      refine v_get9 (am_Dk d_MM_let (k := 46) rfl) r_MM_75 hrcx rfl ?_
                      refine v_aload_n (am_Dk d_MM_let (k := 47) rfl) rfl ?_
                      refine v_get (am_Dk d_MM_let (k := 48) rfl) f_MM_20 q11 rfl ?_
                      refine v_get9 (am_Dk d_MM_let (k := 49) rfl) r_MM_95 hX.1.1 rfl ?_
                      refine v_iload_n (am_Dk d_MM_let (k := 50) rfl) rfl ?_
                      refine v_iald (am_Dk d_MM_let (k := 51) rfl) hNm rfl (vp_in_nI (by omega) (by omega)) ?_
                      rw [nI_clamp (n := y) (by omega)]
                      rw [show Nm y = nI v from hNy]
                      refine v_iald (am_Dk d_MM_let (k := 52) rfl) hX.2.2.1 rfl (vp_in_nI (by omega) (by omega)) ?_
                      rw [nI_clamp (n := v) (by omega)]
                      rw [show Va v = nI kk from hVv]
                      refine v_iconst (v := (-1)) (am_Dk d_MM_let (k := 53) rfl) (by decide) ?_
                      refine v_icmp_ne (tgt := 113) (am_Dk d_MM_let (k := 54) rfl) (by decide) (fun c81 => ?_) (fun c81 => ?_)
                      · refine v_aload_n (am_Dk d_MM_let (k := 62) rfl) rfl ?_
                        refine v_aload_n (am_Dk d_MM_let (k := 63) rfl) rfl ?_
                        refine v_get (am_Dk d_MM_let (k := 64) rfl) f_MM_20 q11 rfl ?_
                        refine v_iload_n (am_Dk d_MM_let (k := 65) rfl) rfl ?_
                        refine v_iconst (v := 1) (am_Dk d_MM_let (k := 66) rfl) (by decide) ?_
                        refine v_callV (rest := [.ref 1211]) (As := [.int (nI t), .int 1]) (mc' := 0) (ms' := 0) (am_Dk d_MM_let (k := 67) rfl) c_MM_139 (Or.inl ⟨_, _, _, _, _, hX.1.1, cq_ok10⟩) (t_MT_part G (d := 0) (b := b) (i := 1) (by omega) (ARs_fr hX.1 (fun i z1 z2 => rfl)) (by omega) hFb (by omega)) (by omega) (by omega) (by omega) (by simp [Value.category]) rfl (fun v82 M83 n84 h85 => ?_) (fun _ _ _ h85 => ?_)
                        rotate_left
                        · exact absurd h85.1 (by simp)
                        obtain ⟨h85, e86, e87⟩ := h85
                        replace e86 := e86.symm
                        replace e87 := e87.symm
                        subst e86
                        subst e87
                        cases h85
                        show am_V G _ _ _ _ _ 123 [(2, .int (nI y)), (1, .int (nI t)), (0, .ref 1211)] [.int (Pa (b + 1)), .ref 1211] M2 nx 0 0
                        rw [hPz]
                        show am_V G _ _ _ _ _ 123 [(2, .int (nI y)), (1, .int (nI t)), (0, .ref 1211)] [.int (nI z), .ref 1211] M2 nx 0 0
                        refine v_callV (rest := []) (As := [.int (nI z)]) (mc' := 0) (ms' := 0) (am_Dk d_MM_let (k := 68) rfl) c_MM_176 (Or.inl ⟨_, _, _, _, _, q11, cq_ok9⟩) (t_MM_reckon G (d := 7) (by omega) hX (by omega) (by omega) (by omega) (by omega) (by omega) hTb hLU hrcx q11 hW0 hS0 hL0 (show z < sz from by omega)) (by omega) (by omega) (by omega) (by simp [Value.category]) rfl (fun v88 M89 n90 h91 => ?_) (fun _ _ _ h91 => ?_)
                        rotate_left
                        · obtain ⟨_, _, _, _, hx9, _⟩ := h91; cases hx9
                        obtain ⟨Wk1, Sg1, Lf1, rr, h91, hx9, ⟨y1, y2, y3, y4, y5⟩, y6⟩ := h91
                        cases h91
                        replace hx9 := hx9.symm
                        subst hx9
                        have heR := ar_E hX.2.2.2.1 (z + 1) z (by omega) (by omega)
                        have b92 : M89 1213 = some (.inr (10, [.ref 1214, .ref 1215, .ref 1216, .ref 1217, .ref 1218, .ref 1219, .int (nI sz), .int (nI pt)])) := (y5 1213 (by omega)).trans (hX.1.1)
                        have b93 : M89 1214 = some (.inl (1, 9000, .inl Kd)) := (y5 1214 (by omega)).trans (hKd)
                        have b94 : M89 1215 = some (.inl (1, 9000, .inl Nm)) := (y5 1215 (by omega)).trans (hNm)
                        have b95 : M89 1216 = some (.inl (1, 9000, .inl Fi)) := (y5 1216 (by omega)).trans (hFi)
                        have b96 : M89 1217 = some (.inl (1, 9000, .inl Ma)) := (y5 1217 (by omega)).trans (hMa)
                        have b97 : M89 1218 = some (.inl (1, 9000, .inl Pa)) := (y5 1218 (by omega)).trans (hPa)
                        have b98 : M89 1220 = some (.inr (11, [.ref 1221, .ref 1222, .ref 1223, .ref 1224, .int (nI ns), .int (nI tx)])) := (y5 1220 (by omega)).trans (hN)
                        have b99 : M89 1221 = some (.inl (0, 5000, .inl T)) := (y5 1221 (by omega)).trans (hT)
                        have b100 : M89 1222 = some (.inl (1, 9001, .inl A9)) := (y5 1222 (by omega)).trans (hF)
                        have b101 : M89 1225 = some (.inr (12, [.ref 1226, .ref 1227, .ref 1228, .ref 1213, .ref 1220, sv, .int n9, .int a9, .int b9, .int t9, .int o9, .long u9, .ref 1229, .int l9, .ref 1230, .int p9, .int q9, .ref 1231, .int v9, .int k9, .int r9, .ref 1232])) := (y5 1225 (by omega)).trans (hrcx)
                        have b102 : M89 1231 = some (.inl (1, 4200, .inl Va)) := (y5 1231 (by omega)).trans (hX.2.2.1)
                        have b103 : M89 1233 = some (.inl (0, 210000, .inl P)) := (y5 1233 (by omega)).trans (hP)
                        have b104 : M89 1234 = some (.inl (1, 52, .inl Qa)) := (y5 1234 (by omega)).trans (hQa)
                        have b105 : M89 1235 = some (.inl (2, 51, .inr (.inl Vr))) := (y5 1235 (by omega)).trans (hVr)
                        have hTb2 : tbl M89 c Vl Vg Vn P Q := tbl_fr hTb (fun i z1 z2 => y5 i (by omega))
                        show am_V G _ _ _ _ _ 126 [(2, .int (nI y)), (1, .int (nI t)), (0, .ref 1211)] [] M89 nx 0 0
                        refine v_aload_n (am_Dk d_MM_let (k := 69) rfl) rfl ?_
                        refine v_get (am_Dk d_MM_let (k := 70) rfl) f_MM_123 y4 rfl ?_
                        refine v_if_le (tgt := 139) (am_Dk d_MM_let (k := 71) rfl) (by decide) (fun c106 => ?_) (fun c106 => ?_)
                        · have he0 : (W.1 z).1 = 0 := (errR_le heR).mp c106
                          refine v_aload_n (am_Dk d_MM_let (k := 76) rfl) rfl ?_
                          refine v_aload_n (am_Dk d_MM_let (k := 77) rfl) rfl ?_
                          refine v_get (am_Dk d_MM_let (k := 78) rfl) f_MM_20 y4 rfl ?_
                          refine v_get9 (am_Dk d_MM_let (k := 79) rfl) r_MM_95 b92 rfl ?_
                          refine v_iload_n (am_Dk d_MM_let (k := 80) rfl) rfl ?_
                          refine v_iald (am_Dk d_MM_let (k := 81) rfl) b94 rfl (vp_in_nI (by omega) (by omega)) ?_
                          rw [nI_clamp (n := y) (by omega)]
                          rw [show Nm y = nI v from hNy]
                          rw [he0] at y4
                          refine v_callV (rest := []) (As := [.int (nI v)]) (mc' := 0) (ms' := 0) (am_Dk d_MM_let (k := 82) rfl) c_MM_136 (Or.inl ⟨_, _, _, _, _, y4, cq_ok9⟩) (t_MM_variable G (d := 2) (by omega) hTb2 y4 (NMs_fr hX.2.1 (fun i z1 z2 => y5 i (by omega))) (by omega) (by omega) (by omega) b102 b101 (x := some kk) (Or.inr ⟨kk, rfl, hkk, hVv⟩)) (by omega) (by omega) (by omega) (by simp [Value.category]) rfl (fun v107 M108 n109 h110 => ?_) (fun _ _ _ h110 => ?_)
                          rotate_left
                          · exact absurd h110.1 (by simp)
                          obtain ⟨h110, e111, e112⟩ := h110
                          replace e111 := e111.symm
                          replace e112 := e112.symm
                          subst e111
                          subst e112
                          cases h110
                          show am_V G _ _ _ _ _ 152 [(2, .int (nI y)), (1, .int (nI t)), (0, .ref 1211)] [.int (oI (vfx c Vl Vg T F (some kk)))] M89 nx 0 0
                          have hvm : vmt Vl Vg (nmL F kk) (nmW T F kk) = vmt Vl Vg l g := vmt_nm hnq
                          have hrR := ar_R (hX.2.2.2.1 z (by omega))
                          have hrr := y6 he0
                          subst hrr
                          rcases hvf : vfF (vmt Vl Vg (nmL F kk) (nmW T F kk)) c 0 with _ | i0
                          · rw [show oI (vfx c Vl Vg T F (some kk)) = -1 from by rw [show vfx c Vl Vg T F (some kk) = vfF (vmt Vl Vg (nmL F kk) (nmW T F kk)) c 0 from rfl, hvf]; rfl]
                            rw [hvm] at hvf
                            show am_V G _ _ _ _ _ 152 [(2, .int (nI y)), (1, .int (nI t)), (0, .ref 1211)] [.int (-1)] M89 nx 0 0
                            refine v_istore_n (L1 := [(3, .int (-1)), (2, .int (nI y)), (1, .int (nI t)), (0, .ref 1211)]) (am_Dk d_MM_let (k := 83) rfl) (by decide) rfl ?_
                            refine v_iload_n (am_Dk d_MM_let (k := 84) rfl) rfl ?_
                            refine v_iconst (v := (-1)) (am_Dk d_MM_let (k := 85) rfl) (by decide) ?_
                            refine v_icmp_ne (tgt := 280) (am_Dk d_MM_let (k := 86) rfl) (by decide) (fun c113 => ?_) (fun c113 => ?_)
                            · exact absurd (by decide) c113
                            · refine v_aload_n (am_Dk d_MM_let (k := 87) rfl) rfl ?_
                              refine v_get (am_Dk d_MM_let (k := 88) rfl) f_MM_78 y4 rfl ?_
                              refine v_bipush (v := 50) (am_Dk d_MM_let (k := 89) rfl) (by decide) ?_
                              refine v_icmp_ne (tgt := 173) (am_Dk d_MM_let (k := 90) rfl) (by decide) (fun c114 => ?_) (fun c114 => ?_)
                              · have hcn : ¬ c = 50 := fun z => c114 (by rw [z]; rfl)
                                have hc5 : c < 50 := by omega
                                refine v_aload_n (am_Dk d_MM_let (k := 95) rfl) rfl ?_
                                refine v_get (am_Dk d_MM_let (k := 96) rfl) f_MM_78 y4 rfl ?_
                                refine v_istore_n (L1 := [(3, .int (nI c)), (2, .int (nI y)), (1, .int (nI t)), (0, .ref 1211)]) (am_Dk d_MM_let (k := 97) rfl) (by decide) rfl ?_
                                refine v_aload_n (am_Dk d_MM_let (k := 98) rfl) rfl ?_
                                refine v_dup (am_Dk d_MM_let (k := 99) rfl) rfl ?_
                                refine v_get (am_Dk d_MM_let (k := 100) rfl) f_MM_78 y4 rfl ?_
                                refine v_iconst (v := 1) (am_Dk d_MM_let (k := 101) rfl) (by decide) ?_
                                refine v_iadd (am_Dk d_MM_let (k := 102) rfl) ?_
                                rw [nI_1]
                                refine v_put (am_Dk d_MM_let (k := 103) rfl) f_MM_78 y4 (Nat.le_of_ble_eq_true rfl) rfl rfl ?_
                                refine v_aload_n (am_Dk d_MM_let (k := 104) rfl) rfl ?_
                                have m115 : (am_up M89 1211 (.inr (9, [.int 0, .int 0, .int (-1), .int 0, .int (nI (c + 1)), .ref 1212, .ref 1213, .ref 1220, .ref 1225, .ref 1233, .ref 1234, .ref 1235, .ref 1236, .ref 1237, .ref 1238, .long (W.1 z).2]))) 1211 = some (.inr (9, [.int 0, .int 0, .int (-1), .int 0, .int (nI (c + 1)), .ref 1212, .ref 1213, .ref 1220, .ref 1225, .ref 1233, .ref 1234, .ref 1235, .ref 1236, .ref 1237, .ref 1238, .long (W.1 z).2])) := am_up_eq _ _ _
                                refine v_get (am_Dk d_MM_let (k := 105) rfl) f_MM_36 m115 rfl ?_
                                have m116 : (am_up M89 1211 (.inr (9, [.int 0, .int 0, .int (-1), .int 0, .int (nI (c + 1)), .ref 1212, .ref 1213, .ref 1220, .ref 1225, .ref 1233, .ref 1234, .ref 1235, .ref 1236, .ref 1237, .ref 1238, .long (W.1 z).2]))) 1225 = some (.inr (12, [.ref 1226, .ref 1227, .ref 1228, .ref 1213, .ref 1220, sv, .int n9, .int a9, .int b9, .int t9, .int o9, .long u9, .ref 1229, .int l9, .ref 1230, .int p9, .int q9, .ref 1231, .int v9, .int k9, .int r9, .ref 1232])) := (am_up_ne (show 1225 ≠ 1211 from by decide)).trans (b101)
                                refine v_get9 (am_Dk d_MM_let (k := 106) rfl) r_MM_75 m116 rfl ?_
                                refine v_aload_n (am_Dk d_MM_let (k := 107) rfl) rfl ?_
                                refine v_get (am_Dk d_MM_let (k := 108) rfl) f_MM_20 m115 rfl ?_
                                have m117 : (am_up M89 1211 (.inr (9, [.int 0, .int 0, .int (-1), .int 0, .int (nI (c + 1)), .ref 1212, .ref 1213, .ref 1220, .ref 1225, .ref 1233, .ref 1234, .ref 1235, .ref 1236, .ref 1237, .ref 1238, .long (W.1 z).2]))) 1213 = some (.inr (10, [.ref 1214, .ref 1215, .ref 1216, .ref 1217, .ref 1218, .ref 1219, .int (nI sz), .int (nI pt)])) := (am_up_ne (show 1213 ≠ 1211 from by decide)).trans (b92)
                                refine v_get9 (am_Dk d_MM_let (k := 109) rfl) r_MM_95 m117 rfl ?_
                                refine v_iload_n (am_Dk d_MM_let (k := 110) rfl) rfl ?_
                                have m118 : (am_up M89 1211 (.inr (9, [.int 0, .int 0, .int (-1), .int 0, .int (nI (c + 1)), .ref 1212, .ref 1213, .ref 1220, .ref 1225, .ref 1233, .ref 1234, .ref 1235, .ref 1236, .ref 1237, .ref 1238, .long (W.1 z).2]))) 1215 = some (.inl (1, 9000, .inl Nm)) := (am_up_ne (show 1215 ≠ 1211 from by decide)).trans (b94)
                                refine v_iald (am_Dk d_MM_let (k := 111) rfl) m118 rfl (vp_in_nI (by omega) (by omega)) ?_
                                rw [nI_clamp (n := y) (by omega)]
                                rw [show Nm y = nI v from hNy]
                                have m119 : (am_up M89 1211 (.inr (9, [.int 0, .int 0, .int (-1), .int 0, .int (nI (c + 1)), .ref 1212, .ref 1213, .ref 1220, .ref 1225, .ref 1233, .ref 1234, .ref 1235, .ref 1236, .ref 1237, .ref 1238, .long (W.1 z).2]))) 1231 = some (.inl (1, 4200, .inl Va)) := (am_up_ne (show 1231 ≠ 1211 from by decide)).trans (b102)
                                refine v_iald (am_Dk d_MM_let (k := 112) rfl) m119 rfl (vp_in_nI (by omega) (by omega)) ?_
                                rw [nI_clamp (n := v) (by omega)]
                                rw [show Va v = nI kk from hVv]
                                refine v_istore (L1 := [(4, .int (nI kk)), (3, .int (nI c)), (2, .int (nI y)), (1, .int (nI t)), (0, .ref 1211)]) (am_Dk d_MM_let (k := 113) rfl) (by decide) rfl ?_
                                refine v_iconst (v := 0) (am_Dk d_MM_let (k := 114) rfl) (by decide) ?_
                                refine v_istore (L1 := [(5, .int 0), (4, .int (nI kk)), (3, .int (nI c)), (2, .int (nI y)), (1, .int (nI t)), (0, .ref 1211)]) (am_Dk d_MM_let (k := 115) rfl) (by decide) rfl ?_
                                have hQc := tbl_Q hTb2 c (Nat.le_refl _)
                                refine v_drop (am_V_eq (am_up_id ((am_up_ne (show 1233 ≠ 1211 from by decide)).trans (b103))) (am_V_eq (congrArg (fun (p0 : Nat → Int32) => am_up (am_up M89 1211 (.inr (9, [.int 0, .int 0, .int (-1), .int 0, .int (nI (c + 1)), .ref 1212, .ref 1213, .ref 1220, .ref 1225, .ref 1233, .ref 1234, .ref 1235, .ref 1236, .ref 1237, .ref 1238, .long (W.1 z).2]))) 1233 (.inl (0, 210000, .inl p0))) (nmT_0 (T := P) (g := nmW T F kk) (tx := Q c))) (l_let1 G (by omega) m115 (NMs_fr hX.2.1 (fun i z1 z2 => (am_up_ne (show i ≠ 1211 from by omega)).trans ((y5 i (by omega))))) hkk (by omega) (by omega) ((am_up_ne (show 1233 ≠ 1211 from by decide)).trans (b103)) hPB ((am_up_ne (show 1234 ≠ 1211 from by decide)).trans (b104)) (hQk c (Nat.le_refl _)) (by omega) hc5 ?_ (nmL F kk) 0 (by omega)))) (by simp [nI_0])
                                show am_V G _ _ _ _ _ 256 [(4, .int (nI kk)), (3, .int (nI c)), (0, .ref 1211)] [] (am_up (am_up M89 1211 (.inr (9, [.int 0, .int 0, .int (-1), .int 0, .int (nI (c + 1)), .ref 1212, .ref 1213, .ref 1220, .ref 1225, .ref 1233, .ref 1234, .ref 1235, .ref 1236, .ref 1237, .ref 1238, .long (W.1 z).2]))) 1233 (.inl (0, 210000, .inl (nmT P (Q c) (nmL F kk) (nmW T F kk))))) nx 0 0
                                refine v_aload_n (am_Dk d_MM_let (k := 139) rfl) rfl ?_
                                have m120 : (am_up (am_up M89 1211 (.inr (9, [.int 0, .int 0, .int (-1), .int 0, .int (nI (c + 1)), .ref 1212, .ref 1213, .ref 1220, .ref 1225, .ref 1233, .ref 1234, .ref 1235, .ref 1236, .ref 1237, .ref 1238, .long (W.1 z).2]))) 1233 (.inl (0, 210000, .inl (nmT P (Q c) (nmL F kk) (nmW T F kk))))) 1211 = some (.inr (9, [.int 0, .int 0, .int (-1), .int 0, .int (nI (c + 1)), .ref 1212, .ref 1213, .ref 1220, .ref 1225, .ref 1233, .ref 1234, .ref 1235, .ref 1236, .ref 1237, .ref 1238, .long (W.1 z).2])) := (am_up_ne (show 1211 ≠ 1233 from by decide)).trans (am_up_eq _ _ _)
                                refine v_get (am_Dk d_MM_let (k := 140) rfl) f_MM_44 m120 rfl ?_
                                refine v_iload_n (am_Dk d_MM_let (k := 141) rfl) rfl ?_
                                refine v_iconst (v := 1) (am_Dk d_MM_let (k := 142) rfl) (by decide) ?_
                                refine v_iadd (am_Dk d_MM_let (k := 143) rfl) ?_
                                rw [nI_1]
                                refine v_aload_n (am_Dk d_MM_let (k := 144) rfl) rfl ?_
                                refine v_get (am_Dk d_MM_let (k := 145) rfl) f_MM_44 m120 rfl ?_
                                refine v_iload_n (am_Dk d_MM_let (k := 146) rfl) rfl ?_
                                have m121 : (am_up (am_up M89 1211 (.inr (9, [.int 0, .int 0, .int (-1), .int 0, .int (nI (c + 1)), .ref 1212, .ref 1213, .ref 1220, .ref 1225, .ref 1233, .ref 1234, .ref 1235, .ref 1236, .ref 1237, .ref 1238, .long (W.1 z).2]))) 1233 (.inl (0, 210000, .inl (nmT P (Q c) (nmL F kk) (nmW T F kk))))) 1234 = some (.inl (1, 52, .inl Qa)) := (am_up_ne (show 1234 ≠ 1233 from by decide)).trans ((am_up_ne (show 1234 ≠ 1211 from by decide)).trans (b104))
                                refine v_iald (am_Dk d_MM_let (k := 147) rfl) m121 rfl (vp_in_nI (by omega) (by omega)) ?_
                                rw [nI_clamp (n := c) (by omega)]
                                rw [show Qa c = nI (Q c) from hQk c (Nat.le_refl _)]
                                refine v_aload_n (am_Dk d_MM_let (k := 148) rfl) rfl ?_
                                refine v_get (am_Dk d_MM_let (k := 149) rfl) f_MM_27 m120 rfl ?_
                                refine v_iload (am_Dk d_MM_let (k := 150) rfl) rfl ?_
                                have m122 : (am_up (am_up M89 1211 (.inr (9, [.int 0, .int 0, .int (-1), .int 0, .int (nI (c + 1)), .ref 1212, .ref 1213, .ref 1220, .ref 1225, .ref 1233, .ref 1234, .ref 1235, .ref 1236, .ref 1237, .ref 1238, .long (W.1 z).2]))) 1233 (.inl (0, 210000, .inl (nmT P (Q c) (nmL F kk) (nmW T F kk))))) 1220 = some (.inr (11, [.ref 1221, .ref 1222, .ref 1223, .ref 1224, .int (nI ns), .int (nI tx)])) := (am_up_ne (show 1220 ≠ 1233 from by decide)).trans ((am_up_ne (show 1220 ≠ 1211 from by decide)).trans (b98))
                                refine v_callV (rest := [.int (nI (Q c)), .int (nI (c + 1)), .ref 1234]) (As := [.int (nI kk)]) (mc' := 0) (ms' := 0) (am_Dk d_MM_let (k := 151) rfl) c_MM_85 (Or.inl ⟨_, _, _, _, _, m122, cq_ok11⟩) (t_MN_length G (d := 0) (by omega) ((am_up_ne (show 1220 ≠ 1233 from by decide)).trans ((am_up_ne (show 1220 ≠ 1211 from by decide)).trans (b98))) ((am_up_ne (show 1221 ≠ 1233 from by decide)).trans ((am_up_ne (show 1221 ≠ 1211 from by decide)).trans (b99))) hO ((am_up_ne (show 1222 ≠ 1233 from by decide)).trans ((am_up_ne (show 1222 ≠ 1211 from by decide)).trans (b100))) hA hkk (by omega) (by omega)) (by omega) (by omega) (by omega) (by simp [Value.category]) rfl (fun v123 M124 n125 h126 => ?_) (fun _ _ _ h126 => ?_)
                                rotate_left
                                · exact absurd h126.1 (by simp)
                                obtain ⟨h126, e127, e128⟩ := h126
                                replace e127 := e127.symm
                                replace e128 := e128.symm
                                subst e127
                                subst e128
                                cases h126
                                show am_V G _ _ _ _ _ 278 [(4, .int (nI kk)), (3, .int (nI c)), (0, .ref 1211)] [.int (nI (nmL F kk)), .int (nI (Q c)), .int (nI (c + 1)), .ref 1234] (am_up (am_up M89 1211 (.inr (9, [.int 0, .int 0, .int (-1), .int 0, .int (nI (c + 1)), .ref 1212, .ref 1213, .ref 1220, .ref 1225, .ref 1233, .ref 1234, .ref 1235, .ref 1236, .ref 1237, .ref 1238, .long (W.1 z).2]))) 1233 (.inl (0, 210000, .inl (nmT P (Q c) (nmL F kk) (nmW T F kk))))) nx 0 0
                                refine v_iadd (am_Dk d_MM_let (k := 152) rfl) ?_
                                rw [nI_add]
                                refine v_iast (am_Dk d_MM_let (k := 153) rfl) m121 rfl (vp_in_nI (by omega) (by omega)) ?_
                                rw [nI_clamp (n := c + 1) (by omega)]
                                refine v_aload_n (am_Dk d_MM_let (k := 154) rfl) rfl ?_
                                have m129 : (am_up (am_up (am_up M89 1211 (.inr (9, [.int 0, .int 0, .int (-1), .int 0, .int (nI (c + 1)), .ref 1212, .ref 1213, .ref 1220, .ref 1225, .ref 1233, .ref 1234, .ref 1235, .ref 1236, .ref 1237, .ref 1238, .long (W.1 z).2]))) 1233 (.inl (0, 210000, .inl (nmT P (Q c) (nmL F kk) (nmW T F kk))))) 1234 (.inl (1, 52, .inl (upd Qa (c + 1) (nI (Q c + nmL F kk)))))) 1211 = some (.inr (9, [.int 0, .int 0, .int (-1), .int 0, .int (nI (c + 1)), .ref 1212, .ref 1213, .ref 1220, .ref 1225, .ref 1233, .ref 1234, .ref 1235, .ref 1236, .ref 1237, .ref 1238, .long (W.1 z).2])) := (am_up_ne (show 1211 ≠ 1234 from by decide)).trans ((am_up_ne (show 1211 ≠ 1233 from by decide)).trans (am_up_eq _ _ _))
                                refine v_get (am_Dk d_MM_let (k := 155) rfl) f_MM_48 m129 rfl ?_
                                refine v_iload_n (am_Dk d_MM_let (k := 156) rfl) rfl ?_
                                refine v_aload_n (am_Dk d_MM_let (k := 157) rfl) rfl ?_
                                refine v_get (am_Dk d_MM_let (k := 158) rfl) f_MM_132 m129 rfl ?_
                                have m130 : (am_up (am_up (am_up M89 1211 (.inr (9, [.int 0, .int 0, .int (-1), .int 0, .int (nI (c + 1)), .ref 1212, .ref 1213, .ref 1220, .ref 1225, .ref 1233, .ref 1234, .ref 1235, .ref 1236, .ref 1237, .ref 1238, .long (W.1 z).2]))) 1233 (.inl (0, 210000, .inl (nmT P (Q c) (nmL F kk) (nmW T F kk))))) 1234 (.inl (1, 52, .inl (upd Qa (c + 1) (nI (Q c + nmL F kk)))))) 1235 = some (.inl (2, 51, .inr (.inl Vr))) := (am_up_ne (show 1235 ≠ 1234 from by decide)).trans ((am_up_ne (show 1235 ≠ 1233 from by decide)).trans ((am_up_ne (show 1235 ≠ 1211 from by decide)).trans (b105)))
                                refine v_last (am_Dk d_MM_let (k := 159) rfl) m130 rfl (vp_in_nI (by omega) (by omega)) ?_
                                rw [nI_clamp (n := c) (by omega)]
                                refine v_aload_n (am_Dk d_MM_let (k := 160) rfl) rfl ?_
                                have m131 : (am_up (am_up (am_up (am_up M89 1211 (.inr (9, [.int 0, .int 0, .int (-1), .int 0, .int (nI (c + 1)), .ref 1212, .ref 1213, .ref 1220, .ref 1225, .ref 1233, .ref 1234, .ref 1235, .ref 1236, .ref 1237, .ref 1238, .long (W.1 z).2]))) 1233 (.inl (0, 210000, .inl (nmT P (Q c) (nmL F kk) (nmW T F kk))))) 1234 (.inl (1, 52, .inl (upd Qa (c + 1) (nI (Q c + nmL F kk)))))) 1235 (.inl (2, 51, .inr (.inl (vp_updL Vr (c) ((W.1 z).2)))))) 1211 = some (.inr (9, [.int 0, .int 0, .int (-1), .int 0, .int (nI (c + 1)), .ref 1212, .ref 1213, .ref 1220, .ref 1225, .ref 1233, .ref 1234, .ref 1235, .ref 1236, .ref 1237, .ref 1238, .long (W.1 z).2])) := (am_up_ne (show 1211 ≠ 1235 from by decide)).trans ((am_up_ne (show 1211 ≠ 1234 from by decide)).trans ((am_up_ne (show 1211 ≠ 1233 from by decide)).trans (am_up_eq _ _ _)))
                                refine v_get (am_Dk d_MM_let (k := 161) rfl) f_MM_78 m131 rfl ?_
                                have hrx7 := rx_frK hrx y5
                                have hrc7 := rcell_fr hrc1 (y5 1225 (by omega))
                                obtain ⟨_, _, _, _, lf9, _, _, _, _, h29, _⟩ := hok (0, 0, 0, 0) (0, 0, 0, 0) (0, 0, 0, 0)
                                have hl9 : l ≤ 4096 := by
                                  have h8 := (h29 (by rw [hr3]; show ¬ ordN T F k = 0; omega)).2.2.2.1
                                  rw [hW1] at h8
                                  have h8 := h8.2
                                  rw [hy2] at h8
                                  obtain ⟨p8, e8, _, _, _, h8e, h8l, _⟩ := h8
                                  replace h8l : l + p8 = e8 := h8l
                                  omega
                                obtain rfl : nmL F kk = l := hnq.1
                                exact v_ireturn (am_Dk d_MM_let (k := 162) rfl) rfl rfl (by omega) (by omega) ⟨rfl, fun i hi => (am_up_ne (show i ≠ 1235 from by omega)).trans ((am_up_ne (show i ≠ 1234 from by omega)).trans ((am_up_ne (show i ≠ 1233 from by omega)).trans ((am_up_ne (show i ≠ 1211 from by omega)).trans (((y5 i (by omega)).trans (hfT i (by omega))))))), rx_fr3 hrx7 (fun i hi => (am_up_ne (show i ≠ 1235 from by omega)).trans ((am_up_ne (show i ≠ 1234 from by omega)).trans ((am_up_ne (show i ≠ 1233 from by omega)).trans ((am_up_ne (show i ≠ 1211 from by omega)).trans (rfl))))), rcell_fr hrc7 ((am_up_ne (show 1225 ≠ 1235 from by decide)).trans ((am_up_ne (show 1225 ≠ 1234 from by decide)).trans ((am_up_ne (show 1225 ≠ 1233 from by decide)).trans ((am_up_ne (show 1225 ≠ 1211 from by decide)).trans (rfl))))), ⟨⟨_, (am_up_ne (show 1236 ≠ 1235 from by omega)).trans ((am_up_ne (show 1236 ≠ 1234 from by omega)).trans ((am_up_ne (show 1236 ≠ 1233 from by omega)).trans ((am_up_ne (show 1236 ≠ 1211 from by omega)).trans (y1))))⟩, ⟨_, (am_up_ne (show 1237 ≠ 1235 from by omega)).trans ((am_up_ne (show 1237 ≠ 1234 from by omega)).trans ((am_up_ne (show 1237 ≠ 1233 from by omega)).trans ((am_up_ne (show 1237 ≠ 1211 from by omega)).trans (y2))))⟩, ⟨_, (am_up_ne (show 1238 ≠ 1235 from by omega)).trans ((am_up_ne (show 1238 ≠ 1234 from by omega)).trans ((am_up_ne (show 1238 ≠ 1233 from by omega)).trans ((am_up_ne (show 1238 ≠ 1211 from by omega)).trans (y3))))⟩⟩, Or.inr ⟨W, t, sz, _, hok, Or.inr ⟨_, hLq, Or.inr ⟨by rw [hW2]; exact he0, by rw [hW2]; exact hrR, Or.inr (Or.inr ⟨hvf, hc5, rfl, ⟨_, _, by rw [hW2]; exact tbl_new hTb2 (b105) (b104) hc5 hl9 (w := nmW T F kk) (fun i => hTB _) (fun j hj => hnq.2 j hj) hrR ((am_up_ne (show 1233 ≠ 1235 from by decide)).trans ((am_up_ne (show 1233 ≠ 1234 from by decide)).trans (am_up_eq _ _ _))) ((am_up_ne (show 1234 ≠ 1235 from by decide)).trans (am_up_eq _ _ _)) (am_up_eq _ _ _)⟩, (am_up_ne (show 1211 ≠ 1235 from by decide)).trans ((am_up_ne (show 1211 ≠ 1234 from by decide)).trans ((am_up_ne (show 1211 ≠ 1233 from by decide)).trans (am_up_eq _ _ _)))⟩)⟩⟩⟩⟩
                              · have hcn : c = 50 := (nI_eq (by omega) (by omega)).mp (show nI c = nI 50 from c114)
                                refine v_aload_n (am_Dk d_MM_let (k := 91) rfl) rfl ?_
                                refine v_iconst (v := 3) (am_Dk d_MM_let (k := 92) rfl) (by decide) ?_
                                refine v_callV (rest := []) (As := [.int 3]) (mc' := 0) (ms' := 0) (am_Dk d_MM_let (k := 93) rfl) c_MM_67 (Or.inl ⟨_, _, _, _, _, y4, cq_ok9⟩) (t_MM_fail G (d := 0) (n := 0) (by omega) y4) (by omega) (by omega) (by omega) (by simp [Value.category]) rfl (fun v132 M133 n134 h135 => ?_) (fun _ _ _ h135 => ?_)
                                rotate_left
                                · exact absurd h135.1 (by simp)
                                obtain ⟨h135, e136, e137⟩ := h135
                                replace e136 := e136.symm
                                replace e137 := e137.symm
                                subst e136
                                subst e137
                                cases h135
                                show am_V G _ _ _ _ _ 172 [(3, .int (-1)), (2, .int (nI y)), (1, .int (nI t)), (0, .ref 1211)] [.int 0] (am_up M89 1211 (.inr (9, [.int 3, .int 0, .int (-1), .int 0, .int (nI c), .ref 1212, .ref 1213, .ref 1220, .ref 1225, .ref 1233, .ref 1234, .ref 1235, .ref 1236, .ref 1237, .ref 1238, .long (W.1 z).2]))) nx 0 0
                                have hrx7 := rx_frK hrx y5
                                have hrc7 := rcell_fr hrc1 (y5 1225 (by omega))
                                exact v_ireturn (am_Dk d_MM_let (k := 94) rfl) rfl rfl (by omega) (by omega) ⟨rfl, fun i hi => (am_up_ne (show i ≠ 1211 from by omega)).trans (((y5 i (by omega)).trans (hfT i (by omega)))), rx_fr3 hrx7 (fun i hi => (am_up_ne (show i ≠ 1211 from by omega)).trans (rfl)), rcell_fr hrc7 ((am_up_ne (show 1225 ≠ 1211 from by decide)).trans (rfl)), ⟨⟨_, (am_up_ne (show 1236 ≠ 1211 from by omega)).trans (y1)⟩, ⟨_, (am_up_ne (show 1237 ≠ 1211 from by omega)).trans (y2)⟩, ⟨_, (am_up_ne (show 1238 ≠ 1211 from by omega)).trans (y3)⟩⟩, Or.inr ⟨W, t, sz, _, hok, Or.inr ⟨_, hLq, Or.inr ⟨by rw [hW2]; exact he0, by rw [hW2]; exact hrR, Or.inr (Or.inl ⟨hvf, hcn, rfl, tbl_fr hTb2 (fun i z1 z2 => (am_up_ne (show i ≠ 1211 from by omega)).trans (rfl)), am_up_eq _ _ _⟩)⟩⟩⟩⟩
                          · rw [show oI (vfx c Vl Vg T F (some kk)) = nI i0 from by rw [show vfx c Vl Vg T F (some kk) = vfF (vmt Vl Vg (nmL F kk) (nmW T F kk)) c 0 from rfl, hvf]; rfl]
                            have hi0 := vf_lt hvf
                            rw [hvm] at hvf
                            show am_V G _ _ _ _ _ 152 [(2, .int (nI y)), (1, .int (nI t)), (0, .ref 1211)] [.int (nI i0)] M89 nx 0 0
                            refine v_istore_n (L1 := [(3, .int (nI i0)), (2, .int (nI y)), (1, .int (nI t)), (0, .ref 1211)]) (am_Dk d_MM_let (k := 83) rfl) (by decide) rfl ?_
                            refine v_iload_n (am_Dk d_MM_let (k := 84) rfl) rfl ?_
                            refine v_iconst (v := (-1)) (am_Dk d_MM_let (k := 85) rfl) (by decide) ?_
                            refine v_icmp_ne (tgt := 280) (am_Dk d_MM_let (k := 86) rfl) (by decide) (fun c138 => ?_) (fun c138 => ?_)
                            · refine v_aload_n (am_Dk d_MM_let (k := 154) rfl) rfl ?_
                              refine v_get (am_Dk d_MM_let (k := 155) rfl) f_MM_48 y4 rfl ?_
                              refine v_iload_n (am_Dk d_MM_let (k := 156) rfl) rfl ?_
                              refine v_aload_n (am_Dk d_MM_let (k := 157) rfl) rfl ?_
                              refine v_get (am_Dk d_MM_let (k := 158) rfl) f_MM_132 y4 rfl ?_
                              refine v_last (am_Dk d_MM_let (k := 159) rfl) b105 rfl (vp_in_nI (by omega) (by omega)) ?_
                              rw [nI_clamp (n := i0) (by omega)]
                              refine v_aload_n (am_Dk d_MM_let (k := 160) rfl) rfl ?_
                              have m139 : (am_up M89 1235 (.inl (2, 51, .inr (.inl (vp_updL Vr (i0) ((W.1 z).2)))))) 1211 = some (.inr (9, [.int 0, .int 0, .int (-1), .int 0, .int (nI c), .ref 1212, .ref 1213, .ref 1220, .ref 1225, .ref 1233, .ref 1234, .ref 1235, .ref 1236, .ref 1237, .ref 1238, .long (W.1 z).2])) := (am_up_ne (show 1211 ≠ 1235 from by decide)).trans (y4)
                              refine v_get (am_Dk d_MM_let (k := 161) rfl) f_MM_78 m139 rfl ?_
                              have hrx7 := rx_frK hrx y5
                              have hrc7 := rcell_fr hrc1 (y5 1225 (by omega))
                              exact v_ireturn (am_Dk d_MM_let (k := 162) rfl) rfl rfl (by omega) (by omega) ⟨rfl, fun i hi => (am_up_ne (show i ≠ 1235 from by omega)).trans (((y5 i (by omega)).trans (hfT i (by omega)))), rx_fr3 hrx7 (fun i hi => (am_up_ne (show i ≠ 1235 from by omega)).trans (rfl)), rcell_fr hrc7 ((am_up_ne (show 1225 ≠ 1235 from by decide)).trans (rfl)), ⟨⟨_, (am_up_ne (show 1236 ≠ 1235 from by omega)).trans (y1)⟩, ⟨_, (am_up_ne (show 1237 ≠ 1235 from by omega)).trans (y2)⟩, ⟨_, (am_up_ne (show 1238 ≠ 1235 from by omega)).trans (y3)⟩⟩, Or.inr ⟨W, t, sz, _, hok, Or.inr ⟨_, hLq, Or.inr ⟨by rw [hW2]; exact he0, by rw [hW2]; exact hrR, Or.inl ⟨i0, hvf, rfl, by rw [hW2]; exact tbl_set hTb2 (b105) hrR ((am_up_ne (show 1233 ≠ 1235 from by decide)).trans (rfl)) ((am_up_ne (show 1234 ≠ 1235 from by decide)).trans (rfl)) (am_up_eq _ _ _), (am_up_ne (show 1211 ≠ 1235 from by decide)).trans (y4)⟩⟩⟩⟩⟩
                            · exact absurd c138 (nI_nm1 (by omega))
                        · have he0 : ¬ (W.1 z).1 = 0 := fun z => c106 ((errR_le heR).mpr z)
                          refine v_aload_n (am_Dk d_MM_let (k := 72) rfl) rfl ?_
                          refine v_iconst (v := 1) (am_Dk d_MM_let (k := 73) rfl) (by decide) ?_
                          refine v_callV (rest := []) (As := [.int 1]) (mc' := 0) (ms' := 0) (am_Dk d_MM_let (k := 74) rfl) c_MM_67 (Or.inl ⟨_, _, _, _, _, y4, cq_ok9⟩) (t_MM_fail G (d := 0) (n := 0) (by omega) y4) (by omega) (by omega) (by omega) (by simp [Value.category]) rfl (fun v140 M141 n142 h143 => ?_) (fun _ _ _ h143 => ?_)
                          rotate_left
                          · exact absurd h143.1 (by simp)
                          obtain ⟨h143, e144, e145⟩ := h143
                          replace e144 := e144.symm
                          replace e145 := e145.symm
                          subst e144
                          subst e145
                          cases h143
                          show am_V G _ _ _ _ _ 138 [(2, .int (nI y)), (1, .int (nI t)), (0, .ref 1211)] [.int 0] (am_up M89 1211 (.inr (9, [.int 1, .int 0, .int (-1), .int ((W.1 z).1), .int (nI c), .ref 1212, .ref 1213, .ref 1220, .ref 1225, .ref 1233, .ref 1234, .ref 1235, .ref 1236, .ref 1237, .ref 1238, .long rr]))) nx 0 0
                          have hrx7 := rx_frK hrx y5
                          have hrc7 := rcell_fr hrc1 (y5 1225 (by omega))
                          exact v_ireturn (am_Dk d_MM_let (k := 75) rfl) rfl rfl (by omega) (by omega) ⟨rfl, fun i hi => (am_up_ne (show i ≠ 1211 from by omega)).trans (((y5 i (by omega)).trans (hfT i (by omega)))), rx_fr3 hrx7 (fun i hi => (am_up_ne (show i ≠ 1211 from by omega)).trans (rfl)), rcell_fr hrc7 ((am_up_ne (show 1225 ≠ 1211 from by decide)).trans (rfl)), ⟨⟨_, (am_up_ne (show 1236 ≠ 1211 from by omega)).trans (y1)⟩, ⟨_, (am_up_ne (show 1237 ≠ 1211 from by omega)).trans (y2)⟩, ⟨_, (am_up_ne (show 1238 ≠ 1211 from by omega)).trans (y3)⟩⟩, Or.inr ⟨W, t, sz, _, hok, Or.inr ⟨_, hLq, Or.inl ⟨by rw [hW2]; exact he0, rfl, tbl_fr hTb2 (fun i z1 z2 => (am_up_ne (show i ≠ 1211 from by omega)).trans (rfl)), by rw [hW2]; exact am_up_eq _ _ _⟩⟩⟩⟩
                      · exact absurd c81 (nI_nm1 (by omega))
            · exact absurd c64 (nI_nm1 (by omega))
      · have qs : bi (spv (kn_w 10) (nmL F k) (nmW T F k)) = 0 := by rw [spv_iff (by decide), show decide (spg (nmL F k) (nmW T F k) = 10) = false from decide_eq_false ho]; rfl
        have hLn : letV W t = none := by rw [letV, hr3, if_neg ho]
        show am_V G _ _ _ _ _ 4 [(0, .ref 1211)] [.int (nI t)] M2 nx 0 0
        refine v_istore_n (L1 := [(1, .int (nI t)), (0, .ref 1211)]) (am_Dk d_MM_let (k := 2) rfl) (by decide) rfl ?_
        refine v_iload_n (am_Dk d_MM_let (k := 3) rfl) rfl ?_
        refine v_iconst (v := (-1)) (am_Dk d_MM_let (k := 4) rfl) (by decide) ?_
        refine v_icmp_ne (tgt := 16) (am_Dk d_MM_let (k := 5) rfl) (by decide) (fun c146 => ?_) (fun c146 => ?_)
        · refine v_aload_n (am_Dk d_MM_let (k := 10) rfl) rfl ?_
          refine v_get (am_Dk d_MM_let (k := 11) rfl) f_MM_20 q11 rfl ?_
          refine v_get9 (am_Dk d_MM_let (k := 12) rfl) r_MM_98 hX.1.1 rfl ?_
          refine v_iload_n (am_Dk d_MM_let (k := 13) rfl) rfl ?_
          refine v_iald (am_Dk d_MM_let (k := 14) rfl) hMa rfl (vp_in_nI (by omega) (by omega)) ?_
          rw [nI_clamp (n := t) (by omega)]
          rw [show Ma t = 2 from hM2]
          refine v_iconst (v := 2) (am_Dk d_MM_let (k := 15) rfl) (by decide) ?_
          refine v_icmp_ne (tgt := 62) (am_Dk d_MM_let (k := 16) rfl) (by decide) (fun c147 => ?_) (fun c147 => ?_)
          · exact absurd (by decide) c147
          · refine v_aload_n (am_Dk d_MM_let (k := 17) rfl) rfl ?_
            refine v_get (am_Dk d_MM_let (k := 18) rfl) f_MM_27 q11 rfl ?_
            refine v_aload_n (am_Dk d_MM_let (k := 19) rfl) rfl ?_
            refine v_get (am_Dk d_MM_let (k := 20) rfl) f_MM_20 q11 rfl ?_
            refine v_get9 (am_Dk d_MM_let (k := 21) rfl) r_MM_95 hX.1.1 rfl ?_
            refine v_iload_n (am_Dk d_MM_let (k := 22) rfl) rfl ?_
            refine v_iald (am_Dk d_MM_let (k := 23) rfl) hNm rfl (vp_in_nI (by omega) (by omega)) ?_
            rw [nI_clamp (n := t) (by omega)]
            rw [show Nm t = nI k from hNk]
            refine v_ldcS (i := 134) (tx := "is") (am_Dk d_MM_let (k := 24) rfl) (by decide +kernel) ?_
            refine v_callV (rest := []) (As := [.int (nI k), .ref 134]) (mc' := 0) (ms' := 0) (am_Dk d_MM_let (k := 25) rfl) c_MM_103 (Or.inl ⟨_, _, _, _, _, hN, cq_ok11⟩) (t_MN_spells G (d := 4) (by omega) (hN) (hT) hO (hF) hA hk (by omega) (by omega) mmS_134) (by omega) (by omega) (by omega) (by simp [Value.category]) rfl (fun v148 M149 n150 h151 => ?_) (fun _ _ _ h151 => ?_)
            rotate_left
            · exact absurd h151.1 (by simp)
            obtain ⟨h151, e152, e153⟩ := h151
            replace e152 := e152.symm
            replace e153 := e153.symm
            subst e152
            subst e153
            cases h151
            show am_V G _ _ _ _ _ 47 [(1, .int (nI t)), (0, .ref 1211)] [.int (bi (spv (kn_w 10) (nmL F k) (nmW T F k)))] M2 nx 0 0
            rw [qs]
            show am_V G _ _ _ _ _ 47 [(1, .int (nI t)), (0, .ref 1211)] [.int 0] M2 nx 0 0
            refine v_if_eq (tgt := 62) (am_Dk d_MM_let (k := 26) rfl) (by decide) (fun c154 => ?_) (fun c154 => ?_)
            · refine v_iconst (v := (-1)) (am_Dk d_MM_let (k := 33) rfl) (by decide) ?_
              refine v_istore_n (L1 := [(2, .int (-1)), (1, .int (nI t)), (0, .ref 1211)]) (am_Dk d_MM_let (k := 34) rfl) (by decide) rfl ?_
              refine v_iload_n (am_Dk d_MM_let (k := 35) rfl) rfl ?_
              refine v_iconst (v := (-1)) (am_Dk d_MM_let (k := 36) rfl) (by decide) ?_
              refine v_icmp_eq (tgt := 102) (am_Dk d_MM_let (k := 37) rfl) (by decide) (fun c155 => ?_) (fun c155 => ?_)
              · refine v_aload_n (am_Dk d_MM_let (k := 55) rfl) rfl ?_
                refine v_iconst (v := 0) (am_Dk d_MM_let (k := 56) rfl) (by decide) ?_
                refine v_put (am_Dk d_MM_let (k := 57) rfl) f_MM_9 q11 (Nat.le_of_ble_eq_true rfl) rfl rfl ?_
                refine v_aload_n (am_Dk d_MM_let (k := 58) rfl) rfl ?_
                refine v_iconst (v := 2) (am_Dk d_MM_let (k := 59) rfl) (by decide) ?_
                have m156 : (am_up M2 1211 (.inr (9, [.int 0, .int 0, .int 0, .int 0, .int (nI c), .ref 1212, .ref 1213, .ref 1220, .ref 1225, .ref 1233, .ref 1234, .ref 1235, .ref 1236, .ref 1237, .ref 1238, .long re]))) 1211 = some (.inr (9, [.int 0, .int 0, .int 0, .int 0, .int (nI c), .ref 1212, .ref 1213, .ref 1220, .ref 1225, .ref 1233, .ref 1234, .ref 1235, .ref 1236, .ref 1237, .ref 1238, .long re])) := am_up_eq _ _ _
                refine v_callV (rest := []) (As := [.int 2]) (mc' := 0) (ms' := 0) (am_Dk d_MM_let (k := 60) rfl) c_MM_67 (Or.inl ⟨_, _, _, _, _, m156, cq_ok9⟩) (t_MM_fail G (d := 0) (n := 0) (by omega) m156) (by omega) (by omega) (by omega) (by simp [Value.category]) rfl (fun v157 M158 n159 h160 => ?_) (fun _ _ _ h160 => ?_)
                rotate_left
                · exact absurd h160.1 (by simp)
                obtain ⟨h160, e161, e162⟩ := h160
                replace e161 := e161.symm
                replace e162 := e162.symm
                subst e161
                subst e162
                cases h160
                rw [am_uu0 (a := 1211)]
                show am_V G _ _ _ _ _ 112 [(2, .int (-1)), (1, .int (nI t)), (0, .ref 1211)] [.int 0] (am_up M2 1211 (.inr (9, [.int 2, .int 0, .int 0, .int 0, .int (nI c), .ref 1212, .ref 1213, .ref 1220, .ref 1225, .ref 1233, .ref 1234, .ref 1235, .ref 1236, .ref 1237, .ref 1238, .long re]))) nx 0 0
                exact v_ireturn (am_Dk d_MM_let (k := 61) rfl) rfl rfl (by omega) (by omega) ⟨rfl, fun i hi => (am_up_ne (show i ≠ 1211 from by omega)).trans ((hfT i (by omega))), rx_fr3 hrx (fun i hi => (am_up_ne (show i ≠ 1211 from by omega)).trans (rfl)), rcell_fr hrc1 ((am_up_ne (show 1225 ≠ 1211 from by decide)).trans (rfl)), ⟨⟨_, (am_up_ne (show 1236 ≠ 1211 from by omega)).trans (hW0)⟩, ⟨_, (am_up_ne (show 1237 ≠ 1211 from by omega)).trans (hS0)⟩, ⟨_, (am_up_ne (show 1238 ≠ 1211 from by omega)).trans (hL0)⟩⟩, Or.inr ⟨W, t, sz, _, hok, Or.inl ⟨hLn, rfl, tbl_fr hTb (fun i z1 z2 => (am_up_ne (show i ≠ 1211 from by omega)).trans (rfl)), am_up_eq _ _ _⟩⟩⟩
              · exact absurd (by decide) c155
            · exact absurd (by decide) c154
        · exact absurd c146 (nI_nm1 (by omega))
  · cases hv
    show am_V G _ _ _ _ _ 4 [(0, .ref 1211)] [.int (-1)] M2 nx 0 0
    refine v_istore_n (L1 := [(1, .int (-1)), (0, .ref 1211)]) (am_Dk d_MM_let (k := 2) rfl) (by decide) rfl ?_
    refine v_iload_n (am_Dk d_MM_let (k := 3) rfl) rfl ?_
    refine v_iconst (v := (-1)) (am_Dk d_MM_let (k := 4) rfl) (by decide) ?_
    refine v_icmp_ne (tgt := 16) (am_Dk d_MM_let (k := 5) rfl) (by decide) (fun c163 => ?_) (fun c163 => ?_)
    · exact absurd (by decide) c163
    · refine v_aload_n (am_Dk d_MM_let (k := 6) rfl) rfl ?_
      refine v_iconst (v := 2) (am_Dk d_MM_let (k := 7) rfl) (by decide) ?_
      refine v_callV (rest := []) (As := [.int 2]) (mc' := 0) (ms' := 0) (am_Dk d_MM_let (k := 8) rfl) c_MM_67 (Or.inl ⟨_, _, _, _, _, q11, cq_ok9⟩) (t_MM_fail G (d := 0) (n := 0) (by omega) q11) (by omega) (by omega) (by omega) (by simp [Value.category]) rfl (fun v164 M165 n166 h167 => ?_) (fun _ _ _ h167 => ?_)
      rotate_left
      · exact absurd h167.1 (by simp)
      obtain ⟨h167, e168, e169⟩ := h167
      replace e168 := e168.symm
      replace e169 := e169.symm
      subst e168
      subst e169
      cases h167
      show am_V G _ _ _ _ _ 15 [(1, .int (-1)), (0, .ref 1211)] [.int 0] (am_up M2 1211 (.inr (9, [.int 2, .int 0, .int (nI wB), .int 0, .int (nI c), .ref 1212, .ref 1213, .ref 1220, .ref 1225, .ref 1233, .ref 1234, .ref 1235, .ref 1236, .ref 1237, .ref 1238, .long re]))) nx 0 0
      exact v_ireturn (am_Dk d_MM_let (k := 9) rfl) rfl rfl (by omega) (by omega) ⟨rfl, fun i hi => (am_up_ne (show i ≠ 1211 from by omega)).trans ((hfT i (by omega))), rx_fr9 hrx (fun i hi => (am_up_ne (show i ≠ 1211 from by omega)).trans (rfl)), rcell_fr hrc1 ((am_up_ne (show 1225 ≠ 1211 from by decide)).trans (rfl)), ⟨⟨_, (am_up_ne (show 1236 ≠ 1211 from by omega)).trans (hW0)⟩, ⟨_, (am_up_ne (show 1237 ≠ 1211 from by omega)).trans (hS0)⟩, ⟨_, (am_up_ne (show 1238 ≠ 1211 from by omega)).trans (hL0)⟩⟩, Or.inl ⟨wB, _, hwn, hbad, rfl, tbl_fr hTb (fun i z1 z2 => (am_up_ne (show i ≠ 1211 from by omega)).trans (rfl)), am_up_eq _ _ _⟩⟩
