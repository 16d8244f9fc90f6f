/-! THE CLASS'S READER: READ (mine; rows laid by the walker) -/
def cs0 (M : am_M) : Prop := (∃ (ou : Nat) (dp du dn sy pl : Int32), M 1005 = some (.inr (5, [.ref 1001, .ref 1003, .ref 1006, .ref 1007, .int dp, .int du, .int dn, .int sy, .int pl, .ref ou, .ref 1208, .ref 1209, .ref 1210]))) ∧ (∃ (kd nm : Nat) (pl af nf nt : Int32) (nu : Int64), M 1006 = some (.inr (6, [.ref 1001, .ref kd, .int pl, .int af, .long nu, .ref nm, .int nf, .int nt]))) ∧ M 1007 = some (.inl (4, 100, .inr (.inr (.inr (.inr (ci_arr 100)))))) ∧ cs_X M 0 ∧ (∃ o, M 1208 = some (cs_O o)) ∧ (∃ o, M 1209 = some (cs_O o)) ∧ ∃ o, M 1210 = some (cs_O o)
theorem cs_X0 {M : am_M} : ∀ {K : List Frm}, cs_K M K → cs_X M K.length → cs_X M 0
  | [], _, h => h
  | (_, _, _, _, _, _, _, _) :: _, ⟨⟨_, h1⟩, h2, h3⟩, h => cs_X0 h3 (cs_Xdn h h1 h2)
theorem cs_rest {f : Nat → Int32} {n : Nat} {M : am_M} {s : Cfg} (h : cs f n M s) : cs0 M := by
  obtain ⟨K, du, dn, sy, pl, ou, pr, a, lf, rt, la⟩ := s
  obtain ⟨h5, ⟨nu, nf, nt, h6, _⟩, h7, _, hK, hX, h8, h9, h10⟩ := h
  exact ⟨⟨_, _, _, _, _, _, h5⟩, ⟨_, _, _, _, _, _, _, h6⟩, h7, cs_X0 hK hX, ⟨_, h8⟩, ⟨_, h9⟩, ⟨_, h10⟩⟩
theorem cs_set5 {f : Nat → Int32} {n : Nat} {M : am_M} {K : List Frm} {du dn : Bool} {sy ou a : Nat} {pl pr pl' : Int32} {lf rt la : Opd} (h : cs f n M (K, du, dn, sy, pl, ou, pr, a, lf, rt, la)) : cs f n (am_up M 1005 (cs_R K.length du dn sy pl' ou)) (K, du, dn, sy, pl', ou, pr, a, lf, rt, la) := by
  obtain ⟨h5, ⟨nu, nf, nt, h6, hv⟩, h7, hT, hK, hX, h8, h9, h10⟩ := h
  refine ⟨am_up_eq _ _ _, ⟨nu, nf, nt, (am_up_ne (by decide)).trans h6, hv⟩, (am_up_ne (by decide)).trans h7, fun z => ?_, cs_Kup hK (fun i z1 z2 => am_up_ne (by omega)), cs_Xup hX (fun i z1 z2 => am_up_ne (by omega)), (am_up_ne (by decide)).trans h8, (am_up_ne (by decide)).trans h9, (am_up_ne (by decide)).trans h10⟩
  have := hT z
  cases K with
  | nil => trivial
  | cons fr K => exact (am_up_ne (show 2 * K.length + 1008 ≠ 1005 by omega)).trans this
def c_fin (f : Nat → Int32) (n : Nat) (s : Cfg) : Cfg := match s with
  | (K, du, dn, sy, pl, ou, pr, a, lf, rt, la) => if pl = -1 ∧ 1000 < sy then (K, du, dn, sy, nI (tok f n 0).2.1, ou, pr, a, lf, rt, la) else (K, du, dn, sy, pl, ou, pr, a, lf, rt, la)
theorem t_Rd_go (G : am_G) {d nx : Nat} (hd : 9 ≤ d) {M : am_M} {f : Nat → Int32} {n : Nat} (h1 : M 1001 = some (.inr (1, [.ref 1002, .int (nI n)]))) (h2 : M 1002 = some (.inl (0, 4096, .inl f))) (hn : n ≤ 4096) {K : List Frm} {sy ou a : Nat} {pr : Int32} {lf rt la : Opd} (hw : wf n (K, false, false, sy, -1, ou, pr, a, lf, rt, la)) (hcs : cs f n M (K, false, false, sy, -1, ou, pr, a, lf, rt, la)) : am_Tr G m_Rd_goOn d 0 0 [.ref 1005] M nx (fun r M1 nx1 => r = .inl none ∧ nx1 = nx ∧ cs f n M1 (c_go f n (K, false, false, sy, -1, ou, pr, a, lf, rt, la)) ∧ cs_fr M M1) := by
  obtain ⟨hl, ha, hK⟩ := hw
  replace hl : K.length ≤ 100 := hl
  obtain ⟨le, lv, l0, l1⟩ := lf
  obtain ⟨re, rv, r0, r1⟩ := rt
  obtain ⟨e, v, a0, b0⟩ := la
  cases K with
  | nil => exact absurd hK id
  | cons fr K =>
    obtain ⟨ro, nm, mo, ar, fe, fv, fa, fb⟩ := fr
    obtain ⟨k1, k2, k3, k4, k5⟩ := hK
    replace k1 : ro < 7 := k1
    replace k2 : nm < 26 := k2
    replace k3 : ar ≤ 7 := k3
    have hl' : K.length + 1 ≤ 100 := hl
    by_cases hi : 0 < kn_inf (tok f n a).2.2.2.2 ∧ kn_inf (tok f n a).2.2.2.2 ≤ mo ∧ pr ≤ kn_ml (tok f n a).2.2.2.2
    · exact t_Rd_goOnI G (by omega) h1 h2 hn (by omega) k2 ha hi hcs
    · rcases (show ro = 0 ∨ ro = 1 ∨ ro = 2 ∨ ro = 3 ∨ ro = 4 ∨ ro = 5 ∨ ro = 6 by omega) with h | h | h | h | h | h | h
      · subst h
        exact t_Rd_goOn0 G (by omega) h1 h2 hn (by omega) k2 ha hi hcs
      · subst h
        cases K with
        | nil => exact absurd (show 1 = 0 from k4.mpr rfl) (by decide)
        | cons fr1 K =>
          obtain ⟨ro1, nm1, mo1, ar1, ge, gv, ga, gb⟩ := fr1
          replace hl' : K.length + 1 + 1 ≤ 100 := hl'
          exact t_Rd_goOn1 G (by omega) h1 h2 hn (by omega) k2 ha hi hcs
      · subst h
        cases K with
        | nil => exact absurd (show 2 = 0 from k4.mpr rfl) (by decide)
        | cons fr1 K =>
          obtain ⟨ro1, nm1, mo1, ar1, ge, gv, ga, gb⟩ := fr1
          replace hl' : K.length + 1 + 1 ≤ 100 := hl'
          exact t_Rd_goOn2 G (by omega) h1 h2 hn (by omega) k2 ha hi hcs
      · subst h
        cases K with
        | nil => exact absurd (show 3 = 0 from k4.mpr rfl) (by decide)
        | cons fr1 K =>
          obtain ⟨ro1, nm1, mo1, ar1, ge, gv, ga, gb⟩ := fr1
          replace hl' : K.length + 1 + 1 ≤ 100 := hl'
          exact t_Rd_goOn3 G (by omega) h1 h2 hn (by omega) k2 ha hi hcs
      · subst h
        cases K with
        | nil => exact absurd (show 4 = 0 from k4.mpr rfl) (by decide)
        | cons fr1 K =>
          obtain ⟨ro1, nm1, mo1, ar1, ge, gv, ga, gb⟩ := fr1
          replace hl' : K.length + 1 + 1 ≤ 100 := hl'
          exact t_Rd_goOn4 G (by omega) h1 h2 hn (by omega) k2 ha hi (by omega) hcs
      · subst h
        cases K with
        | nil => exact absurd (show 5 = 0 from k4.mpr rfl) (by decide)
        | cons fr1 K =>
          obtain ⟨ro1, nm1, mo1, ar1, ge, gv, ga, gb⟩ := fr1
          replace hl' : K.length + 1 + 1 ≤ 100 := hl'
          exact t_Rd_goOn5 G (by omega) h1 h2 hn (by omega) k2 ha hi hcs
      · subst h
        cases K with
        | nil => exact absurd (show 6 = 0 from k4.mpr rfl) (by decide)
        | cons fr1 K =>
          obtain ⟨ro1, nm1, mo1, ar1, ge, gv, ga, gb⟩ := fr1
          replace hl' : K.length + 1 + 1 ≤ 100 := hl'
          exact t_Rd_goOn6 G (by omega) h1 h2 hn (by omega) k2 ha hi hcs
set_option maxRecDepth 20000 in
theorem l_Rd_exit (G : am_G) {d nx i : Nat} {M0 M : am_M} {f : Nat → Int32} {n : Nat} {RR : Cfg} {K : List Frm} {du dn : Bool} {sy ou a : Nat} {pl pr : Int32} {lf rt la : Opd} (hR : RR = (K, du, dn, sy, pl, ou, pr, a, lf, rt, la)) (hcs : cs f n M (K, du, dn, sy, pl, ou, pr, a, lf, rt, la)) (hsy : sy < 100000) (hf : cs_fr M0 M) : am_V G m_Rd_read d 0 0 (fun r M1 nx1 => r = .inl none ∧ nx1 = nx ∧ cs f n M1 (c_fin f n RR) ∧ cs_fr M0 M1) 123 [(2, .int (nI i)), (0, .ref 1005), (1, .int (nI (tok f n 0).2.1))] [] M nx 0 0 := by
  subst hR
  have h5 : M 1005 = some (.inr (5, [.ref 1001, .ref 1003, .ref 1006, .ref 1007, .int (nI K.length), .int (bi du), .int (bi dn), .int (nI sy), .int pl, .ref ou, .ref 1208, .ref 1209, .ref 1210])) := hcs.1
  refine v_aload_n (am_Dk d_Rd_read (k := 57) rfl) rfl ?_
  refine v_get (am_Dk d_Rd_read (k := 58) rfl) f_Rd_68 h5 rfl ?_
  refine v_iconst (v := (-1)) (am_Dk d_Rd_read (k := 59) rfl) (by decide) ?_
  refine v_icmp_ne (tgt := 146) (am_Dk d_Rd_read (k := 60) rfl) (by decide) (fun c1 => ?_) (fun c1 => ?_)
  · have hp := c1
    exact v_return (am_Dk d_Rd_read (k := 68) rfl) rfl (by omega) (by omega) ⟨rfl, rfl, by rw [c_fin, if_neg (by first | exact fun z => hp z.1 | exact fun z => hs z.2)]; exact hcs, hf⟩
  · have hp := c1
    refine v_aload_n (am_Dk d_Rd_read (k := 61) rfl) rfl ?_
    refine v_get (am_Dk d_Rd_read (k := 62) rfl) f_Rd_65 h5 rfl ?_
    refine v_sipush (v := 1000) (am_Dk d_Rd_read (k := 63) rfl) (by decide) ?_
    refine v_icmp_le (tgt := 146) (am_Dk d_Rd_read (k := 64) rfl) (by decide) (fun c2 => ?_) (fun c2 => ?_)
    · have Nc2 := (nI_leI (a := sy) (b := 1000) (by omega) (by omega)).mp c2
      have hs : ¬ 1000 < sy := by omega
      exact v_return (am_Dk d_Rd_read (k := 68) rfl) rfl (by omega) (by omega) ⟨rfl, rfl, by rw [c_fin, if_neg (by first | exact fun z => hp z.1 | exact fun z => hs z.2)]; exact hcs, hf⟩
    · have Nc2 : ¬ sy ≤ 1000 := fun z => c2 ((nI_leI (a := sy) (b := 1000) (by omega) (by omega)).mpr z)
      have hs : 1000 < sy := by omega
      refine v_aload_n (am_Dk d_Rd_read (k := 65) rfl) rfl ?_
      refine v_iload_n (am_Dk d_Rd_read (k := 66) rfl) rfl ?_
      refine v_put (am_Dk d_Rd_read (k := 67) rfl) f_Rd_68 h5 (Nat.le_of_ble_eq_true rfl) rfl rfl ?_
      exact v_return (am_Dk d_Rd_read (k := 68) rfl) rfl (by omega) (by omega) ⟨rfl, rfl, by rw [c_fin, if_pos ⟨hp, hs⟩]; exact cs_set5 hcs, fun j hj => (am_up_ne (show j ≠ 1005 by omega)).trans (hf j hj)⟩
set_option maxRecDepth 20000 in
theorem l_Rd_read1 (G : am_G) {d nx : Nat} (hd : 10 ≤ d) {M0 : am_M} {f : Nat → Int32} {n : Nat} (h1 : M0 1001 = some (.inr (1, [.ref 1002, .int (nI n)]))) (h2 : M0 1002 = some (.inl (0, 4096, .inl f))) (hn : n ≤ 4096) {c ed cap : Nat} {Vi Vb Vl : Nat → Nat} {Vg : Nat → Nat → Int32} {Vn : Nat → Int64} {R : Nat → Option Nat} {mcn : Int32} (hV : vs M0 c Vi Vb Vl Vg Vn ed cap R mcn) {RR : Cfg} : ∀ m i (M : am_M) (s : Cfg), i + m = 16384 → c_run f n (cl_lu c Vl Vg Vn f) m s = RR → cs f n M s → (c_on s = true → wf n s) → s.2.2.2.1 + 2 * m ≤ 40000 → cs_fr M0 M → am_V G m_Rd_read d 0 0 (fun r M1 nx1 => r = .inl none ∧ nx1 = nx ∧ cs f n M1 (c_fin f n RR) ∧ cs_fr M0 M1) 57 [(2, .int (nI i)), (0, .ref 1005), (1, .int (nI (tok f n 0).2.1))] [] M nx 0 0 := by
  intro m
  induction m with
  | zero =>
    intro i M s him hR hcs hw hsy hf
    obtain ⟨K, du, dn, sy, pl, ou, pr, a, lf, rt, la⟩ := s
    replace hsy : sy + 2 * 0 ≤ 40000 := hsy
    refine v_iload_n (am_Dk d_Rd_read (k := 29) rfl) rfl ?_
    refine v_sipush (v := 16384) (am_Dk d_Rd_read (k := 30) rfl) (by decide) ?_
    refine v_icmp_ge (tgt := 123) (am_Dk d_Rd_read (k := 31) rfl) (by decide) (fun c1 => ?_) (fun c1 => ?_)
    · have Nc1 := (nI_leI (a := 16384) (b := i) (by omega) (by omega)).mp c1
      exact l_Rd_exit G hR.symm hcs (by omega) hf
    · have Nc1 : ¬ 16384 ≤ i := fun z => c1 ((nI_leI (a := 16384) (b := i) (by omega) (by omega)).mpr z)
      exfalso
      omega
  | succ m ih =>
    intro i M s him hR hcs hw hsy hf
    by_cases hon : c_on s = true
    rotate_left
    · rw [c_run, if_neg hon] at hR
      obtain ⟨K, du, dn, sy, pl, ou, pr, a, lf, rt, la⟩ := s
      replace hsy : sy + 2 * (m + 1) ≤ 40000 := hsy
      have h5 : M 1005 = some (.inr (5, [.ref 1001, .ref 1003, .ref 1006, .ref 1007, .int (nI K.length), .int (bi du), .int (bi dn), .int (nI sy), .int pl, .ref ou, .ref 1208, .ref 1209, .ref 1210])) := hcs.1
      refine v_iload_n (am_Dk d_Rd_read (k := 29) rfl) rfl ?_
      refine v_sipush (v := 16384) (am_Dk d_Rd_read (k := 30) rfl) (by decide) ?_
      refine v_icmp_ge (tgt := 123) (am_Dk d_Rd_read (k := 31) rfl) (by decide) (fun c1 => ?_) (fun c1 => ?_)
      · have Nc1 := (nI_leI (a := 16384) (b := i) (by omega) (by omega)).mp c1
        exfalso
        omega
      · have Nc1 : ¬ 16384 ≤ i := fun z => c1 ((nI_leI (a := 16384) (b := i) (by omega) (by omega)).mpr z)
        refine v_aload_n (am_Dk d_Rd_read (k := 32) rfl) rfl ?_
        refine v_get (am_Dk d_Rd_read (k := 33) rfl) f_Rd_61 h5 rfl ?_
        refine v_if_ne (tgt := 123) (am_Dk d_Rd_read (k := 34) rfl) (by decide) (fun c2 => ?_) (fun c2 => ?_)
        · exact l_Rd_exit G hR.symm hcs (by omega) hf
        · have hdn : dn = false := bi0.mp (c2)
          refine v_aload_n (am_Dk d_Rd_read (k := 35) rfl) rfl ?_
          refine v_get (am_Dk d_Rd_read (k := 36) rfl) f_Rd_68 h5 rfl ?_
          refine v_iconst (v := (-1)) (am_Dk d_Rd_read (k := 37) rfl) (by decide) ?_
          refine v_icmp_ne (tgt := 123) (am_Dk d_Rd_read (k := 38) rfl) (by decide) (fun c3 => ?_) (fun c3 => ?_)
          · exact l_Rd_exit G hR.symm hcs (by omega) hf
          · have hpl : pl = -1 := c3
            exact absurd (decide_eq_true ⟨hdn, hpl⟩) hon
    · have hw := hw hon
      have hwn : c_on (c_stp f n (cl_lu c Vl Vg Vn f) s) = true → wf n (c_stp f n (cl_lu c Vl Vg Vn f) s) := fun z => wf_stp hn hw hon z
      have hsn := sy_stp (f := f) (n := n) (lu := (cl_lu c Vl Vg Vn f)) s
      rw [c_run, if_pos hon] at hR
      have hM1 : M 1001 = some (.inr (1, [.ref 1002, .int (nI n)])) := (hf _ (by omega)).trans h1
      have hM2 : M 1002 = some (.inl (0, 4096, .inl f)) := (hf _ (by omega)).trans h2
      have hVM : vs M c Vi Vb Vl Vg Vn ed cap R mcn := vs_fr hV (hf _ (by omega)) (hf _ (by omega)) (fun j hj => hf j (by omega))
      obtain ⟨K, du, dn, sy, pl, ou, pr, a, lf, rt, la⟩ := s
      have hd9 : dn = false := (of_decide_eq_true hon).1
      have hp9 : pl = -1 := (of_decide_eq_true hon).2
      subst hd9
      subst hp9
      replace hsy : sy + 2 * (m + 1) ≤ 40000 := hsy
      replace hsn : (c_stp f n (cl_lu c Vl Vg Vn f) (K, du, false, sy, -1, ou, pr, a, lf, rt, la)).2.2.2.1 ≤ sy + 2 := hsn
      cases du with
      | false =>
        have h5 : M 1005 = some (.inr (5, [.ref 1001, .ref 1003, .ref 1006, .ref 1007, .int (nI K.length), .int 0, .int 0, .int (nI sy), .int (-1), .ref ou, .ref 1208, .ref 1209, .ref 1210])) := hcs.1
        refine v_iload_n (am_Dk d_Rd_read (k := 29) rfl) rfl ?_
        refine v_sipush (v := 16384) (am_Dk d_Rd_read (k := 30) rfl) (by decide) ?_
        refine v_icmp_ge (tgt := 123) (am_Dk d_Rd_read (k := 31) rfl) (by decide) (fun c1 => ?_) (fun c1 => ?_)
        · have Nc1 := (nI_leI (a := 16384) (b := i) (by omega) (by omega)).mp c1
          exfalso
          omega
        · have Nc1 : ¬ 16384 ≤ i := fun z => c1 ((nI_leI (a := 16384) (b := i) (by omega) (by omega)).mpr z)
          refine v_aload_n (am_Dk d_Rd_read (k := 32) rfl) rfl ?_
          refine v_get (am_Dk d_Rd_read (k := 33) rfl) f_Rd_61 h5 rfl ?_
          refine v_if_ne (tgt := 123) (am_Dk d_Rd_read (k := 34) rfl) (by decide) (fun c2 => ?_) (fun c2 => ?_)
          · exact absurd (by decide) c2
          · have Nc2 := (nI_eq (a := 0) (b := 0) (by omega) (by omega)).mp c2
            refine v_aload_n (am_Dk d_Rd_read (k := 35) rfl) rfl ?_
            refine v_get (am_Dk d_Rd_read (k := 36) rfl) f_Rd_68 h5 rfl ?_
            refine v_iconst (v := (-1)) (am_Dk d_Rd_read (k := 37) rfl) (by decide) ?_
            refine v_icmp_ne (tgt := 123) (am_Dk d_Rd_read (k := 38) rfl) (by decide) (fun c3 => ?_) (fun c3 => ?_)
            · exact absurd (by decide) c3
            · refine v_aload_n (am_Dk d_Rd_read (k := 39) rfl) rfl ?_
              refine v_get (am_Dk d_Rd_read (k := 40) rfl) f_Rd_85 h5 rfl ?_
              refine v_if_ne (tgt := 93) (am_Dk d_Rd_read (k := 41) rfl) (by decide) (fun c4 => ?_) (fun c4 => ?_)
              · exact absurd (by decide) c4
              · have Nc4 := (nI_eq (a := 0) (b := 0) (by omega) (by omega)).mp c4
                refine v_aload_n (am_Dk d_Rd_read (k := 42) rfl) rfl ?_
                refine v_callV (rest := []) (As := []) (mc' := 0) (ms' := 0) (am_Dk d_Rd_read (k := 43) rfl) c_Rd_88 (Or.inl ⟨_, _, _, _, _, h5, cq_ok5⟩) (t_Rd_go G (d := 9) (by omega) hM1 hM2 hn hw hcs) (by omega) (by omega) (by omega) (by simp [Value.category]) rfl (fun v5 M6 n7 h8 => ?_) (fun _ _ _ h8 => ?_)
                rotate_left
                · exact absurd h8.1 (by simp)
                obtain ⟨h8, e11, hc9, hf10⟩ := h8
                replace e11 := e11.symm
                subst e11
                cases h8
                show am_V G _ _ _ _ _ 90 [(2, .int (nI i)), (0, .ref 1005), (1, .int (nI (tok f n 0).2.1))] [] M6 nx 0 0
                refine v_goto (tgt := 117) (am_Dk d_Rd_read (k := 44) rfl) (by decide) ?_
                refine v_iinc (v := nI (i + 1)) (L1 := [(2, .int (nI (i + 1))), (0, .ref 1005), (1, .int (nI (tok f n 0).2.1))]) (am_Dk d_Rd_read (k := 55) rfl) rfl (nI_1 _) (by decide) rfl ?_
                refine v_goto (tgt := 57) (am_Dk d_Rd_read (k := 56) rfl) (by decide) ?_
                exact ih (i + 1) _ _ (by omega) hR ((show c_stp f n (cl_lu c Vl Vg Vn f) (K, false, false, sy, -1, ou, pr, a, lf, rt, la) = c_go f n (K, false, false, sy, -1, ou, pr, a, lf, rt, la) from rfl).symm ▸ hc9) hwn (by omega) (cs_frT hf hf10)
      | true =>
        obtain ⟨le, lv, l0, l1⟩ := lf
        obtain ⟨re, rv, r0, r1⟩ := rt
        obtain ⟨e, v, a0, b0⟩ := la
        obtain ⟨hl, ha, hK⟩ := hw
        replace hl : K.length ≤ 100 := hl
        replace ha : a ≤ n := ha
        cases K with
        | nil => exact absurd hK id
        | cons fr K =>
          obtain ⟨ro, nm, mo, ar, fe, fv, fa, fb⟩ := fr
          obtain ⟨k1, k2, k3, k4, k5⟩ := hK
          replace k2 : nm < 26 := k2
          replace hl : K.length + 1 ≤ 100 := hl
          obtain ⟨nu, nf, nt, h6, hnu⟩ := hcs.2.1
          have tk0 := tok_ok f ha
          have h5 : M 1005 = some (.inr (5, [.ref 1001, .ref 1003, .ref 1006, .ref 1007, .int (nI (K.length + 1)), .int 1, .int 0, .int (nI sy), .int (-1), .ref ou, .ref 1208, .ref 1209, .ref 1210])) := hcs.1
          refine v_iload_n (am_Dk d_Rd_read (k := 29) rfl) rfl ?_
          refine v_sipush (v := 16384) (am_Dk d_Rd_read (k := 30) rfl) (by decide) ?_
          refine v_icmp_ge (tgt := 123) (am_Dk d_Rd_read (k := 31) rfl) (by decide) (fun c1 => ?_) (fun c1 => ?_)
          · have Nc1 := (nI_leI (a := 16384) (b := i) (by omega) (by omega)).mp c1
            exfalso
            omega
          · have Nc1 : ¬ 16384 ≤ i := fun z => c1 ((nI_leI (a := 16384) (b := i) (by omega) (by omega)).mpr z)
            refine v_aload_n (am_Dk d_Rd_read (k := 32) rfl) rfl ?_
            refine v_get (am_Dk d_Rd_read (k := 33) rfl) f_Rd_61 h5 rfl ?_
            refine v_if_ne (tgt := 123) (am_Dk d_Rd_read (k := 34) rfl) (by decide) (fun c2 => ?_) (fun c2 => ?_)
            · exact absurd (by decide) c2
            · have Nc2 := (nI_eq (a := 0) (b := 0) (by omega) (by omega)).mp c2
              refine v_aload_n (am_Dk d_Rd_read (k := 35) rfl) rfl ?_
              refine v_get (am_Dk d_Rd_read (k := 36) rfl) f_Rd_68 h5 rfl ?_
              refine v_iconst (v := (-1)) (am_Dk d_Rd_read (k := 37) rfl) (by decide) ?_
              refine v_icmp_ne (tgt := 123) (am_Dk d_Rd_read (k := 38) rfl) (by decide) (fun c3 => ?_) (fun c3 => ?_)
              · exact absurd (by decide) c3
              · refine v_aload_n (am_Dk d_Rd_read (k := 39) rfl) rfl ?_
                refine v_get (am_Dk d_Rd_read (k := 40) rfl) f_Rd_85 h5 rfl ?_
                refine v_if_ne (tgt := 93) (am_Dk d_Rd_read (k := 41) rfl) (by decide) (fun c4 => ?_) (fun c4 => ?_)
                · have Nc4 : ¬ 1 = 0 := fun z => c4 ((nI_eq (a := 1) (b := 0) (by omega) (by omega)).mpr z)
                  refine v_aload_n (am_Dk d_Rd_read (k := 45) rfl) rfl ?_
                  refine v_get (am_Dk d_Rd_read (k := 46) rfl) f_Rd_24 h5 rfl ?_
                  refine v_get (am_Dk d_Rd_read (k := 47) rfl) f_Rd_91 h6 rfl ?_
                  refine v_gets (v := .ref 28) (am_Dk d_Rd_read (k := 48) rfl) s_Rd_95 (by decide +kernel) ?_
                  refine v_acmp_ne (rx := (some (26 + (tok f n a).1))) (ry := (some 28)) (tgt := 113) (am_Dk d_Rd_read (k := 49) rfl) rfl rfl (by decide) (en_K ⟨by omega, by omega⟩ ⟨by decide, by decide⟩) (fun c5 => ?_) (fun c5 => ?_)
                  · have K2_c5 : ¬ (tok f n a).1 = 2 := fun z => c5 (by rw [z])
                    refine v_aload_n (am_Dk d_Rd_read (k := 53) rfl) rfl ?_
                    refine v_callV (rest := []) (As := []) (mc' := 0) (ms' := 0) (am_Dk d_Rd_read (k := 54) rfl) c_Rd_103 (Or.inl ⟨_, _, _, _, _, h5, cq_ok5⟩) (t_Rd_readOperand G (d := 8) (by omega) hM1 hM2 hn (by omega) k2 ha hVM hcs) (by omega) (by omega) (by omega) (by simp [Value.category]) rfl (fun v6 M7 n8 h9 => ?_) (fun _ _ _ h9 => ?_)
                    rotate_left
                    · exact absurd h9.1 (by simp)
                    obtain ⟨h9, e12, hc10, hf11⟩ := h9
                    replace e12 := e12.symm
                    subst e12
                    cases h9
                    show am_V G _ _ _ _ _ 117 [(2, .int (nI i)), (0, .ref 1005), (1, .int (nI (tok f n 0).2.1))] [] M7 nx 0 0
                    refine v_iinc (v := nI (i + 1)) (L1 := [(2, .int (nI (i + 1))), (0, .ref 1005), (1, .int (nI (tok f n 0).2.1))]) (am_Dk d_Rd_read (k := 55) rfl) rfl (nI_1 _) (by decide) rfl ?_
                    refine v_goto (tgt := 57) (am_Dk d_Rd_read (k := 56) rfl) (by decide) ?_
                    exact ih (i + 1) _ _ (by omega) hR ((show c_stp f n (cl_lu c Vl Vg Vn f) ((ro, nm, mo, ar, (fe, fv, fa, fb)) :: K, true, false, sy, -1, ou, pr, a, (le, lv, l0, l1), (re, rv, r0, r1), (e, v, a0, b0)) = c_rop f n (cl_lu c Vl Vg Vn f) ((ro, nm, mo, ar, (fe, fv, fa, fb)) :: K, true, false, sy, -1, ou, pr, a, (le, lv, l0, l1), (re, rv, r0, r1), (e, v, a0, b0)) from by rw [c_stp, if_pos rfl, if_neg K2_c5]).symm ▸ hc10) hwn (by omega) (cs_frT hf hf11)
                  · have K2_c5 : (tok f n a).1 = 2 := by have := Option.some.inj c5; omega
                    refine v_aload_n (am_Dk d_Rd_read (k := 50) rfl) rfl ?_
                    refine v_callV (rest := []) (As := []) (mc' := 0) (ms' := 0) (am_Dk d_Rd_read (k := 51) rfl) c_Rd_100 (Or.inl ⟨_, _, _, _, _, h5, cq_ok5⟩) (t_Rd_readName G (d := 8) (by omega) hM1 hM2 hn (by omega) k2 ha hcs) (by omega) (by omega) (by omega) (by simp [Value.category]) rfl (fun v13 M14 n15 h16 => ?_) (fun _ _ _ h16 => ?_)
                    rotate_left
                    · exact absurd h16.1 (by simp)
                    obtain ⟨h16, e19, hc17, hf18⟩ := h16
                    replace e19 := e19.symm
                    subst e19
                    cases h16
                    show am_V G _ _ _ _ _ 110 [(2, .int (nI i)), (0, .ref 1005), (1, .int (nI (tok f n 0).2.1))] [] M14 nx 0 0
                    refine v_goto (tgt := 117) (am_Dk d_Rd_read (k := 52) rfl) (by decide) ?_
                    refine v_iinc (v := nI (i + 1)) (L1 := [(2, .int (nI (i + 1))), (0, .ref 1005), (1, .int (nI (tok f n 0).2.1))]) (am_Dk d_Rd_read (k := 55) rfl) rfl (nI_1 _) (by decide) rfl ?_
                    refine v_goto (tgt := 57) (am_Dk d_Rd_read (k := 56) rfl) (by decide) ?_
                    exact ih (i + 1) _ _ (by omega) hR ((show c_stp f n (cl_lu c Vl Vg Vn f) ((ro, nm, mo, ar, (fe, fv, fa, fb)) :: K, true, false, sy, -1, ou, pr, a, (le, lv, l0, l1), (re, rv, r0, r1), (e, v, a0, b0)) = c_name f n ((ro, nm, mo, ar, (fe, fv, fa, fb)) :: K, true, false, sy, -1, ou, pr, a, (le, lv, l0, l1), (re, rv, r0, r1), (e, v, a0, b0)) from by rw [c_stp, if_pos rfl, if_pos K2_c5]).symm ▸ hc17) hwn (by omega) (cs_frT hf hf18)
                · exact absurd c4 (by decide)
set_option maxRecDepth 20000 in
set_option maxRecDepth 20000 in
theorem t_Rd_read (G : am_G) {d nx : Nat} (hd : 10 ≤ d) {M : am_M} {f : Nat → Int32} {n : Nat} (h1 : M 1001 = some (.inr (1, [.ref 1002, .int (nI n)]))) (h2 : M 1002 = some (.inl (0, 4096, .inl f))) (hn : n ≤ 4096) {c ed cap : Nat} {Vi Vb Vl : Nat → Nat} {Vg : Nat → Nat → Int32} {Vn : Nat → Int64} {R : Nat → Option Nat} {mcn : Int32} (hV : vs M c Vi Vb Vl Vg Vn ed cap R mcn) {ou kd nm : Nat} {dp du dn sy pl pl6 af nf nt le l0 l1 re r0 r1 e a0 b0 : Int32} {nu lv rv v : Int64} (h5 : M 1005 = some (.inr (5, [.ref 1001, .ref 1003, .ref 1006, .ref 1007, .int dp, .int du, .int dn, .int sy, .int pl, .ref ou, .ref 1208, .ref 1209, .ref 1210]))) (h6 : M 1006 = some (.inr (6, [.ref 1001, .ref kd, .int pl6, .int af, .long nu, .ref nm, .int nf, .int nt]))) (h7 : M 1007 = some (.inl (4, 100, .inr (.inr (.inr (.inr (ci_arr 100))))))) (hX : cs_X M 0) (hle : M 1208 = some (.inr (8, [.int le, .long lv, .int l0, .int l1]))) (hri : M 1209 = some (.inr (8, [.int re, .long rv, .int r0, .int r1]))) (hla : M 1210 = some (.inr (8, [.int e, .long v, .int a0, .int b0]))) : am_Tr G m_Rd_read d 0 0 [.ref 1005] M nx (fun r M1 nx1 => r = .inl none ∧ nx1 = nx ∧ cs f n M1 (c_fin f n (c_run f n (cl_lu c Vl Vg Vn f) 16384 (c_s0 (le, lv, l0, l1) (re, rv, r0, r1) (e, v, a0, b0)))) ∧ cs_fr M M1) := by
  refine am_TrOf (by decide) (Nat.le_of_ble_eq_true rfl) ?_
  show am_V G _ _ _ _ _ 0 [(0, .ref 1005)] [] M nx 0 0
  refine v_aload_n (am_Dk d_Rd_read (k := 0) rfl) rfl ?_
  refine v_iconst (v := 0) (am_Dk d_Rd_read (k := 1) rfl) (by decide) ?_
  refine v_put (am_Dk d_Rd_read (k := 2) rfl) f_Rd_57 h5 (Nat.le_of_ble_eq_true rfl) rfl rfl ?_
  refine v_aload_n (am_Dk d_Rd_read (k := 3) rfl) rfl ?_
  refine v_iconst (v := 0) (am_Dk d_Rd_read (k := 4) rfl) (by decide) ?_
  have m1 : (am_up M 1005 (.inr (5, [.ref 1001, .ref 1003, .ref 1006, .ref 1007, .int 0, .int du, .int dn, .int sy, .int pl, .ref ou, .ref 1208, .ref 1209, .ref 1210]))) 1005 = some (.inr (5, [.ref 1001, .ref 1003, .ref 1006, .ref 1007, .int 0, .int du, .int dn, .int sy, .int pl, .ref ou, .ref 1208, .ref 1209, .ref 1210])) := am_up_eq _ _ _
  refine v_put (am_Dk d_Rd_read (k := 5) rfl) f_Rd_61 m1 (Nat.le_of_ble_eq_true rfl) rfl rfl ?_
  rw [am_uu0 (a := 1005)]
  refine v_aload_n (am_Dk d_Rd_read (k := 6) rfl) rfl ?_
  refine v_iconst (v := 0) (am_Dk d_Rd_read (k := 7) rfl) (by decide) ?_
  have m2 : (am_up M 1005 (.inr (5, [.ref 1001, .ref 1003, .ref 1006, .ref 1007, .int 0, .int du, .int 0, .int sy, .int pl, .ref ou, .ref 1208, .ref 1209, .ref 1210]))) 1005 = some (.inr (5, [.ref 1001, .ref 1003, .ref 1006, .ref 1007, .int 0, .int du, .int 0, .int sy, .int pl, .ref ou, .ref 1208, .ref 1209, .ref 1210])) := am_up_eq _ _ _
  refine v_put (am_Dk d_Rd_read (k := 8) rfl) f_Rd_65 m2 (Nat.le_of_ble_eq_true rfl) rfl rfl ?_
  rw [am_uu0 (a := 1005)]
  refine v_aload_n (am_Dk d_Rd_read (k := 9) rfl) rfl ?_
  refine v_iconst (v := (-1)) (am_Dk d_Rd_read (k := 10) rfl) (by decide) ?_
  have m3 : (am_up M 1005 (.inr (5, [.ref 1001, .ref 1003, .ref 1006, .ref 1007, .int 0, .int du, .int 0, .int 0, .int pl, .ref ou, .ref 1208, .ref 1209, .ref 1210]))) 1005 = some (.inr (5, [.ref 1001, .ref 1003, .ref 1006, .ref 1007, .int 0, .int du, .int 0, .int 0, .int pl, .ref ou, .ref 1208, .ref 1209, .ref 1210])) := am_up_eq _ _ _
  refine v_put (am_Dk d_Rd_read (k := 11) rfl) f_Rd_68 m3 (Nat.le_of_ble_eq_true rfl) rfl rfl ?_
  rw [am_uu0 (a := 1005)]
  refine v_aload_n (am_Dk d_Rd_read (k := 12) rfl) rfl ?_
  refine v_gets (v := .ref 0) (am_Dk d_Rd_read (k := 13) rfl) s_Rd_35 (by decide +kernel) ?_
  have m4 : (am_up M 1005 (.inr (5, [.ref 1001, .ref 1003, .ref 1006, .ref 1007, .int 0, .int du, .int 0, .int 0, .int (-1), .ref ou, .ref 1208, .ref 1209, .ref 1210]))) 1005 = some (.inr (5, [.ref 1001, .ref 1003, .ref 1006, .ref 1007, .int 0, .int du, .int 0, .int 0, .int (-1), .ref ou, .ref 1208, .ref 1209, .ref 1210])) := am_up_eq _ _ _
  refine v_put (am_Dk d_Rd_read (k := 14) rfl) f_Rd_41 m4 (Nat.le_of_ble_eq_true rfl) rfl rfl ?_
  rw [am_uu0 (a := 1005)]
  refine v_aload_n (am_Dk d_Rd_read (k := 15) rfl) rfl ?_
  have m5 : (am_up M 1005 (.inr (5, [.ref 1001, .ref 1003, .ref 1006, .ref 1007, .int 0, .int du, .int 0, .int 0, .int (-1), .ref 0, .ref 1208, .ref 1209, .ref 1210]))) 1005 = some (.inr (5, [.ref 1001, .ref 1003, .ref 1006, .ref 1007, .int 0, .int du, .int 0, .int 0, .int (-1), .ref 0, .ref 1208, .ref 1209, .ref 1210])) := am_up_eq _ _ _
  refine v_get (am_Dk d_Rd_read (k := 16) rfl) f_Rd_24 m5 rfl ?_
  have m6 : (am_up M 1005 (.inr (5, [.ref 1001, .ref 1003, .ref 1006, .ref 1007, .int 0, .int du, .int 0, .int 0, .int (-1), .ref 0, .ref 1208, .ref 1209, .ref 1210]))) 1001 = some (.inr (1, [.ref 1002, .int (nI n)])) := (am_up_ne (show 1001 ≠ 1005 from by decide)).trans (h1)
  have m7 : (am_up M 1005 (.inr (5, [.ref 1001, .ref 1003, .ref 1006, .ref 1007, .int 0, .int du, .int 0, .int 0, .int (-1), .ref 0, .ref 1208, .ref 1209, .ref 1210]))) 1002 = some (.inl (0, 4096, .inl f)) := (am_up_ne (show 1002 ≠ 1005 from by decide)).trans (h2)
  have m8 : (am_up M 1005 (.inr (5, [.ref 1001, .ref 1003, .ref 1006, .ref 1007, .int 0, .int du, .int 0, .int 0, .int (-1), .ref 0, .ref 1208, .ref 1209, .ref 1210]))) 1006 = some (.inr (6, [.ref 1001, .ref kd, .int pl6, .int af, .long nu, .ref nm, .int nf, .int nt])) := (am_up_ne (show 1006 ≠ 1005 from by decide)).trans (h6)
  refine v_callV (rest := []) (As := []) (mc' := 0) (ms' := 0) (am_Dk d_Rd_read (k := 17) rfl) c_Rd_71 (Or.inl ⟨_, _, _, _, _, m8, cq_ok6⟩) (t_Sg_first G (d := 7) (by omega) m6 m7 hn m8) (by omega) (by omega) (by omega) (by simp [Value.category]) rfl (fun v9 M10 n11 h12 => ?_) (fun _ _ _ h12 => ?_)
  rotate_left
  · exact absurd h12.1 (by simp)
  obtain ⟨h12, e17, nu13, nf14, nt15, e16, hv18⟩ := h12
  replace e16 := e16.symm
  replace e17 := e17.symm
  subst e16
  subst e17
  cases h12
  show am_V G _ _ _ _ _ 34 [(0, .ref 1005)] [] (am_up (am_up M 1005 (.inr (5, [.ref 1001, .ref 1003, .ref 1006, .ref 1007, .int 0, .int du, .int 0, .int 0, .int (-1), .ref 0, .ref 1208, .ref 1209, .ref 1210]))) 1006 (.inr (6, [.ref 1001, .ref (26 + (tok f n 0).1), .int (nI (tok f n 0).2.1), .int (nI (tok f n 0).2.2.1), .long nu13, .ref ((tok f n 0).2.2.2.2), .int nf14, .int nt15]))) nx 0 0
  refine v_aload_n (am_Dk d_Rd_read (k := 18) rfl) rfl ?_
  have m19 : (am_up (am_up M 1005 (.inr (5, [.ref 1001, .ref 1003, .ref 1006, .ref 1007, .int 0, .int du, .int 0, .int 0, .int (-1), .ref 0, .ref 1208, .ref 1209, .ref 1210]))) 1006 (.inr (6, [.ref 1001, .ref (26 + (tok f n 0).1), .int (nI (tok f n 0).2.1), .int (nI (tok f n 0).2.2.1), .long nu13, .ref ((tok f n 0).2.2.2.2), .int nf14, .int nt15]))) 1005 = some (.inr (5, [.ref 1001, .ref 1003, .ref 1006, .ref 1007, .int 0, .int du, .int 0, .int 0, .int (-1), .ref 0, .ref 1208, .ref 1209, .ref 1210])) := (am_up_ne (show 1005 ≠ 1006 from by decide)).trans (am_up_eq _ _ _)
  refine v_get (am_Dk d_Rd_read (k := 19) rfl) f_Rd_24 m19 rfl ?_
  have m20 : (am_up (am_up M 1005 (.inr (5, [.ref 1001, .ref 1003, .ref 1006, .ref 1007, .int 0, .int du, .int 0, .int 0, .int (-1), .ref 0, .ref 1208, .ref 1209, .ref 1210]))) 1006 (.inr (6, [.ref 1001, .ref (26 + (tok f n 0).1), .int (nI (tok f n 0).2.1), .int (nI (tok f n 0).2.2.1), .long nu13, .ref ((tok f n 0).2.2.2.2), .int nf14, .int nt15]))) 1006 = some (.inr (6, [.ref 1001, .ref (26 + (tok f n 0).1), .int (nI (tok f n 0).2.1), .int (nI (tok f n 0).2.2.1), .long nu13, .ref ((tok f n 0).2.2.2.2), .int nf14, .int nt15])) := am_up_eq _ _ _
  refine v_get (am_Dk d_Rd_read (k := 20) rfl) f_Rd_74 m20 rfl ?_
  refine v_istore_n (L1 := [(1, .int (nI (tok f n 0).2.1)), (0, .ref 1005)]) (am_Dk d_Rd_read (k := 21) rfl) (by decide) rfl ?_
  refine v_aload_n (am_Dk d_Rd_read (k := 22) rfl) rfl ?_
  refine v_gets (v := .ref 38) (am_Dk d_Rd_read (k := 23) rfl) s_Rd_75 (by decide +kernel) ?_
  refine v_gets (v := .ref 0) (am_Dk d_Rd_read (k := 24) rfl) s_Rd_35 (by decide +kernel) ?_
  refine v_sipush (v := 1200) (am_Dk d_Rd_read (k := 25) rfl) (by decide) ?_
  have m21 : (am_up (am_up M 1005 (.inr (5, [.ref 1001, .ref 1003, .ref 1006, .ref 1007, .int 0, .int du, .int 0, .int 0, .int (-1), .ref 0, .ref 1208, .ref 1209, .ref 1210]))) 1006 (.inr (6, [.ref 1001, .ref (26 + (tok f n 0).1), .int (nI (tok f n 0).2.1), .int (nI (tok f n 0).2.2.1), .long nu13, .ref ((tok f n 0).2.2.2.2), .int nf14, .int nt15]))) 1007 = some (.inl (4, 100, .inr (.inr (.inr (.inr (ci_arr 100)))))) := (am_up_ne (show 1007 ≠ 1006 from by decide)).trans ((am_up_ne (show 1007 ≠ 1005 from by decide)).trans (h7))
  have m22 : (am_up (am_up M 1005 (.inr (5, [.ref 1001, .ref 1003, .ref 1006, .ref 1007, .int 0, .int du, .int 0, .int 0, .int (-1), .ref 0, .ref 1208, .ref 1209, .ref 1210]))) 1006 (.inr (6, [.ref 1001, .ref (26 + (tok f n 0).1), .int (nI (tok f n 0).2.1), .int (nI (tok f n 0).2.2.1), .long nu13, .ref ((tok f n 0).2.2.2.2), .int nf14, .int nt15]))) 1210 = some (.inr (8, [.int e, .long v, .int a0, .int b0])) := (am_up_ne (show 1210 ≠ 1006 from by decide)).trans ((am_up_ne (show 1210 ≠ 1005 from by decide)).trans (hla))
  refine v_callV (rest := []) (As := [.ref 38, .ref 0, .int 1200]) (mc' := 0) (ms' := 0) (am_Dk d_Rd_read (k := 26) rfl) c_Rd_81 (Or.inl ⟨_, _, _, _, _, m19, cq_ok5⟩) (t_Rd_begin G (d := 1) (j := 0) (dp := 0) (by omega) (by omega) m19 m20 m21 m22 (fun z => cs_Xup hX (fun i z1 z2 => (am_up_ne (show i ≠ 1006 from by omega)).trans ((am_up_ne (show i ≠ 1005 from by omega)).trans (rfl))) _ (Nat.zero_le _) z)) (by omega) (by omega) (by omega) (by simp [Value.category]) rfl (fun v23 M24 n25 h26 => ?_) (fun v23 M24 n25 h26 => ?_)
  · rcases h26 with ⟨hj9, h26, e1, e2⟩ | ⟨hj9, h26, ⟨ro9, tn9, mo9, pr9, ar9, e9, v9, a9, b9, hx1, hx2, e1⟩, e2⟩
    · exact absurd hj9 (by decide)
    · cases h26
      replace e1 := e1.symm
      replace e2 := e2.symm
      subst e1
      subst e2
      rw [am_uu3 (a := 1005)]
      show am_V G _ _ _ _ _ 55 [(1, .int (nI (tok f n 0).2.1)), (0, .ref 1005)] [] (am_up (am_up (am_up (am_up M 1006 (.inr (6, [.ref 1001, .ref (26 + (tok f n 0).1), .int (nI (tok f n 0).2.1), .int (nI (tok f n 0).2.2.1), .long nu13, .ref ((tok f n 0).2.2.2.2), .int nf14, .int nt15]))) (2 * 0 + 1008) (.inr (7, [.ref 38, .ref 0, .int 1200, .int pr9, .int 0, .ref (2 * 0 + 1009)]))) (2 * 0 + 1009) (.inr (8, [.int e, .long v, .int a0, .int b0]))) 1005 (.inr (5, [.ref 1001, .ref 1003, .ref 1006, .ref 1007, .int (nI (0 + 1)), .int 1, .int 0, .int 0, .int (-1), .ref 0, .ref 1208, .ref 1209, .ref 1210]))) nx 0 0
      refine v_iconst (v := 0) (am_Dk d_Rd_read (k := 27) rfl) (by decide) ?_
      refine v_istore_n (L1 := [(2, .int 0), (1, .int (nI (tok f n 0).2.1)), (0, .ref 1005)]) (am_Dk d_Rd_read (k := 28) rfl) (by decide) rfl ?_
      exact v_drop (l_Rd_read1 G hd h1 h2 hn hV 16384 0 _ (c_s0 (le, lv, l0, l1) (re, rv, r0, r1) (e, v, a0, b0)) rfl rfl
        ⟨am_up_eq _ _ _, ⟨_, _, _, (am_up_ne (show 1006 ≠ 1005 from by decide)).trans ((am_up_ne (show 1006 ≠ (2 * 0 + 1009) from by omega)).trans ((am_up_ne (show 1006 ≠ (2 * 0 + 1008) from by omega)).trans (am_up_eq _ _ _))), hv18⟩, (am_up_ne (show 1007 ≠ 1005 from by decide)).trans ((am_up_ne (show 1007 ≠ (2 * 0 + 1009) from by omega)).trans ((am_up_ne (show 1007 ≠ (2 * 0 + 1008) from by omega)).trans ((am_up_ne (show 1007 ≠ 1006 from by decide)).trans (h7)))), fun z => absurd z (by decide), ⟨⟨_, (am_up_ne (show (2 * 0 + 1008) ≠ 1005 from by omega)).trans ((am_up_ne (show (2 * 0 + 1008) ≠ (2 * 0 + 1009) from by omega)).trans (am_up_eq _ _ _))⟩, (am_up_ne (show (2 * 0 + 1009) ≠ 1005 from by omega)).trans (am_up_eq _ _ _), trivial⟩, cs_Xup (cs_Xmo hX (Nat.zero_le _)) (fun i (z1 : 2 * 1 + 1008 ≤ i) z2 => (am_up_ne (show i ≠ 1005 from by omega)).trans ((am_up_ne (show i ≠ (2 * 0 + 1009) from by omega)).trans ((am_up_ne (show i ≠ (2 * 0 + 1008) from by omega)).trans ((am_up_ne (show i ≠ 1006 from by omega)).trans (rfl))))), (am_up_ne (show 1208 ≠ 1005 from by decide)).trans ((am_up_ne (show 1208 ≠ (2 * 0 + 1009) from by omega)).trans ((am_up_ne (show 1208 ≠ (2 * 0 + 1008) from by omega)).trans ((am_up_ne (show 1208 ≠ 1006 from by decide)).trans (hle)))), (am_up_ne (show 1209 ≠ 1005 from by decide)).trans ((am_up_ne (show 1209 ≠ (2 * 0 + 1009) from by omega)).trans ((am_up_ne (show 1209 ≠ (2 * 0 + 1008) from by omega)).trans ((am_up_ne (show 1209 ≠ 1006 from by decide)).trans (hri)))), (am_up_ne (show 1210 ≠ 1005 from by decide)).trans ((am_up_ne (show 1210 ≠ (2 * 0 + 1009) from by omega)).trans ((am_up_ne (show 1210 ≠ (2 * 0 + 1008) from by omega)).trans ((am_up_ne (show 1210 ≠ 1006 from by decide)).trans (hla))))⟩
        (fun _ => ⟨by show 1 ≤ 100; decide, Nat.zero_le _, by show 0 < 7; decide, by show 0 < 26; decide, by show 0 ≤ 7; decide, ⟨fun _ => rfl, fun _ => rfl⟩, Or.inl rfl⟩) (by show 0 + 2 * 16384 ≤ 40000; decide) (fun i hi => (am_up_ne (show i ≠ 1005 from by omega)).trans ((am_up_ne (show i ≠ (2 * 0 + 1009) from by omega)).trans ((am_up_ne (show i ≠ (2 * 0 + 1008) from by omega)).trans ((am_up_ne (show i ≠ 1006 from by omega)).trans (rfl)))))) (by simp [nI_0])
  · rcases h26 with ⟨hj9, h26, e1, e2⟩ | ⟨hj9, h26, ⟨ro9, tn9, mo9, pr9, ar9, e9, v9, a9, b9, hx1, hx2, e1⟩, e2⟩
    · cases h26
    · cases h26
