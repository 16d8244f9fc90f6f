/-! THE REFERENCE'S PARSER: LISTS (mine; rows laid by the walker) -/
def cpF (K g : Nat → Int32) (k : Nat) : Nat → Int32 := fun j => if j < k then g j else K j
theorem cpF_1 {K g : Nat → Int32} {k : Nat} : upd (cpF K g k) k (g k) = cpF K g (k + 1) := by
  funext x
  rw [upd, cpF, cpF]
  by_cases h : x = k
  · rw [if_pos h, if_pos (by omega), h]
  · rw [if_neg h]
    by_cases h2 : x < k
    · rw [if_pos h2, if_pos (by omega)]
    · rw [if_neg h2, if_neg (by omega)]
theorem cpF_0 {K g : Nat → Int32} : cpF K g 0 = K := by
  funext x
  rw [cpF, if_neg (by omega)]
theorem scT_cg {f : Nat → Int32} {t : Nat × Nat × Nat × Int64 × Nat} {tk : Int32} {nu : Int64} {l : Nat} {g g' : Nat → Int32} (hg : ∀ i, i < l → g' i = g i) (h : scT f t tk nu l g) : scT f t tk nu l g' := by
  obtain ⟨a, b, c, d, e⟩ := h
  exact ⟨a, b, c, fun z => ⟨(d z).1, fun i hi => (hg i hi).trans ((d z).2 i hi)⟩, fun z => ⟨(e z).1, (spg_cg hg).trans (e z).2⟩⟩
theorem nar_id {x : Int32} (h : -128 ≤ x.toInt ∧ x.toInt ≤ 127) : vp_nar .byte x = x := by rw [vp_nar_byte]; exact (pk_vb x).symm.trans (lt_nar h)
theorem sp_dot {g : Nat → Int32} : spg 1 (upd g 0 46) = 0 := by
  rcases spg_of 1 (upd g 0 46) with h | ⟨h1, h2, h3⟩
  · exact h
  · exfalso
    have h3 := of_decide_eq_true h3
    have e := h3.2 0 (by omega)
    rw [show upd g 0 46 0 = 46 from if_pos rfl] at e
    have hlt := kn_lt128 _ h2 0 (by omega)
    have e := (nI_eq (b := 46) (by omega) (by omega)).mp e
    have : ∀ k, k < 26 → (kn_w k).length = 1 → ¬ (kn_w k).getD 0 0 = 46 := by decide +kernel
    exact this _ h2 h3.1 e
theorem rk2_0 (a b : Int32) (v w : Int64) : rk2 0 a v b w = (2, 0) := by rw [rk2, if_neg (by decide)]
def tlI (tl : Option Nat) : Int32 := match tl with
  | none => -1
  | some t => nI t
def tlD (tl : Option Nat) : Nat := match tl with
  | none => 1
  | some _ => 0
section LS1
variable {LU : Nat → (Nat → Int32) → Option Int64} {M : am_M} {sz pt ns tx vb e1 e2 : Nat} {W : Gho} {On : Nat → Nat} {Vx : Nat → Option (Nat × (Nat → Int32))} {A : Arn} {T : Nat → Int32} {F : Nat → Nat} {Va : Nat → Int32}
theorem RSx_e2 {k : Nat} (h : RSx LU M sz pt ns tx vb e1 e2 W On Vx A T F Va) (hk : k < ns) (hq : nmQ T F k 2 wNil) : RSx LU M sz pt ns tx vb e1 1 W On Vx A T F Va := ⟨h.1, h.2.1, h.2.2.1, h.2.2.2.1, h.2.2.2.2.1, h.2.2.2.2.2.1, h.2.2.2.2.2.2.1, fun _ => ⟨k, hk, hq⟩⟩
theorem RSx_e1 {k : Nat} (h : RSx LU M sz pt ns tx vb e1 e2 W On Vx A T F Va) (hk : k < ns) (hq : nmQ T F k 1 wDot) : RSx LU M sz pt ns tx vb 1 e2 W On Vx A T F Va := ⟨h.1, h.2.1, h.2.2.1, h.2.2.2.1, h.2.2.2.2.1, h.2.2.2.2.2.1, fun _ => ⟨k, hk, hq⟩, h.2.2.2.2.2.2.2⟩
end LS1
set_option maxRecDepth 20000 in
theorem t_MR_list (G : am_G) {d nx : Nat} (hd : 6 ≤ d) {M : am_M} {f : Nat → Int32} {n : Nat} {LU : Nat → (Nat → Int32) → Option Int64} {lu : Nat → Nat → Option Int64} (hb : tbB f) (hn : n ≤ 4096) {mo : Int32} {a o tp : Nat} {S : Nat → Int32} {rk : Int32} {sz pt ns tx vb e1 e2 : Nat} {W : Gho} {On : Nat → Nat} {Vx : Nat → Option (Nat × (Nat → Int32))} (h : PS f n LU M a (o + 1) tp S rk sz pt ns tx vb e1 e2 W On Vx) (ho : o < 100) (hk5 : (tok f n a).1 = 5) {d0 : Nat} (IH : TermC G f n LU lu (o + 1) d0) (hd0 : d0 + 1 ≤ d) : am_Tr G m_MR_list d 0 0 [.ref 1225] M nx (RQ f n LU lu M nx o mo a (o + 1) tp S sz pt ns W On (fun _ _ => True) (fun w => TBad f n lu o mo a w)) := by
  refine am_TrOf (by decide) (Nat.le_of_ble_eq_true rfl) ?_
  show am_V G _ _ _ _ _ 0 [(0, .ref 1225)] [] M nx 0 0
  have hPS := h
  obtain ⟨hpb, hm, hR, hS, ⟨kc, hkc⟩, tk, nu, l, g, kn, hr, hsc, hw, hg⟩ := h
  replace hr : M 1225 = some (.inr (12, [.ref 1226, .ref 1227, .ref 1228, .ref 1213, .ref 1220, .ref 1212, .int (nI n), .int (nI ((tok f n a).2.1)), .int (nI ((tok f n a).2.2.1)), .int tk, .int (nI (o + 1)), .long nu, .ref 1229, .int (nI l), .ref 1230, .int (nI tp), .int (-1), .ref 1231, .int (nI vb), .int kn, .int rk, .ref 1232])) := hr
  obtain ⟨pb_0, pb_1, pb_2, pb_3, pb_4, pb_5, pb_6, pb_7, pb_8, pb_9⟩ := hpb
  have k_hsc := tok_ok f pb_0
  have p_hsc := tok_pos f pb_0
  have l_hsc := hsc.2.2.1
  have fr0 : pf_fr M M := fun i hi => rfl
  have hp9 := p_hsc (by omega)
  have h253 : ∀ m k (M2 : am_M) (A l2 : Nat) (tk2 : Int32) (nu2 : Int64) (g2 gX kX S2 : Nat → Int32) (lX : Nat) (kn2 rkC : Int32) (sz2 pt2 ns2 tx2 vb2 f1 f2 : Nat) (W2 : Gho) (On2 : Nat → Nat) (Vx2 : Nat → Option (Nat × (Nat → Int32))) (t : Nat), k + m = l2 → pb_ok n A (o + 1) tp sz2 pt2 ns2 tx2 vb2 f1 f2 → mb f M2 → RS LU M2 sz2 pt2 ns2 tx2 vb2 f1 f2 W2 On2 Vx2 → M2 1230 = some (.inl (1, 4200, .inl S2)) → M2 1232 = some (.inl (0, 4096, .inl kX)) → M2 1225 = some (.inr (12, [.ref 1226, .ref 1227, .ref 1228, .ref 1213, .ref 1220, .ref 1212, .int (nI n), .int (nI ((tok f n A).2.1)), .int (nI ((tok f n A).2.2.1)), .int tk2, .int (nI (o + 1)), .long nu2, .ref 1229, .int (nI lX), .ref 1230, .int (nI tp), .int (-1), .ref 1231, .int (nI vb2), .int kn2, .int rkC, .ref 1232])) → scT f (tok f n A) tk2 nu2 l2 g2 → tbB g2 → (∀ j, j < l2 → kX j = g2 j) → M2 1229 = some (.inl (0, 4096, .inl gX)) → tbB gX → pf_fr M M2 → sz < sz2 → gh_eq sz W W2 → ns ≤ ns2 → (∀ j, j < ns → On2 j = On j) → (∀ j, j < tp → S2 j = S j) → a < A → (∀ j, j < k → gX j = g2 j) → sz2 + a ≤ sz + A → pt2 + sz + 1 ≤ pt + sz2 → t < sz2 → W2.1 t = (2, 0) → W2.2.2 t = none → (W2.2.1 t).1 = 0 → TOk f n lu o mo a A 0 (sz2 - sz) (2, 0, 0, 0) 0 (0, 0, 0, 0) (0, 0, 0, 0) → am_V G m_MR_list d 0 0 (RQ f n LU lu M nx o mo a (o + 1) tp S sz pt ns W On (fun _ _ => True) (fun w => TBad f n lu o mo a w)) 253 [(6, .int (nI k)), (4, .int (nI l2)), (2, .int (nI t)), (0, .ref 1225)] [] M2 nx 0 0 := by
    intro m
    induction m with
    | zero =>
      intro k M2 A l2 tk2 nu2 g2 gX kX S2 lX kn2 rkC sz2 pt2 ns2 tx2 vb2 f1 f2 W2 On2 Vx2 t hkm hpb2 hm2 hR2 hS2 hkc2 hr2 hsc2 hg2 hkX hw2 hgX fr2 hsz hge hns hOn hSt haA hgk hB1 hB2 htt hw1 hw2x hw3 hTOK
      obtain ⟨qb_0, qb_1, qb_2, qb_3, qb_4, qb_5, qb_6, qb_7, qb_8, qb_9⟩ := hpb2
      have k_A := tok_ok f qb_0
      have l_A := hsc2.2.2.1
      refine v_iload (am_Dk d_MR_list (k := 136) rfl) rfl ?_
      refine v_iload (am_Dk d_MR_list (k := 137) rfl) rfl ?_
      refine v_icmp_ge (tgt := 280) (am_Dk d_MR_list (k := 138) rfl) (by decide) (fun c1 => ?_) (fun c1 => ?_)
      · have Nc1 := (nI_leI (a := l2) (b := k) (by omega) (by omega)).mp c1
        refine v_aload_n (am_Dk d_MR_list (k := 149) rfl) rfl ?_
        refine v_iload (am_Dk d_MR_list (k := 150) rfl) rfl ?_
        refine v_put (am_Dk d_MR_list (k := 151) rfl) f_MR_139 hr2 (Nat.le_of_ble_eq_true rfl) rfl rfl ?_
        refine v_aload_n (am_Dk d_MR_list (k := 152) rfl) rfl ?_
        refine v_iconst (v := 0) (am_Dk d_MR_list (k := 153) rfl) (by decide) ?_
        have m2 : (am_up M2 1225 (.inr (12, [.ref 1226, .ref 1227, .ref 1228, .ref 1213, .ref 1220, .ref 1212, .int (nI n), .int (nI ((tok f n A).2.1)), .int (nI ((tok f n A).2.2.1)), .int tk2, .int (nI (o + 1)), .long nu2, .ref 1229, .int (nI l2), .ref 1230, .int (nI tp), .int (-1), .ref 1231, .int (nI vb2), .int kn2, .int rkC, .ref 1232]))) 1225 = some (.inr (12, [.ref 1226, .ref 1227, .ref 1228, .ref 1213, .ref 1220, .ref 1212, .int (nI n), .int (nI ((tok f n A).2.1)), .int (nI ((tok f n A).2.2.1)), .int tk2, .int (nI (o + 1)), .long nu2, .ref 1229, .int (nI l2), .ref 1230, .int (nI tp), .int (-1), .ref 1231, .int (nI vb2), .int kn2, .int rkC, .ref 1232])) := am_up_eq _ _ _
        refine v_put (am_Dk d_MR_list (k := 154) rfl) f_MR_204 m2 (Nat.le_of_ble_eq_true rfl) rfl rfl ?_
        rw [am_uu0 (a := 1225)]
        refine v_iload_n (am_Dk d_MR_list (k := 155) rfl) rfl ?_
        have hres : TRes f n lu o mo a sz W2 A 0 sz2 t := Or.inl ⟨_, _, _, _, hTOK, ⟨hw1, by rw [hw2x]; exact (by decide : ¬ (0 : Int32) < 0)⟩, hw3, fun z => absurd rfl z⟩
        exact v_ireturn (am_Dk d_MR_list (k := 156) rfl) rfl rfl (by omega) (by omega) ⟨rfl, (fun i hi => (am_up_ne (show i ≠ 1225 from by omega)).trans ((fr2 i hi))), Or.inl ⟨t, A, S2, 0, sz2, pt2, ns2, tx2, vb2, f1, f2, W2, On2, Vx2, rfl, (show PS f n LU (am_up M2 1225 (.inr (12, [.ref 1226, .ref 1227, .ref 1228, .ref 1213, .ref 1220, .ref 1212, .int (nI n), .int (nI ((tok f n A).2.1)), .int (nI ((tok f n A).2.2.1)), .int tk2, .int (nI (o + 1)), .long nu2, .ref 1229, .int (nI l2), .ref 1230, .int (nI tp), .int (-1), .ref 1231, .int (nI vb2), .int kn2, .int 0, .ref 1232]))) A (o + 1) tp S2 0 sz2 pt2 ns2 tx2 vb2 f1 f2 W2 On2 Vx2 from ⟨⟨by omega, by omega, by omega, by omega, by omega, by omega, by omega, by omega, by omega, by omega⟩, mb_fr hm2 (fun i hi => (am_up_ne (show i ≠ 1225 from by omega)).trans (rfl)), RS_fr hR2 (fun i hi => (am_up_ne (show i ≠ 1225 from by omega)).trans (rfl)), (am_up_ne (show 1230 ≠ 1225 from by decide)).trans (hS2), ⟨_, (am_up_ne (show 1232 ≠ 1225 from by decide)).trans (hkc2)⟩, tk2, nu2, l2, gX, kn2, am_up_eq _ _ _, (scT_cg (fun j hj => hgk j (by omega)) hsc2), (am_up_ne (show 1229 ≠ 1225 from by decide)).trans (hw2), hgX⟩), ⟨htt, hsz, hge, hns, hOn, hSt, hB1, hB2, haA⟩, hres, trivial⟩⟩
      · have Nc1 : ¬ l2 ≤ k := fun z => c1 ((nI_leI (a := l2) (b := k) (by omega) (by omega)).mpr z)
        exfalso
        omega
    | succ m ih =>
      intro k M2 A l2 tk2 nu2 g2 gX kX S2 lX kn2 rkC sz2 pt2 ns2 tx2 vb2 f1 f2 W2 On2 Vx2 t hkm hpb2 hm2 hR2 hS2 hkc2 hr2 hsc2 hg2 hkX hw2 hgX fr2 hsz hge hns hOn hSt haA hgk hB1 hB2 htt hw1 hw2x hw3 hTOK
      have hpb9 := hpb2
      obtain ⟨qb_0, qb_1, qb_2, qb_3, qb_4, qb_5, qb_6, qb_7, qb_8, qb_9⟩ := hpb2
      have k_A := tok_ok f qb_0
      have l_A := hsc2.2.2.1
      refine v_iload (am_Dk d_MR_list (k := 136) rfl) rfl ?_
      refine v_iload (am_Dk d_MR_list (k := 137) rfl) rfl ?_
      refine v_icmp_ge (tgt := 280) (am_Dk d_MR_list (k := 138) rfl) (by decide) (fun c1 => ?_) (fun c1 => ?_)
      · have Nc1 := (nI_leI (a := l2) (b := k) (by omega) (by omega)).mp c1
        exfalso
        omega
      · have Nc1 : ¬ l2 ≤ k := fun z => c1 ((nI_leI (a := l2) (b := k) (by omega) (by omega)).mpr z)
        refine v_aload_n (am_Dk d_MR_list (k := 139) rfl) rfl ?_
        refine v_get (am_Dk d_MR_list (k := 140) rfl) f_MR_68 hr2 rfl ?_
        refine v_iload (am_Dk d_MR_list (k := 141) rfl) rfl ?_
        refine v_aload_n (am_Dk d_MR_list (k := 142) rfl) rfl ?_
        refine v_get (am_Dk d_MR_list (k := 143) rfl) f_MR_78 hr2 rfl ?_
        refine v_iload (am_Dk d_MR_list (k := 144) rfl) rfl ?_
        refine v_bald (am_Dk d_MR_list (k := 145) rfl) hkc2 rfl (vp_in_nI (by omega) (by omega)) ?_
        rw [nI_clamp (n := k) (by omega)]
        refine v_bast (am_Dk d_MR_list (k := 146) rfl) hw2 rfl (vp_in_nI (by omega) (by omega)) ?_
        rw [nI_clamp (n := k) (by omega), nar_id (by rw [hkX k (by omega)]; exact hg2 _)]
        refine v_iinc (v := nI (k + 1)) (L1 := [(6, .int (nI (k + 1))), (4, .int (nI l2)), (2, .int (nI t)), (0, .ref 1225)]) (am_Dk d_MR_list (k := 147) rfl) rfl (nI_1 _) (by decide) rfl ?_
        refine v_goto (tgt := 253) (am_Dk d_MR_list (k := 148) rfl) (by decide) ?_
        exact ih (k + 1) _ A l2 tk2 nu2 g2 (upd gX k (kX k)) kX S2 lX kn2 rkC sz2 pt2 ns2 tx2 vb2 f1 f2 W2 On2 Vx2 t (by omega) hpb9 (mb_fr hm2 (fun i hi => (am_up_ne (show i ≠ 1229 from by omega)).trans (rfl))) (RS_fr hR2 (fun i hi => (am_up_ne (show i ≠ 1229 from by omega)).trans (rfl))) ((am_up_ne (show 1230 ≠ 1229 from by decide)).trans (hS2)) ((am_up_ne (show 1232 ≠ 1229 from by decide)).trans (hkc2)) ((am_up_ne (show 1225 ≠ 1229 from by decide)).trans (hr2)) hsc2 hg2 hkX (am_up_eq _ _ _) (tbB_up hgX (by rw [hkX k (by omega)]; exact hg2 _)) (fun i hi => (am_up_ne (show i ≠ 1229 from by omega)).trans ((fr2 i hi))) hsz hge hns hOn hSt haA (fun j hj => by
          by_cases hjk : j = k
          · rw [hjk, upd_at]; exact hkX k (by omega)
          · rw [upd_ne _ _ hjk]; exact hgk j (by omega)) hB1 hB2 htt hw1 hw2x hw3 hTOK
  have h198 : ∀ j (M2 : am_M) (A l2 : Nat) (tk2 : Int32) (nu2 : Int64) (g2 gX kX S2 : Nat → Int32) (lX : Nat) (kn2 rkC : Int32) (sz2 pt2 ns2 tx2 vb2 f1 f2 : Nat) (W2 : Gho) (On2 : Nat → Nat) (Vx2 : Nat → Option (Nat × (Nat → Int32))) (t kd : Nat) (y : Nat → Nat), tp + j ≤ 4097 → pb_ok n A (o + 1) tp sz2 pt2 ns2 tx2 vb2 f1 f2 → mb f M2 → RS LU M2 sz2 pt2 ns2 tx2 vb2 f1 f2 W2 On2 Vx2 → M2 1230 = some (.inl (1, 4200, .inl S2)) → M2 1232 = some (.inl (0, 4096, .inl kX)) → M2 1225 = some (.inr (12, [.ref 1226, .ref 1227, .ref 1228, .ref 1213, .ref 1220, .ref 1212, .int (nI n), .int (nI ((tok f n A).2.1)), .int (nI ((tok f n A).2.2.1)), .int tk2, .int (nI (o + 1)), .long nu2, .ref 1229, .int (nI lX), .ref 1230, .int (nI (tp + j)), .int (-1), .ref 1231, .int (nI vb2), .int kn2, .int rkC, .ref 1232])) → scT f (tok f n A) tk2 nu2 l2 g2 → tbB g2 → (∀ j, j < l2 → kX j = g2 j) → M2 1229 = some (.inl (0, 4096, .inl gX)) → tbB gX → pf_fr M M2 → sz < sz2 → gh_eq sz W W2 → ns ≤ ns2 → (∀ j, j < ns → On2 j = On j) → (∀ j, j < tp → S2 j = S j) → a < A → sz2 + a + j ≤ sz + A → pt2 + sz + j + 1 ≤ pt + sz2 → t < sz2 → kd < ns2 → On2 kd = 0 → (∀ q, q < j → y q < sz2 ∧ S2 (tp + q) = nI (y q)) → (1 ≤ j ∨ W2.1 t = (2, 0) ∧ W2.2.2 t = none ∧ (W2.2.1 t).1 = 0) → TOk f n lu o mo a A 0 (sz2 + j - sz) (2, 0, 0, 0) 0 (0, 0, 0, 0) (0, 0, 0, 0) → am_V G m_MR_list d 0 0 (RQ f n LU lu M nx o mo a (o + 1) tp S sz pt ns W On (fun _ _ => True) (fun w => TBad f n lu o mo a w)) 198 [(5, .int (nI kd)), (4, .int (nI l2)), (2, .int (nI t)), (1, .int (nI tp)), (0, .ref 1225)] [] M2 nx 0 0 := by
    intro j
    induction j with
    | zero =>
      intro M2 A l2 tk2 nu2 g2 gX kX S2 lX kn2 rkC sz2 pt2 ns2 tx2 vb2 f1 f2 W2 On2 Vx2 t kd y htj hpb2 hm2 hR2 hS2 hkc2 hr2 hsc2 hg2 hkX hw2 hgX fr2 hsz hge hns hOn hSt haA hB1 hB2 htt hkd hkO hyj hrt hTOK
      have hpb9 := hpb2
      obtain ⟨qb_0, qb_1, qb_2, qb_3, qb_4, qb_5, qb_6, qb_7, qb_8, qb_9⟩ := hpb2
      have k_A := tok_ok f qb_0
      have l_A := hsc2.2.2.1
      refine v_aload_n (am_Dk d_MR_list (k := 105) rfl) rfl ?_
      refine v_get (am_Dk d_MR_list (k := 106) rfl) f_MR_102 hr2 rfl ?_
      refine v_iload_n (am_Dk d_MR_list (k := 107) rfl) rfl ?_
      refine v_icmp_le (tgt := 250) (am_Dk d_MR_list (k := 108) rfl) (by decide) (fun c1 => ?_) (fun c1 => ?_)
      · have Nc1 := (nI_leI (a := tp + 0) (b := tp) (by omega) (by omega)).mp c1
        refine v_iconst (v := 0) (am_Dk d_MR_list (k := 134) rfl) (by decide) ?_
        refine v_istore (L1 := [(6, .int 0), (5, .int (nI kd)), (4, .int (nI l2)), (2, .int (nI t)), (1, .int (nI tp)), (0, .ref 1225)]) (am_Dk d_MR_list (k := 135) rfl) (by decide) rfl ?_
        have hrt := hrt.resolve_left (by omega)
        exact v_drop (h253 l2 0 M2 A l2 tk2 nu2 g2 gX kX S2 lX kn2 rkC sz2 pt2 ns2 tx2 vb2 f1 f2 W2 On2 Vx2 t (by omega) hpb9 hm2 hR2 hS2 hkc2 hr2 hsc2 hg2 hkX hw2 hgX fr2 hsz hge hns hOn hSt haA (fun j hj => absurd hj (by omega)) (by omega) (by omega) htt hrt.1 hrt.2.1 hrt.2.2 hTOK) (by simp [nI_0])
      · have Nc1 : ¬ (tp + 0) ≤ tp := fun z => c1 ((nI_leI (a := tp + 0) (b := tp) (by omega) (by omega)).mpr z)
        exfalso
        omega
    | succ j ih =>
      intro M2 A l2 tk2 nu2 g2 gX kX S2 lX kn2 rkC sz2 pt2 ns2 tx2 vb2 f1 f2 W2 On2 Vx2 t kd y htj hpb2 hm2 hR2 hS2 hkc2 hr2 hsc2 hg2 hkX hw2 hgX fr2 hsz hge hns hOn hSt haA hB1 hB2 htt hkd hkO hyj hrt hTOK
      have hpb9 := hpb2
      obtain ⟨qb_0, qb_1, qb_2, qb_3, qb_4, qb_5, qb_6, qb_7, qb_8, qb_9⟩ := hpb2
      have k_A := tok_ok f qb_0
      have l_A := hsc2.2.2.1
      refine v_aload_n (am_Dk d_MR_list (k := 105) rfl) rfl ?_
      refine v_get (am_Dk d_MR_list (k := 106) rfl) f_MR_102 hr2 rfl ?_
      refine v_iload_n (am_Dk d_MR_list (k := 107) rfl) rfl ?_
      refine v_icmp_le (tgt := 250) (am_Dk d_MR_list (k := 108) rfl) (by decide) (fun c1 => ?_) (fun c1 => ?_)
      · have Nc1 := (nI_leI (a := tp + (j + 1)) (b := tp) (by omega) (by omega)).mp c1
        exfalso
        omega
      · have Nc1 : ¬ (tp + (j + 1)) ≤ tp := fun z => c1 ((nI_leI (a := tp + (j + 1)) (b := tp) (by omega) (by omega)).mpr z)
        refine v_aload_n (am_Dk d_MR_list (k := 109) rfl) rfl ?_
        refine v_get (am_Dk d_MR_list (k := 110) rfl) f_MR_72 hr2 rfl ?_
        refine v_aload_n (am_Dk d_MR_list (k := 111) rfl) rfl ?_
        refine v_get (am_Dk d_MR_list (k := 112) rfl) f_MR_102 hr2 rfl ?_
        refine v_iload_n (am_Dk d_MR_list (k := 113) rfl) rfl ?_
        refine v_iast (am_Dk d_MR_list (k := 114) rfl) hS2 rfl (vp_in_nI (by omega) (by omega)) ?_
        rw [nI_clamp (n := tp + (j + 1)) (by omega)]
        refine v_aload_n (am_Dk d_MR_list (k := 115) rfl) rfl ?_
        have m2 : (am_up M2 1230 (.inl (1, 4200, .inl (upd S2 (tp + (j + 1)) (nI t))))) 1225 = some (.inr (12, [.ref 1226, .ref 1227, .ref 1228, .ref 1213, .ref 1220, .ref 1212, .int (nI n), .int (nI ((tok f n A).2.1)), .int (nI ((tok f n A).2.2.1)), .int tk2, .int (nI (o + 1)), .long nu2, .ref 1229, .int (nI lX), .ref 1230, .int (nI (tp + (j + 1))), .int (-1), .ref 1231, .int (nI vb2), .int kn2, .int rkC, .ref 1232])) := (am_up_ne (show 1225 ≠ 1230 from by decide)).trans (hr2)
        refine v_get (am_Dk d_MR_list (k := 116) rfl) f_MR_81 m2 rfl ?_
        refine v_iload (am_Dk d_MR_list (k := 117) rfl) rfl ?_
        refine v_aload_n (am_Dk d_MR_list (k := 118) rfl) rfl ?_
        refine v_get (am_Dk d_MR_list (k := 119) rfl) f_MR_72 m2 rfl ?_
        refine v_aload_n (am_Dk d_MR_list (k := 120) rfl) rfl ?_
        refine v_get (am_Dk d_MR_list (k := 121) rfl) f_MR_102 m2 rfl ?_
        refine v_iconst (v := 1) (am_Dk d_MR_list (k := 122) rfl) (by decide) ?_
        refine v_isub (am_Dk d_MR_list (k := 123) rfl) ?_
        rw [show (nI (tp + (j + 1)) - 1 : Int32) = nI (tp + j) from nI_pred (tp + j)]
        refine v_iconst (v := 2) (am_Dk d_MR_list (k := 124) rfl) (by decide) ?_
        have hyq : ∀ q, q < 2 → (fun q => if q = 0 then y j else t) q < sz2 ∧ (upd S2 (tp + (j + 1)) (nI t)) (tp + j + q) = nI ((fun q => if q = 0 then y j else t) q) := by
          intro q hq
          show (if q = 0 then y j else t) < _ ∧ _ = nI (if q = 0 then y j else t)
          by_cases hq0 : q = 0
          · rw [if_pos hq0, hq0]
            exact ⟨(hyj j (by omega)).1, (upd_ne _ _ (by omega)).trans (hyj j (by omega)).2⟩
          · rw [if_neg hq0, show tp + j + q = tp + (j + 1) from by omega]
            exact ⟨htt, upd_at _ _ _⟩
        obtain ⟨⟨Kd3, Nm3, Fi3, Ma3, Pa3, Nu3⟩, T3, F3, Va3, hX3⟩ := RS_fr (M1 := (am_up M2 1230 (.inl (1, 4200, .inl (upd S2 (tp + (j + 1)) (nI t)))))) hR2 (fun i hi => (am_up_ne (show i ≠ 1230 from by omega)).trans (rfl))
        have m4 : (am_up M2 1230 (.inl (1, 4200, .inl (upd S2 (tp + (j + 1)) (nI t))))) 1230 = some (.inl (1, 4200, .inl (upd S2 (tp + (j + 1)) (nI t)))) := am_up_eq _ _ _
        refine v_callV (rest := []) (As := [.int (nI kd), .ref 1230, .int (nI (tp + j)), .int 2]) (mc' := 0) (ms' := 0) (am_Dk d_MR_list (k := 125) rfl) c_MR_215 (Or.inl ⟨_, _, _, _, _, (RS_o1213 (RS_fr (M1 := (am_up M2 1230 (.inl (1, 4200, .inl (upd S2 (tp + (j + 1)) (nI t)))))) hR2 (fun i hi => (am_up_ne (show i ≠ 1230 from by omega)).trans (rfl)))), cq_ok10⟩) (t_MT_compound G (d := 0) (c := 2) (fr := tp + j) (by omega) hX3.1 (by omega) m4 (by omega) (by omega) (by omega)) (by omega) (by omega) (by omega) (by simp [Value.category]) rfl (fun v5 M6 n7 h8 => ?_) (fun _ _ _ h8 => ?_)
        rotate_left
        · exact absurd h8.1 (by simp)
        obtain ⟨h8, hA9, hf10, ex9⟩ := h8
        cases h8
        replace ex9 := ex9.symm
        subst ex9
        have hR11 := RS_comp hX3 (k := kd) (c := 2) (fr := tp + j) (y := (fun q => if q = 0 then y j else t)) hkd (by omega) hyq hA9 hf10
        obtain ⟨W12, hW13⟩ : ∃ W9, W9 = gu W2 sz2 (if 2 = 1 then rk1 (On2 kd) (W2.1 ((fun q => if q = 0 then y j else t) 0)).1 (W2.1 ((fun q => if q = 0 then y j else t) 0)).2 else if 2 = 2 then rk2 (On2 kd) (W2.1 ((fun q => if q = 0 then y j else t) 0)).1 (W2.1 ((fun q => if q = 0 then y j else t) 0)).2 (W2.1 ((fun q => if q = 0 then y j else t) 1)).1 (W2.1 ((fun q => if q = 0 then y j else t) 1)).2 else (2, 0)) (if 2 = 2 then (On2 kd, (fun q => if q = 0 then y j else t) 0, (fun q => if q = 0 then y j else t) 1) else (0, 0, 0)) none := ⟨_, rfl⟩
        rw [← hW13] at hR11
        have ge14 : gh_eq sz2 W2 W12 := by rw [hW13]; exact gu_eq _ _ _ _ _
        have at15 := gu_at W2 sz2 (if 2 = 1 then rk1 (On2 kd) (W2.1 ((fun q => if q = 0 then y j else t) 0)).1 (W2.1 ((fun q => if q = 0 then y j else t) 0)).2 else if 2 = 2 then rk2 (On2 kd) (W2.1 ((fun q => if q = 0 then y j else t) 0)).1 (W2.1 ((fun q => if q = 0 then y j else t) 0)).2 (W2.1 ((fun q => if q = 0 then y j else t) 1)).1 (W2.1 ((fun q => if q = 0 then y j else t) 1)).2 else (2, 0)) (if 2 = 2 then (On2 kd, (fun q => if q = 0 then y j else t) 0, (fun q => if q = 0 then y j else t) 1) else (0, 0, 0)) none
        rw [← hW13] at at15
        have b16 : M6 1225 = some (.inr (12, [.ref 1226, .ref 1227, .ref 1228, .ref 1213, .ref 1220, .ref 1212, .int (nI n), .int (nI ((tok f n A).2.1)), .int (nI ((tok f n A).2.2.1)), .int tk2, .int (nI (o + 1)), .long nu2, .ref 1229, .int (nI lX), .ref 1230, .int (nI (tp + (j + 1))), .int (-1), .ref 1231, .int (nI vb2), .int kn2, .int rkC, .ref 1232])) := (hf10 1225 (by omega)).trans ((am_up_ne (show 1225 ≠ 1230 from by decide)).trans (hr2))
        have b17 : M6 1229 = some (.inl (0, 4096, .inl gX)) := (hf10 1229 (by omega)).trans ((am_up_ne (show 1229 ≠ 1230 from by decide)).trans (hw2))
        have b18 : M6 1230 = some (.inl (1, 4200, .inl (upd S2 (tp + (j + 1)) (nI t)))) := (hf10 1230 (by omega)).trans (am_up_eq _ _ _)
        have b19 : M6 1232 = some (.inl (0, 4096, .inl kX)) := (hf10 1232 (by omega)).trans ((am_up_ne (show 1232 ≠ 1230 from by decide)).trans (hkc2))
        have hm20 : mb f M6 := mb_fr hm2 (fun i hi => (hf10 i (by omega)).trans ((am_up_ne (show i ≠ 1230 from by omega)).trans (rfl)))
        have fr21 : pf_fr M M6 := fun i hi => (hf10 i (by omega)).trans ((am_up_ne (show i ≠ 1230 from by omega)).trans ((fr2 i hi)))
        have hR22 : RS LU M6 (sz2 + 1) (pt2 + 2) ns2 tx2 vb2 f1 f2 W12 On2 Vx2 := ⟨_, _, _, _, hR11⟩
        show am_V G _ _ _ _ _ 236 [(5, .int (nI kd)), (4, .int (nI l2)), (2, .int (nI t)), (1, .int (nI tp)), (0, .ref 1225)] [.int (nI sz2)] M6 nx 0 0
        refine v_istore_n (L1 := [(2, .int (nI sz2)), (5, .int (nI kd)), (4, .int (nI l2)), (1, .int (nI tp)), (0, .ref 1225)]) (am_Dk d_MR_list (k := 126) rfl) (by decide) rfl ?_
        refine v_aload_n (am_Dk d_MR_list (k := 127) rfl) rfl ?_
        refine v_dup (am_Dk d_MR_list (k := 128) rfl) rfl ?_
        refine v_get (am_Dk d_MR_list (k := 129) rfl) f_MR_102 b16 rfl ?_
        refine v_iconst (v := 1) (am_Dk d_MR_list (k := 130) rfl) (by decide) ?_
        refine v_isub (am_Dk d_MR_list (k := 131) rfl) ?_
        rw [show (nI (tp + (j + 1)) - 1 : Int32) = nI (tp + j) from nI_pred (tp + j)]
        refine v_put (am_Dk d_MR_list (k := 132) rfl) f_MR_102 b16 (Nat.le_of_ble_eq_true rfl) rfl rfl ?_
        refine v_goto (tgt := 198) (am_Dk d_MR_list (k := 133) rfl) (by decide) ?_
        have hat1 := at15.1
        rw [if_neg (by decide), if_pos rfl, hkO, rk2_0] at hat1
        have hat2 := at15.2.1
        rw [if_pos rfl, hkO] at hat2
        exact v_drop (ih _ A l2 tk2 nu2 g2 gX kX (upd S2 (tp + (j + 1)) (nI t)) lX kn2 rkC (sz2 + 1) (pt2 + 2) ns2 tx2 vb2 f1 f2 W12 On2 Vx2 sz2 kd y (by omega) ⟨by omega, by omega, by omega, by omega, by omega, by omega, by omega, by omega, by omega, by omega⟩ (mb_fr hm20 (fun i hi => (am_up_ne (show i ≠ 1225 from by omega)).trans (rfl))) (RS_fr hR22 (fun i hi => (am_up_ne (show i ≠ 1225 from by omega)).trans (rfl))) ((am_up_ne (show 1230 ≠ 1225 from by decide)).trans (b18)) ((am_up_ne (show 1232 ≠ 1225 from by decide)).trans (b19)) (am_up_eq _ _ _) hsc2 hg2 hkX ((am_up_ne (show 1229 ≠ 1225 from by decide)).trans (b17)) hgX (fun i hi => (am_up_ne (show i ≠ 1225 from by omega)).trans ((fr21 i hi))) (by omega) (gh_trans hge ge14 (by omega)) hns hOn (fun q hq => (upd_ne _ _ (by omega)).trans (hSt q hq)) haA (by omega) (by omega) (by omega) hkd hkO (fun q hq => ⟨by have := (hyj q (by omega)).1; omega, (upd_ne _ _ (by omega)).trans (hyj q (by omega)).2⟩) (Or.inr ⟨hat1, at15.2.2, by rw [hat2]⟩) (by rw [show sz2 + 1 + j - sz = sz2 + (j + 1) - sz from by omega]; exact hTOK)) (by simp)
  have h190 : ∀ i (M2 : am_M) (A l2 : Nat) (tk2 : Int32) (nu2 : Int64) (g2 gX kX S2 : Nat → Int32) (lX : Nat) (kn2 rkC : Int32) (sz2 pt2 ns2 tx2 vb2 f1 f2 : Nat) (W2 : Gho) (On2 : Nat → Nat) (Vx2 : Nat → Option (Nat × (Nat → Int32))) (t : Nat) (y : Nat → Nat), tp + i ≤ 4096 → 1 ≤ i → pb_ok n A (o + 1) tp sz2 pt2 ns2 tx2 vb2 f1 f2 → mb f M2 → RS LU M2 sz2 pt2 ns2 tx2 vb2 f1 f2 W2 On2 Vx2 → M2 1230 = some (.inl (1, 4200, .inl S2)) → M2 1232 = some (.inl (0, 4096, .inl kX)) → M2 1225 = some (.inr (12, [.ref 1226, .ref 1227, .ref 1228, .ref 1213, .ref 1220, .ref 1212, .int (nI n), .int (nI ((tok f n A).2.1)), .int (nI ((tok f n A).2.2.1)), .int tk2, .int (nI (o + 1)), .long nu2, .ref 1229, .int (nI lX), .ref 1230, .int (nI (tp + i)), .int (-1), .ref 1231, .int (nI vb2), .int kn2, .int rkC, .ref 1232])) → scT f (tok f n A) tk2 nu2 l2 g2 → tbB g2 → (∀ j, j < l2 → kX j = g2 j) → M2 1229 = some (.inl (0, 4096, .inl gX)) → tbB gX → pf_fr M M2 → sz < sz2 → gh_eq sz W W2 → ns ≤ ns2 → (∀ j, j < ns → On2 j = On j) → (∀ j, j < tp → S2 j = S j) → a < A → sz2 + a + i ≤ sz + A → pt2 + sz + i + 1 ≤ pt + sz2 → t < sz2 → (∀ q, q < i → y q < sz2 ∧ S2 (tp + q) = nI (y q)) → TOk f n lu o mo a A 0 (sz2 + i - sz) (2, 0, 0, 0) 0 (0, 0, 0, 0) (0, 0, 0, 0) → am_V G m_MR_list d 0 0 (RQ f n LU lu M nx o mo a (o + 1) tp S sz pt ns W On (fun _ _ => True) (fun w => TBad f n lu o mo a w)) 190 [(4, .int (nI l2)), (2, .int (nI t)), (1, .int (nI tp)), (0, .ref 1225)] [] M2 nx 0 0 := by
    intro i M2 A l2 tk2 nu2 g2 gX kX S2 lX kn2 rkC sz2 pt2 ns2 tx2 vb2 f1 f2 W2 On2 Vx2 t y hti hi1 hpb2 hm2 hR2 hS2 hkc2 hr2 hsc2 hg2 hkX hw2 hgX fr2 hsz hge hns hOn hSt haA hB1 hB2 htt hyj hTOK
    obtain ⟨qb_0, qb_1, qb_2, qb_3, qb_4, qb_5, qb_6, qb_7, qb_8, qb_9⟩ := hpb2
    have k_A := tok_ok f qb_0
    have l_A := hsc2.2.2.1
    refine v_aload_n (am_Dk d_MR_list (k := 101) rfl) rfl ?_
    refine v_bipush (v := 46) (am_Dk d_MR_list (k := 102) rfl) (by decide) ?_
    obtain ⟨⟨Kd1, Nm1, Fi1, Ma1, Pa1, Nu1⟩, T1, F1, Va1, hX1⟩ := RS_fr (M1 := M2) hR2 (fun i hi => rfl)
    refine v_callV (rest := []) (As := [.int 46]) (mc' := 0) (ms' := 0) (am_Dk d_MR_list (k := 103) rfl) c_MR_225 (Or.inl ⟨_, _, _, _, _, hr2, cq_ok12⟩) (t_MR_one G (d := 3) (by omega) hr2 hw2 hgX ⟨by decide, by decide⟩ hX1 (by omega) (by omega)) (by omega) (by omega) (by omega) (by simp [Value.category]) rfl (fun v2 M3 n4 h5 => ?_) (fun _ _ _ h5 => ?_)
    rotate_left
    · obtain ⟨_, _, _, _, _, _, hx9, _⟩ := h5; cases hx9
    obtain ⟨k6, ns7, tx8, On9, T9, F9, h5, ex9, q101, q102, q103, q104, q105, q106, q107⟩ := h5
    cases h5
    replace ex9 := ex9.symm
    subst ex9
    have q10e : ns7 ≤ A + 1 + f2 ∧ tx8 ≤ A + 1 + 2 * f2 := by
      rcases q106 with ⟨z1, z2⟩ | ⟨z1, z2, z3⟩
      · omega
      · have : ¬ f1 = 1 := fun z => by obtain ⟨k1, k2, k3⟩ := hX1.2.2.2.2.2.2.1 z; exact z3 k1 k2 (nmQ_cg k3 (fun i hi => by rw [show i = 0 from by omega]; rfl))
        omega
    replace q101 := RSx_e1 q101 q102 (nmQ_cg q104 (fun i hi => by rw [show i = 0 from by omega]; rfl))
    have b11 : M3 1225 = some (.inr (12, [.ref 1226, .ref 1227, .ref 1228, .ref 1213, .ref 1220, .ref 1212, .int (nI n), .int (nI ((tok f n A).2.1)), .int (nI ((tok f n A).2.2.1)), .int tk2, .int (nI (o + 1)), .long nu2, .ref 1229, .int (nI 1), .ref 1230, .int (nI (tp + i)), .int (-1), .ref 1231, .int (nI vb2), .int kn2, .int rkC, .ref 1232])) := (q107 1225 (by omega)).trans (am_up_eq _ _ _)
    have b12 : M3 1229 = some (.inl (0, 4096, .inl (upd gX 0 46))) := (q107 1229 (by omega)).trans ((am_up_ne (show 1229 ≠ 1225 from by decide)).trans (am_up_eq _ _ _))
    have b13 : M3 1230 = some (.inl (1, 4200, .inl S2)) := (q107 1230 (by omega)).trans ((am_up_ne (show 1230 ≠ 1225 from by decide)).trans ((am_up_ne (show 1230 ≠ 1229 from by decide)).trans (hS2)))
    have b14 : M3 1232 = some (.inl (0, 4096, .inl kX)) := (q107 1232 (by omega)).trans ((am_up_ne (show 1232 ≠ 1225 from by decide)).trans ((am_up_ne (show 1232 ≠ 1229 from by decide)).trans (hkc2)))
    have hm15 : mb f M3 := mb_fr hm2 (fun i hi => (q107 i (by omega)).trans ((am_up_ne (show i ≠ 1225 from by omega)).trans ((am_up_ne (show i ≠ 1229 from by omega)).trans (rfl))))
    have fr16 : pf_fr M M3 := fun i hi => (q107 i (by omega)).trans ((am_up_ne (show i ≠ 1225 from by omega)).trans ((am_up_ne (show i ≠ 1229 from by omega)).trans ((fr2 i hi))))
    have hR17 : RS LU M3 sz2 pt2 ns7 tx8 vb2 1 f2 W2 On9 Vx2 := ⟨_, _, _, _, q101⟩
    show am_V G _ _ _ _ _ 196 [(4, .int (nI l2)), (2, .int (nI t)), (1, .int (nI tp)), (0, .ref 1225)] [.int (nI k6)] M3 nx 0 0
    refine v_istore (L1 := [(5, .int (nI k6)), (4, .int (nI l2)), (2, .int (nI t)), (1, .int (nI tp)), (0, .ref 1225)]) (am_Dk d_MR_list (k := 104) rfl) (by decide) rfl ?_
    exact v_drop (h198 i _ A l2 tk2 nu2 g2 (upd gX 0 46) kX S2 1 kn2 rkC sz2 pt2 ns7 tx8 vb2 1 f2 W2 On9 Vx2 t k6 y (by omega) ⟨by omega, by omega, by omega, by omega, by omega, by omega, by omega, by omega, by omega, by omega⟩ hm15 hR17 (b13) (b14) (b11) hsc2 hg2 hkX (b12) (tbB_up hgX ⟨by decide, by decide⟩) (fun i hi => (fr16 i hi)) hsz hge (by omega) (fun j hj => (q105 j (by omega)).trans (hOn j hj)) hSt haA hB1 hB2 htt q102 (q103.trans sp_dot) hyj (Or.inl hi1) hTOK) (by simp)
  have h156 : ∀ i (M2 : am_M) (A l2 : Nat) (tk2 : Int32) (nu2 : Int64) (g2 gX kX S2 : Nat → Int32) (lX : Nat) (kn2 rkC : Int32) (sz2 pt2 ns2 tx2 vb2 f1 f2 : Nat) (W2 : Gho) (On2 : Nat → Nat) (Vx2 : Nat → Option (Nat × (Nat → Int32))) (tl : Option Nat) (y : Nat → Nat), tp + i ≤ 4096 → 1 ≤ i → pb_ok n A (o + 1) tp sz2 pt2 ns2 tx2 vb2 f1 f2 → mb f M2 → RS LU M2 sz2 pt2 ns2 tx2 vb2 f1 f2 W2 On2 Vx2 → M2 1230 = some (.inl (1, 4200, .inl S2)) → M2 1232 = some (.inl (0, 4096, .inl kX)) → M2 1225 = some (.inr (12, [.ref 1226, .ref 1227, .ref 1228, .ref 1213, .ref 1220, .ref 1212, .int (nI n), .int (nI ((tok f n A).2.1)), .int (nI ((tok f n A).2.2.1)), .int tk2, .int (nI (o + 1)), .long nu2, .ref 1229, .int (nI lX), .ref 1230, .int (nI (tp + i)), .int (-1), .ref 1231, .int (nI vb2), .int kn2, .int rkC, .ref 1232])) → scT f (tok f n A) tk2 nu2 l2 g2 → tbB g2 → (∀ j, j < l2 → kX j = g2 j) → M2 1229 = some (.inl (0, 4096, .inl gX)) → tbB gX → pf_fr M M2 → sz < sz2 → gh_eq sz W W2 → ns ≤ ns2 → (∀ j, j < ns → On2 j = On j) → (∀ j, j < tp → S2 j = S j) → a < A → sz2 + a + i + 1 ≤ sz + A → pt2 + sz + i ≤ pt + sz2 → (∀ t, tl = some t → t < sz2 ∧ pt2 + sz + i + 1 ≤ pt + sz2) → (∀ q, q < i → y q < sz2 ∧ S2 (tp + q) = nI (y q)) → TOk f n lu o mo a A 0 (sz2 + i + tlD tl - sz) (2, 0, 0, 0) 0 (0, 0, 0, 0) (0, 0, 0, 0) → am_V G m_MR_list d 0 0 (RQ f n LU lu M nx o mo a (o + 1) tp S sz pt ns W On (fun _ _ => True) (fun w => TBad f n lu o mo a w)) 156 [(4, .int (nI l2)), (2, .int (tlI tl)), (1, .int (nI tp)), (0, .ref 1225)] [] M2 nx 0 0 := by
    intro i M2 A l2 tk2 nu2 g2 gX kX S2 lX kn2 rkC sz2 pt2 ns2 tx2 vb2 f1 f2 W2 On2 Vx2 tl y hti hi1 hpb2 hm2 hR2 hS2 hkc2 hr2 hsc2 hg2 hkX hw2 hgX fr2 hsz hge hns hOn hSt haA hB1 hB2 htl hyj hTOK
    have hpb9 := hpb2
    cases tl with
    | some t =>
      obtain ⟨ht1, ht2⟩ := htl t rfl
      obtain ⟨qb_0, qb_1, qb_2, qb_3, qb_4, qb_5, qb_6, qb_7, qb_8, qb_9⟩ := hpb2
      have k_A := tok_ok f qb_0
      have l_A := hsc2.2.2.1
      show am_V G _ _ _ _ _ 156 [(4, .int (nI l2)), (2, .int (nI t)), (1, .int (nI tp)), (0, .ref 1225)] [] M2 nx 0 0
      refine v_iload_n (am_Dk d_MR_list (k := 83) rfl) rfl ?_
      refine v_iconst (v := (-1)) (am_Dk d_MR_list (k := 84) rfl) (by decide) ?_
      refine v_icmp_ne (tgt := 190) (am_Dk d_MR_list (k := 85) rfl) (by decide) (fun c1 => ?_) (fun c1 => ?_)
      · exact h190 i M2 A l2 tk2 nu2 g2 gX kX S2 lX kn2 rkC sz2 pt2 ns2 tx2 vb2 f1 f2 W2 On2 Vx2 t y hti hi1 hpb9 hm2 hR2 hS2 hkc2 hr2 hsc2 hg2 hkX hw2 hgX fr2 hsz hge hns hOn hSt haA (by omega) (by omega) ht1 hyj hTOK
      · exact absurd c1 (nI_nm1 (by omega))
    | none =>
      obtain ⟨qb_0, qb_1, qb_2, qb_3, qb_4, qb_5, qb_6, qb_7, qb_8, qb_9⟩ := hpb2
      have k_A := tok_ok f qb_0
      have l_A := hsc2.2.2.1
      show am_V G _ _ _ _ _ 156 [(4, .int (nI l2)), (2, .int (-1)), (1, .int (nI tp)), (0, .ref 1225)] [] M2 nx 0 0
      refine v_iload_n (am_Dk d_MR_list (k := 83) rfl) rfl ?_
      refine v_iconst (v := (-1)) (am_Dk d_MR_list (k := 84) rfl) (by decide) ?_
      refine v_icmp_ne (tgt := 190) (am_Dk d_MR_list (k := 85) rfl) (by decide) (fun c1 => ?_) (fun c1 => ?_)
      · exact absurd (by decide) c1
      · refine v_aload_n (am_Dk d_MR_list (k := 86) rfl) rfl ?_
        refine v_iconst (v := 0) (am_Dk d_MR_list (k := 87) rfl) (by decide) ?_
        refine v_put (am_Dk d_MR_list (k := 88) rfl) f_MR_139 hr2 (Nat.le_of_ble_eq_true rfl) rfl rfl ?_
        refine v_aload_n (am_Dk d_MR_list (k := 89) rfl) rfl ?_
        refine v_bipush (v := 91) (am_Dk d_MR_list (k := 90) rfl) (by decide) ?_
        have m2 : (am_up M2 1225 (.inr (12, [.ref 1226, .ref 1227, .ref 1228, .ref 1213, .ref 1220, .ref 1212, .int (nI n), .int (nI ((tok f n A).2.1)), .int (nI ((tok f n A).2.2.1)), .int tk2, .int (nI (o + 1)), .long nu2, .ref 1229, .int 0, .ref 1230, .int (nI (tp + i)), .int (-1), .ref 1231, .int (nI vb2), .int kn2, .int rkC, .ref 1232]))) 1225 = some (.inr (12, [.ref 1226, .ref 1227, .ref 1228, .ref 1213, .ref 1220, .ref 1212, .int (nI n), .int (nI ((tok f n A).2.1)), .int (nI ((tok f n A).2.2.1)), .int tk2, .int (nI (o + 1)), .long nu2, .ref 1229, .int 0, .ref 1230, .int (nI (tp + i)), .int (-1), .ref 1231, .int (nI vb2), .int kn2, .int rkC, .ref 1232])) := am_up_eq _ _ _
        have m3 : (am_up M2 1225 (.inr (12, [.ref 1226, .ref 1227, .ref 1228, .ref 1213, .ref 1220, .ref 1212, .int (nI n), .int (nI ((tok f n A).2.1)), .int (nI ((tok f n A).2.2.1)), .int tk2, .int (nI (o + 1)), .long nu2, .ref 1229, .int 0, .ref 1230, .int (nI (tp + i)), .int (-1), .ref 1231, .int (nI vb2), .int kn2, .int rkC, .ref 1232]))) 1229 = some (.inl (0, 4096, .inl gX)) := (am_up_ne (show 1229 ≠ 1225 from by decide)).trans (hw2)
        refine v_callV (rest := []) (As := [.int 91]) (mc' := 0) (ms' := 0) (am_Dk d_MR_list (k := 91) rfl) c_MR_154 (Or.inl ⟨_, _, _, _, _, m2, cq_ok12⟩) (t_MR_letter G (d := 0) (le := 0) (l := 0) (by omega) m2 m3 (by omega)) (by omega) (by omega) (by omega) (by simp [Value.category]) rfl (fun v4 M5 n6 h7 => ?_) (fun _ _ _ h7 => ?_)
        rotate_left
        · exact absurd h7.1 (by simp)
        obtain ⟨h7, e8, e9⟩ := h7
        replace e8 := e8.symm
        replace e9 := e9.symm
        subst e8
        subst e9
        cases h7
        rw [lt_nar ⟨by decide, by decide⟩]
        rw [am_uu1 (a := 1225)]
        show am_V G _ _ _ _ _ 172 [(4, .int (nI l2)), (2, .int (-1)), (1, .int (nI tp)), (0, .ref 1225)] [] (am_up (am_up M2 1229 (.inl (0, 4096, .inl (upd gX 0 91)))) 1225 (.inr (12, [.ref 1226, .ref 1227, .ref 1228, .ref 1213, .ref 1220, .ref 1212, .int (nI n), .int (nI ((tok f n A).2.1)), .int (nI ((tok f n A).2.2.1)), .int tk2, .int (nI (o + 1)), .long nu2, .ref 1229, .int (nI (1)), .ref 1230, .int (nI (tp + i)), .int (-1), .ref 1231, .int (nI vb2), .int kn2, .int rkC, .ref 1232]))) nx 0 0
        refine v_aload_n (am_Dk d_MR_list (k := 92) rfl) rfl ?_
        refine v_bipush (v := 93) (am_Dk d_MR_list (k := 93) rfl) (by decide) ?_
        have m10 : (am_up (am_up M2 1229 (.inl (0, 4096, .inl (upd gX 0 91)))) 1225 (.inr (12, [.ref 1226, .ref 1227, .ref 1228, .ref 1213, .ref 1220, .ref 1212, .int (nI n), .int (nI ((tok f n A).2.1)), .int (nI ((tok f n A).2.2.1)), .int tk2, .int (nI (o + 1)), .long nu2, .ref 1229, .int (nI (1)), .ref 1230, .int (nI (tp + i)), .int (-1), .ref 1231, .int (nI vb2), .int kn2, .int rkC, .ref 1232]))) 1225 = some (.inr (12, [.ref 1226, .ref 1227, .ref 1228, .ref 1213, .ref 1220, .ref 1212, .int (nI n), .int (nI ((tok f n A).2.1)), .int (nI ((tok f n A).2.2.1)), .int tk2, .int (nI (o + 1)), .long nu2, .ref 1229, .int (nI (1)), .ref 1230, .int (nI (tp + i)), .int (-1), .ref 1231, .int (nI vb2), .int kn2, .int rkC, .ref 1232])) := am_up_eq _ _ _
        have m11 : (am_up (am_up M2 1229 (.inl (0, 4096, .inl (upd gX 0 91)))) 1225 (.inr (12, [.ref 1226, .ref 1227, .ref 1228, .ref 1213, .ref 1220, .ref 1212, .int (nI n), .int (nI ((tok f n A).2.1)), .int (nI ((tok f n A).2.2.1)), .int tk2, .int (nI (o + 1)), .long nu2, .ref 1229, .int (nI (1)), .ref 1230, .int (nI (tp + i)), .int (-1), .ref 1231, .int (nI vb2), .int kn2, .int rkC, .ref 1232]))) 1229 = some (.inl (0, 4096, .inl (upd gX 0 91))) := (am_up_ne (show 1229 ≠ 1225 from by decide)).trans (am_up_eq _ _ _)
        refine v_callV (rest := []) (As := [.int 93]) (mc' := 0) (ms' := 0) (am_Dk d_MR_list (k := 94) rfl) c_MR_154 (Or.inl ⟨_, _, _, _, _, m10, cq_ok12⟩) (t_MR_letter G (d := 0) (le := 0) (l := 1) (by omega) m10 m11 (by omega)) (by omega) (by omega) (by omega) (by simp [Value.category]) rfl (fun v12 M13 n14 h15 => ?_) (fun _ _ _ h15 => ?_)
        rotate_left
        · exact absurd h15.1 (by simp)
        obtain ⟨h15, e16, e17⟩ := h15
        replace e16 := e16.symm
        replace e17 := e17.symm
        subst e16
        subst e17
        cases h15
        rw [lt_nar ⟨by decide, by decide⟩]
        rw [am_uu1 (a := 1229)]
        rw [am_uu1 (a := 1225)]
        show am_V G _ _ _ _ _ 178 [(4, .int (nI l2)), (2, .int (-1)), (1, .int (nI tp)), (0, .ref 1225)] [] (am_up (am_up M2 1229 (.inl (0, 4096, .inl (upd (upd gX 0 91) 1 93)))) 1225 (.inr (12, [.ref 1226, .ref 1227, .ref 1228, .ref 1213, .ref 1220, .ref 1212, .int (nI n), .int (nI ((tok f n A).2.1)), .int (nI ((tok f n A).2.2.1)), .int tk2, .int (nI (o + 1)), .long nu2, .ref 1229, .int (nI (2)), .ref 1230, .int (nI (tp + i)), .int (-1), .ref 1231, .int (nI vb2), .int kn2, .int rkC, .ref 1232]))) nx 0 0
        refine v_aload_n (am_Dk d_MR_list (k := 95) rfl) rfl ?_
        have m18 : (am_up (am_up M2 1229 (.inl (0, 4096, .inl (upd (upd gX 0 91) 1 93)))) 1225 (.inr (12, [.ref 1226, .ref 1227, .ref 1228, .ref 1213, .ref 1220, .ref 1212, .int (nI n), .int (nI ((tok f n A).2.1)), .int (nI ((tok f n A).2.2.1)), .int tk2, .int (nI (o + 1)), .long nu2, .ref 1229, .int (nI (2)), .ref 1230, .int (nI (tp + i)), .int (-1), .ref 1231, .int (nI vb2), .int kn2, .int rkC, .ref 1232]))) 1225 = some (.inr (12, [.ref 1226, .ref 1227, .ref 1228, .ref 1213, .ref 1220, .ref 1212, .int (nI n), .int (nI ((tok f n A).2.1)), .int (nI ((tok f n A).2.2.1)), .int tk2, .int (nI (o + 1)), .long nu2, .ref 1229, .int (nI (2)), .ref 1230, .int (nI (tp + i)), .int (-1), .ref 1231, .int (nI vb2), .int kn2, .int rkC, .ref 1232])) := am_up_eq _ _ _
        refine v_get (am_Dk d_MR_list (k := 96) rfl) f_MR_81 m18 rfl ?_
        refine v_aload_n (am_Dk d_MR_list (k := 97) rfl) rfl ?_
        obtain ⟨⟨Kd19, Nm19, Fi19, Ma19, Pa19, Nu19⟩, T19, F19, Va19, hX19⟩ := RS_fr (M1 := (am_up (am_up M2 1229 (.inl (0, 4096, .inl (upd (upd gX 0 91) 1 93)))) 1225 (.inr (12, [.ref 1226, .ref 1227, .ref 1228, .ref 1213, .ref 1220, .ref 1212, .int (nI n), .int (nI ((tok f n A).2.1)), .int (nI ((tok f n A).2.2.1)), .int tk2, .int (nI (o + 1)), .long nu2, .ref 1229, .int (nI (2)), .ref 1230, .int (nI (tp + i)), .int (-1), .ref 1231, .int (nI vb2), .int kn2, .int rkC, .ref 1232])))) hR2 (fun i hi => (am_up_ne (show i ≠ 1225 from by omega)).trans ((am_up_ne (show i ≠ 1229 from by omega)).trans (rfl)))
        have m20 : (am_up (am_up M2 1229 (.inl (0, 4096, .inl (upd (upd gX 0 91) 1 93)))) 1225 (.inr (12, [.ref 1226, .ref 1227, .ref 1228, .ref 1213, .ref 1220, .ref 1212, .int (nI n), .int (nI ((tok f n A).2.1)), .int (nI ((tok f n A).2.2.1)), .int tk2, .int (nI (o + 1)), .long nu2, .ref 1229, .int (nI (2)), .ref 1230, .int (nI (tp + i)), .int (-1), .ref 1231, .int (nI vb2), .int kn2, .int rkC, .ref 1232]))) 1229 = some (.inl (0, 4096, .inl (upd (upd gX 0 91) 1 93))) := (am_up_ne (show 1229 ≠ 1225 from by decide)).trans (am_up_eq _ _ _)
        refine v_callV (rest := [.ref 1213]) (As := []) (mc' := 0) (ms' := 0) (am_Dk d_MR_list (k := 98) rfl) c_MR_212 (Or.inl ⟨_, _, _, _, _, m18, cq_ok12⟩) (t_MR_name G (d := 2) (le := 0) (l := 2) (by omega) m18 m20 (tbB_up (tbB_up hgX ⟨by decide, by decide⟩) ⟨by decide, by decide⟩) (by omega) hX19 (by omega) (by omega)) (by omega) (by omega) (by omega) (by simp [Value.category]) rfl (fun v21 M22 n23 h24 => ?_) (fun _ _ _ h24 => ?_)
        rotate_left
        · obtain ⟨_, _, _, _, _, _, hx9, _⟩ := h24; cases hx9
        obtain ⟨k25, ns26, tx27, On28, T9, F9, h24, ex9, q291, q292, q293, q294, q295, q296, q297⟩ := h24
        cases h24
        replace ex9 := ex9.symm
        subst ex9
        have q29e : ns26 ≤ A + f1 + 1 ∧ tx27 ≤ A + f1 + 2 := by
          rcases q296 with ⟨z1, z2⟩ | ⟨z1, z2, z3⟩
          · omega
          · have : ¬ f2 = 1 := fun z => by obtain ⟨k1, k2, k3⟩ := hX19.2.2.2.2.2.2.2 z; exact z3 k1 k2 (nmQ_cg k3 (fun i hi => by rcases (show i = 0 ∨ i = 1 from by omega) with z | z <;> rw [z] <;> rfl))
            omega
        replace q291 := RSx_e2 q291 q292 (nmQ_cg q294 (fun i hi => by rcases (show i = 0 ∨ i = 1 from by omega) with z | z <;> rw [z] <;> rfl))
        have b30 : M22 1225 = some (.inr (12, [.ref 1226, .ref 1227, .ref 1228, .ref 1213, .ref 1220, .ref 1212, .int (nI n), .int (nI ((tok f n A).2.1)), .int (nI ((tok f n A).2.2.1)), .int tk2, .int (nI (o + 1)), .long nu2, .ref 1229, .int (nI (2)), .ref 1230, .int (nI (tp + i)), .int (-1), .ref 1231, .int (nI vb2), .int kn2, .int rkC, .ref 1232])) := (q297 1225 (by omega)).trans (am_up_eq _ _ _)
        have b31 : M22 1229 = some (.inl (0, 4096, .inl (upd (upd gX 0 91) 1 93))) := (q297 1229 (by omega)).trans ((am_up_ne (show 1229 ≠ 1225 from by decide)).trans (am_up_eq _ _ _))
        have b32 : M22 1230 = some (.inl (1, 4200, .inl S2)) := (q297 1230 (by omega)).trans ((am_up_ne (show 1230 ≠ 1225 from by decide)).trans ((am_up_ne (show 1230 ≠ 1229 from by decide)).trans (hS2)))
        have b33 : M22 1232 = some (.inl (0, 4096, .inl kX)) := (q297 1232 (by omega)).trans ((am_up_ne (show 1232 ≠ 1225 from by decide)).trans ((am_up_ne (show 1232 ≠ 1229 from by decide)).trans (hkc2)))
        have hm34 : mb f M22 := mb_fr hm2 (fun i hi => (q297 i (by omega)).trans ((am_up_ne (show i ≠ 1225 from by omega)).trans ((am_up_ne (show i ≠ 1229 from by omega)).trans (rfl))))
        have fr35 : pf_fr M M22 := fun i hi => (q297 i (by omega)).trans ((am_up_ne (show i ≠ 1225 from by omega)).trans ((am_up_ne (show i ≠ 1229 from by omega)).trans ((fr2 i hi))))
        have hR36 : RS LU M22 sz2 pt2 ns26 tx27 vb2 f1 1 W2 On28 Vx2 := ⟨_, _, _, _, q291⟩
        show am_V G _ _ _ _ _ 186 [(4, .int (nI l2)), (2, .int (-1)), (1, .int (nI tp)), (0, .ref 1225)] [.int (nI k25), .ref 1213] M22 nx 0 0
        obtain ⟨⟨Kd37, Nm37, Fi37, Ma37, Pa37, Nu37⟩, T37, F37, Va37, hX37⟩ := RS_fr (M1 := M22) hR36 (fun i hi => rfl)
        refine v_callV (rest := []) (As := [.int (nI k25)]) (mc' := 0) (ms' := 0) (am_Dk d_MR_list (k := 99) rfl) c_MR_252 (Or.inl ⟨_, _, _, _, _, (RS_o1213 (RS_fr (M1 := M22) hR36 (fun i hi => rfl))), cq_ok10⟩) (t_MT_atom G (d := 0) (by omega) hX37.1 (by omega)) (by omega) (by omega) (by omega) (by simp [Value.category]) rfl (fun v38 M39 n40 h41 => ?_) (fun _ _ _ h41 => ?_)
        rotate_left
        · exact absurd h41.1 (by simp)
        obtain ⟨h41, hA42, hf43, ex9⟩ := h41
        cases h41
        replace ex9 := ex9.symm
        subst ex9
        have hR44 := RS_atom hX37 (k := k25) q292 hA42 hf43
        obtain ⟨W45, hW46⟩ : ∃ W9, W9 = gu W2 sz2 (2, 0) (0, 0, 0) none := ⟨_, rfl⟩
        rw [← hW46] at hR44
        have ge47 : gh_eq sz2 W2 W45 := by rw [hW46]; exact gu_eq _ _ _ _ _
        have at48 := gu_at W2 sz2 (2, 0) (0, 0, 0) none
        rw [← hW46] at at48
        have b49 : M39 1225 = some (.inr (12, [.ref 1226, .ref 1227, .ref 1228, .ref 1213, .ref 1220, .ref 1212, .int (nI n), .int (nI ((tok f n A).2.1)), .int (nI ((tok f n A).2.2.1)), .int tk2, .int (nI (o + 1)), .long nu2, .ref 1229, .int (nI (2)), .ref 1230, .int (nI (tp + i)), .int (-1), .ref 1231, .int (nI vb2), .int kn2, .int rkC, .ref 1232])) := (hf43 1225 (by omega)).trans (b30)
        have b50 : M39 1229 = some (.inl (0, 4096, .inl (upd (upd gX 0 91) 1 93))) := (hf43 1229 (by omega)).trans (b31)
        have b51 : M39 1230 = some (.inl (1, 4200, .inl S2)) := (hf43 1230 (by omega)).trans (b32)
        have b52 : M39 1232 = some (.inl (0, 4096, .inl kX)) := (hf43 1232 (by omega)).trans (b33)
        have hm53 : mb f M39 := mb_fr hm34 (fun i hi => (hf43 i (by omega)).trans (rfl))
        have fr54 : pf_fr M M39 := fun i hi => (hf43 i (by omega)).trans ((fr35 i hi))
        have hR55 : RS LU M39 (sz2 + 1) pt2 ns26 tx27 vb2 f1 1 W45 On28 Vx2 := ⟨_, _, _, _, hR44⟩
        show am_V G _ _ _ _ _ 189 [(4, .int (nI l2)), (2, .int (-1)), (1, .int (nI tp)), (0, .ref 1225)] [.int (nI sz2)] M39 nx 0 0
        refine v_istore_n (L1 := [(2, .int (nI sz2)), (4, .int (nI l2)), (1, .int (nI tp)), (0, .ref 1225)]) (am_Dk d_MR_list (k := 100) rfl) (by decide) rfl ?_
        exact v_drop (h190 i _ A l2 tk2 nu2 g2 (upd (upd gX 0 91) 1 93) kX S2 2 kn2 rkC (sz2 + 1) pt2 ns26 tx27 vb2 f1 1 W45 On28 Vx2 sz2 y hti hi1 ⟨by omega, by omega, by omega, by omega, by omega, by omega, by omega, by omega, by omega, by omega⟩ hm53 hR55 (b51) (b52) (b49) hsc2 hg2 hkX (b50) (tbB_up (tbB_up hgX ⟨by decide, by decide⟩) ⟨by decide, by decide⟩) (fun i hi => (fr54 i hi)) (by omega) (gh_trans hge ge47 (by omega)) (by omega) (fun j hj => (q295 j (by omega)).trans (hOn j hj)) hSt haA (by omega) (by omega) (by omega) (fun j hj => ⟨by have := (hyj j hj).1; omega, (hyj j hj).2⟩) (by rw [show sz2 + 1 + i - sz = sz2 + i + 1 - sz from by omega]; exact hTOK)) (by simp)
  have h129 : ∀ m k i (M2 : am_M) (A l2 : Nat) (tk2 : Int32) (nu2 : Int64) (g2 kX S2 : Nat → Int32) (kn2 rkC : Int32) (sz2 pt2 ns2 tx2 vb2 f1 f2 : Nat) (W2 : Gho) (On2 : Nat → Nat) (Vx2 : Nat → Option (Nat × (Nat → Int32))) (tl : Option Nat) (y : Nat → Nat), k + m = l2 → tp + i ≤ 4096 → 1 ≤ i → pb_ok n A (o + 1) tp sz2 pt2 ns2 tx2 vb2 f1 f2 → mb f M2 → RS LU M2 sz2 pt2 ns2 tx2 vb2 f1 f2 W2 On2 Vx2 → M2 1230 = some (.inl (1, 4200, .inl S2)) → M2 1232 = some (.inl (0, 4096, .inl kX)) → M2 1225 = some (.inr (12, [.ref 1226, .ref 1227, .ref 1228, .ref 1213, .ref 1220, .ref 1212, .int (nI n), .int (nI ((tok f n A).2.1)), .int (nI ((tok f n A).2.2.1)), .int tk2, .int (nI (o + 1)), .long nu2, .ref 1229, .int (nI l2), .ref 1230, .int (nI (tp + i)), .int (-1), .ref 1231, .int (nI vb2), .int kn2, .int rkC, .ref 1232])) → scT f (tok f n A) tk2 nu2 l2 g2 → tbB g2 → (∀ j, j < k → kX j = g2 j) → M2 1229 = some (.inl (0, 4096, .inl g2)) → pf_fr M M2 → sz < sz2 → gh_eq sz W W2 → ns ≤ ns2 → (∀ j, j < ns → On2 j = On j) → (∀ j, j < tp → S2 j = S j) → a < A → sz2 + a + i + 1 ≤ sz + A → pt2 + sz + i ≤ pt + sz2 → (∀ t, tl = some t → t < sz2 ∧ pt2 + sz + i + 1 ≤ pt + sz2) → (∀ q, q < i → y q < sz2 ∧ S2 (tp + q) = nI (y q)) → TOk f n lu o mo a A 0 (sz2 + i + tlD tl - sz) (2, 0, 0, 0) 0 (0, 0, 0, 0) (0, 0, 0, 0) → am_V G m_MR_list d 0 0 (RQ f n LU lu M nx o mo a (o + 1) tp S sz pt ns W On (fun _ _ => True) (fun w => TBad f n lu o mo a w)) 129 [(5, .int (nI k)), (4, .int (nI l2)), (2, .int (tlI tl)), (1, .int (nI tp)), (0, .ref 1225)] [] M2 nx 0 0 := by
    intro m
    induction m with
    | zero =>
      intro k i M2 A l2 tk2 nu2 g2 kX S2 kn2 rkC sz2 pt2 ns2 tx2 vb2 f1 f2 W2 On2 Vx2 tl y hkm hti hi1 hpb2 hm2 hR2 hS2 hkc2 hr2 hsc2 hg2 hkX hw2 fr2 hsz hge hns hOn hSt haA hB1 hB2 htl hyj hTOK
      have hpb9 := hpb2
      obtain ⟨qb_0, qb_1, qb_2, qb_3, qb_4, qb_5, qb_6, qb_7, qb_8, qb_9⟩ := hpb2
      have k_A := tok_ok f qb_0
      have l_A := hsc2.2.2.1
      refine v_iload (am_Dk d_MR_list (k := 70) rfl) rfl ?_
      refine v_iload (am_Dk d_MR_list (k := 71) rfl) rfl ?_
      refine v_icmp_ge (tgt := 156) (am_Dk d_MR_list (k := 72) rfl) (by decide) (fun c1 => ?_) (fun c1 => ?_)
      · have Nc1 := (nI_leI (a := l2) (b := k) (by omega) (by omega)).mp c1
        exact v_drop (h156 i M2 A l2 tk2 nu2 g2 g2 kX S2 l2 kn2 rkC sz2 pt2 ns2 tx2 vb2 f1 f2 W2 On2 Vx2 tl y hti hi1 hpb9 hm2 hR2 hS2 hkc2 hr2 hsc2 hg2 (fun j hj => hkX j (by omega)) hw2 hg2 fr2 hsz hge hns hOn hSt haA hB1 hB2 htl hyj hTOK) (by simp)
      · have Nc1 : ¬ l2 ≤ k := fun z => c1 ((nI_leI (a := l2) (b := k) (by omega) (by omega)).mpr z)
        exfalso
        omega
    | succ m ih =>
      intro k i M2 A l2 tk2 nu2 g2 kX S2 kn2 rkC sz2 pt2 ns2 tx2 vb2 f1 f2 W2 On2 Vx2 tl y hkm hti hi1 hpb2 hm2 hR2 hS2 hkc2 hr2 hsc2 hg2 hkX hw2 fr2 hsz hge hns hOn hSt haA hB1 hB2 htl hyj hTOK
      have hpb9 := hpb2
      obtain ⟨qb_0, qb_1, qb_2, qb_3, qb_4, qb_5, qb_6, qb_7, qb_8, qb_9⟩ := hpb2
      have k_A := tok_ok f qb_0
      have l_A := hsc2.2.2.1
      refine v_iload (am_Dk d_MR_list (k := 70) rfl) rfl ?_
      refine v_iload (am_Dk d_MR_list (k := 71) rfl) rfl ?_
      refine v_icmp_ge (tgt := 156) (am_Dk d_MR_list (k := 72) rfl) (by decide) (fun c1 => ?_) (fun c1 => ?_)
      · have Nc1 := (nI_leI (a := l2) (b := k) (by omega) (by omega)).mp c1
        exfalso
        omega
      · have Nc1 : ¬ l2 ≤ k := fun z => c1 ((nI_leI (a := l2) (b := k) (by omega) (by omega)).mpr z)
        refine v_aload_n (am_Dk d_MR_list (k := 73) rfl) rfl ?_
        refine v_get (am_Dk d_MR_list (k := 74) rfl) f_MR_78 hr2 rfl ?_
        refine v_iload (am_Dk d_MR_list (k := 75) rfl) rfl ?_
        refine v_aload_n (am_Dk d_MR_list (k := 76) rfl) rfl ?_
        refine v_get (am_Dk d_MR_list (k := 77) rfl) f_MR_68 hr2 rfl ?_
        refine v_iload (am_Dk d_MR_list (k := 78) rfl) rfl ?_
        refine v_bald (am_Dk d_MR_list (k := 79) rfl) hw2 rfl (vp_in_nI (by omega) (by omega)) ?_
        rw [nI_clamp (n := k) (by omega)]
        refine v_bast (am_Dk d_MR_list (k := 80) rfl) hkc2 rfl (vp_in_nI (by omega) (by omega)) ?_
        rw [nI_clamp (n := k) (by omega), nar_id (hg2 _)]
        refine v_iinc (v := nI (k + 1)) (L1 := [(5, .int (nI (k + 1))), (4, .int (nI l2)), (2, .int (tlI tl)), (1, .int (nI tp)), (0, .ref 1225)]) (am_Dk d_MR_list (k := 81) rfl) rfl (nI_1 _) (by decide) rfl ?_
        refine v_goto (tgt := 129) (am_Dk d_MR_list (k := 82) rfl) (by decide) ?_
        exact ih (k + 1) i _ A l2 tk2 nu2 g2 (upd kX k (g2 k)) S2 kn2 rkC sz2 pt2 ns2 tx2 vb2 f1 f2 W2 On2 Vx2 tl y (by omega) hti hi1 hpb9 (mb_fr hm2 (fun i hi => (am_up_ne (show i ≠ 1232 from by omega)).trans (rfl))) (RS_fr hR2 (fun i hi => (am_up_ne (show i ≠ 1232 from by omega)).trans (rfl))) ((am_up_ne (show 1230 ≠ 1232 from by decide)).trans (hS2)) (am_up_eq _ _ _) ((am_up_ne (show 1225 ≠ 1232 from by decide)).trans (hr2)) hsc2 hg2 (fun j hj => by
          by_cases hjk : j = k
          · rw [hjk, upd_at]
          · rw [upd_ne _ _ hjk]; exact hkX j (by omega)) ((am_up_ne (show 1229 ≠ 1232 from by decide)).trans (hw2)) (fun i hi => (am_up_ne (show i ≠ 1232 from by omega)).trans ((fr2 i hi))) hsz hge hns hOn hSt haA hB1 hB2 htl hyj hTOK
  have h116 : ∀ i (M2 : am_M) (aC : Nat) (S2 : Nat → Int32) (rkC : Int32) (sz2 pt2 ns2 tx2 vb2 f1 f2 : Nat) (W2 : Gho) (On2 : Nat → Nat) (Vx2 : Nat → Option (Nat × (Nat → Int32))) (tl : Option Nat) (y : Nat → Nat), (tok f n aC).1 = 6 → PS f n LU M2 aC (o + 1) (tp + i) S2 rkC sz2 pt2 ns2 tx2 vb2 f1 f2 W2 On2 Vx2 → pf_fr M M2 → sz < sz2 → gh_eq sz W W2 → ns ≤ ns2 → (∀ j, j < ns → On2 j = On j) → (∀ j, j < tp → S2 j = S j) → (∀ j, j < i → y j < sz2 ∧ S2 (tp + j) = nI (y j)) → a < aC → 1 ≤ i → sz2 + a + i ≤ sz + aC → pt2 + sz + i ≤ pt + sz2 → (∀ t, tl = some t → t < sz2 ∧ pt2 + sz + i + 1 ≤ pt + sz2) → TOk f n lu o mo a (tok f n aC).2.2.1 0 (sz2 + i + tlD tl - sz) (2, 0, 0, 0) 0 (0, 0, 0, 0) (0, 0, 0, 0) → am_V G m_MR_list d 0 0 (RQ f n LU lu M nx o mo a (o + 1) tp S sz pt ns W On (fun _ _ => True) (fun w => TBad f n lu o mo a w)) 116 [(2, .int (tlI tl)), (1, .int (nI tp)), (0, .ref 1225)] [] M2 nx 0 0 := by
    intro i M2 aC S2 rkC sz2 pt2 ns2 tx2 vb2 f1 f2 W2 On2 Vx2 tl y hk6 h2 fr2 hsz hge hns hOn hSt hy haC hi1 hB1 hB2 htl hTOK
    obtain ⟨hpb2, hm2, hR2, hS2, ⟨kc2, hkc2⟩, tk2, nu2, l2, g2, kn2, hr2, hsc2, hw2, hg2⟩ := h2
    replace hr2 : M2 1225 = some (.inr (12, [.ref 1226, .ref 1227, .ref 1228, .ref 1213, .ref 1220, .ref 1212, .int (nI n), .int (nI ((tok f n aC).2.1)), .int (nI ((tok f n aC).2.2.1)), .int tk2, .int (nI (o + 1)), .long nu2, .ref 1229, .int (nI l2), .ref 1230, .int (nI (tp + i)), .int (-1), .ref 1231, .int (nI vb2), .int kn2, .int rkC, .ref 1232])) := hr2
    obtain ⟨qb_0, qb_1, qb_2, qb_3, qb_4, qb_5, qb_6, qb_7, qb_8, qb_9⟩ := hpb2
    have k_C := tok_ok f qb_0
    have p_C := tok_pos f qb_0
    have l_C := hsc2.2.2.1
    have tkq := tkR_eq hsc2.1 k_C.1
    have hp6 := p_C (by omega)
    refine v_aload_n (am_Dk d_MR_list (k := 63) rfl) rfl ?_
    refine v_callV (rest := []) (As := []) (mc' := 0) (ms' := 0) (am_Dk d_MR_list (k := 64) rfl) c_MR_113 (Or.inl ⟨_, _, _, _, _, hr2, cq_ok12⟩) (t_MR_scan G (d := 5) (be := 0) (a := (tok f n aC).2.2.1) (by omega) hr2 hm2.1 hn hb (by omega) hw2 hg2) (by omega) (by omega) (by omega) (by simp [Value.category]) rfl (fun v1 M2 n3 h4 => ?_) (fun _ _ _ h4 => ?_)
    rotate_left
    · obtain ⟨_, _, _, _, hx9, _⟩ := h4; cases hx9
    obtain ⟨tk5, nu6, l7, g8, h4, ex9, e9, hs10, hg11⟩ := h4
    replace e9 := e9.symm
    replace ex9 := ex9.symm
    subst e9
    subst ex9
    cases h4
    have k_hs10 := tok_ok f (show (tok f n aC).2.2.1 ≤ n from by omega)
    have p_hs10 := tok_pos f (show (tok f n aC).2.2.1 ≤ n from by omega)
    have l_hs10 := hs10.2.2.1
    show am_V G _ _ _ _ _ 120 [(2, .int (tlI tl)), (1, .int (nI tp)), (0, .ref 1225)] [] (am_up (am_up M2 1229 (.inl (0, 4096, .inl g8))) 1225 (.inr (12, [.ref 1226, .ref 1227, .ref 1228, .ref 1213, .ref 1220, .ref 1212, .int (nI n), .int (nI (tok f n ((tok f n aC).2.2.1)).2.1), .int (nI (tok f n ((tok f n aC).2.2.1)).2.2.1), .int tk5, .int (nI (o + 1)), .long nu6, .ref 1229, .int (nI l7), .ref 1230, .int (nI (tp + i)), .int (-1), .ref 1231, .int (nI vb2), .int kn2, .int rkC, .ref 1232]))) nx 0 0
    refine v_aload_n (am_Dk d_MR_list (k := 65) rfl) rfl ?_
    have m12 : (am_up (am_up M2 1229 (.inl (0, 4096, .inl g8))) 1225 (.inr (12, [.ref 1226, .ref 1227, .ref 1228, .ref 1213, .ref 1220, .ref 1212, .int (nI n), .int (nI (tok f n ((tok f n aC).2.2.1)).2.1), .int (nI (tok f n ((tok f n aC).2.2.1)).2.2.1), .int tk5, .int (nI (o + 1)), .long nu6, .ref 1229, .int (nI l7), .ref 1230, .int (nI (tp + i)), .int (-1), .ref 1231, .int (nI vb2), .int kn2, .int rkC, .ref 1232]))) 1225 = some (.inr (12, [.ref 1226, .ref 1227, .ref 1228, .ref 1213, .ref 1220, .ref 1212, .int (nI n), .int (nI (tok f n ((tok f n aC).2.2.1)).2.1), .int (nI (tok f n ((tok f n aC).2.2.1)).2.2.1), .int tk5, .int (nI (o + 1)), .long nu6, .ref 1229, .int (nI l7), .ref 1230, .int (nI (tp + i)), .int (-1), .ref 1231, .int (nI vb2), .int kn2, .int rkC, .ref 1232])) := am_up_eq _ _ _
    refine v_get (am_Dk d_MR_list (k := 66) rfl) f_MR_139 m12 rfl ?_
    refine v_istore (L1 := [(4, .int (nI l7)), (2, .int (tlI tl)), (1, .int (nI tp)), (0, .ref 1225)]) (am_Dk d_MR_list (k := 67) rfl) (by decide) rfl ?_
    refine v_iconst (v := 0) (am_Dk d_MR_list (k := 68) rfl) (by decide) ?_
    refine v_istore (L1 := [(5, .int 0), (4, .int (nI l7)), (2, .int (tlI tl)), (1, .int (nI tp)), (0, .ref 1225)]) (am_Dk d_MR_list (k := 69) rfl) (by decide) rfl ?_
    exact v_drop (h129 l7 0 i _ ((tok f n aC).2.2.1) l7 tk5 nu6 g8 kc2 S2 kn2 rkC sz2 pt2 ns2 tx2 vb2 f1 f2 W2 On2 Vx2 tl y (by omega) (by omega) hi1 ⟨by omega, by omega, by omega, by omega, by omega, by omega, by omega, by omega, by omega, by omega⟩ (mb_fr hm2 (fun i hi => (am_up_ne (show i ≠ 1225 from by omega)).trans ((am_up_ne (show i ≠ 1229 from by omega)).trans (rfl)))) (RS_fr hR2 (fun i hi => (am_up_ne (show i ≠ 1225 from by omega)).trans ((am_up_ne (show i ≠ 1229 from by omega)).trans (rfl)))) ((am_up_ne (show 1230 ≠ 1225 from by decide)).trans ((am_up_ne (show 1230 ≠ 1229 from by decide)).trans (hS2))) ((am_up_ne (show 1232 ≠ 1225 from by decide)).trans ((am_up_ne (show 1232 ≠ 1229 from by decide)).trans (hkc2))) (am_up_eq _ _ _) hs10 hg11 (fun j hj => absurd hj (by omega)) ((am_up_ne (show 1229 ≠ 1225 from by decide)).trans (am_up_eq _ _ _)) (fun i hi => (am_up_ne (show i ≠ 1225 from by omega)).trans ((am_up_ne (show i ≠ 1229 from by omega)).trans ((fr2 i hi)))) hsz hge hns hOn hSt (by omega) (by omega) hB2 htl hy hTOK) (by simp [nI_0])
  have h36 : ∀ N i (M2 : am_M) (aC : Nat) (S2 : Nat → Int32) (rkC : Int32) (sz2 pt2 ns2 tx2 vb2 f1 f2 : Nat) (W2 : Gho) (On2 : Nat → Nat) (Vx2 : Nat → Option (Nat × (Nat → Int32))) (y : Nat → Nat), n < aC + N → PS f n LU M2 aC (o + 1) (tp + i) S2 rkC sz2 pt2 ns2 tx2 vb2 f1 f2 W2 On2 Vx2 → pf_fr M M2 → sz < sz2 → gh_eq sz W W2 → ns ≤ ns2 → (∀ j, j < ns → On2 j = On j) → (∀ j, j < tp → S2 j = S j) → (∀ j, j < i → y j < sz2 ∧ S2 (tp + j) = nI (y j)) → a < aC → 1 ≤ i → sz2 + a + i ≤ sz + aC → pt2 + sz + i ≤ pt + sz2 → 1 ≤ i → (∃ ai szp, szp ≤ sz2 ∧ sz ≤ szp ∧ ARg f n lu o mo a 5 0 0 (szp - sz + (i - 1)) ai (0, 0, 0, 0) ∧ ∃ t, TRes f n lu (o + 1) 999 ai szp W2 aC rkC sz2 t) → o + 1 < 100 → c_end f n 999 aC rkC → am_V G m_MR_list d 0 0 (RQ f n LU lu M nx o mo a (o + 1) tp S sz pt ns W On (fun _ _ => True) (fun w => TBad f n lu o mo a w)) 36 [(1, .int (nI tp)), (2, .int (-1)), (0, .ref 1225)] [] M2 nx 0 0 := by
    intro N
    induction N with
    | zero =>
      intro i M2 aC S2 rkC sz2 pt2 ns2 tx2 vb2 f1 f2 W2 On2 Vx2 y hN h2 fr2 hsz hge hns hOn hSt hy haC hi1 hB1 hB2 _ hL ho1 hce
      have := h2.1.1
      omega
    | succ N ih =>
      intro i M2 aC S2 rkC sz2 pt2 ns2 tx2 vb2 f1 f2 W2 On2 Vx2 y hN h2 fr2 hsz hge hns hOn hSt hy haC hi1 hB1 hB2 _ hL ho1 hce
      obtain ⟨ai, szp, hs1, hs2, hAR, tp9, hTR⟩ := hL
      obtain ⟨hpb2, hm2, hR2, hS2, ⟨kc2, hkc2⟩, tk2, nu2, l2, g2, kn2, hr2, hsc2, hw2, hg2⟩ := h2
      replace hr2 : M2 1225 = some (.inr (12, [.ref 1226, .ref 1227, .ref 1228, .ref 1213, .ref 1220, .ref 1212, .int (nI n), .int (nI ((tok f n aC).2.1)), .int (nI ((tok f n aC).2.2.1)), .int tk2, .int (nI (o + 1)), .long nu2, .ref 1229, .int (nI l2), .ref 1230, .int (nI (tp + i)), .int (-1), .ref 1231, .int (nI vb2), .int kn2, .int rkC, .ref 1232])) := hr2
      obtain ⟨qb_0, qb_1, qb_2, qb_3, qb_4, qb_5, qb_6, qb_7, qb_8, qb_9⟩ := hpb2
      have k_C := tok_ok f qb_0
      have p_C := tok_pos f qb_0
      have l_C := hsc2.2.2.1
      have tkq := tkR_eq hsc2.1 k_C.1
      refine v_aload_n (am_Dk d_MR_list (k := 22) rfl) rfl ?_
      refine v_get (am_Dk d_MR_list (k := 23) rfl) f_MR_123 hr2 rfl ?_
      refine v_bipush (v := 10) (am_Dk d_MR_list (k := 24) rfl) (by decide) ?_
      refine v_icmp_ne (tgt := 77) (am_Dk d_MR_list (k := 25) rfl) (by decide) (fun c1 => ?_) (fun c1 => ?_)
      · have hk7 : ¬ (tok f n aC).1 = 7 := fun z => c1 (tkq.1.mpr z)
        refine v_aload_n (am_Dk d_MR_list (k := 44) rfl) rfl ?_
        refine v_get (am_Dk d_MR_list (k := 45) rfl) f_MR_123 hr2 rfl ?_
        refine v_bipush (v := 11) (am_Dk d_MR_list (k := 46) rfl) (by decide) ?_
        refine v_icmp_ne (tgt := 98) (am_Dk d_MR_list (k := 47) rfl) (by decide) (fun c2 => ?_) (fun c2 => ?_)
        · have hk8 : ¬ (tok f n aC).1 = 8 := fun z => c2 (tkq.2.2.2.1.mpr z)
          refine v_aload_n (am_Dk d_MR_list (k := 54) rfl) rfl ?_
          refine v_get (am_Dk d_MR_list (k := 55) rfl) f_MR_123 hr2 rfl ?_
          refine v_bipush (v := 7) (am_Dk d_MR_list (k := 56) rfl) (by decide) ?_
          refine v_icmp_eq (tgt := 116) (am_Dk d_MR_list (k := 57) rfl) (by decide) (fun c3 => ?_) (fun c3 => ?_)
          · have hk6 : (tok f n aC).1 = 6 := (tkR_eq hsc2.1 (by omega)).2.2.1.mp c3
            rcases hTR with ⟨wU, roU, L8, R8, hTU, hOpU, hroU, hchU⟩ | ⟨hk10, _⟩
            rotate_left
            · omega
            have hTE := q_eleE hAR hTU hce hk6
            exact v_drop (h116 i _ aC _ _ _ _ _ _ _ _ _ _ _ _ none y hk6 (show PS f n LU M2 aC (o + 1) (tp + i) S2 rkC sz2 pt2 ns2 tx2 vb2 f1 f2 W2 On2 Vx2 from ⟨⟨by omega, by omega, by omega, by omega, by omega, by omega, by omega, by omega, by omega, by omega⟩, mb_fr hm2 (fun i hi => rfl), RS_fr hR2 (fun i hi => rfl), hS2, ⟨_, hkc2⟩, tk2, nu2, l2, g2, kn2, hr2, hsc2, hw2, hg2⟩) (fun i hi => (fr2 i hi)) hsz hge hns hOn hSt hy haC hi1 hB1 hB2 (fun t ht => by cases ht) (by rw [show sz2 + i + tlD none - sz = szp - sz + (i - 1) + (sz2 - szp) + 2 from by show sz2 + i + 1 - sz = _; omega]; exact hTE)) (by simp [tlI])
          · have hk6 : ¬ (tok f n aC).1 = 6 := fun z => c3 ((tkR_eq hsc2.1 (by omega)).2.2.1.mpr z)
            refine v_aload_n (am_Dk d_MR_list (k := 58) rfl) rfl ?_
            refine v_aload_n (am_Dk d_MR_list (k := 59) rfl) rfl ?_
            refine v_get (am_Dk d_MR_list (k := 60) rfl) f_MR_116 hr2 rfl ?_
            refine v_callV (rest := []) (As := [.int (nI ((tok f n aC).2.1))]) (mc' := 0) (ms' := 0) (am_Dk d_MR_list (k := 61) rfl) c_MR_126 (Or.inl ⟨_, _, _, _, _, hr2, cq_ok12⟩) (t_MR_bad G (d := 0) (by omega) hr2) (by omega) (by omega) (by omega) (by simp [Value.category]) rfl (fun v4 M5 n6 h7 => ?_) (fun _ _ _ h7 => ?_)
            rotate_left
            · exact absurd h7.1 (by simp)
            obtain ⟨h7, e8, e9⟩ := h7
            replace e8 := e8.symm
            replace e9 := e9.symm
            subst e8
            subst e9
            cases h7
            show am_V G _ _ _ _ _ 115 [(1, .int (nI tp)), (2, .int (-1)), (0, .ref 1225)] [.ref 1228] (am_up M2 1225 (.inr (12, [.ref 1226, .ref 1227, .ref 1228, .ref 1213, .ref 1220, .ref 1212, .int (nI n), .int (nI ((tok f n aC).2.1)), .int (nI ((tok f n aC).2.2.1)), .int tk2, .int (nI (o + 1)), .long nu2, .ref 1229, .int (nI l2), .ref 1230, .int (nI (tp + i)), .int (nI ((tok f n aC).2.1)), .ref 1231, .int (nI vb2), .int kn2, .int rkC, .ref 1232]))) nx 0 0
            refine v_athrow (am_Dk d_MR_list (k := 62) rfl) ?_
            have hB9 : TBad f n lu o mo a (tok f n aC).2.1 := by
              rcases hTR with ⟨wU, roU, L8, R8, hTU, hOpU, hroU, hchU⟩ | ⟨hk10, hTB⟩
              · exact q_eleN hn hAR hTU hce (by omega)
              · exact q_rowB hAR hTB
            exact vt_leave (fun q hq => by cases hq) (by omega) (by omega) ⟨rfl, (fun i hi => (am_up_ne (show i ≠ 1225 from by omega)).trans ((fr2 i hi))), Or.inr ⟨(tok f n aC).2.1, rfl, (show PX f n (am_up M2 1225 (.inr (12, [.ref 1226, .ref 1227, .ref 1228, .ref 1213, .ref 1220, .ref 1212, .int (nI n), .int (nI ((tok f n aC).2.1)), .int (nI ((tok f n aC).2.2.1)), .int tk2, .int (nI (o + 1)), .long nu2, .ref 1229, .int (nI l2), .ref 1230, .int (nI (tp + i)), .int (nI ((tok f n aC).2.1)), .ref 1231, .int (nI vb2), .int kn2, .int rkC, .ref 1232]))) ((tok f n aC).2.1) from ⟨by omega, RS_rx (mb_fr hm2 (fun i hi => (am_up_ne (show i ≠ 1225 from by omega)).trans (rfl))) (RS_fr hR2 (fun i hi => (am_up_ne (show i ≠ 1225 from by omega)).trans (rfl))) ((am_up_ne (show 1229 ≠ 1225 from by decide)).trans (hw2)) hg2 ((am_up_ne (show 1230 ≠ 1225 from by decide)).trans (hS2)) ⟨_, (am_up_ne (show 1232 ≠ 1225 from by decide)).trans (hkc2)⟩, _, _, _, _, _, _, _, _, _, _, am_up_eq _ _ _⟩), hB9⟩⟩
        · have hk8 := tkq.2.2.2.1.mp c2
          have hpc := p_C (by omega)
          rcases hTR with ⟨wT, roT, L9, R9, hTO, hOp, hro, hch⟩ | ⟨hk10, _⟩
          rotate_left
          · omega
          have hAN := q_eleC hAR hTO hce (Or.inr hk8)
          rw [if_pos hk8, show szp - sz + (i - 1) + (sz2 - szp) + 1 = sz2 - sz + i from by omega] at hAN
          refine v_aload_n (am_Dk d_MR_list (k := 48) rfl) rfl ?_
          refine v_callV (rest := []) (As := []) (mc' := 0) (ms' := 0) (am_Dk d_MR_list (k := 49) rfl) c_MR_113 (Or.inl ⟨_, _, _, _, _, hr2, cq_ok12⟩) (t_MR_scan G (d := 5) (be := 0) (a := (tok f n aC).2.2.1) (by omega) hr2 hm2.1 hn hb (by omega) hw2 hg2) (by omega) (by omega) (by omega) (by simp [Value.category]) rfl (fun v10 M11 n12 h13 => ?_) (fun _ _ _ h13 => ?_)
          rotate_left
          · obtain ⟨_, _, _, _, hx9, _⟩ := h13; cases hx9
          obtain ⟨tk14, nu15, l16, g17, h13, ex9, e18, hs19, hg20⟩ := h13
          replace e18 := e18.symm
          replace ex9 := ex9.symm
          subst e18
          subst ex9
          cases h13
          have k_hs19 := tok_ok f (show (tok f n aC).2.2.1 ≤ n from by omega)
          have p_hs19 := tok_pos f (show (tok f n aC).2.2.1 ≤ n from by omega)
          have l_hs19 := hs19.2.2.1
          show am_V G _ _ _ _ _ 90 [(1, .int (nI tp)), (2, .int (-1)), (0, .ref 1225)] [] (am_up (am_up M2 1229 (.inl (0, 4096, .inl g17))) 1225 (.inr (12, [.ref 1226, .ref 1227, .ref 1228, .ref 1213, .ref 1220, .ref 1212, .int (nI n), .int (nI (tok f n ((tok f n aC).2.2.1)).2.1), .int (nI (tok f n ((tok f n aC).2.2.1)).2.2.1), .int tk14, .int (nI (o + 1)), .long nu15, .ref 1229, .int (nI l16), .ref 1230, .int (nI (tp + i)), .int (-1), .ref 1231, .int (nI vb2), .int kn2, .int rkC, .ref 1232]))) nx 0 0
          refine v_aload_n (am_Dk d_MR_list (k := 50) rfl) rfl ?_
          refine v_sipush (v := 999) (am_Dk d_MR_list (k := 51) rfl) (by decide) ?_
          have m21 : (am_up (am_up M2 1229 (.inl (0, 4096, .inl g17))) 1225 (.inr (12, [.ref 1226, .ref 1227, .ref 1228, .ref 1213, .ref 1220, .ref 1212, .int (nI n), .int (nI (tok f n ((tok f n aC).2.2.1)).2.1), .int (nI (tok f n ((tok f n aC).2.2.1)).2.2.1), .int tk14, .int (nI (o + 1)), .long nu15, .ref 1229, .int (nI l16), .ref 1230, .int (nI (tp + i)), .int (-1), .ref 1231, .int (nI vb2), .int kn2, .int rkC, .ref 1232]))) 1225 = some (.inr (12, [.ref 1226, .ref 1227, .ref 1228, .ref 1213, .ref 1220, .ref 1212, .int (nI n), .int (nI (tok f n ((tok f n aC).2.2.1)).2.1), .int (nI (tok f n ((tok f n aC).2.2.1)).2.2.1), .int tk14, .int (nI (o + 1)), .long nu15, .ref 1229, .int (nI l16), .ref 1230, .int (nI (tp + i)), .int (-1), .ref 1231, .int (nI vb2), .int kn2, .int rkC, .ref 1232])) := am_up_eq _ _ _
          have ps22 := (show PS f n LU (am_up (am_up M2 1229 (.inl (0, 4096, .inl g17))) 1225 (.inr (12, [.ref 1226, .ref 1227, .ref 1228, .ref 1213, .ref 1220, .ref 1212, .int (nI n), .int (nI (tok f n ((tok f n aC).2.2.1)).2.1), .int (nI (tok f n ((tok f n aC).2.2.1)).2.2.1), .int tk14, .int (nI (o + 1)), .long nu15, .ref 1229, .int (nI l16), .ref 1230, .int (nI (tp + i)), .int (-1), .ref 1231, .int (nI vb2), .int kn2, .int rkC, .ref 1232]))) ((tok f n aC).2.2.1) (o + 1) (tp + i) S2 rkC sz2 pt2 ns2 tx2 vb2 f1 f2 W2 On2 Vx2 from ⟨⟨by omega, by omega, by omega, by omega, by omega, by omega, by omega, by omega, by omega, by omega⟩, mb_fr hm2 (fun i hi => (am_up_ne (show i ≠ 1225 from by omega)).trans ((am_up_ne (show i ≠ 1229 from by omega)).trans (rfl))), RS_fr hR2 (fun i hi => (am_up_ne (show i ≠ 1225 from by omega)).trans ((am_up_ne (show i ≠ 1229 from by omega)).trans (rfl))), (am_up_ne (show 1230 ≠ 1225 from by decide)).trans ((am_up_ne (show 1230 ≠ 1229 from by decide)).trans (hS2)), ⟨_, (am_up_ne (show 1232 ≠ 1225 from by decide)).trans ((am_up_ne (show 1232 ≠ 1229 from by decide)).trans (hkc2))⟩, tk14, nu15, l16, g17, kn2, am_up_eq _ _ _, hs19, (am_up_ne (show 1229 ≠ 1225 from by decide)).trans (am_up_eq _ _ _), hg20⟩)
          refine v_callV (rest := []) (As := [.int 999]) (mc' := 0) (ms' := 0) (am_Dk d_MR_list (k := 52) rfl) c_MR_119 (Or.inl ⟨_, _, _, _, _, m21, cq_ok12⟩) (IH _ _ 999 _ _ _ _ _ _ _ _ _ _ _ _ _ _ ps22 (by decide)) (by omega) (by omega) (by omega) (by simp [Value.category]) rfl (fun v23 M24 n25 h26 => ?_) (fun x9 M24 n25 h26 => ?_)
          rotate_left
          · obtain ⟨ex9, pfT, hT⟩ := h26
            replace ex9 := ex9.symm
            subst ex9
            rcases hT with ⟨_, _, _, _, _, _, _, _, _, _, _, _, _, _, hx9, _⟩ | ⟨wT, hx9, pxT, bT⟩
            · cases hx9
            · cases hx9
              exact vt_leave (fun q hq => by cases hq) (by omega) (by omega) ⟨rfl, (fun i hi => (pfT i hi).trans ((am_up_ne (show i ≠ 1225 from by omega)).trans ((am_up_ne (show i ≠ 1229 from by omega)).trans ((fr2 i hi))))), Or.inr ⟨wT, rfl, pxT, bT.elim (fun z => absurd z.1 (by omega)) (fun z => q_rowB hAN z.2)⟩⟩
          obtain ⟨ex9, pf41, hT⟩ := h26
          replace ex9 := ex9.symm
          subst ex9
          rcases hT with ⟨t27, a28, S29, rk30, sz31, pt32, ns33, tx34, vb35, e136, e237, W38, On39, Vx40, hx9, psx, pe42, tr43, ee44⟩ | ⟨_, hx9, _⟩
          rotate_left
          · cases hx9
          cases hx9
          obtain ⟨pb50, hm51, hR52, hS53, ⟨kc54, hk55⟩, tk45, nu46, l47, g48, kn49, hr56, hs57, hw58, hg59⟩ := psx
          obtain ⟨pb50_0, pb50_1, pb50_2, pb50_3, pb50_4, pb50_5, pb50_6, pb50_7, pb50_8, pb50_9⟩ := pb50
          obtain ⟨pe42_0, pe42_1, pe42_2, pe42_3, pe42_4, pe42_5, pe42_6, pe42_7, pe42_8⟩ := pe42
          replace hr56 : M24 1225 = some (.inr (12, [.ref 1226, .ref 1227, .ref 1228, .ref 1213, .ref 1220, .ref 1212, .int (nI n), .int (nI ((tok f n a28).2.1)), .int (nI ((tok f n a28).2.2.1)), .int tk45, .int (nI (o + 1)), .long nu46, .ref 1229, .int (nI l47), .ref 1230, .int (nI (tp + i)), .int (-1), .ref 1231, .int (nI vb35), .int kn49, .int rk30, .ref 1232])) := hr56
          have k_hs57 := tok_ok f pb50_0
          have p_hs57 := tok_pos f pb50_0
          have l_hs57 := hs57.2.2.1
          have fr60 : pf_fr M M24 := fun i hi => (pf41 i hi).trans ((am_up_ne (show i ≠ 1225 from by omega)).trans ((am_up_ne (show i ≠ 1229 from by omega)).trans ((fr2 i hi))))
          show am_V G _ _ _ _ _ 97 [(1, .int (nI tp)), (2, .int (-1)), (0, .ref 1225)] [.int (nI t27)] M24 nx 0 0
          refine v_istore_n (L1 := [(2, .int (nI t27)), (1, .int (nI tp)), (0, .ref 1225)]) (am_Dk d_MR_list (k := 53) rfl) (by decide) rfl ?_
          refine v_aload_n (am_Dk d_MR_list (k := 54) rfl) rfl ?_
          refine v_get (am_Dk d_MR_list (k := 55) rfl) f_MR_123 hr56 rfl ?_
          refine v_bipush (v := 7) (am_Dk d_MR_list (k := 56) rfl) (by decide) ?_
          refine v_icmp_eq (tgt := 116) (am_Dk d_MR_list (k := 57) rfl) (by decide) (fun c61 => ?_) (fun c61 => ?_)
          · have hk6 : (tok f n a28).1 = 6 := (tkR_eq hs57.1 (by omega)).2.2.1.mp c61
            rcases tr43 with ⟨wU, roU, L8, R8, hTU, hOpU, hroU, hchU⟩ | ⟨hk10, _⟩
            rotate_left
            · omega
            have hTE := q_taiE hAN hTU ee44.2 hk6
            exact v_drop (h116 i _ a28 _ _ _ _ _ _ _ _ _ _ _ _ (some t27) y hk6 (show PS f n LU M24 a28 (o + 1) (tp + i) S29 rk30 sz31 pt32 ns33 tx34 vb35 e136 e237 W38 On39 Vx40 from ⟨⟨by omega, by omega, by omega, by omega, by omega, by omega, by omega, by omega, by omega, by omega⟩, mb_fr hm51 (fun i hi => rfl), RS_fr hR52 (fun i hi => rfl), hS53, ⟨_, hk55⟩, tk45, nu46, l47, g48, kn49, hr56, hs57, hw58, hg59⟩) (fun i hi => (fr60 i hi)) (by omega) (gh_trans hge pe42_2 (by omega)) (by omega) (fun j hj => (pe42_4 j (by omega)).trans (hOn j hj)) (fun j hj => (pe42_5 j (by omega)).trans (hSt j hj)) (fun j hj => ⟨by have := (hy j hj).1; omega, (pe42_5 (tp + j) (by omega)).trans (hy j hj).2⟩) (by omega) hi1 (by omega) (by omega) (fun t ht => by cases ht; exact ⟨by omega, by omega⟩) (by rw [show sz31 + i + tlD (some t27) - sz = sz2 - sz + i + (sz31 - sz2) from by show sz31 + i + 0 - sz = _; omega]; exact hTE)) (by simp [tlI])
          · have hk6 : ¬ (tok f n a28).1 = 6 := fun z => c61 ((tkR_eq hs57.1 (by omega)).2.2.1.mpr z)
            refine v_aload_n (am_Dk d_MR_list (k := 58) rfl) rfl ?_
            refine v_aload_n (am_Dk d_MR_list (k := 59) rfl) rfl ?_
            refine v_get (am_Dk d_MR_list (k := 60) rfl) f_MR_116 hr56 rfl ?_
            refine v_callV (rest := []) (As := [.int (nI ((tok f n a28).2.1))]) (mc' := 0) (ms' := 0) (am_Dk d_MR_list (k := 61) rfl) c_MR_126 (Or.inl ⟨_, _, _, _, _, hr56, cq_ok12⟩) (t_MR_bad G (d := 0) (by omega) hr56) (by omega) (by omega) (by omega) (by simp [Value.category]) rfl (fun v62 M63 n64 h65 => ?_) (fun _ _ _ h65 => ?_)
            rotate_left
            · exact absurd h65.1 (by simp)
            obtain ⟨h65, e66, e67⟩ := h65
            replace e66 := e66.symm
            replace e67 := e67.symm
            subst e66
            subst e67
            cases h65
            show am_V G _ _ _ _ _ 115 [(2, .int (nI t27)), (1, .int (nI tp)), (0, .ref 1225)] [.ref 1228] (am_up M24 1225 (.inr (12, [.ref 1226, .ref 1227, .ref 1228, .ref 1213, .ref 1220, .ref 1212, .int (nI n), .int (nI ((tok f n a28).2.1)), .int (nI ((tok f n a28).2.2.1)), .int tk45, .int (nI (o + 1)), .long nu46, .ref 1229, .int (nI l47), .ref 1230, .int (nI (tp + i)), .int (nI ((tok f n a28).2.1)), .ref 1231, .int (nI vb35), .int kn49, .int rk30, .ref 1232]))) nx 0 0
            refine v_athrow (am_Dk d_MR_list (k := 62) rfl) ?_
            have hB9 : TBad f n lu o mo a (tok f n a28).2.1 := by
              rcases tr43 with ⟨wU, roU, L8, R8, hTU, hOpU, hroU, hchU⟩ | ⟨hk10, hTB⟩
              · exact q_taiN hn hAN hTU ee44.2 hk6
              · exact q_rowB hAN hTB
            exact vt_leave (fun q hq => by cases hq) (by omega) (by omega) ⟨rfl, (fun i hi => (am_up_ne (show i ≠ 1225 from by omega)).trans ((fr60 i hi))), Or.inr ⟨(tok f n a28).2.1, rfl, (show PX f n (am_up M24 1225 (.inr (12, [.ref 1226, .ref 1227, .ref 1228, .ref 1213, .ref 1220, .ref 1212, .int (nI n), .int (nI ((tok f n a28).2.1)), .int (nI ((tok f n a28).2.2.1)), .int tk45, .int (nI (o + 1)), .long nu46, .ref 1229, .int (nI l47), .ref 1230, .int (nI (tp + i)), .int (nI ((tok f n a28).2.1)), .ref 1231, .int (nI vb35), .int kn49, .int rk30, .ref 1232]))) ((tok f n a28).2.1) from ⟨by omega, RS_rx (mb_fr hm51 (fun i hi => (am_up_ne (show i ≠ 1225 from by omega)).trans (rfl))) (RS_fr hR52 (fun i hi => (am_up_ne (show i ≠ 1225 from by omega)).trans (rfl))) ((am_up_ne (show 1229 ≠ 1225 from by decide)).trans (hw58)) hg59 ((am_up_ne (show 1230 ≠ 1225 from by decide)).trans (hS53)) ⟨_, (am_up_ne (show 1232 ≠ 1225 from by decide)).trans (hk55)⟩, _, _, _, _, _, _, _, _, _, _, am_up_eq _ _ _⟩), hB9⟩⟩
      · have hk7 := tkq.1.mp c1
        have hpc := p_C (by omega)
        rcases hTR with ⟨wT, roT, L9, R9, hTO, hOp, hro, hch⟩ | ⟨hk10, _⟩
        rotate_left
        · omega
        have hAN := q_eleC hAR hTO hce (Or.inl hk7)
        rw [if_neg (by omega), show szp - sz + (i - 1) + (sz2 - szp) + 1 = sz2 - sz + i from by omega] at hAN
        refine v_aload_n (am_Dk d_MR_list (k := 26) rfl) rfl ?_
        refine v_callV (rest := []) (As := []) (mc' := 0) (ms' := 0) (am_Dk d_MR_list (k := 27) rfl) c_MR_113 (Or.inl ⟨_, _, _, _, _, hr2, cq_ok12⟩) (t_MR_scan G (d := 5) (be := 0) (a := (tok f n aC).2.2.1) (by omega) hr2 hm2.1 hn hb (by omega) hw2 hg2) (by omega) (by omega) (by omega) (by simp [Value.category]) rfl (fun v68 M69 n70 h71 => ?_) (fun _ _ _ h71 => ?_)
        rotate_left
        · obtain ⟨_, _, _, _, hx9, _⟩ := h71; cases hx9
        obtain ⟨tk72, nu73, l74, g75, h71, ex9, e76, hs77, hg78⟩ := h71
        replace e76 := e76.symm
        replace ex9 := ex9.symm
        subst e76
        subst ex9
        cases h71
        have k_hs77 := tok_ok f (show (tok f n aC).2.2.1 ≤ n from by omega)
        have p_hs77 := tok_pos f (show (tok f n aC).2.2.1 ≤ n from by omega)
        have l_hs77 := hs77.2.2.1
        show am_V G _ _ _ _ _ 49 [(1, .int (nI tp)), (2, .int (-1)), (0, .ref 1225)] [] (am_up (am_up M2 1229 (.inl (0, 4096, .inl g75))) 1225 (.inr (12, [.ref 1226, .ref 1227, .ref 1228, .ref 1213, .ref 1220, .ref 1212, .int (nI n), .int (nI (tok f n ((tok f n aC).2.2.1)).2.1), .int (nI (tok f n ((tok f n aC).2.2.1)).2.2.1), .int tk72, .int (nI (o + 1)), .long nu73, .ref 1229, .int (nI l74), .ref 1230, .int (nI (tp + i)), .int (-1), .ref 1231, .int (nI vb2), .int kn2, .int rkC, .ref 1232]))) nx 0 0
        refine v_aload_n (am_Dk d_MR_list (k := 28) rfl) rfl ?_
        refine v_sipush (v := 999) (am_Dk d_MR_list (k := 29) rfl) (by decide) ?_
        have m79 : (am_up (am_up M2 1229 (.inl (0, 4096, .inl g75))) 1225 (.inr (12, [.ref 1226, .ref 1227, .ref 1228, .ref 1213, .ref 1220, .ref 1212, .int (nI n), .int (nI (tok f n ((tok f n aC).2.2.1)).2.1), .int (nI (tok f n ((tok f n aC).2.2.1)).2.2.1), .int tk72, .int (nI (o + 1)), .long nu73, .ref 1229, .int (nI l74), .ref 1230, .int (nI (tp + i)), .int (-1), .ref 1231, .int (nI vb2), .int kn2, .int rkC, .ref 1232]))) 1225 = some (.inr (12, [.ref 1226, .ref 1227, .ref 1228, .ref 1213, .ref 1220, .ref 1212, .int (nI n), .int (nI (tok f n ((tok f n aC).2.2.1)).2.1), .int (nI (tok f n ((tok f n aC).2.2.1)).2.2.1), .int tk72, .int (nI (o + 1)), .long nu73, .ref 1229, .int (nI l74), .ref 1230, .int (nI (tp + i)), .int (-1), .ref 1231, .int (nI vb2), .int kn2, .int rkC, .ref 1232])) := am_up_eq _ _ _
        have ps80 := (show PS f n LU (am_up (am_up M2 1229 (.inl (0, 4096, .inl g75))) 1225 (.inr (12, [.ref 1226, .ref 1227, .ref 1228, .ref 1213, .ref 1220, .ref 1212, .int (nI n), .int (nI (tok f n ((tok f n aC).2.2.1)).2.1), .int (nI (tok f n ((tok f n aC).2.2.1)).2.2.1), .int tk72, .int (nI (o + 1)), .long nu73, .ref 1229, .int (nI l74), .ref 1230, .int (nI (tp + i)), .int (-1), .ref 1231, .int (nI vb2), .int kn2, .int rkC, .ref 1232]))) ((tok f n aC).2.2.1) (o + 1) (tp + i) S2 rkC sz2 pt2 ns2 tx2 vb2 f1 f2 W2 On2 Vx2 from ⟨⟨by omega, by omega, by omega, by omega, by omega, by omega, by omega, by omega, by omega, by omega⟩, mb_fr hm2 (fun i hi => (am_up_ne (show i ≠ 1225 from by omega)).trans ((am_up_ne (show i ≠ 1229 from by omega)).trans (rfl))), RS_fr hR2 (fun i hi => (am_up_ne (show i ≠ 1225 from by omega)).trans ((am_up_ne (show i ≠ 1229 from by omega)).trans (rfl))), (am_up_ne (show 1230 ≠ 1225 from by decide)).trans ((am_up_ne (show 1230 ≠ 1229 from by decide)).trans (hS2)), ⟨_, (am_up_ne (show 1232 ≠ 1225 from by decide)).trans ((am_up_ne (show 1232 ≠ 1229 from by decide)).trans (hkc2))⟩, tk72, nu73, l74, g75, kn2, am_up_eq _ _ _, hs77, (am_up_ne (show 1229 ≠ 1225 from by decide)).trans (am_up_eq _ _ _), hg78⟩)
        refine v_callV (rest := []) (As := [.int 999]) (mc' := 0) (ms' := 0) (am_Dk d_MR_list (k := 30) rfl) c_MR_119 (Or.inl ⟨_, _, _, _, _, m79, cq_ok12⟩) (IH _ _ 999 _ _ _ _ _ _ _ _ _ _ _ _ _ _ ps80 (by decide)) (by omega) (by omega) (by omega) (by simp [Value.category]) rfl (fun v81 M82 n83 h84 => ?_) (fun x9 M82 n83 h84 => ?_)
        rotate_left
        · obtain ⟨ex9, pfT, hT⟩ := h84
          replace ex9 := ex9.symm
          subst ex9
          rcases hT with ⟨_, _, _, _, _, _, _, _, _, _, _, _, _, _, hx9, _⟩ | ⟨wT, hx9, pxT, bT⟩
          · cases hx9
          · cases hx9
            exact vt_leave (fun q hq => by cases hq) (by omega) (by omega) ⟨rfl, (fun i hi => (pfT i hi).trans ((am_up_ne (show i ≠ 1225 from by omega)).trans ((am_up_ne (show i ≠ 1229 from by omega)).trans ((fr2 i hi))))), Or.inr ⟨wT, rfl, pxT, bT.elim (fun z => absurd z.1 (by omega)) (fun z => q_rowB hAN z.2)⟩⟩
        obtain ⟨ex9, pf99, hT⟩ := h84
        replace ex9 := ex9.symm
        subst ex9
        rcases hT with ⟨t85, a86, S87, rk88, sz89, pt90, ns91, tx92, vb93, e194, e295, W96, On97, Vx98, hx9, psx, pe100, tr101, ee102⟩ | ⟨_, hx9, _⟩
        rotate_left
        · cases hx9
        cases hx9
        obtain ⟨pb108, hm109, hR110, hS111, ⟨kc112, hk113⟩, tk103, nu104, l105, g106, kn107, hr114, hs115, hw116, hg117⟩ := psx
        obtain ⟨pb108_0, pb108_1, pb108_2, pb108_3, pb108_4, pb108_5, pb108_6, pb108_7, pb108_8, pb108_9⟩ := pb108
        obtain ⟨pe100_0, pe100_1, pe100_2, pe100_3, pe100_4, pe100_5, pe100_6, pe100_7, pe100_8⟩ := pe100
        replace hr114 : M82 1225 = some (.inr (12, [.ref 1226, .ref 1227, .ref 1228, .ref 1213, .ref 1220, .ref 1212, .int (nI n), .int (nI ((tok f n a86).2.1)), .int (nI ((tok f n a86).2.2.1)), .int tk103, .int (nI (o + 1)), .long nu104, .ref 1229, .int (nI l105), .ref 1230, .int (nI (tp + i)), .int (-1), .ref 1231, .int (nI vb93), .int kn107, .int rk88, .ref 1232])) := hr114
        have k_hs115 := tok_ok f pb108_0
        have p_hs115 := tok_pos f pb108_0
        have l_hs115 := hs115.2.2.1
        have fr118 : pf_fr M M82 := fun i hi => (pf99 i hi).trans ((am_up_ne (show i ≠ 1225 from by omega)).trans ((am_up_ne (show i ≠ 1229 from by omega)).trans ((fr2 i hi))))
        show am_V G _ _ _ _ _ 56 [(1, .int (nI tp)), (2, .int (-1)), (0, .ref 1225)] [.int (nI t85)] M82 nx 0 0
        refine v_istore_n (L1 := [(3, .int (nI t85)), (1, .int (nI tp)), (2, .int (-1)), (0, .ref 1225)]) (am_Dk d_MR_list (k := 31) rfl) (by decide) rfl ?_
        refine v_aload_n (am_Dk d_MR_list (k := 32) rfl) rfl ?_
        refine v_get (am_Dk d_MR_list (k := 33) rfl) f_MR_72 hr114 rfl ?_
        refine v_aload_n (am_Dk d_MR_list (k := 34) rfl) rfl ?_
        refine v_dup (am_Dk d_MR_list (k := 35) rfl) rfl ?_
        refine v_get (am_Dk d_MR_list (k := 36) rfl) f_MR_102 hr114 rfl ?_
        refine v_dup_x1 (am_Dk d_MR_list (k := 37) rfl) rfl rfl ?_
        refine v_iconst (v := 1) (am_Dk d_MR_list (k := 38) rfl) (by decide) ?_
        refine v_iadd (am_Dk d_MR_list (k := 39) rfl) ?_
        rw [nI_1]
        refine v_put (am_Dk d_MR_list (k := 40) rfl) f_MR_102 hr114 (Nat.le_of_ble_eq_true rfl) rfl rfl ?_
        refine v_iload_n (am_Dk d_MR_list (k := 41) rfl) rfl ?_
        have m119 : (am_up M82 1225 (.inr (12, [.ref 1226, .ref 1227, .ref 1228, .ref 1213, .ref 1220, .ref 1212, .int (nI n), .int (nI ((tok f n a86).2.1)), .int (nI ((tok f n a86).2.2.1)), .int tk103, .int (nI (o + 1)), .long nu104, .ref 1229, .int (nI l105), .ref 1230, .int (nI (tp + i + 1)), .int (-1), .ref 1231, .int (nI vb93), .int kn107, .int rk88, .ref 1232]))) 1230 = some (.inl (1, 4200, .inl S87)) := (am_up_ne (show 1230 ≠ 1225 from by decide)).trans (hS111)
        refine v_iast (am_Dk d_MR_list (k := 42) rfl) m119 rfl (vp_in_nI (by omega) (by omega)) ?_
        rw [nI_clamp (n := tp + i) (by omega)]
        refine v_goto (tgt := 36) (am_Dk d_MR_list (k := 43) rfl) (by decide) ?_
        have hy9 : ∀ j, j < i + 1 → (fun j => if j = i then t85 else y j) j < sz89 ∧ (upd S87 (tp + i) (nI t85)) (tp + j) = nI ((fun j => if j = i then t85 else y j) j) := by
          intro j hj
          show (if j = i then t85 else y j) < _ ∧ _ = nI (if j = i then t85 else y j)
          by_cases hji : j = i
          · rw [if_pos hji, hji]
            exact ⟨by omega, upd_at _ _ _⟩
          · rw [if_neg hji]
            exact ⟨by have := (hy j (by omega)).1; omega, (upd_ne _ _ (by omega)).trans ((pe100_5 (tp + j) (by omega)).trans (hy j (by omega)).2)⟩
        exact v_drop (ih (i + 1) _ a86 _ _ _ _ _ _ _ _ _ _ _ _ (fun j => if j = i then t85 else y j) (by omega) (show PS f n LU (am_up (am_up M82 1225 (.inr (12, [.ref 1226, .ref 1227, .ref 1228, .ref 1213, .ref 1220, .ref 1212, .int (nI n), .int (nI ((tok f n a86).2.1)), .int (nI ((tok f n a86).2.2.1)), .int tk103, .int (nI (o + 1)), .long nu104, .ref 1229, .int (nI l105), .ref 1230, .int (nI (tp + (i + 1))), .int (-1), .ref 1231, .int (nI vb93), .int kn107, .int rk88, .ref 1232]))) 1230 (.inl (1, 4200, .inl (upd S87 (tp + i) (nI t85))))) a86 (o + 1) (tp + (i + 1)) (upd S87 (tp + i) (nI t85)) rk88 sz89 pt90 ns91 tx92 vb93 e194 e295 W96 On97 Vx98 from ⟨⟨by omega, by omega, by omega, by omega, by omega, by omega, by omega, by omega, by omega, by omega⟩, mb_fr hm109 (fun i hi => (am_up_ne (show i ≠ 1230 from by omega)).trans ((am_up_ne (show i ≠ 1225 from by omega)).trans (rfl))), RS_fr hR110 (fun i hi => (am_up_ne (show i ≠ 1230 from by omega)).trans ((am_up_ne (show i ≠ 1225 from by omega)).trans (rfl))), am_up_eq _ _ _, ⟨_, (am_up_ne (show 1232 ≠ 1230 from by decide)).trans ((am_up_ne (show 1232 ≠ 1225 from by decide)).trans (hk113))⟩, tk103, nu104, l105, g106, kn107, (am_up_ne (show 1225 ≠ 1230 from by decide)).trans (am_up_eq _ _ _), hs115, (am_up_ne (show 1229 ≠ 1230 from by decide)).trans ((am_up_ne (show 1229 ≠ 1225 from by decide)).trans (hw116)), hg117⟩) (fun i hi => (am_up_ne (show i ≠ 1230 from by omega)).trans ((am_up_ne (show i ≠ 1225 from by omega)).trans ((fr118 i hi)))) (by omega) (gh_trans hge pe100_2 (by omega)) (by omega) (fun j hj => (pe100_4 j (by omega)).trans (hOn j hj)) (fun j hj => (upd_ne _ _ (by omega)).trans ((pe100_5 j (by omega)).trans (hSt j hj))) hy9 (by omega) (by omega) (by omega) (by omega) (by omega) ⟨_, sz2, by omega, by omega, by rw [Nat.add_sub_cancel]; exact hAN, t85, tr101⟩ ee102.1 ee102.2) (by simp)
  by_cases ho1 : o + 1 < 100
  rotate_left
  · refine v_aload_n (am_Dk d_MR_list (k := 0) rfl) rfl ?_
    refine v_get (am_Dk d_MR_list (k := 1) rfl) f_MR_102 hr rfl ?_
    refine v_istore_n (L1 := [(1, .int (nI tp)), (0, .ref 1225)]) (am_Dk d_MR_list (k := 2) rfl) (by decide) rfl ?_
    refine v_aload_n (am_Dk d_MR_list (k := 3) rfl) rfl ?_
    refine v_callV (rest := []) (As := []) (mc' := 0) (ms' := 0) (am_Dk d_MR_list (k := 4) rfl) c_MR_113 (Or.inl ⟨_, _, _, _, _, hr, cq_ok12⟩) (t_MR_scan G (d := 5) (be := 0) (a := (tok f n a).2.2.1) (by omega) hr hm.1 hn hb (by omega) hw hg) (by omega) (by omega) (by omega) (by simp [Value.category]) rfl (fun v1 M2 n3 h4 => ?_) (fun _ _ _ h4 => ?_)
    rotate_left
    · obtain ⟨_, _, _, _, hx9, _⟩ := h4; cases hx9
    obtain ⟨tk5, nu6, l7, g8, h4, ex9, e9, hs10, hg11⟩ := h4
    replace e9 := e9.symm
    replace ex9 := ex9.symm
    subst e9
    subst ex9
    cases h4
    have k_hs10 := tok_ok f (show (tok f n a).2.2.1 ≤ n from by omega)
    have p_hs10 := tok_pos f (show (tok f n a).2.2.1 ≤ n from by omega)
    have l_hs10 := hs10.2.2.1
    show am_V G _ _ _ _ _ 9 [(1, .int (nI tp)), (0, .ref 1225)] [] (am_up (am_up M 1229 (.inl (0, 4096, .inl g8))) 1225 (.inr (12, [.ref 1226, .ref 1227, .ref 1228, .ref 1213, .ref 1220, .ref 1212, .int (nI n), .int (nI (tok f n ((tok f n a).2.2.1)).2.1), .int (nI (tok f n ((tok f n a).2.2.1)).2.2.1), .int tk5, .int (nI (o + 1)), .long nu6, .ref 1229, .int (nI l7), .ref 1230, .int (nI tp), .int (-1), .ref 1231, .int (nI vb), .int kn, .int rk, .ref 1232]))) nx 0 0
    refine v_iconst (v := (-1)) (am_Dk d_MR_list (k := 5) rfl) (by decide) ?_
    refine v_istore_n (L1 := [(2, .int (-1)), (1, .int (nI tp)), (0, .ref 1225)]) (am_Dk d_MR_list (k := 6) rfl) (by decide) rfl ?_
    refine v_aload_n (am_Dk d_MR_list (k := 7) rfl) rfl ?_
    refine v_sipush (v := 999) (am_Dk d_MR_list (k := 8) rfl) (by decide) ?_
    have m12 : (am_up (am_up M 1229 (.inl (0, 4096, .inl g8))) 1225 (.inr (12, [.ref 1226, .ref 1227, .ref 1228, .ref 1213, .ref 1220, .ref 1212, .int (nI n), .int (nI (tok f n ((tok f n a).2.2.1)).2.1), .int (nI (tok f n ((tok f n a).2.2.1)).2.2.1), .int tk5, .int (nI (o + 1)), .long nu6, .ref 1229, .int (nI l7), .ref 1230, .int (nI tp), .int (-1), .ref 1231, .int (nI vb), .int kn, .int rk, .ref 1232]))) 1225 = some (.inr (12, [.ref 1226, .ref 1227, .ref 1228, .ref 1213, .ref 1220, .ref 1212, .int (nI n), .int (nI (tok f n ((tok f n a).2.2.1)).2.1), .int (nI (tok f n ((tok f n a).2.2.1)).2.2.1), .int tk5, .int (nI (o + 1)), .long nu6, .ref 1229, .int (nI l7), .ref 1230, .int (nI tp), .int (-1), .ref 1231, .int (nI vb), .int kn, .int rk, .ref 1232])) := am_up_eq _ _ _
    have ps13 := (show PS f n LU (am_up (am_up M 1229 (.inl (0, 4096, .inl g8))) 1225 (.inr (12, [.ref 1226, .ref 1227, .ref 1228, .ref 1213, .ref 1220, .ref 1212, .int (nI n), .int (nI (tok f n ((tok f n a).2.2.1)).2.1), .int (nI (tok f n ((tok f n a).2.2.1)).2.2.1), .int tk5, .int (nI (o + 1)), .long nu6, .ref 1229, .int (nI l7), .ref 1230, .int (nI tp), .int (-1), .ref 1231, .int (nI vb), .int kn, .int rk, .ref 1232]))) ((tok f n a).2.2.1) (o + 1) tp S rk sz pt ns tx vb e1 e2 W On Vx from ⟨⟨by omega, by omega, by omega, by omega, by omega, by omega, by omega, by omega, by omega, by omega⟩, mb_fr hm (fun i hi => (am_up_ne (show i ≠ 1225 from by omega)).trans ((am_up_ne (show i ≠ 1229 from by omega)).trans (rfl))), RS_fr hR (fun i hi => (am_up_ne (show i ≠ 1225 from by omega)).trans ((am_up_ne (show i ≠ 1229 from by omega)).trans (rfl))), (am_up_ne (show 1230 ≠ 1225 from by decide)).trans ((am_up_ne (show 1230 ≠ 1229 from by decide)).trans (hS)), ⟨_, (am_up_ne (show 1232 ≠ 1225 from by decide)).trans ((am_up_ne (show 1232 ≠ 1229 from by decide)).trans (hkc))⟩, tk5, nu6, l7, g8, kn, am_up_eq _ _ _, hs10, (am_up_ne (show 1229 ≠ 1225 from by decide)).trans (am_up_eq _ _ _), hg11⟩)
    refine v_callV (rest := []) (As := [.int 999]) (mc' := 0) (ms' := 0) (am_Dk d_MR_list (k := 9) rfl) c_MR_119 (Or.inl ⟨_, _, _, _, _, m12, cq_ok12⟩) (IH _ _ 999 _ _ _ _ _ _ _ _ _ _ _ _ _ _ ps13 (by decide)) (by omega) (by omega) (by omega) (by simp [Value.category]) rfl (fun v14 M15 n16 h17 => ?_) (fun x9 M15 n16 h17 => ?_)
    rotate_left
    · obtain ⟨ex9, pfT, hT⟩ := h17
      replace ex9 := ex9.symm
      subst ex9
      rcases hT with ⟨_, _, _, _, _, _, _, _, _, _, _, _, _, _, hx9, _⟩ | ⟨wT, hx9, pxT, bT⟩
      · cases hx9
      · cases hx9
        exact vt_leave (fun q hq => by cases hq) (by omega) (by omega) ⟨rfl, (fun i hi => (pfT i hi).trans ((am_up_ne (show i ≠ 1225 from by omega)).trans ((am_up_ne (show i ≠ 1229 from by omega)).trans ((fr0 i hi))))), Or.inr ⟨wT, rfl, pxT, bT.elim (fun z => by rw [z.2]; exact q_ele9 hn (by omega) hk5 ho1) (fun z => absurd z.1 ho1)⟩⟩
    obtain ⟨ex9, pf32, hT⟩ := h17
    replace ex9 := ex9.symm
    subst ex9
    rcases hT with ⟨t18, a19, S20, rk21, sz22, pt23, ns24, tx25, vb26, e127, e228, W29, On30, Vx31, hx9, psx, pe33, tr34, ee35⟩ | ⟨_, hx9, _⟩
    rotate_left
    · cases hx9
    cases hx9
    obtain ⟨pb41, hm42, hR43, hS44, ⟨kc45, hk46⟩, tk36, nu37, l38, g39, kn40, hr47, hs48, hw49, hg50⟩ := psx
    obtain ⟨pb41_0, pb41_1, pb41_2, pb41_3, pb41_4, pb41_5, pb41_6, pb41_7, pb41_8, pb41_9⟩ := pb41
    obtain ⟨pe33_0, pe33_1, pe33_2, pe33_3, pe33_4, pe33_5, pe33_6, pe33_7, pe33_8⟩ := pe33
    replace hr47 : M15 1225 = some (.inr (12, [.ref 1226, .ref 1227, .ref 1228, .ref 1213, .ref 1220, .ref 1212, .int (nI n), .int (nI ((tok f n a19).2.1)), .int (nI ((tok f n a19).2.2.1)), .int tk36, .int (nI (o + 1)), .long nu37, .ref 1229, .int (nI l38), .ref 1230, .int (nI tp), .int (-1), .ref 1231, .int (nI vb26), .int kn40, .int rk21, .ref 1232])) := hr47
    have k_hs48 := tok_ok f pb41_0
    have p_hs48 := tok_pos f pb41_0
    have l_hs48 := hs48.2.2.1
    have fr51 : pf_fr M M15 := fun i hi => (pf32 i hi).trans ((am_up_ne (show i ≠ 1225 from by omega)).trans ((am_up_ne (show i ≠ 1229 from by omega)).trans ((fr0 i hi))))
    show am_V G _ _ _ _ _ 18 [(2, .int (-1)), (1, .int (nI tp)), (0, .ref 1225)] [.int (nI t18)] M15 nx 0 0
    exact absurd ee35.1 ho1
  have hA0 : ARg f n lu o mo a 5 0 0 0 (tok f n a).2.2.1 (0, 0, 0, 0) := q_ele0 pb_0 hk5 ho1
  refine v_aload_n (am_Dk d_MR_list (k := 0) rfl) rfl ?_
  refine v_get (am_Dk d_MR_list (k := 1) rfl) f_MR_102 hr rfl ?_
  refine v_istore_n (L1 := [(1, .int (nI tp)), (0, .ref 1225)]) (am_Dk d_MR_list (k := 2) rfl) (by decide) rfl ?_
  refine v_aload_n (am_Dk d_MR_list (k := 3) rfl) rfl ?_
  refine v_callV (rest := []) (As := []) (mc' := 0) (ms' := 0) (am_Dk d_MR_list (k := 4) rfl) c_MR_113 (Or.inl ⟨_, _, _, _, _, hr, cq_ok12⟩) (t_MR_scan G (d := 5) (be := 0) (a := (tok f n a).2.2.1) (by omega) hr hm.1 hn hb (by omega) hw hg) (by omega) (by omega) (by omega) (by simp [Value.category]) rfl (fun v1 M2 n3 h4 => ?_) (fun _ _ _ h4 => ?_)
  rotate_left
  · obtain ⟨_, _, _, _, hx9, _⟩ := h4; cases hx9
  obtain ⟨tk5, nu6, l7, g8, h4, ex9, e9, hs10, hg11⟩ := h4
  replace e9 := e9.symm
  replace ex9 := ex9.symm
  subst e9
  subst ex9
  cases h4
  have k_hs10 := tok_ok f (show (tok f n a).2.2.1 ≤ n from by omega)
  have p_hs10 := tok_pos f (show (tok f n a).2.2.1 ≤ n from by omega)
  have l_hs10 := hs10.2.2.1
  show am_V G _ _ _ _ _ 9 [(1, .int (nI tp)), (0, .ref 1225)] [] (am_up (am_up M 1229 (.inl (0, 4096, .inl g8))) 1225 (.inr (12, [.ref 1226, .ref 1227, .ref 1228, .ref 1213, .ref 1220, .ref 1212, .int (nI n), .int (nI (tok f n ((tok f n a).2.2.1)).2.1), .int (nI (tok f n ((tok f n a).2.2.1)).2.2.1), .int tk5, .int (nI (o + 1)), .long nu6, .ref 1229, .int (nI l7), .ref 1230, .int (nI tp), .int (-1), .ref 1231, .int (nI vb), .int kn, .int rk, .ref 1232]))) nx 0 0
  refine v_iconst (v := (-1)) (am_Dk d_MR_list (k := 5) rfl) (by decide) ?_
  refine v_istore_n (L1 := [(2, .int (-1)), (1, .int (nI tp)), (0, .ref 1225)]) (am_Dk d_MR_list (k := 6) rfl) (by decide) rfl ?_
  refine v_aload_n (am_Dk d_MR_list (k := 7) rfl) rfl ?_
  refine v_sipush (v := 999) (am_Dk d_MR_list (k := 8) rfl) (by decide) ?_
  have m12 : (am_up (am_up M 1229 (.inl (0, 4096, .inl g8))) 1225 (.inr (12, [.ref 1226, .ref 1227, .ref 1228, .ref 1213, .ref 1220, .ref 1212, .int (nI n), .int (nI (tok f n ((tok f n a).2.2.1)).2.1), .int (nI (tok f n ((tok f n a).2.2.1)).2.2.1), .int tk5, .int (nI (o + 1)), .long nu6, .ref 1229, .int (nI l7), .ref 1230, .int (nI tp), .int (-1), .ref 1231, .int (nI vb), .int kn, .int rk, .ref 1232]))) 1225 = some (.inr (12, [.ref 1226, .ref 1227, .ref 1228, .ref 1213, .ref 1220, .ref 1212, .int (nI n), .int (nI (tok f n ((tok f n a).2.2.1)).2.1), .int (nI (tok f n ((tok f n a).2.2.1)).2.2.1), .int tk5, .int (nI (o + 1)), .long nu6, .ref 1229, .int (nI l7), .ref 1230, .int (nI tp), .int (-1), .ref 1231, .int (nI vb), .int kn, .int rk, .ref 1232])) := am_up_eq _ _ _
  have ps13 := (show PS f n LU (am_up (am_up M 1229 (.inl (0, 4096, .inl g8))) 1225 (.inr (12, [.ref 1226, .ref 1227, .ref 1228, .ref 1213, .ref 1220, .ref 1212, .int (nI n), .int (nI (tok f n ((tok f n a).2.2.1)).2.1), .int (nI (tok f n ((tok f n a).2.2.1)).2.2.1), .int tk5, .int (nI (o + 1)), .long nu6, .ref 1229, .int (nI l7), .ref 1230, .int (nI tp), .int (-1), .ref 1231, .int (nI vb), .int kn, .int rk, .ref 1232]))) ((tok f n a).2.2.1) (o + 1) tp S rk sz pt ns tx vb e1 e2 W On Vx from ⟨⟨by omega, by omega, by omega, by omega, by omega, by omega, by omega, by omega, by omega, by omega⟩, mb_fr hm (fun i hi => (am_up_ne (show i ≠ 1225 from by omega)).trans ((am_up_ne (show i ≠ 1229 from by omega)).trans (rfl))), RS_fr hR (fun i hi => (am_up_ne (show i ≠ 1225 from by omega)).trans ((am_up_ne (show i ≠ 1229 from by omega)).trans (rfl))), (am_up_ne (show 1230 ≠ 1225 from by decide)).trans ((am_up_ne (show 1230 ≠ 1229 from by decide)).trans (hS)), ⟨_, (am_up_ne (show 1232 ≠ 1225 from by decide)).trans ((am_up_ne (show 1232 ≠ 1229 from by decide)).trans (hkc))⟩, tk5, nu6, l7, g8, kn, am_up_eq _ _ _, hs10, (am_up_ne (show 1229 ≠ 1225 from by decide)).trans (am_up_eq _ _ _), hg11⟩)
  refine v_callV (rest := []) (As := [.int 999]) (mc' := 0) (ms' := 0) (am_Dk d_MR_list (k := 9) rfl) c_MR_119 (Or.inl ⟨_, _, _, _, _, m12, cq_ok12⟩) (IH _ _ 999 _ _ _ _ _ _ _ _ _ _ _ _ _ _ ps13 (by decide)) (by omega) (by omega) (by omega) (by simp [Value.category]) rfl (fun v14 M15 n16 h17 => ?_) (fun x9 M15 n16 h17 => ?_)
  rotate_left
  · obtain ⟨ex9, pfT, hT⟩ := h17
    replace ex9 := ex9.symm
    subst ex9
    rcases hT with ⟨_, _, _, _, _, _, _, _, _, _, _, _, _, _, hx9, _⟩ | ⟨wT, hx9, pxT, bT⟩
    · cases hx9
    · cases hx9
      exact vt_leave (fun q hq => by cases hq) (by omega) (by omega) ⟨rfl, (fun i hi => (pfT i hi).trans ((am_up_ne (show i ≠ 1225 from by omega)).trans ((am_up_ne (show i ≠ 1229 from by omega)).trans ((fr0 i hi))))), Or.inr ⟨wT, rfl, pxT, bT.elim (fun z => absurd z.1 (by omega)) (fun z => q_rowB hA0 z.2)⟩⟩
  obtain ⟨ex9, pf32, hT⟩ := h17
  replace ex9 := ex9.symm
  subst ex9
  rcases hT with ⟨t18, a19, S20, rk21, sz22, pt23, ns24, tx25, vb26, e127, e228, W29, On30, Vx31, hx9, psx, pe33, tr34, ee35⟩ | ⟨_, hx9, _⟩
  rotate_left
  · cases hx9
  cases hx9
  obtain ⟨pb41, hm42, hR43, hS44, ⟨kc45, hk46⟩, tk36, nu37, l38, g39, kn40, hr47, hs48, hw49, hg50⟩ := psx
  obtain ⟨pb41_0, pb41_1, pb41_2, pb41_3, pb41_4, pb41_5, pb41_6, pb41_7, pb41_8, pb41_9⟩ := pb41
  obtain ⟨pe33_0, pe33_1, pe33_2, pe33_3, pe33_4, pe33_5, pe33_6, pe33_7, pe33_8⟩ := pe33
  replace hr47 : M15 1225 = some (.inr (12, [.ref 1226, .ref 1227, .ref 1228, .ref 1213, .ref 1220, .ref 1212, .int (nI n), .int (nI ((tok f n a19).2.1)), .int (nI ((tok f n a19).2.2.1)), .int tk36, .int (nI (o + 1)), .long nu37, .ref 1229, .int (nI l38), .ref 1230, .int (nI tp), .int (-1), .ref 1231, .int (nI vb26), .int kn40, .int rk21, .ref 1232])) := hr47
  have k_hs48 := tok_ok f pb41_0
  have p_hs48 := tok_pos f pb41_0
  have l_hs48 := hs48.2.2.1
  have fr51 : pf_fr M M15 := fun i hi => (pf32 i hi).trans ((am_up_ne (show i ≠ 1225 from by omega)).trans ((am_up_ne (show i ≠ 1229 from by omega)).trans ((fr0 i hi))))
  show am_V G _ _ _ _ _ 18 [(2, .int (-1)), (1, .int (nI tp)), (0, .ref 1225)] [.int (nI t18)] M15 nx 0 0
  refine v_istore_n (L1 := [(3, .int (nI t18)), (2, .int (-1)), (1, .int (nI tp)), (0, .ref 1225)]) (am_Dk d_MR_list (k := 10) rfl) (by decide) rfl ?_
  refine v_aload_n (am_Dk d_MR_list (k := 11) rfl) rfl ?_
  refine v_get (am_Dk d_MR_list (k := 12) rfl) f_MR_72 hr47 rfl ?_
  refine v_aload_n (am_Dk d_MR_list (k := 13) rfl) rfl ?_
  refine v_dup (am_Dk d_MR_list (k := 14) rfl) rfl ?_
  refine v_get (am_Dk d_MR_list (k := 15) rfl) f_MR_102 hr47 rfl ?_
  refine v_dup_x1 (am_Dk d_MR_list (k := 16) rfl) rfl rfl ?_
  refine v_iconst (v := 1) (am_Dk d_MR_list (k := 17) rfl) (by decide) ?_
  refine v_iadd (am_Dk d_MR_list (k := 18) rfl) ?_
  rw [nI_1]
  refine v_put (am_Dk d_MR_list (k := 19) rfl) f_MR_102 hr47 (Nat.le_of_ble_eq_true rfl) rfl rfl ?_
  refine v_iload_n (am_Dk d_MR_list (k := 20) rfl) rfl ?_
  have m52 : (am_up M15 1225 (.inr (12, [.ref 1226, .ref 1227, .ref 1228, .ref 1213, .ref 1220, .ref 1212, .int (nI n), .int (nI ((tok f n a19).2.1)), .int (nI ((tok f n a19).2.2.1)), .int tk36, .int (nI (o + 1)), .long nu37, .ref 1229, .int (nI l38), .ref 1230, .int (nI (tp + 1)), .int (-1), .ref 1231, .int (nI vb26), .int kn40, .int rk21, .ref 1232]))) 1230 = some (.inl (1, 4200, .inl S20)) := (am_up_ne (show 1230 ≠ 1225 from by decide)).trans (hS44)
  refine v_iast (am_Dk d_MR_list (k := 21) rfl) m52 rfl (vp_in_nI (by omega) (by omega)) ?_
  rw [nI_clamp (n := tp) (by omega)]
  exact v_drop (h36 (n + 1) 1 _ a19 _ _ _ _ _ _ _ _ _ _ _ _ (fun _ => t18) (by omega) (show PS f n LU (am_up (am_up M15 1225 (.inr (12, [.ref 1226, .ref 1227, .ref 1228, .ref 1213, .ref 1220, .ref 1212, .int (nI n), .int (nI ((tok f n a19).2.1)), .int (nI ((tok f n a19).2.2.1)), .int tk36, .int (nI (o + 1)), .long nu37, .ref 1229, .int (nI l38), .ref 1230, .int (nI (tp + 1)), .int (-1), .ref 1231, .int (nI vb26), .int kn40, .int rk21, .ref 1232]))) 1230 (.inl (1, 4200, .inl (upd S20 (tp) (nI t18))))) a19 (o + 1) (tp + 1) (upd S20 (tp) (nI t18)) rk21 sz22 pt23 ns24 tx25 vb26 e127 e228 W29 On30 Vx31 from ⟨⟨by omega, by omega, by omega, by omega, by omega, by omega, by omega, by omega, by omega, by omega⟩, mb_fr hm42 (fun i hi => (am_up_ne (show i ≠ 1230 from by omega)).trans ((am_up_ne (show i ≠ 1225 from by omega)).trans (rfl))), RS_fr hR43 (fun i hi => (am_up_ne (show i ≠ 1230 from by omega)).trans ((am_up_ne (show i ≠ 1225 from by omega)).trans (rfl))), am_up_eq _ _ _, ⟨_, (am_up_ne (show 1232 ≠ 1230 from by decide)).trans ((am_up_ne (show 1232 ≠ 1225 from by decide)).trans (hk46))⟩, tk36, nu37, l38, g39, kn40, (am_up_ne (show 1225 ≠ 1230 from by decide)).trans (am_up_eq _ _ _), hs48, (am_up_ne (show 1229 ≠ 1230 from by decide)).trans ((am_up_ne (show 1229 ≠ 1225 from by decide)).trans (hw49)), hg50⟩) (fun i hi => (am_up_ne (show i ≠ 1230 from by omega)).trans ((am_up_ne (show i ≠ 1225 from by omega)).trans ((fr51 i hi)))) (by omega) pe33_2 (by omega) pe33_4 (fun j hj => (upd_ne _ _ (by omega)).trans (pe33_5 j hj)) (fun j hj => ⟨by omega, by rw [show tp + j = tp from by omega]; exact upd_at _ _ _⟩) (by omega) (Nat.le_refl _) (by omega) (by omega) (Nat.le_refl _) ⟨_, sz, by omega, Nat.le_refl _, by rw [Nat.sub_self]; exact hA0, t18, tr34⟩ ee35.1 ee35.2) (by simp)
