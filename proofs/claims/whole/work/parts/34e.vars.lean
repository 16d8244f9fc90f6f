/-! THE CLASS'S VARIABLES, READ (mine; rows laid by the walker) -/
def vfF (p : Nat → Bool) : Nat → Nat → Option Nat
  | 0, _ => none
  | m + 1, i => if p i = true then some i else vfF p m (i + 1)
def vmt (Vl : Nat → Nat) (Vg : Nat → Nat → Int32) (l : Nat) (g : Nat → Int32) (i : Nat) : Bool := decide (Vl i = l ∧ ∀ j, j < l → Vg i j = g j)
def vs (M : am_M) (c : Nat) (Vi Vb Vl : Nat → Nat) (Vg : Nat → Nat → Int32) (Vn : Nat → Int64) (ed cap : Nat) (R : Nat → Option Nat) (mcn : Int32) : Prop :=
  M 1003 = some (.inr (2, [.ref 1004])) ∧ M 1004 = some (.inr (3, [.int mcn, .ref ed, .int (nI c)])) ∧ (0 < c → M ed = some (.inl (3, cap, .inr (.inr (.inr (.inr R)))))) ∧ c ≤ cap ∧ cap < 100000 ∧ (∀ i, i < c → R i = some (Vi i)) ∧ ∀ i, i < c → M (Vi i) = some (.inr (4, [.ref (Vb i), .long (Vn i)])) ∧ M (Vb i) = some (.inl (0, Vl i, .inl (Vg i))) ∧ Vl i ≤ 4096 ∧ 1240 ≤ Vi i ∧ 1240 ≤ Vb i ∧ 1240 ≤ ed
theorem vs_fr {M M1 : am_M} {c : Nat} {Vi Vb Vl : Nat → Nat} {Vg : Nat → Nat → Int32} {Vn : Nat → Int64} {ed cap : Nat} {R : Nat → Option Nat} {mcn : Int32} (h : vs M c Vi Vb Vl Vg Vn ed cap R mcn) (h3 : M1 1003 = M 1003) (h4 : M1 1004 = M 1004) (hf : ∀ i, 1240 ≤ i → M1 i = M i) : vs M1 c Vi Vb Vl Vg Vn ed cap R mcn := by
  obtain ⟨a, b, c1, d, e, g, k⟩ := h
  refine ⟨h3.trans a, h4.trans b, fun z => ?_, d, e, g, fun i hi => ?_⟩
  · have := (k 0 z).2.2.2.2.2
    exact (hf _ this).trans (c1 z)
  · obtain ⟨k1, k2, k3, k4, k5, k6⟩ := k i hi
    exact ⟨(hf _ k4).trans k1, (hf _ k5).trans k2, k3, k4, k5, k6⟩
def cl_lu (c : Nat) (Vl : Nat → Nat) (Vg : Nat → Nat → Int32) (Vn : Nat → Int64) (f : Nat → Int32) (p e : Nat) : Option Int64 := (vfF (vmt Vl Vg (e - p) (fun j => f (p + j))) c 0).map Vn
set_option maxRecDepth 20000 in
theorem t_jO_checkIndex (G : am_G) {d nx : Nat} (hd : 1 ≤ d) {M : am_M} {i m : Nat} (hi : i < m) (hm : m < 100000) : am_Tr G m_jO_checkIndex d 0 0 [.int (nI i), .int (nI m)] M nx (fun r M1 nx1 => r = .inl (some (.int (nI i))) ∧ M1 = M ∧ nx1 = nx) := by
  refine am_TrOf (by decide) (Nat.le_of_ble_eq_true rfl) ?_
  show am_V G _ _ _ _ _ 0 [(0, .int (nI i)), (1, .int (nI m))] [] M nx 0 0
  refine v_iload_n (am_Dk d_jO_checkIndex (k := 0) rfl) rfl ?_
  refine v_iload_n (am_Dk d_jO_checkIndex (k := 1) rfl) rfl ?_
  refine v_null (am_Dk d_jO_checkIndex (k := 2) rfl) ?_
  refine v_callS (rest := []) (As := [.int (nI i), .int (nI m), .null]) (mc' := 0) (ms' := 0) (am_Dk d_jO_checkIndex (k := 3) rfl) c_jO_105 (t_jP_checkIndexN G (d := 0) (by omega) hi hm) (by omega) (by omega) (by omega) (by simp [Value.category]) rfl (fun v1 M2 n3 h4 => ?_) (fun _ _ _ h4 => ?_)
  rotate_left
  · exact absurd h4.1 (by simp)
  obtain ⟨h4, e5, e6⟩ := h4
  replace e5 := e5.symm
  replace e6 := e6.symm
  subst e5
  subst e6
  cases h4
  show am_V G _ _ _ _ _ 6 [(0, .int (nI i)), (1, .int (nI m))] [.int (nI i)] M nx 0 0
  exact v_ireturn (am_Dk d_jO_checkIndex (k := 4) rfl) rfl rfl (by omega) (by omega) ⟨rfl, rfl, rfl⟩
set_option maxRecDepth 20000 in
theorem t_jA_elementData (G : am_G) {d nx : Nat} (hd : 0 ≤ d) {M : am_M} {ed cap c i v : Nat} {mcn : Int32} {R : Nat → Option Nat} (h4 : M 1004 = some (.inr (3, [.int mcn, .ref ed, .int (nI c)]))) (he : M ed = some (.inl (3, cap, .inr (.inr (.inr (.inr R)))))) (hic : i < c) (hcc : c ≤ cap) (hcap : cap < 100000) (hR : R i = some v) : am_Tr G m_jA_elementData d 0 0 [.ref 1004, .int (nI i)] M nx (fun r M1 nx1 => r = .inl (some (.ref v)) ∧ M1 = M ∧ nx1 = nx) := by
  refine am_TrOf (by decide) (Nat.le_of_ble_eq_true rfl) ?_
  show am_V G _ _ _ _ _ 0 [(0, .ref 1004), (1, .int (nI i))] [] M nx 0 0
  refine v_aload_n (am_Dk d_jA_elementData (k := 0) rfl) rfl ?_
  refine v_get (am_Dk d_jA_elementData (k := 1) rfl) f_jA_9 h4 rfl ?_
  refine v_iload_n (am_Dk d_jA_elementData (k := 2) rfl) rfl ?_
  refine v_aald (v := .ref v) (am_Dk d_jA_elementData (k := 3) rfl) he rfl (vp_in_nI (by omega) (by omega)) (by rw [nI_clamp (n := i) (by omega), hR]; rfl) ?_
  exact v_areturn (am_Dk d_jA_elementData (k := 4) rfl) rfl (Or.inl ⟨_, rfl⟩) (by omega) (by omega) ⟨rfl, rfl, rfl⟩
set_option maxRecDepth 20000 in
theorem t_jA_get (G : am_G) {d nx : Nat} (hd : 2 ≤ d) {M : am_M} {ed cap c i v : Nat} {mcn : Int32} {R : Nat → Option Nat} (h4 : M 1004 = some (.inr (3, [.int mcn, .ref ed, .int (nI c)]))) (he : M ed = some (.inl (3, cap, .inr (.inr (.inr (.inr R)))))) (hic : i < c) (hcc : c ≤ cap) (hcap : cap < 100000) (hR : R i = some v) : am_Tr G m_jA_get d 0 0 [.ref 1004, .int (nI i)] M nx (fun r M1 nx1 => r = .inl (some (.ref v)) ∧ M1 = M ∧ nx1 = nx) := by
  refine am_TrOf (by decide) (Nat.le_of_ble_eq_true rfl) ?_
  show am_V G _ _ _ _ _ 0 [(0, .ref 1004), (1, .int (nI i))] [] M nx 0 0
  refine v_iload_n (am_Dk d_jA_get (k := 0) rfl) rfl ?_
  refine v_aload_n (am_Dk d_jA_get (k := 1) rfl) rfl ?_
  refine v_get (am_Dk d_jA_get (k := 2) rfl) f_jA_48 h4 rfl ?_
  refine v_callS (rest := []) (As := [.int (nI i), .int (nI c)]) (mc' := 0) (ms' := 0) (am_Dk d_jA_get (k := 3) rfl) c_jA_118 (t_jO_checkIndex G (d := 1) (by omega) (by omega) (by omega)) (by omega) (by omega) (by omega) (by simp [Value.category]) rfl (fun v1 M2 n3 h4 => ?_) (fun _ _ _ h4 => ?_)
  rotate_left
  · exact absurd h4.1 (by simp)
  obtain ⟨h4, e5, e6⟩ := h4
  replace e5 := e5.symm
  replace e6 := e6.symm
  subst e5
  subst e6
  cases h4
  show am_V G _ _ _ _ _ 8 [(0, .ref 1004), (1, .int (nI i))] [.int (nI i)] M nx 0 0
  refine v_pop (am_Dk d_jA_get (k := 4) rfl) rfl ?_
  refine v_aload_n (am_Dk d_jA_get (k := 5) rfl) rfl ?_
  refine v_iload_n (am_Dk d_jA_get (k := 6) rfl) rfl ?_
  refine v_callV (rest := []) (As := [.int (nI i)]) (mc' := 0) (ms' := 0) (am_Dk d_jA_get (k := 7) rfl) c_jA_123 (Or.inl ⟨_, _, _, _, _, h4, cq_ok3⟩) (t_jA_elementData G (d := 0) (by omega) h4 he hic hcc hcap hR) (by omega) (by omega) (by omega) (by simp [Value.category]) rfl (fun v7 M8 n9 h10 => ?_) (fun _ _ _ h10 => ?_)
  rotate_left
  · exact absurd h10.1 (by simp)
  obtain ⟨h10, e11, e12⟩ := h10
  replace e11 := e11.symm
  replace e12 := e12.symm
  subst e11
  subst e12
  cases h10
  show am_V G _ _ _ _ _ 14 [(0, .ref 1004), (1, .int (nI i))] [.ref v] M nx 0 0
  exact v_areturn (am_Dk d_jA_get (k := 8) rfl) rfl (Or.inl ⟨_, rfl⟩) (by omega) (by omega) ⟨rfl, rfl, rfl⟩
set_option maxRecDepth 20000 in
theorem l_Var_isNamed1 (G : am_G) {d nx : Nat} {M : am_M} {x b l p e : Nat} {num : Int64} {g f : Nat → Int32} (hx : M x = some (.inr (4, [.ref b, .long num]))) (hb : M b = some (.inl (0, l, .inl g))) (h2 : M 1002 = some (.inl (0, 4096, .inl f))) (hpe : p ≤ e) (he : e ≤ 4096) (hl : l ≤ 4096) (hle : l = e - p) : ∀ m i, i + m = l → (∀ j, j < i → g j = f (p + j)) → am_V G m_Var_isNamed d 0 0 (fun r M1 nx1 => r = .inl (some (.int (bi (decide (l = e - p ∧ ∀ j, j < e - p → g j = f (p + j)))))) ∧ M1 = M ∧ nx1 = nx) 26 [(4, .int (nI i)), (0, .ref x), (1, .ref 1002), (2, .int (nI p)), (3, .int (nI e))] [] M nx 0 0 := by
  intro m
  induction m with
  | zero =>
    intro i him hall
    refine v_iload (am_Dk d_Var_isNamed (k := 17) rfl) rfl ?_
    refine v_aload_n (am_Dk d_Var_isNamed (k := 18) rfl) rfl ?_
    refine v_get (am_Dk d_Var_isNamed (k := 19) rfl) f_Var_7 hx rfl ?_
    refine v_alen (am_Dk d_Var_isNamed (k := 20) rfl) hb rfl rfl ?_
    show am_V G _ _ _ _ _ 33 [(4, .int (nI i)), (0, .ref x), (1, .ref 1002), (2, .int (nI p)), (3, .int (nI e))] [.int (nI l), .int (nI i)] M nx 0 0
    refine v_icmp_ge (tgt := 60) (am_Dk d_Var_isNamed (k := 21) rfl) (by decide) (fun c1 => ?_) (fun c1 => ?_)
    · have Nc1 := (nI_leI (a := l) (b := i) (by omega) (by omega)).mp c1
      refine v_iconst (v := 1) (am_Dk d_Var_isNamed (k := 36) rfl) (by decide) ?_
      exact v_ireturn (am_Dk d_Var_isNamed (k := 37) rfl) rfl rfl (by omega) (by omega) ⟨by rw [decide_eq_true ⟨hle, fun j hj => hall j (by omega)⟩]; rfl, rfl, rfl⟩
    · have Nc1 : ¬ l ≤ i := fun z => c1 ((nI_leI (a := l) (b := i) (by omega) (by omega)).mpr z)
      exfalso
      omega
  | succ m ih =>
    intro i him hall
    refine v_iload (am_Dk d_Var_isNamed (k := 17) rfl) rfl ?_
    refine v_aload_n (am_Dk d_Var_isNamed (k := 18) rfl) rfl ?_
    refine v_get (am_Dk d_Var_isNamed (k := 19) rfl) f_Var_7 hx rfl ?_
    refine v_alen (am_Dk d_Var_isNamed (k := 20) rfl) hb rfl rfl ?_
    show am_V G _ _ _ _ _ 33 [(4, .int (nI i)), (0, .ref x), (1, .ref 1002), (2, .int (nI p)), (3, .int (nI e))] [.int (nI l), .int (nI i)] M nx 0 0
    refine v_icmp_ge (tgt := 60) (am_Dk d_Var_isNamed (k := 21) rfl) (by decide) (fun c1 => ?_) (fun c1 => ?_)
    · have Nc1 := (nI_leI (a := l) (b := i) (by omega) (by omega)).mp c1
      exfalso
      omega
    · have Nc1 : ¬ l ≤ i := fun z => c1 ((nI_leI (a := l) (b := i) (by omega) (by omega)).mpr z)
      refine v_aload_n (am_Dk d_Var_isNamed (k := 22) rfl) rfl ?_
      refine v_get (am_Dk d_Var_isNamed (k := 23) rfl) f_Var_7 hx rfl ?_
      refine v_iload (am_Dk d_Var_isNamed (k := 24) rfl) rfl ?_
      refine v_bald (am_Dk d_Var_isNamed (k := 25) rfl) hb rfl (vp_in_nI (by omega) (by omega)) ?_
      rw [nI_clamp (n := i) (by omega)]
      refine v_aload_n (am_Dk d_Var_isNamed (k := 26) rfl) rfl ?_
      refine v_iload_n (am_Dk d_Var_isNamed (k := 27) rfl) rfl ?_
      refine v_iload (am_Dk d_Var_isNamed (k := 28) rfl) rfl ?_
      refine v_iadd (am_Dk d_Var_isNamed (k := 29) rfl) ?_
      rw [nI_add]
      refine v_bald (am_Dk d_Var_isNamed (k := 30) rfl) h2 rfl (vp_in4 (by omega)) ?_
      rw [nI_clamp (n := p + i) (by omega)]
      refine v_icmp_eq (tgt := 54) (am_Dk d_Var_isNamed (k := 31) rfl) (by decide) (fun c2 => ?_) (fun c2 => ?_)
      · have hEq := c2
        refine v_iinc (v := nI (i + 1)) (L1 := [(4, .int (nI (i + 1))), (0, .ref x), (1, .ref 1002), (2, .int (nI p)), (3, .int (nI e))]) (am_Dk d_Var_isNamed (k := 34) rfl) rfl (nI_1 _) (by decide) rfl ?_
        refine v_goto (tgt := 26) (am_Dk d_Var_isNamed (k := 35) rfl) (by decide) ?_
        exact ih (i + 1) (by omega) (fun j hj => by
          rcases Nat.lt_succ_iff_lt_or_eq.mp hj with h | h
          · exact hall j h
          · subst h; exact hEq)
      · refine v_iconst (v := 0) (am_Dk d_Var_isNamed (k := 32) rfl) (by decide) ?_
        exact v_ireturn (am_Dk d_Var_isNamed (k := 33) rfl) rfl rfl (by omega) (by omega) ⟨by rw [decide_eq_false (fun z => c2 (z.2 i (by omega)))]; rfl, rfl, rfl⟩
set_option maxRecDepth 20000 in
theorem t_Var_isNamed (G : am_G) {d nx : Nat} (hd : 0 ≤ d) {M : am_M} {x b l p e : Nat} {num : Int64} {g f : Nat → Int32} (hx : M x = some (.inr (4, [.ref b, .long num]))) (hb : M b = some (.inl (0, l, .inl g))) (h2 : M 1002 = some (.inl (0, 4096, .inl f))) (hpe : p ≤ e) (he : e ≤ 4096) (hl : l ≤ 4096) : am_Tr G m_Var_isNamed d 0 0 [.ref x, .ref 1002, .int (nI p), .int (nI e)] M nx (fun r M1 nx1 => r = .inl (some (.int (bi (decide (l = e - p ∧ ∀ j, j < e - p → g j = f (p + j)))))) ∧ M1 = M ∧ nx1 = nx) := by
  refine am_TrOf (by decide) (Nat.le_of_ble_eq_true rfl) ?_
  show am_V G _ _ _ _ _ 0 [(0, .ref x), (1, .ref 1002), (2, .int (nI p)), (3, .int (nI e))] [] M nx 0 0
  refine v_iload_n (am_Dk d_Var_isNamed (k := 0) rfl) rfl ?_
  refine v_if_lt (tgt := 21) (am_Dk d_Var_isNamed (k := 1) rfl) (by decide) (fun c1 => ?_) (fun c1 => ?_)
  · have Nc1 := (nI_ltI (a := p) (b := 0) (by omega) (by omega)).mp c1
    exfalso
    omega
  · have Nc1 : ¬ p < 0 := fun z => c1 ((nI_ltI (a := p) (b := 0) (by omega) (by omega)).mpr z)
    refine v_iload_n (am_Dk d_Var_isNamed (k := 2) rfl) rfl ?_
    refine v_aload_n (am_Dk d_Var_isNamed (k := 3) rfl) rfl ?_
    refine v_alen (am_Dk d_Var_isNamed (k := 4) rfl) h2 rfl rfl ?_
    show am_V G _ _ _ _ _ 7 [(0, .ref x), (1, .ref 1002), (2, .int (nI p)), (3, .int (nI e))] [.int (nI 4096), .int (nI e)] M nx 0 0
    refine v_icmp_gt (tgt := 21) (am_Dk d_Var_isNamed (k := 5) rfl) (by decide) (fun c2 => ?_) (fun c2 => ?_)
    · have Nc2 := (nI_ltI (a := 4096) (b := e) (by omega) (by omega)).mp c2
      exfalso
      omega
    · have Nc2 : ¬ 4096 < e := fun z => c2 ((nI_ltI (a := 4096) (b := e) (by omega) (by omega)).mpr z)
      refine v_iload_n (am_Dk d_Var_isNamed (k := 6) rfl) rfl ?_
      refine v_iload_n (am_Dk d_Var_isNamed (k := 7) rfl) rfl ?_
      refine v_isub (am_Dk d_Var_isNamed (k := 8) rfl) ?_
      rw [nI_sub hpe]
      refine v_aload_n (am_Dk d_Var_isNamed (k := 9) rfl) rfl ?_
      refine v_get (am_Dk d_Var_isNamed (k := 10) rfl) f_Var_7 hx rfl ?_
      refine v_alen (am_Dk d_Var_isNamed (k := 11) rfl) hb rfl rfl ?_
      show am_V G _ _ _ _ _ 18 [(0, .ref x), (1, .ref 1002), (2, .int (nI p)), (3, .int (nI e))] [.int (nI l), .int (nI (e - p))] M nx 0 0
      refine v_icmp_eq (tgt := 23) (am_Dk d_Var_isNamed (k := 12) rfl) (by decide) (fun c3 => ?_) (fun c3 => ?_)
      · have Nc3 := (nI_eq (a := e - p) (b := l) (by omega) (by omega)).mp c3
        have hle : l = e - p := Nc3.symm
        refine v_iconst (v := 0) (am_Dk d_Var_isNamed (k := 15) rfl) (by decide) ?_
        refine v_istore (L1 := [(4, .int 0), (0, .ref x), (1, .ref 1002), (2, .int (nI p)), (3, .int (nI e))]) (am_Dk d_Var_isNamed (k := 16) rfl) (by decide) rfl ?_
        exact l_Var_isNamed1 G hx hb h2 hpe he hl hle l 0 (by omega) (fun j hj => absurd hj (by omega))
      · have Nc3 : ¬ (e - p) = l := fun z => c3 ((nI_eq (a := e - p) (b := l) (by omega) (by omega)).mpr z)
        refine v_iconst (v := 0) (am_Dk d_Var_isNamed (k := 13) rfl) (by decide) ?_
        exact v_ireturn (am_Dk d_Var_isNamed (k := 14) rfl) rfl rfl (by omega) (by omega) ⟨by rw [decide_eq_false (fun z => Nc3 z.1.symm)]; rfl, rfl, rfl⟩
set_option maxRecDepth 20000 in
theorem l_Vars_find1 (G : am_G) {d nx : Nat} (hd : 3 ≤ d) {M : am_M} {c ed cap p e : Nat} {Vi Vb Vl : Nat → Nat} {Vg : Nat → Nat → Int32} {Vn : Nat → Int64} {R : Nat → Option Nat} {mcn : Int32} {f : Nat → Int32} (hV : vs M c Vi Vb Vl Vg Vn ed cap R mcn) (h2 : M 1002 = some (.inl (0, 4096, .inl f))) (hpe : p ≤ e) (he : e ≤ 4096) : ∀ m i, i + m = c → vfF (vmt Vl Vg (e - p) (fun j => f (p + j))) m i = vfF (vmt Vl Vg (e - p) (fun j => f (p + j))) c 0 → am_V G m_Vars_find d 0 0 (fun r M1 nx1 => r = .inl (some (match vfF (vmt Vl Vg (e - p) (fun j => f (p + j))) c 0 with | none => .null | some i => .ref (Vi i))) ∧ M1 = M ∧ nx1 = nx) 3 [(4, .int (nI i)), (0, .ref 1003), (1, .ref 1002), (2, .int (nI p)), (3, .int (nI e))] [] M nx 0 0 := by
  have hc9 := hV.2.2.2.1
  have hc8 := hV.2.2.2.2.1
  intro m
  induction m with
  | zero =>
    intro i him hall
    refine v_iload (am_Dk d_Vars_find (k := 2) rfl) rfl ?_
    refine v_aload_n (am_Dk d_Vars_find (k := 3) rfl) rfl ?_
    refine v_get (am_Dk d_Vars_find (k := 4) rfl) f_Vars_12 hV.1 rfl ?_
    refine v_callV (rest := [.int (nI i)]) (As := []) (mc' := 0) (ms' := 0) (am_Dk d_Vars_find (k := 5) rfl) c_Vars_18 (Or.inl ⟨_, _, _, _, _, hV.2.1, cq_ok3⟩) (t_jA_size G (d := 0) (by omega) hV.2.1) (by omega) (by omega) (by omega) (by simp [Value.category]) rfl (fun v1 M2 n3 h4 => ?_) (fun _ _ _ h4 => ?_)
    rotate_left
    · exact absurd h4.1 (by simp)
    obtain ⟨h4, e5, e6⟩ := h4
    replace e5 := e5.symm
    replace e6 := e6.symm
    subst e5
    subst e6
    cases h4
    show am_V G _ _ _ _ _ 12 [(4, .int (nI i)), (0, .ref 1003), (1, .ref 1002), (2, .int (nI p)), (3, .int (nI e))] [.int (nI c), .int (nI i)] M nx 0 0
    refine v_icmp_ge (tgt := 55) (am_Dk d_Vars_find (k := 6) rfl) (by decide) (fun c7 => ?_) (fun c7 => ?_)
    · have Nc7 := (nI_leI (a := c) (b := i) (by omega) (by omega)).mp c7
      refine v_null (am_Dk d_Vars_find (k := 25) rfl) ?_
      exact v_areturnN (am_Dk d_Vars_find (k := 26) rfl) rfl (Or.inl ⟨_, rfl⟩) (by omega) (by omega) ⟨by rw [← hall]; rfl, rfl, rfl⟩
    · have Nc7 : ¬ c ≤ i := fun z => c7 ((nI_leI (a := c) (b := i) (by omega) (by omega)).mpr z)
      exfalso
      omega
  | succ m ih =>
    intro i him hall
    have hic : i < c := by omega
    obtain ⟨hvi, hvb, hvl, _, _, _⟩ := hV.2.2.2.2.2.2 i hic
    refine v_iload (am_Dk d_Vars_find (k := 2) rfl) rfl ?_
    refine v_aload_n (am_Dk d_Vars_find (k := 3) rfl) rfl ?_
    refine v_get (am_Dk d_Vars_find (k := 4) rfl) f_Vars_12 hV.1 rfl ?_
    refine v_callV (rest := [.int (nI i)]) (As := []) (mc' := 0) (ms' := 0) (am_Dk d_Vars_find (k := 5) rfl) c_Vars_18 (Or.inl ⟨_, _, _, _, _, hV.2.1, cq_ok3⟩) (t_jA_size G (d := 0) (by omega) hV.2.1) (by omega) (by omega) (by omega) (by simp [Value.category]) rfl (fun v1 M2 n3 h4 => ?_) (fun _ _ _ h4 => ?_)
    rotate_left
    · exact absurd h4.1 (by simp)
    obtain ⟨h4, e5, e6⟩ := h4
    replace e5 := e5.symm
    replace e6 := e6.symm
    subst e5
    subst e6
    cases h4
    show am_V G _ _ _ _ _ 12 [(4, .int (nI i)), (0, .ref 1003), (1, .ref 1002), (2, .int (nI p)), (3, .int (nI e))] [.int (nI c), .int (nI i)] M nx 0 0
    refine v_icmp_ge (tgt := 55) (am_Dk d_Vars_find (k := 6) rfl) (by decide) (fun c7 => ?_) (fun c7 => ?_)
    · have Nc7 := (nI_leI (a := c) (b := i) (by omega) (by omega)).mp c7
      exfalso
      omega
    · have Nc7 : ¬ c ≤ i := fun z => c7 ((nI_leI (a := c) (b := i) (by omega) (by omega)).mpr z)
      refine v_aload_n (am_Dk d_Vars_find (k := 7) rfl) rfl ?_
      refine v_get (am_Dk d_Vars_find (k := 8) rfl) f_Vars_12 hV.1 rfl ?_
      refine v_iload (am_Dk d_Vars_find (k := 9) rfl) rfl ?_
      refine v_callV (rest := []) (As := [.int (nI i)]) (mc' := 0) (ms' := 0) (am_Dk d_Vars_find (k := 10) rfl) c_Vars_22 (Or.inl ⟨_, _, _, _, _, hV.2.1, cq_ok3⟩) (t_jA_get G (d := 2) (by omega) hV.2.1 (hV.2.2.1 (by omega)) hic hV.2.2.2.1 hV.2.2.2.2.1 (hV.2.2.2.2.2.1 i hic)) (by omega) (by omega) (by omega) (by simp [Value.category]) rfl (fun v8 M9 n10 h11 => ?_) (fun _ _ _ h11 => ?_)
      rotate_left
      · exact absurd h11.1 (by simp)
      obtain ⟨h11, e12, e13⟩ := h11
      replace e12 := e12.symm
      replace e13 := e13.symm
      subst e12
      subst e13
      cases h11
      show am_V G _ _ _ _ _ 24 [(4, .int (nI i)), (0, .ref 1003), (1, .ref 1002), (2, .int (nI p)), (3, .int (nI e))] [.ref (Vi i)] M nx 0 0
      refine v_castY (am_Dk d_Vars_find (k := 11) rfl) n_Vars_26 hvi cq_ok4 (am_at (k := 1472) (by decide +kernel) (by decide +kernel)) ?_
      refine v_aload_n (am_Dk d_Vars_find (k := 12) rfl) rfl ?_
      refine v_iload_n (am_Dk d_Vars_find (k := 13) rfl) rfl ?_
      refine v_iload_n (am_Dk d_Vars_find (k := 14) rfl) rfl ?_
      refine v_callV (rest := []) (As := [.ref 1002, .int (nI p), .int (nI e)]) (mc' := 0) (ms' := 0) (am_Dk d_Vars_find (k := 15) rfl) c_Vars_28 (Or.inl ⟨_, _, _, _, _, hvi, cq_ok4⟩) (t_Var_isNamed G (d := 0) (by omega) hvi hvb h2 hpe he hvl) (by omega) (by omega) (by omega) (by simp [Value.category]) rfl (fun v14 M15 n16 h17 => ?_) (fun _ _ _ h17 => ?_)
      rotate_left
      · exact absurd h17.1 (by simp)
      obtain ⟨h17, e18, e19⟩ := h17
      replace e18 := e18.symm
      replace e19 := e19.symm
      subst e18
      subst e19
      cases h17
      show am_V G _ _ _ _ _ 33 [(4, .int (nI i)), (0, .ref 1003), (1, .ref 1002), (2, .int (nI p)), (3, .int (nI e))] [.int (bi (decide (Vl i = e - p ∧ ∀ j, j < e - p → Vg i j = f (p + j))))] M nx 0 0
      refine v_if_eq (tgt := 49) (am_Dk d_Vars_find (k := 16) rfl) (by decide) (fun c20 => ?_) (fun c20 => ?_)
      · have hF := bi0.mp c20
        refine v_iinc (v := nI (i + 1)) (L1 := [(4, .int (nI (i + 1))), (0, .ref 1003), (1, .ref 1002), (2, .int (nI p)), (3, .int (nI e))]) (am_Dk d_Vars_find (k := 23) rfl) rfl (nI_1 _) (by decide) rfl ?_
        refine v_goto (tgt := 3) (am_Dk d_Vars_find (k := 24) rfl) (by decide) ?_
        exact ih (i + 1) (by omega) (by rw [← hall, vfF, if_neg (show ¬ vmt Vl Vg (e - p) (fun j => f (p + j)) i = true from ne_true_of_eq_false hF)])
      · have hT := bi1 c20
        refine v_aload_n (am_Dk d_Vars_find (k := 17) rfl) rfl ?_
        refine v_get (am_Dk d_Vars_find (k := 18) rfl) f_Vars_12 hV.1 rfl ?_
        refine v_iload (am_Dk d_Vars_find (k := 19) rfl) rfl ?_
        refine v_callV (rest := []) (As := [.int (nI i)]) (mc' := 0) (ms' := 0) (am_Dk d_Vars_find (k := 20) rfl) c_Vars_22 (Or.inl ⟨_, _, _, _, _, hV.2.1, cq_ok3⟩) (t_jA_get G (d := 2) (by omega) hV.2.1 (hV.2.2.1 (by omega)) hic hV.2.2.2.1 hV.2.2.2.2.1 (hV.2.2.2.2.2.1 i hic)) (by omega) (by omega) (by omega) (by simp [Value.category]) rfl (fun v21 M22 n23 h24 => ?_) (fun _ _ _ h24 => ?_)
        rotate_left
        · exact absurd h24.1 (by simp)
        obtain ⟨h24, e25, e26⟩ := h24
        replace e25 := e25.symm
        replace e26 := e26.symm
        subst e25
        subst e26
        cases h24
        show am_V G _ _ _ _ _ 45 [(4, .int (nI i)), (0, .ref 1003), (1, .ref 1002), (2, .int (nI p)), (3, .int (nI e))] [.ref (Vi i)] M nx 0 0
        refine v_castY (am_Dk d_Vars_find (k := 21) rfl) n_Vars_26 hvi cq_ok4 (am_at (k := 1472) (by decide +kernel) (by decide +kernel)) ?_
        exact v_areturn (am_Dk d_Vars_find (k := 22) rfl) rfl (Or.inl ⟨_, rfl⟩) (by omega) (by omega) ⟨by rw [← hall, vfF, if_pos (show vmt Vl Vg (e - p) (fun j => f (p + j)) i = true from hT)], rfl, rfl⟩
set_option maxRecDepth 20000 in
theorem t_Vars_find (G : am_G) {d nx : Nat} (hd : 3 ≤ d) {M : am_M} {c ed cap p e : Nat} {Vi Vb Vl : Nat → Nat} {Vg : Nat → Nat → Int32} {Vn : Nat → Int64} {R : Nat → Option Nat} {mcn : Int32} {f : Nat → Int32} (hV : vs M c Vi Vb Vl Vg Vn ed cap R mcn) (h2 : M 1002 = some (.inl (0, 4096, .inl f))) (hpe : p ≤ e) (he : e ≤ 4096) : am_Tr G m_Vars_find d 0 0 [.ref 1003, .ref 1002, .int (nI p), .int (nI e)] M nx (fun r M1 nx1 => r = .inl (some (match vfF (vmt Vl Vg (e - p) (fun j => f (p + j))) c 0 with | none => .null | some i => .ref (Vi i))) ∧ M1 = M ∧ nx1 = nx) := by
  refine am_TrOf (by decide) (Nat.le_of_ble_eq_true rfl) ?_
  show am_V G _ _ _ _ _ 0 [(0, .ref 1003), (1, .ref 1002), (2, .int (nI p)), (3, .int (nI e))] [] M nx 0 0
  refine v_iconst (v := 0) (am_Dk d_Vars_find (k := 0) rfl) (by decide) ?_
  refine v_istore (L1 := [(4, .int 0), (0, .ref 1003), (1, .ref 1002), (2, .int (nI p)), (3, .int (nI e))]) (am_Dk d_Vars_find (k := 1) rfl) (by decide) rfl ?_
  exact l_Vars_find1 G hd hV h2 hpe he c 0 (by omega) rfl
