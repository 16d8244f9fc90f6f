/-! ARRAYS, NEW CELLS, CONSTANTS (mine): rows of the small machine -/
section VA1
variable {G : am_G} {Y : am_Y} {d mc ms : Nat} {Q : am_Qt} {pc : Nat} {L : List (Nat × Value)} {st : List Value} {M : am_M} {nx cn sn : Nat}
theorem am_tyAt {t : Nat} {ty : FieldType} (h : am_tyl[t]? = some ty) : (am_tys G)[t]? = some (G.2.2.2.1 t, ty) := by
  simp [am_tys, h]
theorem v_iald {t a n : Nat} {f : Nat → Int32} {i : Int32} (hd : decode Y.2.1 pc = .ok (.iaload, 1)) (hM : M a = some (.inl (t, n, .inl f))) (ht : am_tyl[t]? = some .int) (hin : vp_in i n) (k : am_V G Y d mc ms Q (pc + 1) L (.int (f i.toNatClampNeg) :: st) M nx cn sn) : am_V G Y d mc ms Q pc L (.int i :: .ref a :: st) M nx cn sn := by
  intro p e R s m args below meth c H locs ls hC hH hq hL
  have hx := hC.1
  have hb := hC.2.1
  obtain ⟨-, -, hat⟩ := hH.2.2.2 a _ hM
  refine va_iald (D := G.2.2.1) hx hb (am_cxK hC) (am_one hat) 0 t rfl (am_tyAt ht) hin hd ?_
  exact k p e R s m args below meth c H locs ls hC hH hq hL
theorem v_bald {t a n : Nat} {f : Nat → Int32} {i : Int32} (hd : decode Y.2.1 pc = .ok (.baload, 1)) (hM : M a = some (.inl (t, n, .inl f))) (ht : am_tyl[t]? = some .byte) (hin : vp_in i n) (k : am_V G Y d mc ms Q (pc + 1) L (.int (f i.toNatClampNeg) :: st) M nx cn sn) : am_V G Y d mc ms Q pc L (.int i :: .ref a :: st) M nx cn sn := by
  intro p e R s m args below meth c H locs ls hC hH hq hL
  have hx := hC.1
  have hb := hC.2.1
  obtain ⟨-, -, hat⟩ := hH.2.2.2 a _ hM
  refine va_bald (D := G.2.2.1) hx hb (am_cxK hC) (am_one hat) 0 t rfl (am_tyAt ht) hin hd ?_
  exact k p e R s m args below meth c H locs ls hC hH hq hL
theorem v_lald {t a n : Nat} {f : Nat → Int64} {i : Int32} (hd : decode Y.2.1 pc = .ok (.laload, 1)) (hM : M a = some (.inl (t, n, .inr (.inl f)))) (ht : am_tyl[t]? = some .long) (hin : vp_in i n) (k : am_V G Y d mc ms Q (pc + 1) L (.long (f i.toNatClampNeg) :: st) M nx cn sn) : am_V G Y d mc ms Q pc L (.int i :: .ref a :: st) M nx cn sn := by
  intro p e R s m args below meth c H locs ls hC hH hq hL
  have hx := hC.1
  have hb := hC.2.1
  obtain ⟨-, -, hat⟩ := hH.2.2.2 a _ hM
  refine va_lald (D := G.2.2.1) hx hb (am_cxK hC) (am_one hat) 0 t rfl (am_tyAt ht) hin hd ?_
  exact k p e R s m args below meth c H locs ls hC hH hq hL
theorem v_aald {t a n : Nat} {f : Nat → Option Nat} {E : String} {i : Int32} {v : Value} (hd : decode Y.2.1 pc = .ok (.aaload, 1)) (hM : M a = some (.inl (t, n, .inr (.inr (.inr (.inr f)))))) (ht : am_tyl[t]? = some (.object E)) (hin : vp_in i n) (hv : va_rf (f i.toNatClampNeg) = v) (k : am_V G Y d mc ms Q (pc + 1) L (v :: st) M nx cn sn) : am_V G Y d mc ms Q pc L (.int i :: .ref a :: st) M nx cn sn := by
  subst hv
  intro p e R s m args below meth c H locs ls hC hH hq hL
  have hx := hC.1
  have hb := hC.2.1
  obtain ⟨-, -, hat⟩ := hH.2.2.2 a _ hM
  refine va_aldq (D := G.2.2.1) hx hb (am_cxK hC) (am_one hat) 0 t rfl (am_tyAt ht) hin hd ?_
  have e9 : va_rf ((f i.toNatClampNeg).map (am_ad G)) = am_v G (va_rf (f i.toNatClampNeg)) := by cases f i.toNatClampNeg <;> rfl
  rw [e9]
  exact k p e R s m args below meth c H locs ls hC hH hq hL
theorem v_iast {t a n : Nat} {f : Nat → Int32} {i : Int32} {x : Int32} (hd : decode Y.2.1 pc = .ok (.iastore, 1)) (hM : M a = some (.inl (t, n, .inl f))) (ht : am_tyl[t]? = some .int) (hin : vp_in i n) (k : am_V G Y d mc ms Q (pc + 1) L st (am_up M a (.inl (t, n, .inl (upd f i.toNatClampNeg x)))) nx cn sn) : am_V G Y d mc ms Q pc L (.int x :: .int i :: .ref a :: st) M nx cn sn := by
  intro p e R s m args below meth c H locs ls hC hH hq hL
  have hx := hC.1
  have hb := hC.2.1
  obtain ⟨ha1, -, hat⟩ := hH.2.2.2 a _ hM
  refine W.iast hx hb hat (((am_cxK hC).2 t _ (am_tyAt ht)).1 n (fun j => .int (f j))) (fun q => by cases q) (by show ¬ (i < 0 ∨ (arrV _ _ _).slots.size ≤ _); rw [arrV_size]; exact hin) rfl rfl hd fun H1 e1 z oq => ?_
  refine k p e R s m args below meth c H1 _ ls hC (am_H_up hH hM z oq ?_) (am_q1 hq (am_adA ha1)) hL
  show H1[am_ad G a]? = some (vp_cell _ _)
  rw [e1]
  show some ((vp_cell _ (n, .inl f)).setSlot _ _) = some (vp_cell _ (n, .inl (upd f i.toNatClampNeg x)))
  rw [vp_cell_i, vp_cell_i, arrV_store]
  congr 2
  funext q
  by_cases hqq : q = i.toNatClampNeg
  · subst hqq
    simp [updV, upd, vp_nar]
    try rfl
  · simp [updV, upd, hqq]
theorem v_bast {t a n : Nat} {f : Nat → Int32} {i : Int32} {x : Int32} (hd : decode Y.2.1 pc = .ok (.bastore, 1)) (hM : M a = some (.inl (t, n, .inl f))) (ht : am_tyl[t]? = some .byte) (hin : vp_in i n) (k : am_V G Y d mc ms Q (pc + 1) L st (am_up M a (.inl (t, n, .inl (upd f i.toNatClampNeg (vp_nar .byte x))))) nx cn sn) : am_V G Y d mc ms Q pc L (.int x :: .int i :: .ref a :: st) M nx cn sn := by
  intro p e R s m args below meth c H locs ls hC hH hq hL
  have hx := hC.1
  have hb := hC.2.1
  obtain ⟨ha1, -, hat⟩ := hH.2.2.2 a _ hM
  refine W.bast hx hb hat (((am_cxK hC).2 t _ (am_tyAt ht)).1 n (fun j => .int (f j))) (fun q => by cases q) (by show ¬ (i < 0 ∨ (arrV _ _ _).slots.size ≤ _); rw [arrV_size]; exact hin) rfl rfl hd fun H1 e1 z oq => ?_
  refine k p e R s m args below meth c H1 _ ls hC (am_H_up hH hM z oq ?_) (am_q1 hq (am_adA ha1)) hL
  show H1[am_ad G a]? = some (vp_cell _ _)
  rw [e1]
  show some ((vp_cell _ (n, .inl f)).setSlot _ _) = some (vp_cell _ (n, .inl (upd f i.toNatClampNeg (vp_nar .byte x))))
  rw [vp_cell_i, vp_cell_i, arrV_store]
  congr 2
  funext q
  by_cases hqq : q = i.toNatClampNeg
  · subst hqq
    simp [updV, upd, vp_nar]
    try rfl
  · simp [updV, upd, hqq]
theorem v_last {t a n : Nat} {f : Nat → Int64} {i : Int32} {x : Int64} (hd : decode Y.2.1 pc = .ok (.lastore, 1)) (hM : M a = some (.inl (t, n, .inr (.inl f)))) (ht : am_tyl[t]? = some .long) (hin : vp_in i n) (k : am_V G Y d mc ms Q (pc + 1) L st (am_up M a (.inl (t, n, .inr (.inl (vp_updL f i.toNatClampNeg x))))) nx cn sn) : am_V G Y d mc ms Q pc L (.long x :: .int i :: .ref a :: st) M nx cn sn := by
  intro p e R s m args below meth c H locs ls hC hH hq hL
  have hx := hC.1
  have hb := hC.2.1
  obtain ⟨ha1, -, hat⟩ := hH.2.2.2 a _ hM
  refine W.last hx hb hat (((am_cxK hC).2 t _ (am_tyAt ht)).1 n (fun j => .long (f j))) (fun q => by cases q) (by show ¬ (i < 0 ∨ (arrV _ _ _).slots.size ≤ _); rw [arrV_size]; exact hin) rfl rfl hd fun H1 e1 z oq => ?_
  refine k p e R s m args below meth c H1 _ ls hC (am_H_up hH hM z oq ?_) (am_q1 hq (am_adA ha1)) hL
  show H1[am_ad G a]? = some (vp_cell _ _)
  rw [e1]
  show some ((vp_cell _ (n, .inr (.inl f))).setSlot _ _) = some (vp_cell _ (n, .inr (.inl (vp_updL f i.toNatClampNeg x))))
  rw [vp_cell_l, vp_cell_l, arrV_store]
  congr 2
  funext q
  by_cases hqq : q = i.toNatClampNeg
  · subst hqq
    simp [updV, vp_updL, vp_nar]
    try rfl
  · simp [updV, vp_updL, hqq]
theorem v_alen {t a n : Nat} {x} {v : Int32} (hd : decode Y.2.1 pc = .ok (.arraylength, 1)) (hM : M a = some (.inl (t, n, x))) {ty : FieldType} (ht : am_tyl[t]? = some ty) (hv : Int32.ofNat n = v) (k : am_V G Y d mc ms Q (pc + 1) L (.int v :: st) M nx cn sn) : am_V G Y d mc ms Q pc L (.ref a :: st) M nx cn sn := by
  intro p e R s m args below meth c H locs ls hC hH hq hL
  have hx := hC.1
  have hb := hC.2.1
  obtain ⟨-, -, hat⟩ := hH.2.2.2 a _ hM
  refine va_alen (D := G.2.2.1) hx hb (am_cxK hC) (am_one hat) 0 t rfl (am_tyAt ht) hv hd ?_
  exact k p e R s m args below meth c H locs ls hC hH hq hL
theorem v_new_byte {n : Int32} {N : Nat} (hd : decode Y.2.1 pc = .ok (.newarray .byte, 2)) (ha : am_has (.arrayClass .byte)) (hn : ¬ n < 0) (hN : n.toNatClampNeg = N) (hb9 : N * componentBytes (newarray.typeOf .byte) ≤ 536870912) (h1 : cn + 1 ≤ mc) (h2 : sn + N ≤ ms) (k : am_V G Y d mc ms Q (pc + 2) L (.ref nx :: st) (am_up M nx (.inl (0, N, .inl (fun _ => 0)))) (nx + 1) (cn + 1) (sn + N)) : am_V G Y d mc ms Q pc L (.int n :: st) M nx cn sn := by
  intro p e R s m args below meth c H locs ls hC hH hq hL
  have hx := hC.1
  have hb := hC.2.1
  have hR := am_cxR hC
  refine va_newaK (atype := .byte) hx hb (am_wdc hC ha args) rfl hd rfl hn hN hb9 (Nat.le_trans h1 hR.2.2.1) (Nat.le_trans h2 hR.2.2.2) (am_H_sz hH) fun H1 cA e1 z1 o1 _ hNm => ?_
  have hcA : cA = G.2.2.2.1 0 := by
    have h9 : s.vm.findClass ("[" ++ (FieldType.byte).toString) = some (G.2.2.2.1 0) := ((am_cxK hC).2 0 _ (am_tyAt (ty := .byte) rfl)).2
    exact Option.some.inj (hNm.symm.trans h9)
  subst hcA
  refine k p e R s m args below meth c H1 _ ls hC (am_H_new hH (by rw [z1, am_H_sz hH]) (fun q h => o1 q (by rw [← am_H_sz hH]; exact h)) ?_) hq hL
  exact e1
theorem v_new_int {n : Int32} {N : Nat} (hd : decode Y.2.1 pc = .ok (.newarray .int, 2)) (ha : am_has (.arrayClass .int)) (hn : ¬ n < 0) (hN : n.toNatClampNeg = N) (hb9 : N * componentBytes (newarray.typeOf .int) ≤ 536870912) (h1 : cn + 1 ≤ mc) (h2 : sn + N ≤ ms) (k : am_V G Y d mc ms Q (pc + 2) L (.ref nx :: st) (am_up M nx (.inl (1, N, .inl (fun _ => 0)))) (nx + 1) (cn + 1) (sn + N)) : am_V G Y d mc ms Q pc L (.int n :: st) M nx cn sn := by
  intro p e R s m args below meth c H locs ls hC hH hq hL
  have hx := hC.1
  have hb := hC.2.1
  have hR := am_cxR hC
  refine va_newaK (atype := .int) hx hb (am_wdc hC ha args) rfl hd rfl hn hN hb9 (Nat.le_trans h1 hR.2.2.1) (Nat.le_trans h2 hR.2.2.2) (am_H_sz hH) fun H1 cA e1 z1 o1 _ hNm => ?_
  have hcA : cA = G.2.2.2.1 1 := by
    have h9 : s.vm.findClass ("[" ++ (FieldType.int).toString) = some (G.2.2.2.1 1) := ((am_cxK hC).2 1 _ (am_tyAt (ty := .int) rfl)).2
    exact Option.some.inj (hNm.symm.trans h9)
  subst hcA
  refine k p e R s m args below meth c H1 _ ls hC (am_H_new hH (by rw [z1, am_H_sz hH]) (fun q h => o1 q (by rw [← am_H_sz hH]; exact h)) ?_) hq hL
  exact e1
theorem v_new_long {n : Int32} {N : Nat} (hd : decode Y.2.1 pc = .ok (.newarray .long, 2)) (ha : am_has (.arrayClass .long)) (hn : ¬ n < 0) (hN : n.toNatClampNeg = N) (hb9 : N * componentBytes (newarray.typeOf .long) ≤ 536870912) (h1 : cn + 1 ≤ mc) (h2 : sn + N ≤ ms) (k : am_V G Y d mc ms Q (pc + 2) L (.ref nx :: st) (am_up M nx (.inl (2, N, .inr (.inl (fun _ => 0))))) (nx + 1) (cn + 1) (sn + N)) : am_V G Y d mc ms Q pc L (.int n :: st) M nx cn sn := by
  intro p e R s m args below meth c H locs ls hC hH hq hL
  have hx := hC.1
  have hb := hC.2.1
  have hR := am_cxR hC
  refine va_newaK (atype := .long) hx hb (am_wdc hC ha args) rfl hd rfl hn hN hb9 (Nat.le_trans h1 hR.2.2.1) (Nat.le_trans h2 hR.2.2.2) (am_H_sz hH) fun H1 cA e1 z1 o1 _ hNm => ?_
  have hcA : cA = G.2.2.2.1 2 := by
    have h9 : s.vm.findClass ("[" ++ (FieldType.long).toString) = some (G.2.2.2.1 2) := ((am_cxK hC).2 2 _ (am_tyAt (ty := .long) rfl)).2
    exact Option.some.inj (hNm.symm.trans h9)
  subst hcA
  refine k p e R s m args below meth c H1 _ ls hC (am_H_new hH (by rw [z1, am_H_sz hH]) (fun q h => o1 q (by rw [← am_H_sz hH]; exact h)) ?_) hq hL
  exact e1
theorem v_anew {n : Int32} {N t index : Nat} {E : String} (hd : decode Y.2.1 pc = .ok (.anewarray index, 3)) (hl : am_has (.classLink Y.1.cls index E)) (ho : Cond.arrayOver (.object E) ∈ lw_tbl) (ht : am_tyl[t]? = some (.object E)) (hn : ¬ n < 0) (hN : n.toNatClampNeg = N) (hb9 : N * 4 ≤ 536870912) (h1 : cn + 1 ≤ mc) (h2 : sn + N ≤ ms) (k : am_V G Y d mc ms Q (pc + 3) L (.ref nx :: st) (am_up M nx (.inl (t, N, .inr (.inr (.inr (.inr (fun _ => none))))))) (nx + 1) (cn + 1) (sn + N)) : am_V G Y d mc ms Q pc L (.int n :: st) M nx cn sn := by
  subst hN
  intro p e R s m args below meth c H locs ls hC hH hq hL
  have hx := hC.1
  have hb := hC.2.1
  have hR := am_cxR hC
  have hao : va_AO E s := by
    obtain ⟨A, hA⟩ := (am_cxOk hC).2.1
    exact va_AO.moved (am_cxW hC).alike (va_AO.of (hA _ ho))
  refine W.anew hx hb (am_cxO hC) (am_wdc hC hl args) (va_AO.use hao) rfl hd rfl hn hb9 (Nat.le_trans h1 hR.2.2.1) (Nat.le_trans h2 hR.2.2.2) fun cA kA comp f1 f2 f3 f4 => ?_
  obtain ⟨kA', comp', g1, g2, g3, g4⟩ := ((am_cxK hC).2 t _ (am_tyAt ht)).2
  have hcA : cA = G.2.2.2.1 t := Option.some.inj (f1.symm.trans g4)
  subst hcA
  generalize hH1 : H.push ({ cls := G.2.2.2.1 t, slots := Array.replicate n.toNatClampNeg .null, vm := .none } : Cell) = H1
  have z1 : H1.size = H.size + 1 := by rw [← hH1, Array.size_push]
  have e1 : H1[H.size]? = some (arrV (G.2.2.2.1 t) n.toNatClampNeg (fun _ => .null)) := by rw [← hH1, Array.getElem?_push_size, ← arrV_new]
  have o1 : ∀ q, q < H.size → H1[q]? = H[q]? := fun q hq => by rw [← hH1, Array.getElem?_push, if_neg (Nat.ne_of_lt hq)]
  have k9 := k p e R s m args below meth c H1 _ ls hC (am_H_new hH z1 o1 (by rw [am_H_sz hH] at e1; exact e1)) hq hL
  rw [show Value.ref H.size = am_v G (.ref nx) by rw [am_H_sz hH]; rfl]
  exact k9
theorem v_new {ci index N : Nat} {C : String} {T : u_T} {ty : Nat → FieldType} {fs : List Value} (hd : decode Y.2.1 pc = .ok (.new index, 3)) (hP : am_clP ci C T N ty) (hl : am_has (.classLink Y.1.cls index C)) (hi : am_has (.instantiable C N)) (hz : am_has (.initialized C)) (hfs : ∀ j, j < N → defaultValue (ty j) = vp_V fs j) (hv : fs.map (am_v G) = fs) (h1 : cn + 1 ≤ mc) (h2 : sn + N ≤ ms) (k : am_V G Y d mc ms Q (pc + 3) L (.ref nx :: st) (am_up M nx (.inr (ci, fs))) (nx + 1) (cn + 1) (sn + N)) : am_V G Y d mc ms Q pc L st M nx cn sn := by
  intro p e R s m args below meth c H locs ls hC hH hq hL
  have hx := hC.1
  have hb := hC.2.1
  have hR := am_cxR hC
  have hts : ∀ w ∈ u_ws C T N, w.before args s = true := fun w hw => am_wdc hC (hP.2.1 w hw) args
  have hKn := (am_cxK hC).1 ci _ hP.1
  refine W.newcK hx hb (am_cxO hC) (am_wdc hC hl args) (am_wdc hC hi args) (am_wdc hC hz args) rfl hd (Nat.le_trans h1 hR.2.2.1) (Nat.le_trans h2 hR.2.2.2) hKn.2.1 (am_H_sz hH) fun H1 kC hkC e1 z1 o1 => ?_
  refine k p e R s m args below meth c H1 _ ls hC (am_H_new hH (by rw [z1, am_H_sz hH]) (fun q h => o1 q (by rw [← am_H_sz hH]; exact h)) ?_) hq hL
  refine ⟨_, hP.1, ?_⟩
  show t_OB _ _ _ _ _ (vp_V (fs.map (am_v G)))
  rw [hv]
  exact (u_born ty hts (fun w hw => hw) hKn hkC e1 hP.2.2.1).to hfs
theorem v_aast {t a n w ci : Nat} {f : Nat → Option Nat} {E C : String} {T : u_T} {N : Nat} {ty : Nat → FieldType} {fs : List Value} {i : Int32} (hd : decode Y.2.1 pc = .ok (.aastore, 1)) (hM : M a = some (.inl (t, n, .inr (.inr (.inr (.inr f)))))) (ht : am_tyl[t]? = some (.object E)) (hw : M w = some (.inr (ci, fs))) (hP : am_clP ci C T N ty) (hcast : C = E ∨ am_has (.castable C E)) (hin : vp_in i n) (k : am_V G Y d mc ms Q (pc + 1) L st (am_up M a (.inl (t, n, .inr (.inr (.inr (.inr (va_up f i.toNatClampNeg (some w)))))))) nx cn sn) : am_V G Y d mc ms Q pc L (.ref w :: .int i :: .ref a :: st) M nx cn sn := by
  intro p e R s m args below meth c H locs ls hC hH hq hL
  have hx := hC.1
  have hb := hC.2.1
  obtain ⟨ha1, -, hat⟩ := hH.2.2.2 a _ hM
  obtain ⟨-, -, r, hr, cellV, g1, g2, g3, -⟩ := hH.2.2.2 w _ hw
  have hr : r = (C, T, N) := Option.some.inj (hr.symm.trans hP.1)
  subst hr
  have hlt : i.toNatClampNeg < n := Nat.not_le.mp fun q => hin (Or.inr q)
  have h0 : ¬ i < 0 := fun q => hin (Or.inl q)
  have hcls := ((am_cxK hC).1 ci _ hP.1).2
  obtain ⟨kA, comp, k1, k2, k3, -⟩ := ((am_cxK hC).2 t _ (am_tyAt ht)).2
  obtain ⟨kC, hkC, -⟩ := hcls.2
  have hasg : s.vm.assignable cellV.cls comp = true ∧ ∃ kc, s.vm.classes[comp]? = some kc := by
    rcases hcast with rfl | hcast
    · have hcomp : comp = G.2.2.1.1 ci := Option.some.inj (k3.symm.trans hcls.1)
      subst hcomp
      exact ⟨by rw [g2]; exact va_assign hcls, _, hkC⟩
    · obtain ⟨c3, c4, e3, e4, hh⟩ := Cond.castable_spec (am_wdc hC hcast args)
      cases hcls.1.symm.trans e3
      cases k3.symm.trans e4
      refine ⟨by rw [g2]; exact hh, ?_⟩
      exact Vm.classAt_of_findClass k3
  obtain ⟨hasg, kc, hkc⟩ := hasg
  refine W.aast hx hb hat (fun q h => by cases h) (fun h => by cases h) k1 k2 rfl hkc ⟨h0, by show _ < (arrV _ _ _).slots.size; rw [arrV_size]; exact hlt⟩ g1 (fun q h => by rw [g3] at h; cases h) (by rw [g2]; exact hkC) hasg rfl rfl hd fun H1 e1 z oq => ?_
  refine k p e R s m args below meth c H1 _ ls hC (am_H_up hH hM z oq ?_) (am_q1 hq (am_adA ha1)) hL
  show H1[am_ad G a]? = some (vp_cell _ _)
  rw [e1]
  show some ((vp_cell _ (n, .inr (.inr (.inr (.inr (fun j => (f j).map (am_ad G))))))).setSlot _ _) = some (vp_cell _ (n, .inr (.inr (.inr (.inr (fun j => (va_up f i.toNatClampNeg (some w) j).map (am_ad G)))))))
  rw [vp_cell_q, vp_cell_q, arrV_store]
  congr 2
  funext q
  by_cases hqq : q = i.toNatClampNeg
  · subst hqq
    simp [updV, va_up, va_rf]
  · simp [updV, va_up, hqq]
theorem v_aastN {t a n : Nat} {f : Nat → Option Nat} {E : String} {i : Int32} (hd : decode Y.2.1 pc = .ok (.aastore, 1)) (hM : M a = some (.inl (t, n, .inr (.inr (.inr (.inr f)))))) (ht : am_tyl[t]? = some (.object E)) (hin : vp_in i n) (k : am_V G Y d mc ms Q (pc + 1) L st (am_up M a (.inl (t, n, .inr (.inr (.inr (.inr (va_up f i.toNatClampNeg none))))))) nx cn sn) : am_V G Y d mc ms Q pc L (.null :: .int i :: .ref a :: st) M nx cn sn := by
  intro p e R s m args below meth c H locs ls hC hH hq hL
  have hx := hC.1
  have hb := hC.2.1
  obtain ⟨ha1, -, hat⟩ := hH.2.2.2 a _ hM
  refine va_WaastN (C := E) hx hb hat (((am_cxK hC).2 t _ (am_tyAt ht)).1 n (fun j => va_rf ((f j).map (am_ad G)))) (fun h => by cases h) (by show ¬ (i < 0 ∨ (arrV _ _ _).slots.size ≤ _); rw [arrV_size]; exact hin) rfl rfl hd fun H1 e1 z oq => ?_
  refine k p e R s m args below meth c H1 _ ls hC (am_H_up hH hM z oq ?_) (am_q1 hq (am_adA ha1)) hL
  show H1[am_ad G a]? = some (vp_cell _ _)
  rw [e1]
  show some ((vp_cell _ (n, .inr (.inr (.inr (.inr (fun j => (f j).map (am_ad G))))))).setSlot _ _) = some (vp_cell _ (n, .inr (.inr (.inr (.inr (fun j => (va_up f i.toNatClampNeg none j).map (am_ad G)))))))
  rw [vp_cell_q, vp_cell_q, arrV_store]
  congr 2
  funext q
  by_cases hqq : q = i.toNatClampNeg
  · subst hqq
    simp [updV, va_up, va_rf]
  · simp [updV, va_up, hqq]
theorem v_aastK {t a n w : Nat} {f : Nat → Option Nat} {E : String} {i : Int32} (hd : decode Y.2.1 pc = .ok (.aastore, 1)) (hM : M a = some (.inl (t, n, .inr (.inr (.inr (.inr f)))))) (ht : am_tyl[t]? = some (.object E)) (hw : (w, E) ∈ am_ko) (hin : vp_in i n) (k : am_V G Y d mc ms Q (pc + 1) L st (am_up M a (.inl (t, n, .inr (.inr (.inr (.inr (va_up f i.toNatClampNeg (some w)))))))) nx cn sn) : am_V G Y d mc ms Q pc L (.ref w :: .int i :: .ref a :: st) M nx cn sn := by
  intro p e R s m args below meth c H locs ls hC hH hq hL
  have hx := hC.1
  have hb := hC.2.1
  obtain ⟨ha1, -, hat⟩ := hH.2.2.2 a _ hM
  obtain ⟨cellV, g1, g2, g3, -⟩ := ((am_cxOk hC).2.2.2.2.1 _ hw).kept (am_cxS hC hH hq).2.1
  have hlt : i.toNatClampNeg < n := Nat.not_le.mp fun q => hin (Or.inr q)
  have h0 : ¬ i < 0 := fun q => hin (Or.inl q)
  obtain ⟨kA, comp, k1, k2, k3, -⟩ := ((am_cxK hC).2 t _ (am_tyAt ht)).2
  have hcomp : comp = cellV.cls := Option.some.inj (k3.symm.trans (by rw [(am_cxW hC).alike.findClass]; exact g3))
  subst hcomp
  obtain ⟨kC, hkC⟩ := Vm.classAt_of_findClass k3
  refine W.aast hx hb hat (fun q h => by cases h) (fun h => by cases h) k1 k2 rfl hkC ⟨h0, by show _ < (arrV _ _ _).slots.size; rw [arrV_size]; exact hlt⟩ g1 (fun q h => by rw [h] at g2; cases g2) hkC (va_asg _ _) rfl rfl hd fun H1 e1 z oq => ?_
  refine k p e R s m args below meth c H1 _ ls hC (am_H_up hH hM z oq ?_) (am_q1 hq (am_adA ha1)) hL
  show H1[am_ad G a]? = some (vp_cell _ _)
  rw [e1]
  show some ((vp_cell _ (n, .inr (.inr (.inr (.inr (fun j => (f j).map (am_ad G))))))).setSlot _ _) = some (vp_cell _ (n, .inr (.inr (.inr (.inr (fun j => (va_up f i.toNatClampNeg (some w) j).map (am_ad G)))))))
  rw [vp_cell_q, vp_cell_q, arrV_store]
  congr 2
  funext q
  by_cases hqq : q = i.toNatClampNeg
  · subst hqq
    simp [updV, va_up, va_rf]
  · simp [updV, va_up, hqq]
end VA1
