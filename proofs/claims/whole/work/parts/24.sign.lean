/-! THE SIGNS OF THE CLASS (mine; rows laid by the walker) -/
theorem am_ofWF {l : Launch} {y : MethodName} {ws : List Cond} {rm : Room} {Pc : Array Value → State → Prop} {Qc : Array Value → State → Outcome → State → Prop} {mc ms : Nat} {free : Addr → Prop} {cc : ByteArray} {maxL : Nat} {ret : Option FieldType}
    (hy : plainFor y = true) (his : ∀ args (s : State) m, (∀ w ∈ ws, w.before args s = true) → s.methodNamed? y = some m → ∃ meth c, s.vm.method? m = some meth ∧ meth.code = some c ∧ c.code = cc ∧ c.maxLocals = maxL ∧ meth.sig.returnType = ret ∧ meth.locks = false)
    (body : ∀ p e s m args below meth c s₁, BodyLoose p l y (headSpec ws rm) cc maxL ret e s m args below meth c s₁ → c.maxLocals = maxL → Pc args s →
      W p l e (headSpec ws rm).room s m args below meth c s.heap [] 0 0 (xm_MQ below Qc args s mc ms free) (entryFrame m args maxL)) : xm_Met l y ws rm Pc Qc mc ms free := by
  refine MetFree.of_bodySF (code := cc) (maxLocals := maxL) (ret := ret) hy ?_ ?_
  · exact fun args s m h hn => his args s m (atoms_spec (ws := ws) h) hn
  · intro p e s m args below meth c s₁ B hml hP _
    obtain ⟨t, a1, o, b1, b2, b3⟩ := body p e s m args below meth c s₁ B hml hP s₁ (by rw [B.state]; rfl) (Stand.of_body B)
    exact ⟨t, o, a1, b1, b2, ⟨b3.1, b3.2⟩⟩
theorem am_TrOfF {G : am_G} {Y : am_Y} {d mc ms : Nat} {av : List Value} {M : am_M} {nx : Nat} {Q : am_Qt} (hy : plainFor Y.1 = true) (hlen : (lg_sl av).length ≤ Y.2.2.1) (hV : am_V G Y d mc ms Q 0 (lv_args 0 av) [] M nx 0 0) : am_Tr G Y d mc ms av M nx Q := by
  refine am_ofWF (cc := Y.2.1) (maxL := Y.2.2.1) (ret := Y.2.2.2.1) hy ?_ ?_
  · intro args s m hws hn
    obtain ⟨m', meth, c, h0, h1, h2, h3, h4, -, h6, h7, -⟩ := am_wd_spec (hws _ (List.mem_singleton.mpr rfl))
    cases hn.symm.trans h0
    exact ⟨meth, c, h1, h2, h3, h4, h6, h7⟩
  · intro p e s m args below meth c s₁ B hml hv
    obtain ⟨rfl, hW, hH, hOk⟩ := hv
    obtain ⟨m', meth', c', h0, h1, h2, -, -, h5, -⟩ := am_wd_spec (atoms_spec (ws := [am_wd Y]) B.pre _ (List.mem_singleton.mpr rfl))
    cases B.named.symm.trans h0
    cases B.method.symm.trans h1
    cases (Stand.of_body B).code.symm.trans h2
    have hl := lv_entry (av.map (am_v G)) (n := Y.2.2.1) (by rw [am_sl_len]; exact hlen)
    rw [am_args] at hl
    rw [lg_entry_eq]
    refine hV p e _ s m _ below meth c s.heap [] _ ⟨B.exec, B.bytes, hml, B.returns, B.notSynchronized, findClass_of_methodNamed B.named, (name_of_methodNamed B.named B.method).1, h5, hW, ⟨Nat.le_refl _, Nat.le_refl _, Nat.le_refl _, Nat.le_refl _⟩, hH.2.2.1, by rw [hH.1]; exact Nat.le_add_right _ _, hOk⟩ hH (fun q hq => by cases hq) hl
def dgB (x : Int32) : Bool := decide (48 ≤ x.toInt ∧ x.toInt ≤ 57)
def smB (x : Int32) : Bool := decide (97 ≤ x.toInt ∧ x.toInt ≤ 122)
def cpB (x : Int32) : Bool := decide ((65 ≤ x.toInt ∧ x.toInt ≤ 90) ∨ x.toInt = 95)
def blB (x : Int32) : Bool := decide (x.toInt = 9 ∨ x.toInt = 10 ∨ x.toInt = 13 ∨ x.toInt = 32)
def syB (x : Int32) : Bool := decide (x.toInt = 35 ∨ x.toInt = 36 ∨ x.toInt = 38 ∨ x.toInt = 42 ∨ x.toInt = 43 ∨ x.toInt = 45 ∨ x.toInt = 46 ∨ x.toInt = 47 ∨ x.toInt = 58 ∨ x.toInt = 60 ∨ x.toInt = 61 ∨ x.toInt = 62 ∨ x.toInt = 63 ∨ x.toInt = 64 ∨ x.toInt = 92 ∨ x.toInt = 94 ∨ x.toInt = 126)
def mkK (x : Int32) : Nat := if x.toInt = 40 then 29 else if x.toInt = 41 then 30 else if x.toInt = 44 then 33 else if x.toInt = 91 then 31 else if x.toInt = 93 then 32 else if x.toInt = 124 then 34 else 37
theorem v_drop {G : am_G} {Y : am_Y} {d mc ms pc : Nat} {Q : am_Qt} {L L' : List (Nat × Value)} {st : List Value} {M : am_M} {nx cn sn : Nat} (k : am_V G Y d mc ms Q pc L st M nx cn sn) (h : ∀ q ∈ L, q ∈ L') : am_V G Y d mc ms Q pc L' st M nx cn sn := by
  intro p e R s m args below meth c H locs ls hC hH hq hL
  refine k p e R s m args below meth c H locs ls hC hH hq ⟨hL.1, hL.2.1, fun q hq9 => ?_⟩
  obtain ⟨x, hx, rfl⟩ := List.mem_map.mp hq9
  exact hL.2.2 _ (List.mem_map.mpr ⟨x, h x hx, rfl⟩)
theorem bi1 {b : Bool} : ¬ bi b = 0 → b = true := by cases b <;> decide
def jmin (a b : Int64) : Int64 := if a ≤ b then a else b
def pbF (g : Nat → Int32) (n : Nat) : Nat → Nat → Bool → Nat
  | 0, _, _ => n
  | m + 1, i, c => if c = true then pbF g n m (i + 1) (decide (¬ g i = 10)) else if g i = 37 then pbF g n m (i + 1) true else if blB (g i) = true then pbF g n m (i + 1) false else i
def pb (g : Nat → Int32) (n a : Nat) : Nat := pbF g n (n - a) a false
def pltF (g : Nat → Int32) (n : Nat) : Nat → Nat → Nat
  | 0, _ => n
  | m + 1, i => if cpB (g i) = true then pltF g n m (i + 1) else if smB (g i) = true then pltF g n m (i + 1) else if dgB (g i) = true then pltF g n m (i + 1) else i
def plt (g : Nat → Int32) (n p : Nat) : Nat := pltF g n (n - p) p
def pyF (g : Nat → Int32) (n : Nat) : Nat → Nat → Nat
  | 0, _ => n
  | m + 1, i => if syB (g i) = true then pyF g n m (i + 1) else i
def py (g : Nat → Int32) (n p : Nat) : Nat := pyF g n (n - p) p
def dvF (g : Nat → Int32) (n : Nat) : Nat → Nat → Int64 → Nat × Int64
  | 0, i, v => (i, v)
  | m + 1, i, v => if dgB (g i) = true then dvF g n m (i + 1) (jmin (v * 10 + (g i).toInt64 - 48) 9007199254740992) else (i, v)
def dv (g : Nat → Int32) (n p : Nat) : Nat × Int64 := dvF g n (n - p) p 0
def inq (g : Nat → Int32) (i : Nat) : Bool := if g i = 39 then decide (g (i + 1) = 39) else decide (¬ g i < 32 ∧ ¬ (126 : Int32) < g i)
def qdF (g : Nat → Int32) (n : Nat) : Nat → Nat → Nat
  | 0, i => i
  | m + 1, i => if i < n then (if inq g i = true then (if g i = 39 then qdF g n m (i + 2) else qdF g n m (i + 1)) else i) else i
def qd (g : Nat → Int32) (n p : Nat) : Nat := qdF g n (n - p) p
set_option maxRecDepth 20000 in
theorem t_Sg_isSymbol (G : am_G) {d nx : Nat} (hd : 0 ≤ d) {M : am_M} {x : Int32} : am_Tr G m_Sg_isSymbol d 0 0 [.int x] M nx (fun r M1 nx1 => r = .inl (some (.int (bi (syB x)))) ∧ M1 = M ∧ nx1 = nx) := by
  refine am_TrOf (by decide) (Nat.le_of_ble_eq_true rfl) ?_
  show am_V G _ _ _ _ _ 0 [(0, .int x)] [] M nx 0 0
  refine v_iload_n (am_Dk d_Sg_isSymbol (k := 0) rfl) rfl ?_
  by_cases e1 : x.toInt = 35
  · refine v_lookup (tgt := 148) (am_Dk d_Sg_isSymbol (k := 1) rfl) (by decide) (by rw [e1]) (by decide) ?_
    refine v_iconst (v := 1) (am_Dk d_Sg_isSymbol (k := 2) rfl) (by decide) ?_
    exact v_ireturn (am_Dk d_Sg_isSymbol (k := 3) rfl) rfl rfl (by omega) (by omega) ⟨by rw [show syB x = true from decide_eq_true (by omega)]; rfl, rfl, rfl⟩
  by_cases e2 : x.toInt = 36
  · refine v_lookup (tgt := 148) (am_Dk d_Sg_isSymbol (k := 1) rfl) (by decide) (by rw [e2]) (by decide) ?_
    refine v_iconst (v := 1) (am_Dk d_Sg_isSymbol (k := 2) rfl) (by decide) ?_
    exact v_ireturn (am_Dk d_Sg_isSymbol (k := 3) rfl) rfl rfl (by omega) (by omega) ⟨by rw [show syB x = true from decide_eq_true (by omega)]; rfl, rfl, rfl⟩
  by_cases e3 : x.toInt = 38
  · refine v_lookup (tgt := 148) (am_Dk d_Sg_isSymbol (k := 1) rfl) (by decide) (by rw [e3]) (by decide) ?_
    refine v_iconst (v := 1) (am_Dk d_Sg_isSymbol (k := 2) rfl) (by decide) ?_
    exact v_ireturn (am_Dk d_Sg_isSymbol (k := 3) rfl) rfl rfl (by omega) (by omega) ⟨by rw [show syB x = true from decide_eq_true (by omega)]; rfl, rfl, rfl⟩
  by_cases e4 : x.toInt = 42
  · refine v_lookup (tgt := 148) (am_Dk d_Sg_isSymbol (k := 1) rfl) (by decide) (by rw [e4]) (by decide) ?_
    refine v_iconst (v := 1) (am_Dk d_Sg_isSymbol (k := 2) rfl) (by decide) ?_
    exact v_ireturn (am_Dk d_Sg_isSymbol (k := 3) rfl) rfl rfl (by omega) (by omega) ⟨by rw [show syB x = true from decide_eq_true (by omega)]; rfl, rfl, rfl⟩
  by_cases e5 : x.toInt = 43
  · refine v_lookup (tgt := 148) (am_Dk d_Sg_isSymbol (k := 1) rfl) (by decide) (by rw [e5]) (by decide) ?_
    refine v_iconst (v := 1) (am_Dk d_Sg_isSymbol (k := 2) rfl) (by decide) ?_
    exact v_ireturn (am_Dk d_Sg_isSymbol (k := 3) rfl) rfl rfl (by omega) (by omega) ⟨by rw [show syB x = true from decide_eq_true (by omega)]; rfl, rfl, rfl⟩
  by_cases e6 : x.toInt = 45
  · refine v_lookup (tgt := 148) (am_Dk d_Sg_isSymbol (k := 1) rfl) (by decide) (by rw [e6]) (by decide) ?_
    refine v_iconst (v := 1) (am_Dk d_Sg_isSymbol (k := 2) rfl) (by decide) ?_
    exact v_ireturn (am_Dk d_Sg_isSymbol (k := 3) rfl) rfl rfl (by omega) (by omega) ⟨by rw [show syB x = true from decide_eq_true (by omega)]; rfl, rfl, rfl⟩
  by_cases e7 : x.toInt = 46
  · refine v_lookup (tgt := 148) (am_Dk d_Sg_isSymbol (k := 1) rfl) (by decide) (by rw [e7]) (by decide) ?_
    refine v_iconst (v := 1) (am_Dk d_Sg_isSymbol (k := 2) rfl) (by decide) ?_
    exact v_ireturn (am_Dk d_Sg_isSymbol (k := 3) rfl) rfl rfl (by omega) (by omega) ⟨by rw [show syB x = true from decide_eq_true (by omega)]; rfl, rfl, rfl⟩
  by_cases e8 : x.toInt = 47
  · refine v_lookup (tgt := 148) (am_Dk d_Sg_isSymbol (k := 1) rfl) (by decide) (by rw [e8]) (by decide) ?_
    refine v_iconst (v := 1) (am_Dk d_Sg_isSymbol (k := 2) rfl) (by decide) ?_
    exact v_ireturn (am_Dk d_Sg_isSymbol (k := 3) rfl) rfl rfl (by omega) (by omega) ⟨by rw [show syB x = true from decide_eq_true (by omega)]; rfl, rfl, rfl⟩
  by_cases e9 : x.toInt = 58
  · refine v_lookup (tgt := 148) (am_Dk d_Sg_isSymbol (k := 1) rfl) (by decide) (by rw [e9]) (by decide) ?_
    refine v_iconst (v := 1) (am_Dk d_Sg_isSymbol (k := 2) rfl) (by decide) ?_
    exact v_ireturn (am_Dk d_Sg_isSymbol (k := 3) rfl) rfl rfl (by omega) (by omega) ⟨by rw [show syB x = true from decide_eq_true (by omega)]; rfl, rfl, rfl⟩
  by_cases e10 : x.toInt = 60
  · refine v_lookup (tgt := 148) (am_Dk d_Sg_isSymbol (k := 1) rfl) (by decide) (by rw [e10]) (by decide) ?_
    refine v_iconst (v := 1) (am_Dk d_Sg_isSymbol (k := 2) rfl) (by decide) ?_
    exact v_ireturn (am_Dk d_Sg_isSymbol (k := 3) rfl) rfl rfl (by omega) (by omega) ⟨by rw [show syB x = true from decide_eq_true (by omega)]; rfl, rfl, rfl⟩
  by_cases e11 : x.toInt = 61
  · refine v_lookup (tgt := 148) (am_Dk d_Sg_isSymbol (k := 1) rfl) (by decide) (by rw [e11]) (by decide) ?_
    refine v_iconst (v := 1) (am_Dk d_Sg_isSymbol (k := 2) rfl) (by decide) ?_
    exact v_ireturn (am_Dk d_Sg_isSymbol (k := 3) rfl) rfl rfl (by omega) (by omega) ⟨by rw [show syB x = true from decide_eq_true (by omega)]; rfl, rfl, rfl⟩
  by_cases e12 : x.toInt = 62
  · refine v_lookup (tgt := 148) (am_Dk d_Sg_isSymbol (k := 1) rfl) (by decide) (by rw [e12]) (by decide) ?_
    refine v_iconst (v := 1) (am_Dk d_Sg_isSymbol (k := 2) rfl) (by decide) ?_
    exact v_ireturn (am_Dk d_Sg_isSymbol (k := 3) rfl) rfl rfl (by omega) (by omega) ⟨by rw [show syB x = true from decide_eq_true (by omega)]; rfl, rfl, rfl⟩
  by_cases e13 : x.toInt = 63
  · refine v_lookup (tgt := 148) (am_Dk d_Sg_isSymbol (k := 1) rfl) (by decide) (by rw [e13]) (by decide) ?_
    refine v_iconst (v := 1) (am_Dk d_Sg_isSymbol (k := 2) rfl) (by decide) ?_
    exact v_ireturn (am_Dk d_Sg_isSymbol (k := 3) rfl) rfl rfl (by omega) (by omega) ⟨by rw [show syB x = true from decide_eq_true (by omega)]; rfl, rfl, rfl⟩
  by_cases e14 : x.toInt = 64
  · refine v_lookup (tgt := 148) (am_Dk d_Sg_isSymbol (k := 1) rfl) (by decide) (by rw [e14]) (by decide) ?_
    refine v_iconst (v := 1) (am_Dk d_Sg_isSymbol (k := 2) rfl) (by decide) ?_
    exact v_ireturn (am_Dk d_Sg_isSymbol (k := 3) rfl) rfl rfl (by omega) (by omega) ⟨by rw [show syB x = true from decide_eq_true (by omega)]; rfl, rfl, rfl⟩
  by_cases e15 : x.toInt = 92
  · refine v_lookup (tgt := 148) (am_Dk d_Sg_isSymbol (k := 1) rfl) (by decide) (by rw [e15]) (by decide) ?_
    refine v_iconst (v := 1) (am_Dk d_Sg_isSymbol (k := 2) rfl) (by decide) ?_
    exact v_ireturn (am_Dk d_Sg_isSymbol (k := 3) rfl) rfl rfl (by omega) (by omega) ⟨by rw [show syB x = true from decide_eq_true (by omega)]; rfl, rfl, rfl⟩
  by_cases e16 : x.toInt = 94
  · refine v_lookup (tgt := 148) (am_Dk d_Sg_isSymbol (k := 1) rfl) (by decide) (by rw [e16]) (by decide) ?_
    refine v_iconst (v := 1) (am_Dk d_Sg_isSymbol (k := 2) rfl) (by decide) ?_
    exact v_ireturn (am_Dk d_Sg_isSymbol (k := 3) rfl) rfl rfl (by omega) (by omega) ⟨by rw [show syB x = true from decide_eq_true (by omega)]; rfl, rfl, rfl⟩
  by_cases e17 : x.toInt = 126
  · refine v_lookup (tgt := 148) (am_Dk d_Sg_isSymbol (k := 1) rfl) (by decide) (by rw [e17]) (by decide) ?_
    refine v_iconst (v := 1) (am_Dk d_Sg_isSymbol (k := 2) rfl) (by decide) ?_
    exact v_ireturn (am_Dk d_Sg_isSymbol (k := 3) rfl) rfl rfl (by omega) (by omega) ⟨by rw [show syB x = true from decide_eq_true (by omega)]; rfl, rfl, rfl⟩
  refine v_lookup (tgt := 150) (am_Dk d_Sg_isSymbol (k := 1) rfl) (by decide) (show Op.lookupswitch.offset [(35, 147), (36, 147), (38, 147), (42, 147), (43, 147), (45, 147), (46, 147), (47, 147), (58, 147), (60, 147), (61, 147), (62, 147), (63, 147), (64, 147), (92, 147), (94, 147), (126, 147)] 149 x.toInt = 149 from by rw [Op.lookupswitch.offset_cons, if_neg (fun z => e1 z.symm), Op.lookupswitch.offset_cons, if_neg (fun z => e2 z.symm), Op.lookupswitch.offset_cons, if_neg (fun z => e3 z.symm), Op.lookupswitch.offset_cons, if_neg (fun z => e4 z.symm), Op.lookupswitch.offset_cons, if_neg (fun z => e5 z.symm), Op.lookupswitch.offset_cons, if_neg (fun z => e6 z.symm), Op.lookupswitch.offset_cons, if_neg (fun z => e7 z.symm), Op.lookupswitch.offset_cons, if_neg (fun z => e8 z.symm), Op.lookupswitch.offset_cons, if_neg (fun z => e9 z.symm), Op.lookupswitch.offset_cons, if_neg (fun z => e10 z.symm), Op.lookupswitch.offset_cons, if_neg (fun z => e11 z.symm), Op.lookupswitch.offset_cons, if_neg (fun z => e12 z.symm), Op.lookupswitch.offset_cons, if_neg (fun z => e13 z.symm), Op.lookupswitch.offset_cons, if_neg (fun z => e14 z.symm), Op.lookupswitch.offset_cons, if_neg (fun z => e15 z.symm), Op.lookupswitch.offset_cons, if_neg (fun z => e16 z.symm), Op.lookupswitch.offset_cons, if_neg (fun z => e17 z.symm), Op.lookupswitch.offset_nil]) (by decide) ?_
  refine v_iconst (v := 0) (am_Dk d_Sg_isSymbol (k := 4) rfl) (by decide) ?_
  exact v_ireturn (am_Dk d_Sg_isSymbol (k := 5) rfl) rfl rfl (by omega) (by omega) ⟨by rw [show syB x = false from decide_eq_false (by omega)]; rfl, rfl, rfl⟩
set_option maxRecDepth 20000 in
theorem t_Sg_kindOfMark (G : am_G) {d nx : Nat} (hd : 0 ≤ d) {M : am_M} {x : Int32} : am_Tr G m_Sg_kindOfMark d 0 0 [.int x] M nx (fun r M1 nx1 => r = .inl (some (.ref (mkK x))) ∧ M1 = M ∧ nx1 = nx) := by
  refine am_TrOf (by decide) (Nat.le_of_ble_eq_true rfl) ?_
  show am_V G _ _ _ _ _ 0 [(0, .int x)] [] M nx 0 0
  refine v_iload_n (am_Dk d_Sg_kindOfMark (k := 0) rfl) rfl ?_
  by_cases e1 : x.toInt = 40
  · refine v_lookup (tgt := 60) (am_Dk d_Sg_kindOfMark (k := 1) rfl) (by decide) (by rw [e1]) (by decide) ?_
    refine v_gets (v := .ref 29) (am_Dk d_Sg_kindOfMark (k := 2) rfl) s_Sg_150 (by decide +kernel) ?_
    exact v_areturn (am_Dk d_Sg_kindOfMark (k := 3) rfl) rfl (Or.inl ⟨_, rfl⟩) (by omega) (by omega) ⟨by simp [mkK, *], rfl, rfl⟩
  by_cases e2 : x.toInt = 41
  · refine v_lookup (tgt := 64) (am_Dk d_Sg_kindOfMark (k := 1) rfl) (by decide) (by rw [e2]) (by decide) ?_
    refine v_gets (v := .ref 30) (am_Dk d_Sg_kindOfMark (k := 4) rfl) s_Sg_153 (by decide +kernel) ?_
    exact v_areturn (am_Dk d_Sg_kindOfMark (k := 5) rfl) rfl (Or.inl ⟨_, rfl⟩) (by omega) (by omega) ⟨by simp [mkK, *], rfl, rfl⟩
  by_cases e3 : x.toInt = 44
  · refine v_lookup (tgt := 76) (am_Dk d_Sg_kindOfMark (k := 1) rfl) (by decide) (by rw [e3]) (by decide) ?_
    refine v_gets (v := .ref 33) (am_Dk d_Sg_kindOfMark (k := 10) rfl) s_Sg_105 (by decide +kernel) ?_
    exact v_areturn (am_Dk d_Sg_kindOfMark (k := 11) rfl) rfl (Or.inl ⟨_, rfl⟩) (by omega) (by omega) ⟨by simp [mkK, *], rfl, rfl⟩
  by_cases e4 : x.toInt = 91
  · refine v_lookup (tgt := 68) (am_Dk d_Sg_kindOfMark (k := 1) rfl) (by decide) (by rw [e4]) (by decide) ?_
    refine v_gets (v := .ref 31) (am_Dk d_Sg_kindOfMark (k := 6) rfl) s_Sg_156 (by decide +kernel) ?_
    exact v_areturn (am_Dk d_Sg_kindOfMark (k := 7) rfl) rfl (Or.inl ⟨_, rfl⟩) (by omega) (by omega) ⟨by simp [mkK, *], rfl, rfl⟩
  by_cases e5 : x.toInt = 93
  · refine v_lookup (tgt := 72) (am_Dk d_Sg_kindOfMark (k := 1) rfl) (by decide) (by rw [e5]) (by decide) ?_
    refine v_gets (v := .ref 32) (am_Dk d_Sg_kindOfMark (k := 8) rfl) s_Sg_159 (by decide +kernel) ?_
    exact v_areturn (am_Dk d_Sg_kindOfMark (k := 9) rfl) rfl (Or.inl ⟨_, rfl⟩) (by omega) (by omega) ⟨by simp [mkK, *], rfl, rfl⟩
  by_cases e6 : x.toInt = 124
  · refine v_lookup (tgt := 80) (am_Dk d_Sg_kindOfMark (k := 1) rfl) (by decide) (by rw [e6]) (by decide) ?_
    refine v_gets (v := .ref 34) (am_Dk d_Sg_kindOfMark (k := 12) rfl) s_Sg_162 (by decide +kernel) ?_
    exact v_areturn (am_Dk d_Sg_kindOfMark (k := 13) rfl) rfl (Or.inl ⟨_, rfl⟩) (by omega) (by omega) ⟨by simp [mkK, *], rfl, rfl⟩
  refine v_lookup (tgt := 84) (am_Dk d_Sg_kindOfMark (k := 1) rfl) (by decide) (show Op.lookupswitch.offset [(40, 59), (41, 63), (44, 75), (91, 67), (93, 71), (124, 79)] 83 x.toInt = 83 from by rw [Op.lookupswitch.offset_cons, if_neg (fun z => e1 z.symm), Op.lookupswitch.offset_cons, if_neg (fun z => e2 z.symm), Op.lookupswitch.offset_cons, if_neg (fun z => e3 z.symm), Op.lookupswitch.offset_cons, if_neg (fun z => e4 z.symm), Op.lookupswitch.offset_cons, if_neg (fun z => e5 z.symm), Op.lookupswitch.offset_cons, if_neg (fun z => e6 z.symm), Op.lookupswitch.offset_nil]) (by decide) ?_
  refine v_gets (v := .ref 37) (am_Dk d_Sg_kindOfMark (k := 14) rfl) s_Sg_131 (by decide +kernel) ?_
  exact v_areturn (am_Dk d_Sg_kindOfMark (k := 15) rfl) rfl (Or.inl ⟨_, rfl⟩) (by omega) (by omega) ⟨by simp [mkK, *], rfl, rfl⟩
set_option maxRecDepth 20000 in
theorem t_jM_min1 (G : am_G) {d nx : Nat} (hd : 0 ≤ d) {M : am_M} {a b : Int64} : am_Tr G m_jM_min1 d 0 0 [.long a, .long b] M nx (fun r M1 nx1 => r = .inl (some (.long (jmin a b))) ∧ M1 = M ∧ nx1 = nx) := by
  refine am_TrOfF (by decide +kernel) (Nat.le_of_ble_eq_true rfl) ?_
  show am_V G _ _ _ _ _ 0 [(0, .long a), (2, .long b)] [] M nx 0 0
  refine v_lload_n (am_Dk d_jM_min1 (k := 0) rfl) rfl ?_
  refine v_lload_n (am_Dk d_jM_min1 (k := 1) rfl) rfl ?_
  refine v_lcmp (am_Dk d_jM_min1 (k := 2) rfl) ?_
  refine v_if_gt (tgt := 10) (am_Dk d_jM_min1 (k := 3) rfl) (by decide) (fun c1 => ?_) (fun c1 => ?_)
  · have Nc1 := (lg_cmp_gt _ _).mp c1
    refine v_lload_n (am_Dk d_jM_min1 (k := 6) rfl) rfl ?_
    exact v_lreturn (am_Dk d_jM_min1 (k := 7) rfl) rfl (by omega) (by omega) ⟨by rw [jmin, if_neg (Int64.not_le.mpr Nc1)], rfl, rfl⟩
  · have Nc1 := fun z => c1 ((lg_cmp_gt _ _).mpr z)
    refine v_lload_n (am_Dk d_jM_min1 (k := 4) rfl) rfl ?_
    refine v_goto (tgt := 11) (am_Dk d_jM_min1 (k := 5) rfl) (by decide) ?_
    exact v_lreturn (am_Dk d_jM_min1 (k := 7) rfl) rfl (by omega) (by omega) ⟨by rw [jmin, if_pos (Int64.not_lt.mp Nc1)], rfl, rfl⟩
def kn_L : List Value := [.ref 0, .ref 1, .ref 2, .ref 3, .ref 4, .ref 5, .ref 6, .ref 7, .ref 8, .ref 9, .ref 10, .ref 11, .ref 12, .ref 13, .ref 14, .ref 15, .ref 16, .ref 17, .ref 18, .ref 19, .ref 20, .ref 21, .ref 22, .ref 23, .ref 24, .ref 25]
theorem kn_Lm : (53, FieldType.object "ValueReckoner$Name", kn_L) ∈ am_kt := by decide +kernel
theorem kn_Lg : ∀ i, i < 26 → kn_L.getD i .null = .ref i := by decide +kernel
set_option maxRecDepth 20000 in
theorem l_Nm_spelled1 (G : am_G) {d nx : Nat} (hd : 5 ≤ d) {M : am_M} {f : Nat → Int32} {n : Nat} (h1 : M 1001 = some (.inr (1, [.ref 1002, .int (nI n)]))) (h2 : M 1002 = some (.inl (0, 4096, .inl f))) (hn : n ≤ 4096) {x y : Nat} (hxy : x ≤ y) (hy : y ≤ n) : ∀ m i, i + m = 26 → splF f n x y m i = spl f n x y → am_V G m_Nm_spelled d 0 0 (fun r M1 nx1 => r = .inl (some (.ref (spl f n x y))) ∧ M1 = M ∧ nx1 = nx) 2 [(3, .int (nI i)), (0, .ref 1001), (1, .int (nI x)), (2, .int (nI y))] [] M nx 0 0 := by
  intro m
  induction m with
  | zero =>
    intro i him he
    refine v_iload_n (am_Dk d_Nm_spelled (k := 2) rfl) rfl ?_
    refine v_gets (v := .ref 53) (am_Dk d_Nm_spelled (k := 3) rfl) s_Nm_118 (by decide +kernel) ?_
    refine v_tlen (v := 26) (am_Dk d_Nm_spelled (k := 4) rfl) kn_Lm (by decide) ?_
    refine v_icmp_ge (tgt := 36) (am_Dk d_Nm_spelled (k := 5) rfl) (by decide) (fun c1 => ?_) (fun c1 => ?_)
    · have Nc1 := (nI_leI (a := 26) (b := i) (by omega) (by omega)).mp c1
      refine v_gets (v := .ref 0) (am_Dk d_Nm_spelled (k := 20) rfl) s_Nm_3 (by decide +kernel) ?_
      exact v_areturn (am_Dk d_Nm_spelled (k := 21) rfl) rfl (Or.inl ⟨_, rfl⟩) (by omega) (by omega) ⟨by rw [← he]; rfl, rfl, rfl⟩
    · have Nc1 : ¬ 26 ≤ i := fun z => c1 ((nI_leI (a := 26) (b := i) (by omega) (by omega)).mpr z)
      exfalso
      omega
  | succ m ih =>
    intro i him he
    rw [splF] at he
    refine v_iload_n (am_Dk d_Nm_spelled (k := 2) rfl) rfl ?_
    refine v_gets (v := .ref 53) (am_Dk d_Nm_spelled (k := 3) rfl) s_Nm_118 (by decide +kernel) ?_
    refine v_tlen (v := 26) (am_Dk d_Nm_spelled (k := 4) rfl) kn_Lm (by decide) ?_
    refine v_icmp_ge (tgt := 36) (am_Dk d_Nm_spelled (k := 5) rfl) (by decide) (fun c1 => ?_) (fun c1 => ?_)
    · have Nc1 := (nI_leI (a := 26) (b := i) (by omega) (by omega)).mp c1
      exfalso
      omega
    · have Nc1 : ¬ 26 ≤ i := fun z => c1 ((nI_leI (a := 26) (b := i) (by omega) (by omega)).mpr z)
      refine v_gets (v := .ref 53) (am_Dk d_Nm_spelled (k := 6) rfl) s_Nm_118 (by decide +kernel) ?_
      refine v_iload_n (am_Dk d_Nm_spelled (k := 7) rfl) rfl ?_
      refine v_taald (v := .ref i) (am_Dk d_Nm_spelled (k := 8) rfl) kn_Lm (vp_in_nI (show i < 26 by omega) (by decide)) (by rw [nI_clamp (n := i) (by omega)]; exact kn_Lg i (by omega)) ?_
      refine v_aload_n (am_Dk d_Nm_spelled (k := 9) rfl) rfl ?_
      refine v_iload_n (am_Dk d_Nm_spelled (k := 10) rfl) rfl ?_
      refine v_iload_n (am_Dk d_Nm_spelled (k := 11) rfl) rfl ?_
      refine v_callV (rest := []) (As := [.ref 1001, .int (nI x), .int (nI y)]) (mc' := 0) (ms' := 0) (am_Dk d_Nm_spelled (k := 12) rfl) c_Nm_121 (Or.inr (kn_all i (by omega)).1) (t_Nm_isSpelled G (d := 4) (by omega) h1 h2 (by omega) (by omega) (by omega) (by omega)) (by omega) (by omega) (by omega) (by simp [Value.category]) rfl (fun v2 M3 n4 h5 => ?_) (fun _ _ _ h5 => ?_)
      rotate_left
      · exact absurd h5.1 (by simp)
      obtain ⟨h5, e6, e7⟩ := h5
      replace e6 := e6.symm
      replace e7 := e7.symm
      subst e6
      subst e7
      cases h5
      show am_V G _ _ _ _ _ 21 [(3, .int (nI i)), (0, .ref 1001), (1, .int (nI x)), (2, .int (nI y))] [.int (bi (spw f n (kn_w i) x y))] M nx 0 0
      refine v_if_eq (tgt := 30) (am_Dk d_Nm_spelled (k := 13) rfl) (by decide) (fun c8 => ?_) (fun c8 => ?_)
      · have hB := bi0.mp c8
        refine v_iinc (v := nI (i + 1)) (L1 := [(3, .int (nI (i + 1))), (0, .ref 1001), (1, .int (nI x)), (2, .int (nI y))]) (am_Dk d_Nm_spelled (k := 18) rfl) rfl (nI_1 _) (by decide) rfl ?_
        refine v_goto (tgt := 2) (am_Dk d_Nm_spelled (k := 19) rfl) (by decide) ?_
        exact ih (i + 1) (by omega) (by rw [← he, if_neg (by rw [hB]; decide)])
      · have hB := bi1 c8
        refine v_gets (v := .ref 53) (am_Dk d_Nm_spelled (k := 14) rfl) s_Nm_118 (by decide +kernel) ?_
        refine v_iload_n (am_Dk d_Nm_spelled (k := 15) rfl) rfl ?_
        refine v_taald (v := .ref i) (am_Dk d_Nm_spelled (k := 16) rfl) kn_Lm (vp_in_nI (show i < 26 by omega) (by decide)) (by rw [nI_clamp (n := i) (by omega)]; exact kn_Lg i (by omega)) ?_
        exact v_areturn (am_Dk d_Nm_spelled (k := 17) rfl) rfl (Or.inl ⟨_, rfl⟩) (by omega) (by omega) ⟨by rw [← he, if_pos hB], rfl, rfl⟩
set_option maxRecDepth 20000 in
theorem t_Nm_spelled (G : am_G) {d nx : Nat} (hd : 5 ≤ d) {M : am_M} {f : Nat → Int32} {n : Nat} (h1 : M 1001 = some (.inr (1, [.ref 1002, .int (nI n)]))) (h2 : M 1002 = some (.inl (0, 4096, .inl f))) (hn : n ≤ 4096) {x y : Nat} (hxy : x ≤ y) (hy : y ≤ n) : am_Tr G m_Nm_spelled d 0 0 [.ref 1001, .int (nI x), .int (nI y)] M nx (fun r M1 nx1 => r = .inl (some (.ref (spl f n x y))) ∧ M1 = M ∧ nx1 = nx) := by
  refine am_TrOf (by decide) (Nat.le_of_ble_eq_true rfl) ?_
  show am_V G _ _ _ _ _ 0 [(0, .ref 1001), (1, .int (nI x)), (2, .int (nI y))] [] M nx 0 0
  refine v_iconst (v := 0) (am_Dk d_Nm_spelled (k := 0) rfl) (by decide) ?_
  refine v_istore_n (L1 := [(3, .int 0), (0, .ref 1001), (1, .int (nI x)), (2, .int (nI y))]) (am_Dk d_Nm_spelled (k := 1) rfl) (by decide) rfl ?_
  exact l_Nm_spelled1 G hd h1 h2 hn hxy hy 26 0 rfl rfl
set_option maxRecDepth 20000 in
theorem t_Sg_become (G : am_G) {d nx : Nat} (hd : 0 ≤ d) {M : am_M} {kd nm k : Nat} {pl af nf nt a : Int32} {nu : Int64} (h6 : M 1006 = some (.inr (6, [.ref 1001, .ref kd, .int pl, .int af, .long nu, .ref nm, .int nf, .int nt]))) : am_Tr G m_Sg_become d 0 0 [.ref 1006, .ref k, .int a] M nx (fun r M1 nx1 => r = .inl none ∧ M1 = am_up M 1006 (.inr (6, [.ref 1001, .ref k, .int pl, .int a, .long nu, .ref nm, .int nf, .int nt])) ∧ nx1 = nx) := by
  refine am_TrOf (by decide) (Nat.le_of_ble_eq_true rfl) ?_
  show am_V G _ _ _ _ _ 0 [(0, .ref 1006), (1, .ref k), (2, .int a)] [] M nx 0 0
  refine v_aload_n (am_Dk d_Sg_become (k := 0) rfl) rfl ?_
  refine v_aload_n (am_Dk d_Sg_become (k := 1) rfl) rfl ?_
  refine v_put (am_Dk d_Sg_become (k := 2) rfl) f_Sg_21 h6 (Nat.le_of_ble_eq_true rfl) rfl rfl ?_
  refine v_aload_n (am_Dk d_Sg_become (k := 3) rfl) rfl ?_
  refine v_iload_n (am_Dk d_Sg_become (k := 4) rfl) rfl ?_
  have m1 : (am_up M 1006 (.inr (6, [.ref 1001, .ref k, .int pl, .int af, .long nu, .ref nm, .int nf, .int nt]))) 1006 = some (.inr (6, [.ref 1001, .ref k, .int pl, .int af, .long nu, .ref nm, .int nf, .int nt])) := am_up_eq _ _ _
  refine v_put (am_Dk d_Sg_become (k := 5) rfl) f_Sg_33 m1 (Nat.le_of_ble_eq_true rfl) rfl rfl ?_
  rw [am_uu0 (a := 1006)]
  exact v_return (am_Dk d_Sg_become (k := 6) rfl) rfl (by omega) (by omega) ⟨rfl, rfl, rfl⟩
set_option maxRecDepth 20000 in
theorem t_Sg_becomeName (G : am_G) {d nx : Nat} (hd : 0 ≤ d) {M : am_M} {kd nm : Nat} {pl af nf nt a : Int32} {nu : Int64} (h6 : M 1006 = some (.inr (6, [.ref 1001, .ref kd, .int pl, .int af, .long nu, .ref nm, .int nf, .int nt]))) : am_Tr G m_Sg_becomeName d 0 0 [.ref 1006, .int a] M nx (fun r M1 nx1 => r = .inl none ∧ M1 = am_up M 1006 (.inr (6, [.ref 1001, .ref 28, .int pl, .int a, .long nu, .ref nm, .int pl, .int a])) ∧ nx1 = nx) := by
  refine am_TrOf (by decide) (Nat.le_of_ble_eq_true rfl) ?_
  show am_V G _ _ _ _ _ 0 [(0, .ref 1006), (1, .int a)] [] M nx 0 0
  refine v_aload_n (am_Dk d_Sg_becomeName (k := 0) rfl) rfl ?_
  refine v_gets (v := .ref 28) (am_Dk d_Sg_becomeName (k := 1) rfl) s_Sg_92 (by decide +kernel) ?_
  refine v_put (am_Dk d_Sg_becomeName (k := 2) rfl) f_Sg_21 h6 (Nat.le_of_ble_eq_true rfl) rfl rfl ?_
  refine v_aload_n (am_Dk d_Sg_becomeName (k := 3) rfl) rfl ?_
  refine v_iload_n (am_Dk d_Sg_becomeName (k := 4) rfl) rfl ?_
  have m1 : (am_up M 1006 (.inr (6, [.ref 1001, .ref 28, .int pl, .int af, .long nu, .ref nm, .int nf, .int nt]))) 1006 = some (.inr (6, [.ref 1001, .ref 28, .int pl, .int af, .long nu, .ref nm, .int nf, .int nt])) := am_up_eq _ _ _
  refine v_put (am_Dk d_Sg_becomeName (k := 5) rfl) f_Sg_33 m1 (Nat.le_of_ble_eq_true rfl) rfl rfl ?_
  rw [am_uu0 (a := 1006)]
  refine v_aload_n (am_Dk d_Sg_becomeName (k := 6) rfl) rfl ?_
  refine v_aload_n (am_Dk d_Sg_becomeName (k := 7) rfl) rfl ?_
  have m2 : (am_up M 1006 (.inr (6, [.ref 1001, .ref 28, .int pl, .int a, .long nu, .ref nm, .int nf, .int nt]))) 1006 = some (.inr (6, [.ref 1001, .ref 28, .int pl, .int a, .long nu, .ref nm, .int nf, .int nt])) := am_up_eq _ _ _
  refine v_get (am_Dk d_Sg_becomeName (k := 8) rfl) f_Sg_44 m2 rfl ?_
  refine v_put (am_Dk d_Sg_becomeName (k := 9) rfl) f_Sg_95 m2 (Nat.le_of_ble_eq_true rfl) rfl rfl ?_
  rw [am_uu0 (a := 1006)]
  refine v_aload_n (am_Dk d_Sg_becomeName (k := 10) rfl) rfl ?_
  refine v_iload_n (am_Dk d_Sg_becomeName (k := 11) rfl) rfl ?_
  have m3 : (am_up M 1006 (.inr (6, [.ref 1001, .ref 28, .int pl, .int a, .long nu, .ref nm, .int pl, .int nt]))) 1006 = some (.inr (6, [.ref 1001, .ref 28, .int pl, .int a, .long nu, .ref nm, .int pl, .int nt])) := am_up_eq _ _ _
  refine v_put (am_Dk d_Sg_becomeName (k := 12) rfl) f_Sg_98 m3 (Nat.le_of_ble_eq_true rfl) rfl rfl ?_
  rw [am_uu0 (a := 1006)]
  exact v_return (am_Dk d_Sg_becomeName (k := 13) rfl) rfl (by omega) (by omega) ⟨rfl, rfl, rfl⟩
set_option maxRecDepth 20000 in
theorem l_Sg_pastBlanks1 (G : am_G) {d nx : Nat} (hd : 1 ≤ d) {M : am_M} {f : Nat → Int32} {n : Nat} (h1 : M 1001 = some (.inr (1, [.ref 1002, .int (nI n)]))) (h2 : M 1002 = some (.inl (0, 4096, .inl f))) (hn : n ≤ 4096) {kd nm : Nat} {pl af nf nt : Int32} {nu : Int64} (h6 : M 1006 = some (.inr (6, [.ref 1001, .ref kd, .int pl, .int af, .long nu, .ref nm, .int nf, .int nt]))) {R : Nat} : ∀ m i (c : Bool), i + m = n → pbF (tb f n) n m i c = R → am_V G m_Sg_pastBlanks d 0 0 (fun r M1 nx1 => r = .inl (some (.int (nI R))) ∧ M1 = M ∧ nx1 = nx) 7 [(2, .int (nI i)), (1, .int (bi c)), (0, .ref 1006)] [] M nx 0 0 := by
  intro m
  induction m with
  | zero =>
    intro i c him he
    refine v_iload_n (am_Dk d_Sg_pastBlanks (k := 5) rfl) rfl ?_
    refine v_aload_n (am_Dk d_Sg_pastBlanks (k := 6) rfl) rfl ?_
    refine v_get (am_Dk d_Sg_pastBlanks (k := 7) rfl) f_Sg_9 h6 rfl ?_
    refine v_get (am_Dk d_Sg_pastBlanks (k := 8) rfl) f_Sg_114 h1 rfl ?_
    refine v_icmp_ge (tgt := 72) (am_Dk d_Sg_pastBlanks (k := 9) rfl) (by decide) (fun c1 => ?_) (fun c1 => ?_)
    · have Nc1 := (nI_leI (a := n) (b := i) (by omega) (by omega)).mp c1
      refine v_aload_n (am_Dk d_Sg_pastBlanks (k := 38) rfl) rfl ?_
      refine v_get (am_Dk d_Sg_pastBlanks (k := 39) rfl) f_Sg_9 h6 rfl ?_
      refine v_get (am_Dk d_Sg_pastBlanks (k := 40) rfl) f_Sg_114 h1 rfl ?_
      exact v_ireturn (am_Dk d_Sg_pastBlanks (k := 41) rfl) rfl rfl (by omega) (by omega) ⟨by rw [← he]; rfl, rfl, rfl⟩
    · have Nc1 : ¬ n ≤ i := fun z => c1 ((nI_leI (a := n) (b := i) (by omega) (by omega)).mpr z)
      exfalso
      omega
  | succ m ih =>
    intro i c him he
    rw [pbF] at he
    refine v_iload_n (am_Dk d_Sg_pastBlanks (k := 5) rfl) rfl ?_
    refine v_aload_n (am_Dk d_Sg_pastBlanks (k := 6) rfl) rfl ?_
    refine v_get (am_Dk d_Sg_pastBlanks (k := 7) rfl) f_Sg_9 h6 rfl ?_
    refine v_get (am_Dk d_Sg_pastBlanks (k := 8) rfl) f_Sg_114 h1 rfl ?_
    refine v_icmp_ge (tgt := 72) (am_Dk d_Sg_pastBlanks (k := 9) rfl) (by decide) (fun c1 => ?_) (fun c1 => ?_)
    · have Nc1 := (nI_leI (a := n) (b := i) (by omega) (by omega)).mp c1
      exfalso
      omega
    · have Nc1 : ¬ n ≤ i := fun z => c1 ((nI_leI (a := n) (b := i) (by omega) (by omega)).mpr z)
      refine v_aload_n (am_Dk d_Sg_pastBlanks (k := 10) rfl) rfl ?_
      refine v_get (am_Dk d_Sg_pastBlanks (k := 11) rfl) f_Sg_9 h6 rfl ?_
      refine v_iload_n (am_Dk d_Sg_pastBlanks (k := 12) rfl) rfl ?_
      refine v_callV (rest := []) (As := [.int (nI i)]) (mc' := 0) (ms' := 0) (am_Dk d_Sg_pastBlanks (k := 13) rfl) c_Sg_47 (Or.inl ⟨_, _, _, _, _, h1, cq_ok1⟩) (t_Tape_at G (d := 0) (i := i) (by omega) h1 h2 (by omega) (by omega)) (by omega) (by omega) (by omega) (by simp [Value.category]) rfl (fun v2 M3 n4 h5 => ?_) (fun _ _ _ h5 => ?_)
      rotate_left
      · exact absurd h5.1 (by simp)
      obtain ⟨h5, e6, e7⟩ := h5
      replace e6 := e6.symm
      replace e7 := e7.symm
      subst e6
      subst e7
      cases h5
      show am_V G _ _ _ _ _ 26 [(2, .int (nI i)), (1, .int (bi c)), (0, .ref 1006)] [.int (tb f n i)] M nx 0 0
      refine v_istore_n (L1 := [(3, .int (tb f n i)), (2, .int (nI i)), (1, .int (bi c)), (0, .ref 1006)]) (am_Dk d_Sg_pastBlanks (k := 14) rfl) (by decide) rfl ?_
      refine v_iload_n (am_Dk d_Sg_pastBlanks (k := 15) rfl) rfl ?_
      refine v_if_eq (tgt := 46) (am_Dk d_Sg_pastBlanks (k := 16) rfl) (by decide) (fun c8 => ?_) (fun c8 => ?_)
      · have Nc8 := bi0.mp c8
        refine v_iload_n (am_Dk d_Sg_pastBlanks (k := 25) rfl) rfl ?_
        refine v_bipush (v := 37) (am_Dk d_Sg_pastBlanks (k := 26) rfl) (by decide) ?_
        refine v_icmp_ne (tgt := 57) (am_Dk d_Sg_pastBlanks (k := 27) rfl) (by decide) (fun c9 => ?_) (fun c9 => ?_)
        · refine v_iload_n (am_Dk d_Sg_pastBlanks (k := 31) rfl) rfl ?_
          refine v_callS (rest := []) (As := [.int (tb f n i)]) (mc' := 0) (ms' := 0) (am_Dk d_Sg_pastBlanks (k := 32) rfl) c_Sg_140 (t_Sg_isBlank G (d := 0)) (by omega) (by omega) (by omega) (by simp [Value.category]) rfl (fun v10 M11 n12 h13 => ?_) (fun _ _ _ h13 => ?_)
          rotate_left
          · exact absurd h13.1 (by simp)
          obtain ⟨h13, e14, e15⟩ := h13
          replace e14 := e14.symm
          replace e15 := e15.symm
          subst e14
          subst e15
          cases h13
          show am_V G _ _ _ _ _ 61 [(3, .int (tb f n i)), (2, .int (nI i)), (1, .int (bi c)), (0, .ref 1006)] [.int (bi (blB (tb f n i)))] M nx 0 0
          refine v_if_ne (tgt := 66) (am_Dk d_Sg_pastBlanks (k := 33) rfl) (by decide) (fun c16 => ?_) (fun c16 => ?_)
          · have Nc16 := bi1 c16
            refine v_iinc (v := nI (i + 1)) (L1 := [(2, .int (nI (i + 1))), (3, .int (tb f n i)), (1, .int (bi c)), (0, .ref 1006)]) (am_Dk d_Sg_pastBlanks (k := 36) rfl) rfl (nI_1 _) (by decide) rfl ?_
            refine v_goto (tgt := 7) (am_Dk d_Sg_pastBlanks (k := 37) rfl) (by decide) ?_
            refine v_drop (L := [(2, .int (nI (i + 1))), (1, .int (bi c)), (0, .ref 1006)]) ?_ (by simp)
            exact ih (i + 1) c (by omega) (by simpa [*] using he)
          · have Nc16 := bi0.mp c16
            refine v_iload_n (am_Dk d_Sg_pastBlanks (k := 34) rfl) rfl ?_
            exact v_ireturn (am_Dk d_Sg_pastBlanks (k := 35) rfl) rfl rfl (by omega) (by omega) ⟨by simp [*] at he; rw [he], rfl, rfl⟩
        · refine v_iconst (v := 1) (am_Dk d_Sg_pastBlanks (k := 28) rfl) (by decide) ?_
          refine v_istore_n (L1 := [(1, .int 1), (3, .int (tb f n i)), (2, .int (nI i)), (0, .ref 1006)]) (am_Dk d_Sg_pastBlanks (k := 29) rfl) (by decide) rfl ?_
          refine v_goto (tgt := 66) (am_Dk d_Sg_pastBlanks (k := 30) rfl) (by decide) ?_
          refine v_iinc (v := nI (i + 1)) (L1 := [(2, .int (nI (i + 1))), (1, .int 1), (3, .int (tb f n i)), (0, .ref 1006)]) (am_Dk d_Sg_pastBlanks (k := 36) rfl) rfl (nI_1 _) (by decide) rfl ?_
          refine v_goto (tgt := 7) (am_Dk d_Sg_pastBlanks (k := 37) rfl) (by decide) ?_
          refine v_drop (L := [(2, .int (nI (i + 1))), (1, .int 1), (0, .ref 1006)]) ?_ (by simp)
          exact ih (i + 1) true (by omega) (by simpa [*] using he)
      · have Nc8 := bi1 c8
        refine v_iload_n (am_Dk d_Sg_pastBlanks (k := 17) rfl) rfl ?_
        refine v_bipush (v := 10) (am_Dk d_Sg_pastBlanks (k := 18) rfl) (by decide) ?_
        refine v_icmp_eq (tgt := 41) (am_Dk d_Sg_pastBlanks (k := 19) rfl) (by decide) (fun c17 => ?_) (fun c17 => ?_)
        · refine v_iconst (v := 0) (am_Dk d_Sg_pastBlanks (k := 22) rfl) (by decide) ?_
          refine v_istore_n (L1 := [(1, .int 0), (3, .int (tb f n i)), (2, .int (nI i)), (0, .ref 1006)]) (am_Dk d_Sg_pastBlanks (k := 23) rfl) (by decide) rfl ?_
          refine v_goto (tgt := 66) (am_Dk d_Sg_pastBlanks (k := 24) rfl) (by decide) ?_
          refine v_iinc (v := nI (i + 1)) (L1 := [(2, .int (nI (i + 1))), (1, .int 0), (3, .int (tb f n i)), (0, .ref 1006)]) (am_Dk d_Sg_pastBlanks (k := 36) rfl) rfl (nI_1 _) (by decide) rfl ?_
          refine v_goto (tgt := 7) (am_Dk d_Sg_pastBlanks (k := 37) rfl) (by decide) ?_
          refine v_drop (L := [(2, .int (nI (i + 1))), (1, .int 0), (0, .ref 1006)]) ?_ (by simp)
          exact ih (i + 1) false (by omega) (by simpa [*] using he)
        · refine v_iconst (v := 1) (am_Dk d_Sg_pastBlanks (k := 20) rfl) (by decide) ?_
          refine v_goto (tgt := 42) (am_Dk d_Sg_pastBlanks (k := 21) rfl) (by decide) ?_
          refine v_istore_n (L1 := [(1, .int 1), (3, .int (tb f n i)), (2, .int (nI i)), (0, .ref 1006)]) (am_Dk d_Sg_pastBlanks (k := 23) rfl) (by decide) rfl ?_
          refine v_goto (tgt := 66) (am_Dk d_Sg_pastBlanks (k := 24) rfl) (by decide) ?_
          refine v_iinc (v := nI (i + 1)) (L1 := [(2, .int (nI (i + 1))), (1, .int 1), (3, .int (tb f n i)), (0, .ref 1006)]) (am_Dk d_Sg_pastBlanks (k := 36) rfl) rfl (nI_1 _) (by decide) rfl ?_
          refine v_goto (tgt := 7) (am_Dk d_Sg_pastBlanks (k := 37) rfl) (by decide) ?_
          refine v_drop (L := [(2, .int (nI (i + 1))), (1, .int 1), (0, .ref 1006)]) ?_ (by simp)
          exact ih (i + 1) true (by omega) (by simpa [*] using he)
set_option maxRecDepth 20000 in
theorem t_Sg_pastBlanks (G : am_G) {d nx : Nat} (hd : 1 ≤ d) {M : am_M} {f : Nat → Int32} {n : Nat} (h1 : M 1001 = some (.inr (1, [.ref 1002, .int (nI n)]))) (h2 : M 1002 = some (.inl (0, 4096, .inl f))) (hn : n ≤ 4096) {kd nm : Nat} {pl af nf nt : Int32} {nu : Int64} {a : Nat} (ha : a ≤ n) (h6 : M 1006 = some (.inr (6, [.ref 1001, .ref kd, .int pl, .int (nI a), .long nu, .ref nm, .int nf, .int nt]))) : am_Tr G m_Sg_pastBlanks d 0 0 [.ref 1006] M nx (fun r M1 nx1 => r = .inl (some (.int (nI (pb (tb f n) n a)))) ∧ M1 = M ∧ nx1 = nx) := by
  refine am_TrOf (by decide) (Nat.le_of_ble_eq_true rfl) ?_
  show am_V G _ _ _ _ _ 0 [(0, .ref 1006)] [] M nx 0 0
  refine v_iconst (v := 0) (am_Dk d_Sg_pastBlanks (k := 0) rfl) (by decide) ?_
  refine v_istore_n (L1 := [(1, .int 0), (0, .ref 1006)]) (am_Dk d_Sg_pastBlanks (k := 1) rfl) (by decide) rfl ?_
  refine v_aload_n (am_Dk d_Sg_pastBlanks (k := 2) rfl) rfl ?_
  refine v_get (am_Dk d_Sg_pastBlanks (k := 3) rfl) f_Sg_33 h6 rfl ?_
  refine v_istore_n (L1 := [(2, .int (nI a)), (1, .int 0), (0, .ref 1006)]) (am_Dk d_Sg_pastBlanks (k := 4) rfl) (by decide) rfl ?_
  exact l_Sg_pastBlanks1 G hd h1 h2 hn h6 (n - a) a false (by omega) rfl
set_option maxRecDepth 20000 in
theorem l_Sg_pastLetters1 (G : am_G) {d nx : Nat} (hd : 1 ≤ d) {M : am_M} {f : Nat → Int32} {n : Nat} (h1 : M 1001 = some (.inr (1, [.ref 1002, .int (nI n)]))) (h2 : M 1002 = some (.inl (0, 4096, .inl f))) (hn : n ≤ 4096) {kd nm : Nat} {pl af nf nt : Int32} {nu : Int64} (h6 : M 1006 = some (.inr (6, [.ref 1001, .ref kd, .int pl, .int af, .long nu, .ref nm, .int nf, .int nt]))) {R : Nat} : ∀ m i , i + m = n → pltF (tb f n) n m i  = R → am_V G m_Sg_pastLetters d 0 0 (fun r M1 nx1 => r = .inl (some (.int (nI R))) ∧ M1 = M ∧ nx1 = nx) 5 [(1, .int (nI i)), (0, .ref 1006)] [] M nx 0 0 := by
  intro m
  induction m with
  | zero =>
    intro i  him he
    refine v_iload_n (am_Dk d_Sg_pastLetters (k := 3) rfl) rfl ?_
    refine v_aload_n (am_Dk d_Sg_pastLetters (k := 4) rfl) rfl ?_
    refine v_get (am_Dk d_Sg_pastLetters (k := 5) rfl) f_Sg_9 h6 rfl ?_
    refine v_get (am_Dk d_Sg_pastLetters (k := 6) rfl) f_Sg_114 h1 rfl ?_
    refine v_icmp_ge (tgt := 54) (am_Dk d_Sg_pastLetters (k := 7) rfl) (by decide) (fun c1 => ?_) (fun c1 => ?_)
    · have Nc1 := (nI_leI (a := n) (b := i) (by omega) (by omega)).mp c1
      refine v_aload_n (am_Dk d_Sg_pastLetters (k := 26) rfl) rfl ?_
      refine v_get (am_Dk d_Sg_pastLetters (k := 27) rfl) f_Sg_9 h6 rfl ?_
      refine v_get (am_Dk d_Sg_pastLetters (k := 28) rfl) f_Sg_114 h1 rfl ?_
      exact v_ireturn (am_Dk d_Sg_pastLetters (k := 29) rfl) rfl rfl (by omega) (by omega) ⟨by rw [← he]; rfl, rfl, rfl⟩
    · have Nc1 : ¬ n ≤ i := fun z => c1 ((nI_leI (a := n) (b := i) (by omega) (by omega)).mpr z)
      exfalso
      omega
  | succ m ih =>
    intro i  him he
    rw [pltF] at he
    refine v_iload_n (am_Dk d_Sg_pastLetters (k := 3) rfl) rfl ?_
    refine v_aload_n (am_Dk d_Sg_pastLetters (k := 4) rfl) rfl ?_
    refine v_get (am_Dk d_Sg_pastLetters (k := 5) rfl) f_Sg_9 h6 rfl ?_
    refine v_get (am_Dk d_Sg_pastLetters (k := 6) rfl) f_Sg_114 h1 rfl ?_
    refine v_icmp_ge (tgt := 54) (am_Dk d_Sg_pastLetters (k := 7) rfl) (by decide) (fun c1 => ?_) (fun c1 => ?_)
    · have Nc1 := (nI_leI (a := n) (b := i) (by omega) (by omega)).mp c1
      exfalso
      omega
    · have Nc1 : ¬ n ≤ i := fun z => c1 ((nI_leI (a := n) (b := i) (by omega) (by omega)).mpr z)
      refine v_aload_n (am_Dk d_Sg_pastLetters (k := 8) rfl) rfl ?_
      refine v_get (am_Dk d_Sg_pastLetters (k := 9) rfl) f_Sg_9 h6 rfl ?_
      refine v_iload_n (am_Dk d_Sg_pastLetters (k := 10) rfl) rfl ?_
      refine v_callV (rest := []) (As := [.int (nI i)]) (mc' := 0) (ms' := 0) (am_Dk d_Sg_pastLetters (k := 11) rfl) c_Sg_47 (Or.inl ⟨_, _, _, _, _, h1, cq_ok1⟩) (t_Tape_at G (d := 0) (i := i) (by omega) h1 h2 (by omega) (by omega)) (by omega) (by omega) (by omega) (by simp [Value.category]) rfl (fun v2 M3 n4 h5 => ?_) (fun _ _ _ h5 => ?_)
      rotate_left
      · exact absurd h5.1 (by simp)
      obtain ⟨h5, e6, e7⟩ := h5
      replace e6 := e6.symm
      replace e7 := e7.symm
      subst e6
      subst e7
      cases h5
      show am_V G _ _ _ _ _ 24 [(1, .int (nI i)), (0, .ref 1006)] [.int (tb f n i)] M nx 0 0
      refine v_istore_n (L1 := [(2, .int (tb f n i)), (1, .int (nI i)), (0, .ref 1006)]) (am_Dk d_Sg_pastLetters (k := 12) rfl) (by decide) rfl ?_
      refine v_iload_n (am_Dk d_Sg_pastLetters (k := 13) rfl) rfl ?_
      refine v_callS (rest := []) (As := [.int (tb f n i)]) (mc' := 0) (ms' := 0) (am_Dk d_Sg_pastLetters (k := 14) rfl) c_Sg_53 (t_Sg_isCapital G (d := 0)) (by omega) (by omega) (by omega) (by simp [Value.category]) rfl (fun v8 M9 n10 h11 => ?_) (fun _ _ _ h11 => ?_)
      rotate_left
      · exact absurd h11.1 (by simp)
      obtain ⟨h11, e12, e13⟩ := h11
      replace e12 := e12.symm
      replace e13 := e13.symm
      subst e12
      subst e13
      cases h11
      show am_V G _ _ _ _ _ 29 [(2, .int (tb f n i)), (1, .int (nI i)), (0, .ref 1006)] [.int (bi (cpB (tb f n i)))] M nx 0 0
      refine v_if_ne (tgt := 48) (am_Dk d_Sg_pastLetters (k := 15) rfl) (by decide) (fun c14 => ?_) (fun c14 => ?_)
      · have Nc14 := bi1 c14
        refine v_iinc (v := nI (i + 1)) (L1 := [(1, .int (nI (i + 1))), (2, .int (tb f n i)), (0, .ref 1006)]) (am_Dk d_Sg_pastLetters (k := 24) rfl) rfl (nI_1 _) (by decide) rfl ?_
        refine v_goto (tgt := 5) (am_Dk d_Sg_pastLetters (k := 25) rfl) (by decide) ?_
        refine v_drop (L := [(1, .int (nI (i + 1))), (0, .ref 1006)]) ?_ (by simp)
        exact ih (i + 1) (by omega) (by simpa [*] using he)
      · have Nc14 := bi0.mp c14
        refine v_iload_n (am_Dk d_Sg_pastLetters (k := 16) rfl) rfl ?_
        refine v_callS (rest := []) (As := [.int (tb f n i)]) (mc' := 0) (ms' := 0) (am_Dk d_Sg_pastLetters (k := 17) rfl) c_Sg_73 (t_Sg_isSmall G (d := 0)) (by omega) (by omega) (by omega) (by simp [Value.category]) rfl (fun v15 M16 n17 h18 => ?_) (fun _ _ _ h18 => ?_)
        rotate_left
        · exact absurd h18.1 (by simp)
        obtain ⟨h18, e19, e20⟩ := h18
        replace e19 := e19.symm
        replace e20 := e20.symm
        subst e19
        subst e20
        cases h18
        show am_V G _ _ _ _ _ 36 [(2, .int (tb f n i)), (1, .int (nI i)), (0, .ref 1006)] [.int (bi (smB (tb f n i)))] M nx 0 0
        refine v_if_ne (tgt := 48) (am_Dk d_Sg_pastLetters (k := 18) rfl) (by decide) (fun c21 => ?_) (fun c21 => ?_)
        · have Nc21 := bi1 c21
          refine v_iinc (v := nI (i + 1)) (L1 := [(1, .int (nI (i + 1))), (2, .int (tb f n i)), (0, .ref 1006)]) (am_Dk d_Sg_pastLetters (k := 24) rfl) rfl (nI_1 _) (by decide) rfl ?_
          refine v_goto (tgt := 5) (am_Dk d_Sg_pastLetters (k := 25) rfl) (by decide) ?_
          refine v_drop (L := [(1, .int (nI (i + 1))), (0, .ref 1006)]) ?_ (by simp)
          exact ih (i + 1) (by omega) (by simpa [*] using he)
        · have Nc21 := bi0.mp c21
          refine v_iload_n (am_Dk d_Sg_pastLetters (k := 19) rfl) rfl ?_
          refine v_callS (rest := []) (As := [.int (tb f n i)]) (mc' := 0) (ms' := 0) (am_Dk d_Sg_pastLetters (k := 20) rfl) c_Sg_67 (t_Sg_isDigit G (d := 0)) (by omega) (by omega) (by omega) (by simp [Value.category]) rfl (fun v22 M23 n24 h25 => ?_) (fun _ _ _ h25 => ?_)
          rotate_left
          · exact absurd h25.1 (by simp)
          obtain ⟨h25, e26, e27⟩ := h25
          replace e26 := e26.symm
          replace e27 := e27.symm
          subst e26
          subst e27
          cases h25
          show am_V G _ _ _ _ _ 43 [(2, .int (tb f n i)), (1, .int (nI i)), (0, .ref 1006)] [.int (bi (dgB (tb f n i)))] M nx 0 0
          refine v_if_ne (tgt := 48) (am_Dk d_Sg_pastLetters (k := 21) rfl) (by decide) (fun c28 => ?_) (fun c28 => ?_)
          · have Nc28 := bi1 c28
            refine v_iinc (v := nI (i + 1)) (L1 := [(1, .int (nI (i + 1))), (2, .int (tb f n i)), (0, .ref 1006)]) (am_Dk d_Sg_pastLetters (k := 24) rfl) rfl (nI_1 _) (by decide) rfl ?_
            refine v_goto (tgt := 5) (am_Dk d_Sg_pastLetters (k := 25) rfl) (by decide) ?_
            refine v_drop (L := [(1, .int (nI (i + 1))), (0, .ref 1006)]) ?_ (by simp)
            exact ih (i + 1) (by omega) (by simpa [*] using he)
          · have Nc28 := bi0.mp c28
            refine v_iload_n (am_Dk d_Sg_pastLetters (k := 22) rfl) rfl ?_
            exact v_ireturn (am_Dk d_Sg_pastLetters (k := 23) rfl) rfl rfl (by omega) (by omega) ⟨by simp [*] at he; rw [he], rfl, rfl⟩
set_option maxRecDepth 20000 in
theorem t_Sg_pastLetters (G : am_G) {d nx : Nat} (hd : 1 ≤ d) {M : am_M} {f : Nat → Int32} {n : Nat} (h1 : M 1001 = some (.inr (1, [.ref 1002, .int (nI n)]))) (h2 : M 1002 = some (.inl (0, 4096, .inl f))) (hn : n ≤ 4096) {kd nm : Nat} {pl af nf nt : Int32} {nu : Int64} {a : Nat} (ha : a ≤ n) (h6 : M 1006 = some (.inr (6, [.ref 1001, .ref kd, .int (nI a), .int af, .long nu, .ref nm, .int nf, .int nt]))) : am_Tr G m_Sg_pastLetters d 0 0 [.ref 1006] M nx (fun r M1 nx1 => r = .inl (some (.int (nI (plt (tb f n) n a)))) ∧ M1 = M ∧ nx1 = nx) := by
  refine am_TrOf (by decide) (Nat.le_of_ble_eq_true rfl) ?_
  show am_V G _ _ _ _ _ 0 [(0, .ref 1006)] [] M nx 0 0
  refine v_aload_n (am_Dk d_Sg_pastLetters (k := 0) rfl) rfl ?_
  refine v_get (am_Dk d_Sg_pastLetters (k := 1) rfl) f_Sg_44 h6 rfl ?_
  refine v_istore_n (L1 := [(1, .int (nI a)), (0, .ref 1006)]) (am_Dk d_Sg_pastLetters (k := 2) rfl) (by decide) rfl ?_
  exact l_Sg_pastLetters1 G hd h1 h2 hn h6 (n - a) a (by omega) rfl
