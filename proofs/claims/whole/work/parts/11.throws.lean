/-! THROWS OF THE SMALL MACHINE (mine): an exception made without a message, thrown, let through, caught -/
theorem xx_isRef {args : Array Value} {C n ds : String} {A : Nat → Prop} {s : State} (hz : va_Zq C n ds A s s.heap) : (Cond.isRef (.static C n ds)).before args s = true := by
  rcases hz with ⟨cf, kf, fi, f, a, cell, h1, h2, h3, h4, h5, h6, h7, h8⟩ | ⟨t, cf, kf, fi, f, a, cell, h1, h2, h3, h4, h5, h6, h7, h8⟩
  · simp [Cond.before, Cond.holds, Cond.value, Term.eval, State.fieldNamed?, h1, h2, h4, h5, h6, h7]
  · simp [Cond.before, Cond.holds, Cond.value, Term.eval, State.fieldNamed?, h1, h2, h4, h5, h6, h7]
section XX1
variable {p : Program} {l : Launch} {e : Env} {R : Room} {s : State} {m₀ : MethodId} {args : Array Value} {below : List Frame} {meth : Method} {c : Code} {W0 : State} {locs : List Loc} {cells slots : Nat}
set_option maxHeartbeats 1000000 in
/-- the constructor of a fresh exception, no stack traces kept: it comes back, the cell is of its class -/
theorem xx_ctor0 (X : Stand p l e R s m₀ args below meth c W0 locs cells slots) (hexec : p.tables.exec = Jvm.exec) (htr : e.platform.stackTraces = false) {own cls : String} {names : List String} {ic : Nat}
    (hown : s.vm.findClass own = some m₀.cls) (hcls : Bundle.fit cls = true) (hnames : ∀ n ∈ names, Bundle.fit n = true)
    (h : ∀ a ∈ Bundle.ownAtoms0 own ic cls names, a.before args s = true) {A : Nat → Prop} (hZ : va_Zq "java/lang/Throwable" "UNASSIGNED_STACK" "[Ljava/lang/StackTraceElement;" A s s.heap) (hlocs : ∀ x ∈ locs, A x.base)
    {a : Addr} {cX : ClassId} {kX : Class} (hfoundX : s.vm.findClass cls = some cX) (hkX : s.vm.classes[cX]? = some kX) (hcell : W0.heap[a]? = some (freshCell cX kX)) (hnew : s.heap.size ≤ a)
    {g : JFrame} (hg : g.method = m₀) (hsize : g.locals.size = c.maxLocals) {rest : List Value} (hstack : g.stack = .ref a :: rest) (hd6 : decode c.code g.pc = .ok (.invokespecial ic, 3))
    (hRframes : names.length + 3 < R.frames) (hRlocals : 2 * g.monitorRoom + (rest.map fun v => v.category).sum + (13 * (names.length + 1) + 41) ≤ R.locals) :
    ∃ (vm' : Vm) (ce : Cell), ce.cls = cX ∧ ce.vm = .none ∧ Stand p l e R s m₀ args below meth c ((W0.setVm vm').setCell a ce) locs cells slots ∧
      ∀ target, Steps p.tables e below (((W0.setVm vm').setCell a ce).setTop { g with pc := g.pc + 3, stack := rest }) target → Steps p.tables e below (W0.setTop g) target := by
  have howns : e.platform.frameOwnsMonitors = true := by rw [X.admits.platform]
  have hfin : e.platform.finalization = false := by rw [X.admits.platform]
  have hpl : e.platform.magicAccessors = ({} : Platform).magicAccessors := by rw [X.admits.platform]
  have a' : ∀ x, x ∈ Bundle.ownAtoms0 own ic cls names → x.holds args s none s [] = true := fun x hx => h x hx
  obtain ⟨T, Z, L, LZ, Y⟩ := ThrowableC.of_atoms (args := args) howns hfin hpl (fun x hx => h x (by simp [Bundle.ownAtoms0, hx]))
  obtain ⟨P1, Ps, hlen, L1, hL, hP1m, hlink1, hlink⟩ := Bundle.chain0 (args := args) hpl Y.init0 names cls hcls hnames (fun x hx => h x (by simp [Bundle.ownAtoms0, hx]))
  have hfound : s.vm.findClass cls = some P1.m.cls := findClass_of_methodNamed hP1m
  cases Option.some.inj (hfoundX.symm.trans hfound)
  obtain ⟨c1, kX', hc1, hk, hord, -, -, hn6⟩ := Cond.instantiable_spec (a' (.instantiable cls 6) (by simp [Bundle.ownAtoms0]))
  cases Option.some.inj (hc1.symm.trans hfound)
  cases Option.some.inj (hkX.symm.trans hk)
  have hsel0 : selectMethod e.platform s.vm P1.m.cls T.fill0 = .method T.fill0 := by
    obtain ⟨c2, r2, m2, q1, q2, q3, q4, -⟩ := Cond.selects_spec (a' (.selects cls Bundle.tFill0 Bundle.tFill0) (by simp [Bundle.ownAtoms0]))
    cases Option.some.inj (q1.symm.trans hfound)
    cases Option.some.inj (q2.symm.trans (State.methodFound?_of_named Y.fill0 (by decide)))
    cases Option.some.inj (q3.symm.trans Y.fill0)
    rw [Launch.admits_selectMethod X.admits]; exact q4
  have hselF : selectMethod e.platform s.vm P1.m.cls T.fill = .method T.fill := by
    obtain ⟨c2, r2, m2, q1, q2, q3, q4, -⟩ := Cond.selects_spec (a' (.selects cls Bundle.tFill Bundle.tFill) (by simp [Bundle.ownAtoms0]))
    cases Option.some.inj (q1.symm.trans hfound)
    cases Option.some.inj (q2.symm.trans (State.methodFound?_of_named Y.fill (by decide)))
    cases Option.some.inj (q3.symm.trans Y.fill)
    rw [Launch.admits_selectMethod X.admits]; exact q4
  obtain ⟨cellS0, hcS0, hiss⟩ := Y.statics
  obtain ⟨u0, hu0⟩ := Cond.staticRefV Y.unassigned L.unassignedStatic L.statics hcS0 hiss (a' (.isRef (.static Bundle.tN "UNASSIGNED_STACK" Bundle.steD)) (by simp [Bundle.ownAtoms0]))
  obtain ⟨sen, hsen⟩ := Cond.staticRefV Y.sentinel L.sentinelStatic L.statics hcS0 hiss (a' (.isRef (.static Bundle.tN "SUPPRESSED_SENTINEL" Bundle.listD)) (by simp [Bundle.ownAtoms0]))
  obtain ⟨ci198, i198, fB, hk198, hg198, ha198, hsB, -, hnB, htB, hffB⟩ := Cond.ownField (t := .object "java/lang/Object") Y.found L.cls (by decide +kernel) (a' (.fieldLink Bundle.tN 198 Bundle.tN "backtrace" "Ljava/lang/Object;") (by simp [Bundle.ownAtoms0])) (a' (.lays Bundle.tN Bundle.tN "backtrace" "Ljava/lang/Object;") (by simp [Bundle.ownAtoms0])) e.platform hpl
  obtain ⟨cellS, hcS', heS, -, hkeep⟩ := X.same.2.2.2.2.2 T.aS cellS0 hcS0
  have hcellS : W0.heap[T.aS]? = some cellS := hcS'
  have hnA : ¬ A T.aS := by
    have key : ∀ w, va_Z "java/lang/Throwable" "UNASSIGNED_STACK" "[Ljava/lang/StackTraceElement;" w A s s.heap → ¬ A T.aS := by
      intro w hz
      obtain ⟨cf, kf, fi, f, az, cz, h1, -, -, h4, -, -, -, h8⟩ := hz
      have e1 := Option.some.inj (h1.symm.trans Y.unassigned)
      have e2 : kf = T.kT := congrArg (fun q => q.2.1) e1
      rw [e2, L.statics] at h4
      rw [Option.some.inj h4]
      exact h8
    rcases hZ with hz | ⟨t, hz⟩
    · exact key _ hz
    · exact key _ hz
  have hout' : ∀ i, (⟨T.aS, i⟩ : Loc) ∉ locs := fun i hmem => hnA (hlocs _ hmem)
  have hknownS : cellS.vm ≠ .unknown := by
    rw [heS]; intro hu
    rw [show cellS0.vm = .unknown from hu] at hiss
    cases hiss
  have hneS : T.aS ≠ a := Nat.ne_of_lt (Nat.lt_of_lt_of_le (Array.getElem?_eq_some_iff.mp hcS0).1 hnew)
  obtain ⟨tyC, dC, hdC, hdnC⟩ := Cond.laysAt hfound hk Y.cause (a' (.lays cls Bundle.tN "cause" "Ljava/lang/Throwable;") (by simp [Bundle.ownAtoms0]))
  obtain ⟨tyS, dS, hdS, hdnS⟩ := Cond.laysAt hfound hk Y.stack (a' (.lays cls Bundle.tN "stackTrace" Bundle.steD) (by simp [Bundle.ownAtoms0]))
  obtain ⟨tyP, dP, hdP, hdnP⟩ := Cond.laysAt hfound hk Y.supp (a' (.lays cls Bundle.tN "suppressedExceptions" Bundle.listD) (by simp [Bundle.ownAtoms0]))
  obtain ⟨tyB, dB, hdB, hdnB⟩ := Cond.laysAt hfound hk hffB (a' (.lays cls Bundle.tN "backtrace" "Ljava/lang/Object;") (by simp [Bundle.ownAtoms0]))
  have bC := Cond.laysApart hdB hdC hdnB hdnC (by rw [hnB, Y.causeName]; decide)
  have bS := Cond.laysApart hdB hdS hdnB hdnS (by rw [hnB, Y.stackName]; decide)
  have bP := Cond.laysApart hdB hdP hdnB hdnP (by rw [hnB, Y.suppName]; decide)
  have hskip : SkipFacts T e.platform s (fun u => u) u0 ((preparedCellV T.toThrowableT (freshCell P1.m.cls kX) a u0 sen).withEntry W0.cur) :=
    ⟨{ ci198 := ci198, i198 := i198, fBack := fB }, ⟨hk198, hg198, ha198, hsB⟩, by
      have := fresh_default (c := P1.m.cls) tyB
      rw [htB] at this
      simpa [preparedCellV, Cell.setSlot, Cell.withEntry, Array.getElem?_setIfInBounds, bC, bS, bP, bC.symm, bS.symm, bP.symm, defaultValue] using this, fun _ _ => rfl⟩
  obtain ⟨tm, methC, cdC, kC, vm₁, hnC, -, -, -, -, -, -, -, hW₁, st1⟩ := Steps.initCold (tb := p.tables) (e := e) (below := below) (s := s) (U := W0) X.here hexec X.warmed hpl hown (t := Bundle.init0 cls) rfl rfl (Bundle.fit_spec hcls).2
    (a' (.methodLink own ic (Bundle.init0 cls)) (by simp [Bundle.ownAtoms0])) (h (.instanceMethod (Bundle.init0 cls)) (by cases names <;> simp [Bundle.ownAtoms0, Bundle.chain0Atoms, Bundle.passAtoms])) (bytes := Bundle.five) (maxL := 1) (h (.code (Bundle.init0 cls) Bundle.five 1 none) (by cases names <;> simp [Bundle.ownAtoms0, Bundle.chain0Atoms, Bundle.passAtoms]))
    (f := g) hg (a := a) (rest := rest) hstack hd6
  cases Option.some.inj (hnC.symm.trans hP1m)
  have X₁ := X.noted hW₁
  obtain ⟨vm₂, X₂, st2⟩ := X₁.ctorPlainOffV hexec (g := { g with stack := rest }) hg hsize T L Z LZ (P1 :: Ps)
    (fun P hP => by rcases List.mem_cons.mp hP with rfl | hP; exact L1; exact hL P hP) ⟨hlink1, hlink⟩ (u0 := u0) (sen := sen) (self := a) (cell := freshCell P1.m.cls kX) (cellS := cellS)
    hcell (fun _ => by simp) (by simp) rfl rfl hsel0 hselF hcellS hneS hknownS (by rw [hkeep _ (hout' _)]; exact hu0) (by rw [hkeep _ (hout' _)]; exact hsen)
    (Takes.of_laid hk hord tyC (by rw [Y.causeType]; rfl)) (Takes.of_laid hk hord tyS (by rw [Y.stackType]; exact fits_refV_array _ u0)) (Takes.of_laid hk hord tyP (by rw [Y.suppType]; exact fits_refV_object _ sen)) Y.objLocals hskip htr [] hd6
    (by simp only [List.length_cons, hlen]; omega) (by simp only [List.length_cons, hlen]; exact hRlocals)
  have X₃ := X₂.forget (fun y hy => by
    simp only [List.mem_cons, List.not_mem_nil, or_false] at hy
    rcases hy with rfl | rfl | rfl | rfl <;> exact hnew)
  refine ⟨vm₂, _, rfl, rfl, X₃, fun target hrest => st1 _ (fun acts => ?_)⟩
  rw [doInvoke_state]
  exact st2 _ hrest
end XX1
/-- the words of a made exception: 'new', the constructor's link, the chain of its superclasses -/
def am_xw (own : String) (index ic ci : Nat) (C : String) : Prop := (∃ T ty, am_clP ci C T 0 ty) ∧ am_has (.classLink own index C) ∧ am_has (.instantiable C 6) ∧ am_has (.initialized C) ∧ Bundle.fit C = true ∧
  ∀ a ∈ Bundle.ownAtoms0 own ic C ["java/lang/RuntimeException", "java/lang/Exception"], am_has a ∨ a = .isRef (.static Bundle.tN "UNASSIGNED_STACK" Bundle.steD) ∨ a = .isRef (.static Bundle.tN "SUPPRESSED_SENTINEL" Bundle.listD) ∨ ∃ ow n ds, a = .laysStatic ow n ds ∧ a ∈ lw_tbl
section VX1
variable {G : am_G} {Y : am_Y} {d mc ms : Nat} {Q : am_Qt} {pc : Nat} {L : List (Nat × Value)} {st : List Value} {M : am_M} {nx cn sn : Nat}
theorem am_zq {C n ds : String} {p : Program} {R : Room} {s : State} {m : MethodId} {meth : Method} {c : Code} (hC : am_Cx G Y d mc ms p R s m meth c) (h : va_Zq C n ds (am_A G) G.2.1 G.2.1.heap) : va_Zq C n ds (am_A G) s s.heap := (va_Zq.moved (am_cxW hC).alike h).kept (fun a h9 _ => hC.2.2.2.2.2.2.2.2.2.2.1 a h9)
theorem am_laysS {p : Program} {R : Room} {s : State} {m : MethodId} {meth : Method} {c : Code} (hC : am_Cx G Y d mc ms p R s m meth c) {ow n ds : String} (h : Cond.laysStatic ow n ds ∈ lw_tbl) (args : Array Value) : (Cond.laysStatic ow n ds).before args s = true := by
  obtain ⟨A, hA⟩ := (am_cxOk hC).2.1
  obtain ⟨c1, k, i, f, a, cell, hc, hi, hst, ha, hcell, hs, hcls, hlt, hty⟩ := Cond.laysStatic_spec (Cond.laysStatic_setVm (am_cxW hC).alike (hA _ h))
  have hcell' : G.2.1.heap[a]? = some cell := hcell
  have hB : a < am_B G := (Array.getElem?_eq_some_iff.mp hcell').1
  exact Cond.laysStatic_of (s := s) hc hi hst ha (by rw [hC.2.2.2.2.2.2.2.2.2.2.1 a hB]; exact hcell') hs hcls hlt hty
theorem v_newX {index ic ci : Nat} {C : String} (hd0 : decode Y.2.1 pc = .ok (.new index, 3)) (hd1 : decode Y.2.1 (pc + 3) = .ok (.dup, 1)) (hd2 : decode Y.2.1 (pc + 3 + 1) = .ok (.invokespecial ic, 3)) (hw : am_xw Y.1.cls index ic ci C) (h1 : cn + 1 ≤ mc) (h2 : sn + 6 ≤ ms) (h3 : 6 ≤ d) (hr : (st.map fun v => v.category).sum ≤ 20)
    (k : am_V G Y d mc ms Q (pc + 7) L (.ref nx :: st) (am_up M nx (.inr (ci, []))) (nx + 1) (cn + 1) (sn + 6)) : am_V G Y d mc ms Q pc L st M nx cn sn := by
  intro p e R s m args below meth c H locs ls hC hH hq hL
  have hx := hC.1
  have hb := hC.2.1
  have hR := am_cxR hC
  obtain ⟨⟨T9, ty9, hP⟩, w1, w2, w3, w4, w5⟩ := hw
  have hKn := (am_cxK hC).1 ci _ hP.1
  have hz1 := am_zq hC (am_kcs hC).2.2.2.2.2.2.2.1
  have hz2 := am_zq hC (am_kcs hC).2.2.2.2.2.2.2.2.1
  have hsum : ((st.map (am_v G)).map fun v => v.category).sum ≤ 20 := by
    rw [List.map_map]
    have : ((fun v : Value => v.category) ∘ am_v G) = fun v => v.category := funext (am_cat G)
    rw [this]
    exact hr
  suffices main : s.heap.size ≤ H.size → W p G.1 e R s m args below meth c H locs cn sn (xm_MQ below (am_post G Q) args s mc ms (am_A G)) (F0 m pc ls (st.map (am_v G))) from fun T hT X => main (by rw [← hT]; exact X.same.2.1) T hT X
  intro hsz
  refine W.newcK hx hb (am_cxO hC) (am_wdc hC w1 args) (am_wdc hC w2 args) (am_wdc hC w3 args) rfl hd0 (Nat.le_trans h1 hR.2.2.1) (Nat.le_trans h2 hR.2.2.2) hKn.2.1 (am_H_sz hH) fun H1 kC hkC e1 z1 o1 => ?_
  refine lv_dup hx hb hd1 rfl ?_
  intro T hT X
  have htr : e.platform.stackTraces = false := Launch.traces_off (am_cxOk hC).1 X.admits
  have hc0 : T.heap[am_ad G nx]? = some (freshCell (G.2.2.1.1 ci) kC) := by rw [hT]; exact e1
  have hnew : s.heap.size ≤ am_ad G nx := by rw [← am_H_sz hH]; exact hsz
  obtain ⟨vm', ce, hce1, hce2, X', hst⟩ := xx_ctor0 X hx htr (own := Y.1.cls) (cls := C) (names := ["java/lang/RuntimeException", "java/lang/Exception"]) (ic := ic) (am_cxO hC) w4 (by decide) (fun a ha => by
      rcases w5 a ha with h9 | rfl | rfl | ⟨ow, n9, ds, rfl, h9⟩
      · exact am_wdc hC h9 args
      · exact xx_isRef hz1
      · exact xx_isRef hz2
      · exact am_laysS hC h9 args) hz1 hq hKn.2.1 hkC hc0 hnew (g := F0 m (pc + 3 + 1) ls (.ref (am_ad G nx) :: .ref (am_ad G nx) :: st.map (am_v G))) rfl (hL.1.trans hC.2.2.1.symm) (rest := .ref (am_ad G nx) :: st.map (am_v G)) rfl (by rw [hb]; exact hd2) (by show 2 + 3 < R.frames; omega) (by show 2 * 0 + (1 + ((st.map (am_v G)).map fun v => v.category).sum) + (13 * 3 + 41) ≤ R.locals; omega)
  have hlt : am_ad G nx < T.heap.size := (Array.getElem?_eq_some_iff.mp hc0).1
  have hself : ((T.setVm vm').setCell (am_ad G nx) ce).heap[am_ad G nx]? = some ce := heapAt_setCell_self _ hlt
  obtain ⟨t, a1, b1⟩ := k p e R s m args below meth c ((T.setVm vm').setCell (am_ad G nx) ce).heap locs ls hC (am_H_new hH (by rw [size_setCell]; show T.heap.size = _; rw [hT, z1, am_H_sz hH]) (fun q h9 => by rw [heapAt_setCell_ne _ (Nat.ne_of_gt (by rw [am_H_sz hH] at h9; exact h9))]; show T.heap[q]? = _; rw [hT]; exact o1 q (by rw [← am_H_sz hH]; exact h9)) ⟨_, hP.1, ce, hself, hce1, hce2, fun k9 h9 => absurd h9 (Nat.not_lt_zero _)⟩) hq hL _ rfl X'
  exact ⟨t, hst t a1, b1⟩
theorem v_athrow {x : Nat} (hd : decode Y.2.1 pc = .ok (.athrow, 1)) (k : am_Vt G Y d mc ms Q pc L st x M nx cn sn) : am_V G Y d mc ms Q pc L (.ref x :: st) M nx cn sn := by
  intro p e R s m args below meth c H locs ls hC hH hq hL
  exact xm_athrow hC.1 hC.2.1 hd (k p e R s m args below meth c H locs ls hC hH hq hL)
theorem am_tab {c : Code} {hh : List (Nat × Nat × Nat × Nat)} (h : c.exceptionTable.toList.map (fun h => (h.startPc, h.endPc, h.handlerPc, h.catchType)) = hh) {x : ExceptionTableEntry} (hx : x ∈ c.exceptionTable.toList) : (x.startPc, x.endPc, x.handlerPc, x.catchType) ∈ hh := by
  rw [← h]
  exact List.mem_map.mpr ⟨x, hx, rfl⟩
theorem vt_leave {x : Nat} (hout : ∀ q ∈ Y.2.2.2.2, (decide (q.1 ≤ pc) && decide (pc < q.2.1)) = false) (h1 : cn ≤ mc) (h2 : sn ≤ ms) (hQ : Q (.inr x) M nx) : am_Vt G Y d mc ms Q pc L st x M nx cn sn := by
  intro p e R s m args below meth c H locs ls hC hH hq hL T hT X
  exact xm_leave (cells := mc) (slots := ms) rfl rfl rfl hC.2.2.2.2.1 (fun y hy => hout _ (am_tab hC.2.2.2.2.2.2.2.1 hy)) (fun t ht _ => ⟨.inr x, M, nx, hQ, rfl, by rw [ht]; exact hH⟩) hq T hT (stand_widen X h1 h2)
/-- an entry of a table as the words have it -/
def am_ent (own : String) (pc : Nat) (C : String) (yes : Bool) (q : Nat × Nat × Nat × Nat) : Prop := (decide (q.1 ≤ pc) && decide (pc < q.2.1)) = true ∧ q.2.2.2 ≠ 0 ∧ ∃ nm, am_has (.classLink own q.2.2.2 nm) ∧ (if yes then am_has (.castable C nm) else Cond.not (.castable C nm) ∈ flatC (Cond.and given_1 narrow_1))
theorem am_entOf {own C : String} {yes : Bool} {x : ExceptionTableEntry} {p : Program} {R : Room} {s : State} {m : MethodId} {meth : Method} {c : Code} (hC : am_Cx G Y d mc ms p R s m meth c) (ho : own = Y.1.cls) {cX : ClassId} (hX : s.vm.findClass C = some cX) (h : am_ent own pc C yes (x.startPc, x.endPc, x.handlerPc, x.catchType)) : ∀ pl : Platform, pl.magicAccessors = ({} : Platform).magicAccessors → xc_Ent pl s m.cls pc cX yes x := by
  intro pl hpl
  subst ho
  obtain ⟨h1, h2, nm, h3, h4⟩ := h
  cases yes with
  | true => exact xc_Ent.yes hpl (args := #[]) (am_cxO hC) h1 h2 (am_wdc hC h3 #[]) hX (am_wdc hC h4 #[])
  | false =>
    obtain ⟨A, hA⟩ := (am_kcs hC).2.2.2.2.2.2.2.2.2.1
    have hno := flat_of_before _ hA _ h4
    obtain ⟨c', hc', hcl⟩ := Cond.classLink_spec (am_cxO hC) (am_wdc hC h3 #[]) pl hpl
    have hal := (am_cxW hC).alike
    have hX0 : G.2.1.vm.findClass C = some cX := by rw [← hal.findClass]; exact hX
    have hc0 : G.2.1.vm.findClass nm = some c' := by rw [← hal.findClass]; exact hc'
    have hv := Cond.holds_not_iff.mp hno
    simp only [Cond.value, hX0, hc0] at hv
    exact ⟨h1, h2, c', hcl, by rw [hal.assignable]; exact Option.some.inj hv⟩
theorem vt_catch {x ci N : Nat} {fs : List Value} {C : String} {T : u_T} {ty : Nat → FieldType} (hM : M x = some (.inr (ci, fs))) (hP : am_clP ci C T N ty) (pre : List (Nat × Nat × Nat × Nat)) (y : Nat × Nat × Nat × Nat) (rest : List (Nat × Nat × Nat × Nat)) (hh : Y.2.2.2.2 = pre ++ y :: rest)
    (hpre : ∀ z ∈ pre, am_ent Y.1.cls pc C false z) (hy : am_ent Y.1.cls pc C true y) (k : am_V G Y d mc ms Q y.2.2.1 L [.ref x] M nx cn sn) : am_Vt G Y d mc ms Q pc L st x M nx cn sn := by
  intro p e R s m args below meth c H locs ls hC hH hq hL
  obtain ⟨-, -, r, hr, cell, g1, g2, g3, -⟩ := hH.2.2.2 x _ hM
  have hr : r = (C, T, N) := Option.some.inj (hr.symm.trans hP.1)
  subst hr
  have hKn := (am_cxK hC).1 ci _ hP.1
  have hX : s.vm.findClass C = some cell.cls := by rw [g2]; exact hKn.2.1
  have htab := hC.2.2.2.2.2.2.2.1
  rw [hh] at htab
  obtain ⟨l1, l2, hl, hl1, hl2⟩ := List.map_eq_append_iff.mp htab
  obtain ⟨y', l3, hl3, hy', hl4⟩ := List.map_eq_cons_iff.mp hl2
  subst hl3
  subst hy'
  refine xm_catch (cell := cell) rfl g1 (by rw [g3]; rfl) (Vm.classAt_of_findClass hX) l1 y' l3 hl (fun z hz => ?_) ?_ (k p e R s m args below meth c H locs ls hC hH hq hL)
  · exact am_entOf hC rfl hX (hpre _ (by rw [← hl1]; exact List.mem_map.mpr ⟨z, hz, rfl⟩))
  · exact am_entOf hC rfl hX hy
end VX1
