/-! ENTRY, CALLS, THROWS OF THE SMALL MACHINE (mine) -/
theorem am_wd_spec {Y : am_Y} {args : Array Value} {s : State} (h : (am_wd Y).before args s = true) :
    ∃ m meth c, s.methodNamed? Y.1 = some m ∧ s.vm.method? m = some meth ∧ meth.code = some c ∧ c.code = Y.2.1 ∧ c.maxLocals = Y.2.2.1 ∧ c.exceptionTable.toList.map (fun h => (h.startPc, h.endPc, h.handlerPc, h.catchType)) = Y.2.2.2.2 ∧ meth.sig.returnType = Y.2.2.2.1 ∧ meth.locks = false ∧ parseMethodDescriptor Y.1.desc = some meth.sig := by
  obtain ⟨n, b, ml, r, hh⟩ := Y
  cases hh with
  | nil =>
    obtain ⟨m, hn⟩ := Cond.code_named (x := n) (bytes := b) (maxLocals := ml) (ret := r) h
    obtain ⟨meth, c, h1, h2, h3, h4, h5, h6, h7, h8⟩ := Cond.code_spec (x := n) hn h
    refine ⟨m, meth, c, hn, h1, h2, h3, h4, ?_, h5, h6, h8⟩
    have : c.exceptionTable = #[] := by simpa using h7
    rw [this]
    rfl
  | cons q qs => exact Cond.codeWith_spec (x := n) (bytes := b) (maxLocals := ml) (ret := r) (handlers := q :: qs) h
theorem am_args (G : am_G) : ∀ (av : List Value) (i : Nat), lv_args i (av.map (am_v G)) = am_L G (lv_args i av)
  | [], _ => rfl
  | v :: vs, i => by
    simp only [List.map_cons, lv_args, am_L, am_cat]
    congr 1
    exact am_args G vs _
theorem am_sl_len (G : am_G) : ∀ av : List Value, (lg_sl (av.map (am_v G))).length = (lg_sl av).length
  | [] => rfl
  | v :: vs => by
    have ih := am_sl_len G vs
    simp only [lg_sl, List.map_cons, List.flatMap_cons, List.length_append, am_cat] at ih ⊢
    rw [ih]
    split <;> rfl
theorem am_TrOf {G : am_G} {Y : am_Y} {d mc ms : Nat} {av : List Value} {M : am_M} {nx : Nat} {Q : am_Qt} (hy : plainName Y.1.cls = true) (hlen : (lg_sl av).length ≤ Y.2.2.1) (hV : am_V G Y d mc ms Q 0 (lv_args 0 av) [] M nx 0 0) : am_Tr G Y d mc ms av M nx Q := by
  refine xm_ofW (cc := Y.2.1) (maxL := Y.2.2.1) (ret := Y.2.2.2.1) hy ?_ ?_
  · intro args s m hws hn
    obtain ⟨m', meth, c, h0, h1, h2, h3, h4, -, h6, h7, -⟩ := am_wd_spec (hws _ (List.mem_singleton.mpr rfl))
    cases hn.symm.trans h0
    exact ⟨meth, c, h1, h2, h3, h4, h6, h7⟩
  · intro p e s m args below meth c s₁ B hml hv
    obtain ⟨rfl, hW, hH, hOk⟩ := hv
    obtain ⟨m', meth', c', h0, h1, h2, -, -, h5, -⟩ := am_wd_spec (atoms_spec (ws := [am_wd Y]) B.pre _ (List.mem_singleton.mpr rfl))
    cases B.named.symm.trans h0
    cases B.method.symm.trans h1
    cases (Stand.of_body B).code.symm.trans h2
    have hl := lv_entry (av.map (am_v G)) (n := Y.2.2.1) (by rw [am_sl_len]; exact hlen)
    rw [am_args] at hl
    rw [lg_entry_eq]
    refine hV p e _ s m _ below meth c s.heap [] _ ⟨B.exec, B.bytes, hml, B.returns, B.notSynchronized, findClass_of_methodNamed B.named, (name_of_methodNamed B.named B.method).1, h5, hW, ⟨Nat.le_refl _, Nat.le_refl _, Nat.le_refl _, Nat.le_refl _⟩, hH.2.2.1, by rw [hH.1]; exact Nat.le_add_right _ _, hOk⟩ hH (fun q hq => by cases hq) hl
section VC1
variable {G : am_G} {Y Y' : am_Y} {d mc ms d' mc' ms' : Nat} {Q Q' : am_Qt} {pc : Nat} {L : List (Nat × Value)} {st rest : List Value} {M : am_M} {nx cn sn : Nat}
variable {p : Program} {e : Env} {R : Room} {s : State} {m : MethodId} {args : Array Value} {below : List Frame} {meth : Method} {c : Code} {H : Heap} {locs : List Loc} {ls : Array Slot}
theorem am_blind {av : List Value} : FrameBlind (am_pre G av M nx) := fun _ _ _ _ h => ⟨h.1, h.2.1, h.2.2.1, h.2.2.2⟩
/-- from the frame whose arguments are given away: into the callee, out of it by a return or by a throw -/
theorem am_fin {av : List Value} (hT : am_Tr G Y' d' mc' ms' av M nx Q') (hw : am_has (am_wd Y')) (hz : am_has (.initialized Y'.1.cls)) (hml : Y'.2.2.1 ≤ 160) (hd' : d' + 1 ≤ d) (h1 : cn + mc' ≤ mc) (h2 : sn + ms' ≤ ms) (hr : (rest.map fun v => v.category).sum ≤ 20)
    (hC : am_Cx G Y d mc ms p R s m meth c) (hH : am_H G M nx H) (hq : ∀ q ∈ locs, am_A G q.base) (hL : lv_has ls Y.2.2.1 (am_L G L)) {ig : Instr} {len : Nat} (hdg : decode Y.2.1 pc = .ok (ig, len))
    (kr : ∀ v M' nx', Q' (.inl v) M' nx' → am_V G Y d mc ms Q (pc + len) L (v.toList ++ rest) M' nx' (cn + mc') (sn + ms')) (kt : ∀ x M' nx', Q' (.inr x) M' nx' → am_Vt G Y d mc ms Q pc L rest x M' nx' (cn + mc') (sn + ms'))
    {T T₁ : State} {g0 : JFrame} (X₁ : Stand p G.1 e R s m args below meth c T₁ locs cn sn) (hT1 : T₁.heap = H) {mk : MethodId} (hn : T₁.methodNamed? Y'.1 = some mk)
    (hst : ∀ target, Steps p.tables e below (doInvoke e (T₁.setTop (F0 m pc ls (rest.map (am_v G)))) [] mk (av.map (am_v G)).toArray).1 target → Steps p.tables e below (T.setTop g0) target) :
    ∃ t, Steps p.tables e below (T.setTop g0) t ∧ xm_MQ below (am_post G Q) args s mc ms (am_A G) t := by
  have hR := am_cxR hC
  obtain ⟨A, hA⟩ := (am_cxOk hC).2.1
  have hW : G.2.1.WarmedH T₁.vm := State.WarmedH.trans (am_cxW hC) X₁.warmed
  have hwT : (am_wd Y').before (av.map (am_v G)).toArray T₁ = true := am_warm hW hw.2 (hA _ hw.1)
  obtain ⟨mk', mY, cY, n1, n2, n3, -, n5, -⟩ := am_wd_spec hwT
  cases hn.symm.trans n1
  have hsum : ((rest.map (am_v G)).map fun v => v.category).sum ≤ 20 := by
    rw [List.map_map]
    have : ((fun v : Value => v.category) ∘ am_v G) = fun v => v.category := funext (am_cat G)
    rw [this]
    exact hr
  obtain ⟨o, st₀, t, T', L', e0, e0', X', hL', e1, e2, ⟨r, M', nx', hQ, ho, hH'⟩, hgo⟩ := xm_core (Wd := 20) (maxL := Y'.2.2.1) hT am_blind X₁ (g := F0 m pc ls (rest.map (am_v G))) rfl (hL.1.trans hC.2.2.1.symm) (by rw [hC.2.1]; exact hdg) hn (a := (av.map (am_v G)).toArray) n2 n3 n5
    (am_warm hW hz.2 (hA _ hz.1)) (fun w h9 => by rw [List.mem_singleton.mp h9]; exact hwT) (by show d' + 1 ≤ R.frames; omega) (by show 20 + (Y'.2.2.1 + 11) + 200 * d' ≤ R.locals; omega) (by show 2 * 0 + ((rest.map (am_v G)).map fun v => v.category).sum ≤ 20; omega) rfl rfl (Nat.le_trans h1 hR.2.2.1) (Nat.le_trans h2 hR.2.2.2) ⟨rfl, hW, by rw [hT1]; exact hH, am_cxOk hC⟩
  have hq' : ∀ q ∈ locs ++ L', am_A G q.base := fun q h9 => (List.mem_append.mp h9).elim (hq q) (hL' q)
  cases r with
  | inl v =>
    rcases hgo with ⟨v0, hv0, hs⟩ | ⟨x0, hx0, -⟩
    · have hv : v0 = v.map (am_v G) := by
        rw [ho] at hv0
        exact (Outcome.returned.inj hv0).symm
      subst hv
      obtain ⟨tt, a1, b1⟩ := kr v M' nx' hQ p e R s m args below meth c T'.heap (locs ++ L') ls hC (by rw [e1]; exact hH') hq' hL T' rfl X'
      refine ⟨tt, hst _ (hs _ ?_), b1⟩
      have e9 : (v.toList ++ rest).map (am_v G) = (v.map (am_v G)).toList ++ rest.map (am_v G) := by cases v <;> simp
      rw [e9] at a1
      exact a1
    · rw [ho] at hx0
      cases hx0
  | inr x =>
    rcases hgo with ⟨v0, hv0, -⟩ | ⟨x0, hx0, hs⟩
    · rw [ho] at hv0
      cases hv0
    · have hx : x0 = am_ad G x := by
        rw [ho] at hx0
        exact (Outcome.threw.inj hx0).symm
      subst hx
      obtain ⟨tt, a1, b1⟩ := kt x M' nx' hQ p e R s m args below meth c T'.heap (locs ++ L') ls hC (by rw [e1]; exact hH') hq' hL T' rfl X'
      exact ⟨tt, hst _ (hs _ a1), b1⟩
/-- what a receiver shows: an object of the memory, or a constant -/
def am_rcv (M : am_M) (b : Nat) (C : String) : Prop := (∃ ci fs T N ty, M b = some (.inr (ci, fs)) ∧ am_clP ci C T N ty) ∨ (b, C) ∈ am_ko
theorem am_recv {b : Nat} {C : String} (hC : am_Cx G Y d mc ms p R s m meth c) (hH : am_H G M nx H) (h : am_rcv M b C) : ∃ cell : Cell, H[am_ad G b]? = some cell ∧ cell.vm.isStatics = false ∧ s.vm.findClass C = some cell.cls := by
  rcases h with ⟨ci, fs, T, N, ty, hM, hP⟩ | h
  · obtain ⟨-, -, hat⟩ := hH.2.2.2 b _ hM
    exact va_recv (q0 := 0) (am_cxK hC) (am_one hat) hP.1 rfl
  · obtain ⟨cell, h1, h2, h3, -⟩ := (va_O.moved (am_cxW hC).alike ((am_kcs hC).1 _ h)).kept (am_below hH)
    exact ⟨cell, h1, h2, h3⟩
/-- the words of a call, by how it is made -/
def am_cV (own : String) (index : Nat) (Y' : am_Y) (n : Nat) : Prop := am_has (am_wd Y') ∧ am_has (.initialized Y'.1.cls) ∧ Y'.2.2.1 ≤ 160 ∧ am_has (.instanceMethod Y'.1) ∧ am_has (.selects Y'.1.cls Y'.1 Y'.1) ∧ (Y'.1.cls ≠ "java/lang/invoke/MethodHandle" ∧ Y'.1.cls ≠ "java/lang/invoke/VarHandle") ∧ (parseMethodDescriptor Y'.1.desc).map (fun d => d.parameters.length) = some n ∧ (am_has (.methodLink own index Y'.1) ∨ ∃ host, am_has (.methodLinkNest own index Y'.1 host))
def am_cS (own : String) (index : Nat) (Y' : am_Y) (n : Nat) : Prop := am_has (am_wd Y') ∧ am_has (.initialized Y'.1.cls) ∧ Y'.2.2.1 ≤ 160 ∧ am_has (.static Y'.1) ∧ (Y'.1.cls ≠ "java/lang/invoke/MethodHandle" ∧ Y'.1.cls ≠ "java/lang/invoke/VarHandle") ∧ (parseMethodDescriptor Y'.1.desc).map (fun d => d.parameters.length) = some n ∧ (am_has (.methodLink own index Y'.1) ∨ ∃ host, am_has (.methodLinkNest own index Y'.1 host))
def am_cI (own : String) (index : Nat) (Y' : am_Y) (n : Nat) : Prop := am_has (am_wd Y') ∧ am_has (.initialized Y'.1.cls) ∧ Y'.2.2.1 ≤ 160 ∧ am_has (.instanceMethod Y'.1) ∧ Y'.1.name = "<init>" ∧ Y'.2.2.2.2 = [] ∧ Y'.2.2.2.1 = none ∧ (Y'.1.cls ≠ "java/lang/invoke/MethodHandle" ∧ Y'.1.cls ≠ "java/lang/invoke/VarHandle") ∧ (parseMethodDescriptor Y'.1.desc).map (fun d => d.parameters.length) = some n ∧ (am_has (.methodLink own index Y'.1) ∨ ∃ host, am_has (.methodLinkNest own index Y'.1 host))
def am_cU (own : String) (index : Nat) (C : String) (x : MethodName) (Y' : am_Y) (n : Nat) : Prop := am_has (am_wd Y') ∧ am_has (.initialized Y'.1.cls) ∧ Y'.2.2.1 ≤ 160 ∧ am_has (.instanceMethod Y'.1) ∧ am_has (.selects C x Y'.1) ∧ (Y'.1.cls ≠ "java/lang/invoke/MethodHandle" ∧ Y'.1.cls ≠ "java/lang/invoke/VarHandle") ∧ (parseMethodDescriptor x.desc).map (fun d => d.parameters.length) = some n ∧ am_has (.methodLink own index x) ∧ am_has (.sameMethod x.cls Y'.1.cls x.name x.desc) ∧ am_has (.declares Y'.1) ∧ Y'.1.name = x.name ∧ Y'.1.desc = x.desc
theorem am_len {x : String} {n k : Nat} (h : (parseMethodDescriptor x).map (fun d => d.parameters.length) = some n) (hk : k = n) : ∀ sig, parseMethodDescriptor x = some sig → k = sig.parameters.length := by
  intro sig hs
  rw [hs] at h
  exact hk.trans (Option.some.inj h).symm
theorem v_callV {index b : Nat} {As : List Value} (hd : decode Y.2.1 pc = .ok (.invokevirtual index, 3)) (hc : am_cV Y.1.cls index Y' As.length) (hrc : am_rcv M b Y'.1.cls) (hT : am_Tr G Y' d' mc' ms' (.ref b :: As) M nx Q') (hd' : d' + 1 ≤ d) (h1 : cn + mc' ≤ mc) (h2 : sn + ms' ≤ ms) (hr : (rest.map fun v => v.category).sum ≤ 20) (hs0 : st = As.reverse ++ .ref b :: rest)
    (kr : ∀ v M' nx', Q' (.inl v) M' nx' → am_V G Y d mc ms Q (pc + 3) L (v.toList ++ rest) M' nx' (cn + mc') (sn + ms')) (kt : ∀ x M' nx', Q' (.inr x) M' nx' → am_Vt G Y d mc ms Q pc L rest x M' nx' (cn + mc') (sn + ms')) : am_V G Y d mc ms Q pc L st M nx cn sn := by
  subst hs0
  intro p e R s m args below meth c H locs ls hC hH hq hL T hTH X
  obtain ⟨w1, w2, w3, w4, w5, w6, w7, w8⟩ := hc
  obtain ⟨cellB, hcell, hobj, hcls⟩ := am_recv hC hH hrc
  obtain ⟨mk, methM, hnamed, hmethM, hstM, habM⟩ := Cond.instanceMethod_spec (am_wdc hC w4 args)
  obtain ⟨mk', methM', cM, n1, n2, -, -, -, -, -, -, hsigM⟩ := am_wd_spec (am_wdc hC w1 args)
  cases hnamed.symm.trans n1
  cases hmethM.symm.trans n2
  obtain ⟨c2, r2, m2, q1, q2, q3, q4, kP, hkP, hkPi⟩ := Cond.selects_spec (am_wdc hC w5 args)
  cases hcls.symm.trans q1
  cases (State.methodFound?_of_named hnamed w6).symm.trans q2
  cases hnamed.symm.trans q3
  have hselP : selectMethod e.platform s.vm cellB.cls mk = .method mk := by rw [Launch.admits_selectMethod X.admits]; exact q4
  have hdg : decode c.code (F0 m pc ls ((As.reverse ++ .ref b :: rest).map (am_v G))).pc = .ok (.invokevirtual index, 3) := by rw [hC.2.1]; exact hd
  have hstack : (F0 m pc ls ((As.reverse ++ .ref b :: rest).map (am_v G))).stack = (As.map (am_v G)).reverse ++ .ref (am_ad G b) :: rest.map (am_v G) := by simp [am_v]
  have hcell' : T.heap[am_ad G b]? = some cellB := by rw [hTH]; exact hcell
  have hlen := am_len w7 (k := (As.map (am_v G)).length) (by simp) _ hsigM
  rcases w8 with w8 | ⟨host, w8⟩
  · obtain ⟨vm₁, X₁, hstep₁⟩ := X.invokevirtual hC.1 (am_cxO hC) (am_wdc hC w8 args) hnamed hmethM hstM hkP hkPi w6 (a := am_ad G b) (cell := cellB) hcell'
      (fun z h => by rw [h] at hobj; cases hobj) hselP hmethM habM hkP hkPi (g := F0 m pc ls ((As.reverse ++ .ref b :: rest).map (am_v G))) rfl (argsL := As.map (am_v G)) (rest := rest.map (am_v G)) hlen hstack hdg
    exact am_fin hT w1 w2 w3 hd' h1 h2 hr hC hH hq hL hd kr kt X₁ hTH (X₁.named hnamed) (fun target h => hstep₁ _ fun acts => by rw [doInvoke_state]; exact h)
  · obtain ⟨vm₁, X₁, hstep₁⟩ := X.invokevirtualNest hC.1 (am_cxO hC) (am_wdc hC w8 args) hnamed hmethM hstM hkP hkPi w6 (a := am_ad G b) (cell := cellB) hcell'
      (fun z h => by rw [h] at hobj; cases hobj) hselP hmethM habM hkP hkPi (g := F0 m pc ls ((As.reverse ++ .ref b :: rest).map (am_v G))) rfl (argsL := As.map (am_v G)) (rest := rest.map (am_v G)) hlen hstack hdg
    exact am_fin hT w1 w2 w3 hd' h1 h2 hr hC hH hq hL hd kr kt X₁ hTH (X₁.named hnamed) (fun target h => hstep₁ _ fun acts => by rw [doInvoke_state]; exact h)
theorem v_callU {index b : Nat} {C : String} {x : MethodName} {As : List Value} (hd : decode Y.2.1 pc = .ok (.invokevirtual index, 3)) (hc : am_cU Y.1.cls index C x Y' As.length) (hrc : am_rcv M b C) (hT : am_Tr G Y' d' mc' ms' (.ref b :: As) M nx Q') (hd' : d' + 1 ≤ d) (h1 : cn + mc' ≤ mc) (h2 : sn + ms' ≤ ms) (hr : (rest.map fun v => v.category).sum ≤ 20) (hs0 : st = As.reverse ++ .ref b :: rest)
    (kr : ∀ v M' nx', Q' (.inl v) M' nx' → am_V G Y d mc ms Q (pc + 3) L (v.toList ++ rest) M' nx' (cn + mc') (sn + ms')) (kt : ∀ x M' nx', Q' (.inr x) M' nx' → am_Vt G Y d mc ms Q pc L rest x M' nx' (cn + mc') (sn + ms')) : am_V G Y d mc ms Q pc L st M nx cn sn := by
  subst hs0
  intro p e R s m args below meth c H locs ls hC hH hq hL T hTH X
  obtain ⟨w1, w2, w3, w4, w5, w6, w7, w8, w9, w10, w11, w12⟩ := hc
  obtain ⟨cellB, hcell, hobj, hcls⟩ := am_recv hC hH hrc
  obtain ⟨r0, r, hn, hrm, hstR, hsigR⟩ := Cond.declares_spec (am_wdc hC w10 args)
  obtain ⟨cn9, ck, r1, hcn, hck, hni, hf, hn1⟩ := Cond.sameMethod_found (am_wdc hC w9 args)
  have hY : (⟨Y'.1.cls, x.name, x.desc⟩ : MethodName) = Y'.1 := by rw [← w11, ← w12]
  rw [hY] at hn1
  cases hn.symm.trans hn1
  obtain ⟨mk, methM, hnamed, hmethM, -, habM⟩ := Cond.instanceMethod_spec (am_wdc hC w4 args)
  obtain ⟨c2, r2, m2, q1, q2, q3, q4, kP, hkP, hkPi⟩ := Cond.selects_spec (am_wdc hC w5 args)
  cases hcls.symm.trans q1
  cases hf.symm.trans q2
  cases hnamed.symm.trans q3
  have hselP : selectMethod e.platform s.vm cellB.cls r0 = .method mk := by rw [Launch.admits_selectMethod X.admits]; exact q4
  have hdg : decode c.code (F0 m pc ls ((As.reverse ++ .ref b :: rest).map (am_v G))).pc = .ok (.invokevirtual index, 3) := by rw [hC.2.1]; exact hd
  have hstack : (F0 m pc ls ((As.reverse ++ .ref b :: rest).map (am_v G))).stack = (As.map (am_v G)).reverse ++ .ref (am_ad G b) :: rest.map (am_v G) := by simp [am_v]
  have hcell' : T.heap[am_ad G b]? = some cellB := by rw [hTH]; exact hcell
  obtain ⟨vm₁, X₁, hstep₁⟩ := X.invokevirtualUp hC.1 (am_cxO hC) (am_wdc hC w8 args) (am_wdc hC w9 args) w6 (by rw [hY]; exact hn) hrm hstR (a := am_ad G b) (cell := cellB) hcell'
    (fun z h => by rw [h] at hobj; cases hobj) hselP hmethM habM hkP hkPi (g := F0 m pc ls ((As.reverse ++ .ref b :: rest).map (am_v G))) rfl (argsL := As.map (am_v G)) (rest := rest.map (am_v G)) (am_len w7 (k := (As.map (am_v G)).length) (by simp) _ (by rw [← w12]; exact hsigR)) hstack hdg
  exact am_fin hT w1 w2 w3 hd' h1 h2 hr hC hH hq hL hd kr kt X₁ hTH (X₁.named hnamed) (fun target h => hstep₁ _ fun acts => by rw [doInvoke_state]; exact h)
theorem v_callS {index : Nat} {As : List Value} (hd : decode Y.2.1 pc = .ok (.invokestatic index, 3)) (hc : am_cS Y.1.cls index Y' As.length) (hT : am_Tr G Y' d' mc' ms' As M nx Q') (hd' : d' + 1 ≤ d) (h1 : cn + mc' ≤ mc) (h2 : sn + ms' ≤ ms) (hr : (rest.map fun v => v.category).sum ≤ 20) (hs0 : st = As.reverse ++ rest)
    (kr : ∀ v M' nx', Q' (.inl v) M' nx' → am_V G Y d mc ms Q (pc + 3) L (v.toList ++ rest) M' nx' (cn + mc') (sn + ms')) (kt : ∀ x M' nx', Q' (.inr x) M' nx' → am_Vt G Y d mc ms Q pc L rest x M' nx' (cn + mc') (sn + ms')) : am_V G Y d mc ms Q pc L st M nx cn sn := by
  subst hs0
  intro p e R s m args below meth c H locs ls hC hH hq hL T hTH X
  obtain ⟨w1, w2, w3, w4, w6, w7, w8⟩ := hc
  obtain ⟨mk, methM, cM, hnamed, hmethM, -, -, -, -, -, -, hsigM⟩ := am_wd_spec (am_wdc hC w1 args)
  have hstatic : methM.isStatic = true := Cond.static_spec hnamed hmethM (am_wdc hC w4 args)
  obtain ⟨kP, hkP, -⟩ := className_of_methodNamed hnamed
  have hinitP : kP.init = .initialized := Cond.initialized_spec (findClass_of_methodNamed hnamed) hkP (am_wdc hC w2 args)
  have hdg : decode c.code (F0 m pc ls ((As.reverse ++ rest).map (am_v G))).pc = .ok (.invokestatic index, 3) := by rw [hC.2.1]; exact hd
  have hstack : (F0 m pc ls ((As.reverse ++ rest).map (am_v G))).stack = (As.map (am_v G)).reverse ++ rest.map (am_v G) := by simp
  have hlen := am_len w7 (k := (As.map (am_v G)).length) (by simp) _ hsigM
  rcases w8 with w8 | ⟨host, w8⟩
  · obtain ⟨vm₁, X₁, hstep₁⟩ := X.invokestatic hC.1 (am_cxO hC) (am_wdc hC w8 args) hnamed hmethM hstatic hkP hinitP w6 (g := F0 m pc ls ((As.reverse ++ rest).map (am_v G))) rfl (argsL := As.map (am_v G)) (rest := rest.map (am_v G)) hlen hstack hdg
    exact am_fin hT w1 w2 w3 hd' h1 h2 hr hC hH hq hL hd kr kt X₁ hTH (X₁.named hnamed) (fun target h => hstep₁ _ fun acts => by rw [doInvoke_state]; exact h)
  · obtain ⟨vm₁, X₁, hstep₁⟩ := X.invokestaticNest hC.1 (am_cxO hC) (am_wdc hC w8 args) hnamed hmethM hstatic hkP hinitP w6 (g := F0 m pc ls ((As.reverse ++ rest).map (am_v G))) rfl (argsL := As.map (am_v G)) (rest := rest.map (am_v G)) hlen hstack hdg
    exact am_fin hT w1 w2 w3 hd' h1 h2 hr hC hH hq hL hd kr kt X₁ hTH (X₁.named hnamed) (fun target h => hstep₁ _ fun acts => by rw [doInvoke_state]; exact h)
theorem v_callI {index b : Nat} {As : List Value} (hd : decode Y.2.1 pc = .ok (.invokespecial index, 3)) (hc : am_cI Y.1.cls index Y' As.length) (hT : am_Tr G Y' d' mc' ms' (.ref b :: As) M nx Q') (hd' : d' + 1 ≤ d) (h1 : cn + mc' ≤ mc) (h2 : sn + ms' ≤ ms) (hr : (rest.map fun v => v.category).sum ≤ 20) (hs0 : st = As.reverse ++ .ref b :: rest)
    (kr : ∀ v M' nx', Q' (.inl v) M' nx' → am_V G Y d mc ms Q (pc + 3) L (v.toList ++ rest) M' nx' (cn + mc') (sn + ms')) (kt : ∀ x M' nx', Q' (.inr x) M' nx' → am_Vt G Y d mc ms Q pc L rest x M' nx' (cn + mc') (sn + ms')) : am_V G Y d mc ms Q pc L st M nx cn sn := by
  subst hs0
  intro p e R s m args below meth c H locs ls hC hH hq hL T hTH X
  obtain ⟨w1, w2, w3, w4, w5, w5b, w5c, w6, w7, w8⟩ := hc
  have hpl : e.platform.magicAccessors = ({} : Platform).magicAccessors := by rw [X.admits.platform]
  have hcode : (Cond.code Y'.1 Y'.2.1 Y'.2.2.1 none).before args s = true := by
    have h9 := am_wdc hC w1 args
    unfold am_wd at h9
    rw [w5b, w5c] at h9
    exact h9
  have hdg : decode c.code (F0 m pc ls ((As.reverse ++ .ref b :: rest).map (am_v G))).pc = .ok (.invokespecial index, 3) := by rw [hC.2.1]; exact hd
  have hstack : (F0 m pc ls ((As.reverse ++ .ref b :: rest).map (am_v G))).stack = (As.map (am_v G)).reverse ++ .ref (am_ad G b) :: rest.map (am_v G) := by simp [am_v]
  rcases w8 with w8 | ⟨host, w8⟩
  · obtain ⟨mk, methM, cM, kP, vm₁, hnamed, -, -, -, -, -, -, -, hW₁, hstep₁⟩ := Steps.initColdArgs (e := e) X.here hC.1 X.warmed hpl (am_cxO hC) w5 w6 (am_wdc hC w8 args) (am_wdc hC w4 args) hcode (f := F0 m pc ls ((As.reverse ++ .ref b :: rest).map (am_v G))) rfl (am_len w7 (k := (As.map (am_v G)).length) (by simp)) hstack hdg
    have X₁ := X.noted hW₁
    exact am_fin hT w1 w2 w3 hd' h1 h2 hr hC hH hq hL hd kr kt X₁ hTH (X₁.named hnamed) (fun target h => hstep₁ _ fun acts => by rw [doInvoke_state]; exact h)
  · obtain ⟨mk, methM, cM, kP, vm₁, hnamed, -, -, -, -, -, -, -, hW₁, hstep₁⟩ := Steps.initColdArgsNest (e := e) X.here hC.1 X.warmed hpl (am_cxO hC) w5 w6 (am_wdc hC w8 args) (am_wdc hC w4 args) hcode (f := F0 m pc ls ((As.reverse ++ .ref b :: rest).map (am_v G))) rfl (am_len w7 (k := (As.map (am_v G)).length) (by simp)) hstack hdg
    have X₁ := X.noted hW₁
    exact am_fin hT w1 w2 w3 hd' h1 h2 hr hC hH hq hL hd kr kt X₁ hTH (X₁.named hnamed) (fun target h => hstep₁ _ fun acts => by rw [doInvoke_state]; exact h)
end VC1
