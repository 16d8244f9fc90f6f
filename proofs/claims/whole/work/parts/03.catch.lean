/-! THE CATCH (mine): the search through the frame's own table, its entries' classes resolved before or now -/
def xc_To (e : Env) (s : State) (f : JFrame) (a : Addr) (h : Handler) (vm' : Vm) : Prop :=
  ∀ (Q : Handler → Pre) (E : CtlPost) (d : Bool) (acts : List Action), wp (findHandler f a) Q E e d acts s ↔ Q h d acts (s.setVm vm')
/-- one entry that names a class: it takes the object, or it lets it pass -/
theorem xc_row {Q : Handler → Pre} {E : CtlPost} {e : Env} {d : Bool} {acts : List Action} {s : State} {f : JFrame} {a : Addr} {x : ExceptionTableEntry} {t : List ExceptionTableEntry} {c : ClassId} {cell : Cell} (hx : covers x f.pc = true) (h0 : x.catchType ≠ 0)
    (hl : s.vm.ClassLinks e.platform f.method.cls x.catchType c) (hcell : s.heap[a]? = some cell) (hobj : ∀ k, cell.vm ≠ .statics k)
    (hk : ∃ k, s.vm.classes[cell.cls]? = some k) (hc : ∃ k, s.vm.classes[c]? = some k) :
    wp (findHandler.go f a (x :: t)) Q E e d acts s ↔ if s.vm.assignable cell.cls c = true then Q (.found x.handlerPc) d acts (s.setVm (s.vm.noted f.method.cls x.catchType (.cls c))) else wp (findHandler.go f a t) Q E e d acts (s.setVm (s.vm.noted f.method.cls x.catchType (.cls c))) := by
  simp only [covers] at hx
  obtain ⟨ha, ht⟩ := (resolveClass_links e.toSetting hl).op (op := VmOp.resolveClass f.method.cls x.catchType) rfl
  have hal : s.vm.Alike (s.vm.noted f.method.cls x.catchType (.cls c)) := (Vm.Alike.refl s.vm).noted _ _ _
  obtain ⟨k1, hk1⟩ := hk
  obtain ⟨k2, hk2⟩ := hc
  obtain ⟨k1', hk1', -⟩ := hal.2.2 _ _ hk1
  obtain ⟨k2', hk2', -⟩ := hal.2.2 _ _ hk2
  have hsame : (s.vm.noted f.method.cls x.catchType (.cls c)).assignable cell.cls c = s.vm.assignable cell.cls c := hal.assignable _ _
  cases hfit : s.vm.assignable cell.cls c <;> simp [findHandler.go, hx, h0, ha, ht, hcell, hobj, hk1', hk2', hsame, hfit, VmOp.dirties, VmOp.acts]
/-- an entry as the words of the start s₀ have it: it covers the pc, its class is 'cn'; the thrown object's class is 'tn'; it takes it or not as 'yes' says -/
def xc_Ent (pl : Platform) (s₀ : State) (d : ClassId) (pc : Nat) (thrown : ClassId) (yes : Bool) (x : ExceptionTableEntry) : Prop :=
  covers x pc = true ∧ x.catchType ≠ 0 ∧ ∃ c, s₀.vm.ClassLinks pl d x.catchType c ∧ s₀.vm.assignable thrown c = yes
theorem xc_Ent.yes {pl : Platform} (hpl : pl.magicAccessors = ({} : Platform).magicAccessors) {s₀ : State} {args : Array Value} {d : ClassId} {pc : Nat} {thrown : ClassId} {x : ExceptionTableEntry} {own name tn : String} (hown : s₀.vm.findClass own = some d) (hcov : covers x pc = true) (h0 : x.catchType ≠ 0)
    (hlink : (Cond.classLink own x.catchType name).before args s₀ = true) (ht : s₀.vm.findClass tn = some thrown) (hy : (Cond.castable tn name).before args s₀ = true) : xc_Ent pl s₀ d pc thrown true x := by
  obtain ⟨c', hc', hcl⟩ := Cond.classLink_spec hown hlink pl hpl
  obtain ⟨c3, cT, hc3, hcT, hasg⟩ := Cond.castable_spec hy
  cases ht.symm.trans hc3
  cases hc'.symm.trans hcT
  exact ⟨hcov, h0, c', hcl, hasg⟩
theorem xc_Ent.no {pl : Platform} (hpl : pl.magicAccessors = ({} : Platform).magicAccessors) {s₀ : State} {args : Array Value} {d : ClassId} {pc : Nat} {thrown : ClassId} {x : ExceptionTableEntry} {own name tn : String} (hown : s₀.vm.findClass own = some d) (hcov : covers x pc = true) (h0 : x.catchType ≠ 0)
    (hlink : (Cond.classLink own x.catchType name).before args s₀ = true) (ht : s₀.vm.findClass tn = some thrown) (hn : (Cond.not (.castable tn name)).before args s₀ = true) : xc_Ent pl s₀ d pc thrown false x := by
  obtain ⟨c', hc', hcl⟩ := Cond.classLink_spec hown hlink pl hpl
  have hv := Cond.holds_not_iff.mp hn
  simp only [Cond.value, ht, hc'] at hv
  exact ⟨hcov, h0, c', hcl, Option.some.inj hv⟩
/-- entries that let it pass, then one that takes it -/
theorem xc_go {e : Env} {s₀ : State} {f : JFrame} {a : Addr} {cell : Cell} (hobj : ∀ k, cell.vm ≠ .statics k) (hk0 : ∃ k, s₀.vm.classes[cell.cls]? = some k)
    (x : ExceptionTableEntry) (rest : List ExceptionTableEntry) (hend : xc_Ent e.platform s₀ f.method.cls f.pc cell.cls true x) :
    ∀ (pre : List ExceptionTableEntry) (S : State), s₀.WarmedH S.vm → S.heap[a]? = some cell → (∀ y ∈ pre, xc_Ent e.platform s₀ f.method.cls f.pc cell.cls false y) →
      ∃ vm', s₀.WarmedH vm' ∧ ∀ (Q : Handler → Pre) (E : CtlPost) (d : Bool) (acts : List Action), wp (findHandler.go f a (pre ++ x :: rest)) Q E e d acts S ↔ Q (.found x.handlerPc) d acts (S.setVm vm') := by
  obtain ⟨k0, hk0⟩ := hk0
  intro pre
  induction pre with
  | nil =>
    intro S hW hcell _
    obtain ⟨k0', hk0', -⟩ := hW.alike.2.2 _ _ hk0
    obtain ⟨hx, h0, c, hl, hfit⟩ := hend
    obtain ⟨dk, _, _, kt, hd, _, _, _, _, hkt, _, hopen⟩ := hl.here
    obtain ⟨kt', hkt', -⟩ := hW.alike.2.2 _ _ hkt
    refine ⟨_, hW.noted hd hopen (State.rightAt_cls hl), fun Q E d acts => ?_⟩
    rw [List.nil_append, xc_row hx h0 (hW.classLinks hl) hcell hobj ⟨k0', hk0'⟩ ⟨kt', hkt'⟩, if_pos (by rw [hW.alike.assignable]; exact hfit)]
  | cons y ys ih =>
    intro S hW hcell hp
    obtain ⟨k0', hk0', -⟩ := hW.alike.2.2 _ _ hk0
    obtain ⟨hx, h0, c, hl, hfit⟩ := hp y List.mem_cons_self
    obtain ⟨dk, _, _, kt, hd, _, _, _, _, hkt, _, hopen⟩ := hl.here
    obtain ⟨kt', hkt', -⟩ := hW.alike.2.2 _ _ hkt
    have hW1 := hW.noted hd hopen (State.rightAt_cls hl)
    obtain ⟨vm', hW', h'⟩ := ih (S.setVm (S.vm.noted f.method.cls y.catchType (.cls c))) hW1 hcell (fun z hz => hp z (List.mem_cons_of_mem _ hz))
    refine ⟨vm', hW', fun Q E d acts => ?_⟩
    rw [List.cons_append, xc_row hx h0 (hW.classLinks hl) hcell hobj ⟨k0', hk0'⟩ ⟨kt', hkt'⟩, if_neg (by rw [hW.alike.assignable, hfit]; decide), h', State.setVm_twice]
theorem xc_step {e : Env} {s : State} {a : Addr} {f : JFrame} {r : List Frame} {pc : Nat} {vm' : Vm} (hfind : xc_To e s f a (.found pc) vm') :
    (stepThrowing e s a (.java f :: r)).Is ((s.setVm vm').setFrames (.java { f with pc := pc, stack := [.ref a] } :: r)) [] := by
  simp only [stepThrowing, searchFrame, vmDo]
  generalize hr : Sem.go _ e false [] s = res
  obtain ⟨as, rfl, ha⟩ := Sem.eq_ok_of hr (a := Handler.found pc) (s' := s.setVm vm') (acts' := []) (by simp [hfind _ _ _ _])
  exact ⟨rfl, ha⟩
theorem xc_steps {tb : Tables} {e : Env} {s target : State} {g : JFrame} {c : Code} {below : List Frame} {a : Addr} (h : At s g.method c below) {pc : Nat} {vm' : Vm}
    (hfind : xc_To e ((s.setTop g).pushFrame (.throwing a)) g a (.found pc) vm') (hrest : Steps tb e below ((s.setVm vm').setTop { g with pc := pc, stack := [.ref a] }) target) :
    Steps tb e below ((s.setTop g).pushFrame (.throwing a)) target := by
  obtain ⟨hgo, hw⟩ := h.throwing a
  refine Steps.head hgo hw ?_
  rw [stepThread_throwing (frames_entered h.top _), (xc_step (s := (s.setTop g).pushFrame (.throwing a)) hfind).1]
  obtain ⟨g₀, hg⟩ := Option.isSome_iff_exists.mp h.top
  obtain ⟨r, hr⟩ := State.topJava?_eq_some.mp hg
  have hr' : (s.setVm vm').frames = .java g₀ :: r := hr
  have tw : ∀ (u : State) (v : Vm) (F G : List Frame), ((u.setFrames F).setVm v).setFrames G = (u.setVm v).setFrames G := by
    intro u v F G
    have h1 : (u.setFrames F).setVm v = (u.setVm v).setFrames F := rfl
    rw [h1, State.setFrames_setFrames]
  rw [State.setTop_of_frames _ hr'] at hrest
  rw [hr, List.tail_cons, State.pushFrame, tw, State.setTop_of_frames _ hr, tw]
  exact hrest
section XC1
variable {p : Program} {l : Launch} {e : Env} {R : Room} {s : State} {m : MethodId} {args : Array Value} {below : List Frame} {meth : Method} {c : Code} {H : Heap} {locs : List Loc} {cells slots : Nat} {Q : State → Prop}
/-- the thrown object is caught in the walked frame: on at the handler, the reference alone on the stack -/
theorem xm_catch {x : Addr} {cell : Cell} {g : JFrame} (hg : g.method = m) (hcell : H[x]? = some cell) (hobj : cell.vm.isStatics = false) (hk0 : ∃ k, s.vm.classes[cell.cls]? = some k) (pre : List ExceptionTableEntry) (y : ExceptionTableEntry) (rest : List ExceptionTableEntry) (hsplit : c.exceptionTable.toList = pre ++ y :: rest)
    (hpre : ∀ z ∈ pre, ∀ pl : Platform, pl.magicAccessors = ({} : Platform).magicAccessors → xc_Ent pl s m.cls g.pc cell.cls false z) (hy : ∀ pl : Platform, pl.magicAccessors = ({} : Platform).magicAccessors → xc_Ent pl s m.cls g.pc cell.cls true y)
    (k : W p l e R s m args below meth c H locs cells slots Q { g with pc := y.handlerPc, stack := [.ref x] }) : xm_Wt p l e R s m args below meth c H locs cells slots Q g x := by
  intro T hT X
  subst hg
  have hpl : e.platform.magicAccessors = ({} : Platform).magicAccessors := by rw [X.admits.platform]
  have hh : T.heap[x]? = some cell := by rw [hT]; exact hcell
  obtain ⟨vm', hW', hf⟩ := xc_go (e := e) (s₀ := s) (f := g) (a := x) (cell := cell) (VmData.ne_statics_of hobj) hk0 y rest (hy _ hpl) pre ((T.setTop g).pushFrame (.throwing x)) X.warmed hh (fun z hz => hpre z hz _ hpl)
  obtain ⟨t, a1, b1⟩ := k (T.setVm vm') hT (X.noted hW')
  refine ⟨t, xc_steps X.here (vm' := vm') (fun Q E d acts => ?_) a1, b1⟩
  rw [Jvm.W.findHandler_eq (s := (T.setTop g).pushFrame (.throwing x)) (meth := meth) (code := c) X.method' X.code, hsplit]
  exact hf Q E d acts
end XC1
