/-! THE SMALL MACHINE (mine): memory by ids (constants below 1000, made cells from 1000 on, the cell i at the start's heap size + (i - 1000)), one judgement am_V for a frame, am_Vt with a throw over it, am_Tr a method's contract -/
abbrev am_O : Type := (Nat × vp_A) ⊕ (Nat × List Value)
abbrev am_M : Type := Nat → Option am_O
abbrev am_Y : Type := MethodName × ByteArray × Nat × Option FieldType × List (Nat × Nat × Nat × Nat)
abbrev am_G : Type := Launch × State × va_G × (Nat → ClassId) × (Nat → Nat) × Nat × (Nat → Int32)
abbrev am_X : Type := Option Value ⊕ Nat
abbrev am_Qt : Type := am_X → am_M → Nat → Prop
def am_B (G : am_G) : Nat := G.2.1.heap.size
def am_ad (G : am_G) (i : Nat) : Nat := if i < 1000 then G.2.2.2.2.1 i else am_B G + (i - 1000)
def am_v (G : am_G) (v : Value) : Value := match v with
  | .ref i => .ref (am_ad G i)
  | v => v
def am_a (G : am_G) (a : vp_A) : vp_A := (a.1, match a.2 with
  | .inl f => .inl f
  | .inr (.inl f) => .inr (.inl f)
  | .inr (.inr (.inl f)) => .inr (.inr (.inl f))
  | .inr (.inr (.inr (.inl f))) => .inr (.inr (.inr (.inl f)))
  | .inr (.inr (.inr (.inr f))) => .inr (.inr (.inr (.inr (fun j => (f j).map (am_ad G))))))
def am_e (G : am_G) (o : am_O) : va_E := match o with
  | .inl q => .inl (G.2.2.2.1 q.1, am_a G q.2)
  | .inr q => .inr (q.1, q.2.map (am_v G))
def am_tyl : List FieldType := [.byte, .int, .long, .object "java/lang/Object", .object "ValueReckoner$OpenTerm", .object "java/lang/String"]
def am_tys (G : am_G) : List (ClassId × FieldType) := am_tyl.mapIdx (fun i t => (G.2.2.2.1 i, t))
def am_A (G : am_G) : Nat → Prop := fun z => am_B G ≤ z
def am_H (G : am_G) (M : am_M) (nx : Nat) (H : Heap) : Prop := H.size = am_B G + (nx - 1000) ∧ 1000 ≤ nx ∧ (∀ q, q < am_B G → H[q]? = G.2.1.heap[q]?) ∧ ∀ i o, M i = some o → 1000 ≤ i ∧ i < nx ∧ va_at G.2.2.1 am_cl (am_ad G i, am_e G o) H
def am_L (G : am_G) (L : List (Nat × Value)) : List (Nat × Value) := L.map (fun q => (q.1, am_v G q.2))
def am_Kc (G : am_G) : Prop :=
  (∀ q ∈ am_ko, va_O q.2 (am_ad G q.1) (am_A G) G.2.1 G.2.1.heap) ∧ (∀ q ∈ am_kf, va_OF q.2.1 q.2.2.1 q.2.2.2.1 (am_v G q.2.2.2.2) (am_ad G q.1) (am_A G) G.2.1 G.2.1.heap) ∧
  (∀ q ∈ am_kt, va_T q.2.1 (am_ad G q.1) q.2.2.length (fun j => am_v G (q.2.2.getD j .null)) (am_A G) G.2.1 G.2.1.heap) ∧ (∀ q ∈ am_ks, va_Z q.1 q.2.1 q.2.2.1 (am_v G q.2.2.2) (am_A G) G.2.1 G.2.1.heap) ∧
  (∀ q ∈ am_kl, vk_R q.1 q.2.1 q.2.2.1 (am_ad G q.2.2.2) G.2.1) ∧ (va_Z "jdk/internal/util/Preconditions" "SIOOBE_FORMATTER" "Ljava/util/function/BiFunction;" .null (am_A G) G.2.1 G.2.1.heap ∨ va_Z "jdk/internal/util/Preconditions" "SIOOBE_FORMATTER" "Ljava/util/function/BiFunction;" (.ref (am_ad G 56)) (am_A G) G.2.1 G.2.1.heap) ∧
  va_Mi "[Ljava/lang/Object;" (am_ad G 55) G.2.1 ∧ va_Zq "java/lang/Throwable" "UNASSIGNED_STACK" "[Ljava/lang/StackTraceElement;" (am_A G) G.2.1 G.2.1.heap ∧ va_Zq "java/lang/Throwable" "SUPPRESSED_SENTINEL" "Ljava/util/List;" (am_A G) G.2.1 G.2.1.heap ∧ (∃ A : Array Value, (Cond.and given_1 narrow_1).before A G.2.1 = true) ∧ va_X (am_ad G 999) G.2.2.2.2.2.1 G.2.2.2.2.2.2 G.2.1 G.2.1.heap
def am_Ok (G : am_G) : Prop := G.1.flags = flags0 ∧ (∃ A : Array Value, ∀ w ∈ lw_tbl, w.before A G.2.1 = true) ∧ va_K G.2.2.1 am_cl (am_tys G) G.2.1 ∧ am_ad G 999 < am_B G ∧ am_Kc G
def am_out (G : am_G) (o : am_X) : Outcome := match o with
  | .inl v => .returned (v.map (am_v G))
  | .inr x => .threw (am_ad G x)
def am_post (G : am_G) (Q : am_Qt) : Array Value → State → Outcome → State → Prop := fun _ _ o t => ∃ r M nx, Q r M nx ∧ o = am_out G r ∧ am_H G M nx t.heap
def am_pre (G : am_G) (av : List Value) (M : am_M) (nx : Nat) : Array Value → State → Prop := fun a U => a = (av.map (am_v G)).toArray ∧ G.2.1.WarmedH U.vm ∧ am_H G M nx U.heap ∧ am_Ok G
def am_wd (Y : am_Y) : Cond := match Y.2.2.2.2 with
  | [] => .code Y.1 Y.2.1 Y.2.2.1 Y.2.2.2.1
  | q :: qs => .codeWith Y.1 Y.2.1 Y.2.2.1 Y.2.2.2.1 (q :: qs)
def am_rm (d mc ms : Nat) : Room := { frames := d, cells := mc, slots := ms, locals := 200 * d }
def am_Tr (G : am_G) (Y : am_Y) (d mc ms : Nat) (av : List Value) (M : am_M) (nx : Nat) (Q : am_Qt) : Prop := xm_Met G.1 Y.1 [am_wd Y] (am_rm d mc ms) (am_pre G av M nx) (am_post G Q) mc ms (am_A G)
def am_Cx (G : am_G) (Y : am_Y) (d mc ms : Nat) (p : Program) (R : Room) (s : State) (m : MethodId) (meth : Method) (c : Code) : Prop :=
  p.tables.exec = Jvm.exec ∧ c.code = Y.2.1 ∧ c.maxLocals = Y.2.2.1 ∧ meth.sig.returnType = Y.2.2.2.1 ∧ meth.locks = false ∧ s.vm.findClass Y.1.cls = some m.cls ∧ meth.name = Y.1.name ∧
  c.exceptionTable.toList.map (fun h => (h.startPc, h.endPc, h.handlerPc, h.catchType)) = Y.2.2.2.2 ∧ G.2.1.WarmedH s.vm ∧ (d ≤ R.frames ∧ 200 * d ≤ R.locals ∧ mc ≤ R.cells ∧ ms ≤ R.slots) ∧ (∀ q, q < am_B G → s.heap[q]? = G.2.1.heap[q]?) ∧ am_B G ≤ s.heap.size ∧ am_Ok G
def am_V (G : am_G) (Y : am_Y) (d mc ms : Nat) (Q : am_Qt) (pc : Nat) (L : List (Nat × Value)) (st : List Value) (M : am_M) (nx cn sn : Nat) : Prop :=
  ∀ (p : Program) (e : Env) (R : Room) (s : State) (m : MethodId) (args : Array Value) (below : List Frame) (meth : Method) (c : Code) (H : Heap) (locs : List Loc) (ls : Array Slot),
    am_Cx G Y d mc ms p R s m meth c → am_H G M nx H → (∀ q ∈ locs, am_A G q.base) → lv_has ls Y.2.2.1 (am_L G L) →
    W p G.1 e R s m args below meth c H locs cn sn (xm_MQ below (am_post G Q) args s mc ms (am_A G)) (F0 m pc ls (st.map (am_v G)))
def am_Vt (G : am_G) (Y : am_Y) (d mc ms : Nat) (Q : am_Qt) (pc : Nat) (L : List (Nat × Value)) (st : List Value) (x : Nat) (M : am_M) (nx cn sn : Nat) : Prop :=
  ∀ (p : Program) (e : Env) (R : Room) (s : State) (m : MethodId) (args : Array Value) (below : List Frame) (meth : Method) (c : Code) (H : Heap) (locs : List Loc) (ls : Array Slot),
    am_Cx G Y d mc ms p R s m meth c → am_H G M nx H → (∀ q ∈ locs, am_A G q.base) → lv_has ls Y.2.2.1 (am_L G L) →
    xm_Wt p G.1 e R s m args below meth c H locs cn sn (xm_MQ below (am_post G Q) args s mc ms (am_A G)) (F0 m pc ls (st.map (am_v G))) (am_ad G x)
/-- the value of a local variable -/
def am_lk : List (Nat × Value) → Nat → Option Value
  | [], _ => none
  | (j, v) :: t, i => bif j == i then some v else am_lk t i
theorem am_lk_mem {L : List (Nat × Value)} {i : Nat} {v : Value} (h : am_lk L i = some v) : (i, v) ∈ L := by
  induction L with
  | nil => simp [am_lk] at h
  | cons q t ih =>
    obtain ⟨j, w⟩ := q
    by_cases hj : j = i
    · subst hj
      simp [am_lk] at h
      subst h
      exact List.mem_cons_self
    · have : (j == i) = false := by simpa using hj
      simp [am_lk, this] at h
      exact List.mem_cons_of_mem _ (ih h)
theorem am_loc {G : am_G} {ls : Array Slot} {n : Nat} {L : List (Nat × Value)} {i : Nat} {v : Value} (hL : lv_has ls n (am_L G L)) (h : am_lk L i = some v) : ls[i]? = some (.val (am_v G v)) :=
  hL.2.2 (i, am_v G v) (List.mem_map.mpr ⟨(i, v), am_lk_mem h, rfl⟩)
theorem am_cat (G : am_G) (v : Value) : (am_v G v).category = v.category := by cases v <;> rfl
/-- the locals behind a store -/
def am_s1 (L : List (Nat × Value)) (i : Nat) (v : Value) : List (Nat × Value) := (i, v) :: L.filter (fun q => !(q.1 == i) && !(q.1 + 1 == i && q.2.category == 2))
def am_s2 (L : List (Nat × Value)) (i : Nat) (v : Value) : List (Nat × Value) := (i, v) :: L.filter (fun q => !(q.1 == i) && (!(q.1 == i + 1) && !(q.1 + 1 == i && q.2.category == 2)))
theorem am_s1_L (G : am_G) (L : List (Nat × Value)) (i : Nat) (v : Value) : (i, am_v G v) :: (am_L G L).filter (fun q => !(q.1 == i) && !(q.1 + 1 == i && q.2.category == 2)) = am_L G (am_s1 L i v) := by
  simp only [am_L, am_s1, List.map_cons, List.filter_map]
  congr 2
  apply List.filter_congr
  intro q _
  simp [Function.comp, am_cat]
theorem am_s2_L (G : am_G) (L : List (Nat × Value)) (i : Nat) (v : Value) : (i, am_v G v) :: (am_L G L).filter (fun q => !(q.1 == i) && (!(q.1 == i + 1) && !(q.1 + 1 == i && q.2.category == 2))) = am_L G (am_s2 L i v) := by
  simp only [am_L, am_s2, List.map_cons, List.filter_map]
  congr 2
  apply List.filter_congr
  intro q _
  simp [Function.comp, am_cat]

section VR1
variable {G : am_G} {Y : am_Y} {d mc ms : Nat} {Q : am_Qt} {pc : Nat} {L : List (Nat × Value)} {st : List Value} {M : am_M} {nx cn sn : Nat}
theorem v_iconst {n : Int} {v : Int32} (hd : decode Y.2.1 pc = .ok (.iconst n, 1)) (hv : Int32.ofInt n = v) (k : am_V G Y d mc ms Q (pc + 1) L (.int v :: st) M nx cn sn) : am_V G Y d mc ms Q pc L st M nx cn sn := by
  intro p e R s m args below meth c H locs ls hC hH hq hL
  have hx := hC.1
  have hb := hC.2.1
  refine lv_iconst hx hb hd hv ?_
  exact k p e R s m args below meth c H locs ls hC hH hq hL
theorem v_bipush {n : Int} {v : Int32} (hd : decode Y.2.1 pc = .ok (.bipush n, 2)) (hv : (Int8.ofInt n).toInt32 = v) (k : am_V G Y d mc ms Q (pc + 2) L (.int v :: st) M nx cn sn) : am_V G Y d mc ms Q pc L st M nx cn sn := by
  intro p e R s m args below meth c H locs ls hC hH hq hL
  have hx := hC.1
  have hb := hC.2.1
  refine lv_bipush hx hb hd hv ?_
  exact k p e R s m args below meth c H locs ls hC hH hq hL
theorem v_sipush {n : Int} {v : Int32} (hd : decode Y.2.1 pc = .ok (.sipush n, 3)) (hv : (Int16.ofInt n).toInt32 = v) (k : am_V G Y d mc ms Q (pc + 3) L (.int v :: st) M nx cn sn) : am_V G Y d mc ms Q pc L st M nx cn sn := by
  intro p e R s m args below meth c H locs ls hC hH hq hL
  have hx := hC.1
  have hb := hC.2.1
  refine lv_sipush hx hb hd hv ?_
  exact k p e R s m args below meth c H locs ls hC hH hq hL
theorem v_lconst {n : Fin 2} {v : Int64} (hd : decode Y.2.1 pc = .ok (.lconst n, 1)) (hv : Int64.ofNat (n : Nat) = v) (k : am_V G Y d mc ms Q (pc + 1) L (.long v :: st) M nx cn sn) : am_V G Y d mc ms Q pc L st M nx cn sn := by
  intro p e R s m args below meth c H locs ls hC hH hq hL
  have hx := hC.1
  have hb := hC.2.1
  refine lv_lconst hx hb hd hv ?_
  exact k p e R s m args below meth c H locs ls hC hH hq hL
theorem v_null (hd : decode Y.2.1 pc = .ok (.aconst_null, 1)) (k : am_V G Y d mc ms Q (pc + 1) L (.null :: st) M nx cn sn) : am_V G Y d mc ms Q pc L st M nx cn sn := by
  intro p e R s m args below meth c H locs ls hC hH hq hL
  have hx := hC.1
  have hb := hC.2.1
  refine lv_null hx hb hd ?_
  exact k p e R s m args below meth c H locs ls hC hH hq hL
theorem v_iload_n {k : Fin 4} {x : Int32} (hd : decode Y.2.1 pc = .ok (.iload_n k, 1)) (hl : am_lk L (k : Nat) = some (.int x)) (k : am_V G Y d mc ms Q (pc + 1) L (.int x :: st) M nx cn sn) : am_V G Y d mc ms Q pc L st M nx cn sn := by
  intro p e R s m args below meth c H locs ls hC hH hq hL
  have hx := hC.1
  have hb := hC.2.1
  refine lv_iload_n hx hb hd rfl (am_loc hL hl) ?_
  exact k p e R s m args below meth c H locs ls hC hH hq hL
theorem v_iload {i : Nat} {x : Int32} (hd : decode Y.2.1 pc = .ok (.iload i, 2)) (hl : am_lk L i = some (.int x)) (k : am_V G Y d mc ms Q (pc + 2) L (.int x :: st) M nx cn sn) : am_V G Y d mc ms Q pc L st M nx cn sn := by
  intro p e R s m args below meth c H locs ls hC hH hq hL
  have hx := hC.1
  have hb := hC.2.1
  refine lv_iload hx hb hd (am_loc hL hl) ?_
  exact k p e R s m args below meth c H locs ls hC hH hq hL
theorem v_lload_n {k : Fin 4} {x : Int64} (hd : decode Y.2.1 pc = .ok (.lload_n k, 1)) (hl : am_lk L (k : Nat) = some (.long x)) (k : am_V G Y d mc ms Q (pc + 1) L (.long x :: st) M nx cn sn) : am_V G Y d mc ms Q pc L st M nx cn sn := by
  intro p e R s m args below meth c H locs ls hC hH hq hL
  have hx := hC.1
  have hb := hC.2.1
  refine lv_lload_n hx hb hd rfl (am_loc hL hl) ?_
  exact k p e R s m args below meth c H locs ls hC hH hq hL
theorem v_lload {i : Nat} {x : Int64} (hd : decode Y.2.1 pc = .ok (.lload i, 2)) (hl : am_lk L i = some (.long x)) (k : am_V G Y d mc ms Q (pc + 2) L (.long x :: st) M nx cn sn) : am_V G Y d mc ms Q pc L st M nx cn sn := by
  intro p e R s m args below meth c H locs ls hC hH hq hL
  have hx := hC.1
  have hb := hC.2.1
  refine lv_lload hx hb hd (am_loc hL hl) ?_
  exact k p e R s m args below meth c H locs ls hC hH hq hL
theorem v_aload_n {k : Fin 4} {x : Nat} (hd : decode Y.2.1 pc = .ok (.aload_n k, 1)) (hl : am_lk L (k : Nat) = some (.ref x)) (k : am_V G Y d mc ms Q (pc + 1) L (.ref x :: st) M nx cn sn) : am_V G Y d mc ms Q pc L st M nx cn sn := by
  intro p e R s m args below meth c H locs ls hC hH hq hL
  have hx := hC.1
  have hb := hC.2.1
  refine lv_aload_n hx hb hd rfl (am_loc hL hl) ?_
  exact k p e R s m args below meth c H locs ls hC hH hq hL
theorem v_aload {i : Nat} {x : Nat} (hd : decode Y.2.1 pc = .ok (.aload i, 2)) (hl : am_lk L i = some (.ref x)) (k : am_V G Y d mc ms Q (pc + 2) L (.ref x :: st) M nx cn sn) : am_V G Y d mc ms Q pc L st M nx cn sn := by
  intro p e R s m args below meth c H locs ls hC hH hq hL
  have hx := hC.1
  have hb := hC.2.1
  refine lv_aload hx hb hd (am_loc hL hl) ?_
  exact k p e R s m args below meth c H locs ls hC hH hq hL
theorem v_aload_nN {k : Fin 4} (hd : decode Y.2.1 pc = .ok (.aload_n k, 1)) (hl : am_lk L (k : Nat) = some .null) (k : am_V G Y d mc ms Q (pc + 1) L (.null :: st) M nx cn sn) : am_V G Y d mc ms Q pc L st M nx cn sn := by
  intro p e R s m args below meth c H locs ls hC hH hq hL
  have hx := hC.1
  have hb := hC.2.1
  refine lv_aload_nN hx hb hd rfl (am_loc hL hl) ?_
  exact k p e R s m args below meth c H locs ls hC hH hq hL
theorem v_aloadN {i : Nat} (hd : decode Y.2.1 pc = .ok (.aload i, 2)) (hl : am_lk L i = some .null) (k : am_V G Y d mc ms Q (pc + 2) L (.null :: st) M nx cn sn) : am_V G Y d mc ms Q pc L st M nx cn sn := by
  intro p e R s m args below meth c H locs ls hC hH hq hL
  have hx := hC.1
  have hb := hC.2.1
  refine lv_aloadN hx hb hd (am_loc hL hl) ?_
  exact k p e R s m args below meth c H locs ls hC hH hq hL
theorem v_istore_n {k : Fin 4} {x : Int32} (hd : decode Y.2.1 pc = .ok (.istore_n k, 1)) (hn : (k : Nat) < Y.2.2.1) {L1 : List (Nat × Value)} (hs : am_s1 L (k : Nat) (.int x) = L1) (k : am_V G Y d mc ms Q (pc + 1) L1 st M nx cn sn) : am_V G Y d mc ms Q pc L (.int x :: st) M nx cn sn := by
  subst hs
  intro p e R s m args below meth c H locs ls hC hH hq hL
  have hx := hC.1
  have hb := hC.2.1
  refine lv_istore_n hx hb hd rfl hL hn (am_s1_L G L _ (.int x)) (fun ls1 hL1 => ?_)
  exact k p e R s m args below meth c H locs ls1 hC hH hq hL1
theorem v_istore {i : Nat} {x : Int32} (hd : decode Y.2.1 pc = .ok (.istore i, 2)) (hn : i < Y.2.2.1) {L1 : List (Nat × Value)} (hs : am_s1 L i (.int x) = L1) (k : am_V G Y d mc ms Q (pc + 2) L1 st M nx cn sn) : am_V G Y d mc ms Q pc L (.int x :: st) M nx cn sn := by
  subst hs
  intro p e R s m args below meth c H locs ls hC hH hq hL
  have hx := hC.1
  have hb := hC.2.1
  refine lv_istore hx hb hd hL hn (am_s1_L G L _ (.int x)) (fun ls1 hL1 => ?_)
  exact k p e R s m args below meth c H locs ls1 hC hH hq hL1
theorem v_lstore_n {k : Fin 4} {x : Int64} (hd : decode Y.2.1 pc = .ok (.lstore_n k, 1)) (hn : (k : Nat) + 1 < Y.2.2.1) {L1 : List (Nat × Value)} (hs : am_s2 L (k : Nat) (.long x) = L1) (k : am_V G Y d mc ms Q (pc + 1) L1 st M nx cn sn) : am_V G Y d mc ms Q pc L (.long x :: st) M nx cn sn := by
  subst hs
  intro p e R s m args below meth c H locs ls hC hH hq hL
  have hx := hC.1
  have hb := hC.2.1
  refine lv_lstore_n hx hb hd rfl hL hn (am_s2_L G L _ (.long x)) (fun ls1 hL1 => ?_)
  exact k p e R s m args below meth c H locs ls1 hC hH hq hL1
theorem v_lstore {i : Nat} {x : Int64} (hd : decode Y.2.1 pc = .ok (.lstore i, 2)) (hn : i + 1 < Y.2.2.1) {L1 : List (Nat × Value)} (hs : am_s2 L i (.long x) = L1) (k : am_V G Y d mc ms Q (pc + 2) L1 st M nx cn sn) : am_V G Y d mc ms Q pc L (.long x :: st) M nx cn sn := by
  subst hs
  intro p e R s m args below meth c H locs ls hC hH hq hL
  have hx := hC.1
  have hb := hC.2.1
  refine lv_lstore hx hb hd hL hn (am_s2_L G L _ (.long x)) (fun ls1 hL1 => ?_)
  exact k p e R s m args below meth c H locs ls1 hC hH hq hL1
theorem v_astore_n {k : Fin 4} {x : Nat} (hd : decode Y.2.1 pc = .ok (.astore_n k, 1)) (hn : (k : Nat) < Y.2.2.1) {L1 : List (Nat × Value)} (hs : am_s1 L (k : Nat) (.ref x) = L1) (k : am_V G Y d mc ms Q (pc + 1) L1 st M nx cn sn) : am_V G Y d mc ms Q pc L (.ref x :: st) M nx cn sn := by
  subst hs
  intro p e R s m args below meth c H locs ls hC hH hq hL
  have hx := hC.1
  have hb := hC.2.1
  refine lv_astore_n hx hb hd rfl hL hn (am_s1_L G L _ (.ref x)) (fun ls1 hL1 => ?_)
  exact k p e R s m args below meth c H locs ls1 hC hH hq hL1
theorem v_astore {i : Nat} {x : Nat} (hd : decode Y.2.1 pc = .ok (.astore i, 2)) (hn : i < Y.2.2.1) {L1 : List (Nat × Value)} (hs : am_s1 L i (.ref x) = L1) (k : am_V G Y d mc ms Q (pc + 2) L1 st M nx cn sn) : am_V G Y d mc ms Q pc L (.ref x :: st) M nx cn sn := by
  subst hs
  intro p e R s m args below meth c H locs ls hC hH hq hL
  have hx := hC.1
  have hb := hC.2.1
  refine lv_astore hx hb hd hL hn (am_s1_L G L _ (.ref x)) (fun ls1 hL1 => ?_)
  exact k p e R s m args below meth c H locs ls1 hC hH hq hL1
theorem v_astore_nN {k : Fin 4} (hd : decode Y.2.1 pc = .ok (.astore_n k, 1)) (hn : (k : Nat) < Y.2.2.1) {L1 : List (Nat × Value)} (hs : am_s1 L (k : Nat) .null = L1) (k : am_V G Y d mc ms Q (pc + 1) L1 st M nx cn sn) : am_V G Y d mc ms Q pc L (.null :: st) M nx cn sn := by
  subst hs
  intro p e R s m args below meth c H locs ls hC hH hq hL
  have hx := hC.1
  have hb := hC.2.1
  refine lv_astore_nN hx hb hd rfl hL hn (am_s1_L G L _ .null) (fun ls1 hL1 => ?_)
  exact k p e R s m args below meth c H locs ls1 hC hH hq hL1
theorem v_astoreN {i : Nat} (hd : decode Y.2.1 pc = .ok (.astore i, 2)) (hn : i < Y.2.2.1) {L1 : List (Nat × Value)} (hs : am_s1 L i .null = L1) (k : am_V G Y d mc ms Q (pc + 2) L1 st M nx cn sn) : am_V G Y d mc ms Q pc L (.null :: st) M nx cn sn := by
  subst hs
  intro p e R s m args below meth c H locs ls hC hH hq hL
  have hx := hC.1
  have hb := hC.2.1
  refine lv_astoreN hx hb hd hL hn (am_s1_L G L _ .null) (fun ls1 hL1 => ?_)
  exact k p e R s m args below meth c H locs ls1 hC hH hq hL1
theorem v_iinc {i : Nat} {n : Int} {x v : Int32} (hd : decode Y.2.1 pc = .ok (.iinc i n, 3)) (hl : am_lk L i = some (.int x)) (hv : x + Int32.ofInt n = v) (hn : i < Y.2.2.1) {L1 : List (Nat × Value)} (hs : am_s1 L i (.int v) = L1) (k : am_V G Y d mc ms Q (pc + 3) L1 st M nx cn sn) : am_V G Y d mc ms Q pc L st M nx cn sn := by
  subst hs
  intro p e R s m args below meth c H locs ls hC hH hq hL
  have hx := hC.1
  have hb := hC.2.1
  obtain ⟨z, hz⟩ := List.mem_iff_getElem?.mp (am_lk_mem hl)
  refine lv_iinc (k := z) (x := x) (v := v) hx hb hd hL (by simp only [am_L, List.getElem?_map, hz]; rfl) hv hn (am_s1_L G L i (.int v)) (fun ls1 hL1 => ?_)
  exact k p e R s m args below meth c H locs ls1 hC hH hq hL1
theorem v_iadd {x y : Int32} (hd : decode Y.2.1 pc = .ok (.iadd, 1)) (k : am_V G Y d mc ms Q (pc + 1) L (.int (x + y) :: st) M nx cn sn) : am_V G Y d mc ms Q pc L (.int y :: .int x :: st) M nx cn sn := by
  intro p e R s m args below meth c H locs ls hC hH hq hL
  have hx := hC.1
  have hb := hC.2.1
  refine lv_iadd hx hb hd ?_
  exact k p e R s m args below meth c H locs ls hC hH hq hL
theorem v_isub {x y : Int32} (hd : decode Y.2.1 pc = .ok (.isub, 1)) (k : am_V G Y d mc ms Q (pc + 1) L (.int (x - y) :: st) M nx cn sn) : am_V G Y d mc ms Q pc L (.int y :: .int x :: st) M nx cn sn := by
  intro p e R s m args below meth c H locs ls hC hH hq hL
  have hx := hC.1
  have hb := hC.2.1
  refine lv_isub hx hb hd ?_
  exact k p e R s m args below meth c H locs ls hC hH hq hL
theorem v_imul {x y : Int32} (hd : decode Y.2.1 pc = .ok (.imul, 1)) (k : am_V G Y d mc ms Q (pc + 1) L (.int (x * y) :: st) M nx cn sn) : am_V G Y d mc ms Q pc L (.int y :: .int x :: st) M nx cn sn := by
  intro p e R s m args below meth c H locs ls hC hH hq hL
  have hx := hC.1
  have hb := hC.2.1
  refine lv_imul hx hb hd ?_
  exact k p e R s m args below meth c H locs ls hC hH hq hL
theorem v_iand {x y : Int32} (hd : decode Y.2.1 pc = .ok (.iand, 1)) (k : am_V G Y d mc ms Q (pc + 1) L (.int (x &&& y) :: st) M nx cn sn) : am_V G Y d mc ms Q pc L (.int y :: .int x :: st) M nx cn sn := by
  intro p e R s m args below meth c H locs ls hC hH hq hL
  have hx := hC.1
  have hb := hC.2.1
  refine lv_iand hx hb hd ?_
  exact k p e R s m args below meth c H locs ls hC hH hq hL
theorem v_ior {x y : Int32} (hd : decode Y.2.1 pc = .ok (.ior, 1)) (k : am_V G Y d mc ms Q (pc + 1) L (.int (x ||| y) :: st) M nx cn sn) : am_V G Y d mc ms Q pc L (.int y :: .int x :: st) M nx cn sn := by
  intro p e R s m args below meth c H locs ls hC hH hq hL
  have hx := hC.1
  have hb := hC.2.1
  refine lv_ior hx hb hd ?_
  exact k p e R s m args below meth c H locs ls hC hH hq hL
theorem v_ixor {x y : Int32} (hd : decode Y.2.1 pc = .ok (.ixor, 1)) (k : am_V G Y d mc ms Q (pc + 1) L (.int (x ^^^ y) :: st) M nx cn sn) : am_V G Y d mc ms Q pc L (.int y :: .int x :: st) M nx cn sn := by
  intro p e R s m args below meth c H locs ls hC hH hq hL
  have hx := hC.1
  have hb := hC.2.1
  refine lv_ixor hx hb hd ?_
  exact k p e R s m args below meth c H locs ls hC hH hq hL
theorem v_ishl {x y : Int32} (hd : decode Y.2.1 pc = .ok (.ishl, 1)) (k : am_V G Y d mc ms Q (pc + 1) L (.int (x <<< (y &&& 31)) :: st) M nx cn sn) : am_V G Y d mc ms Q pc L (.int y :: .int x :: st) M nx cn sn := by
  intro p e R s m args below meth c H locs ls hC hH hq hL
  have hx := hC.1
  have hb := hC.2.1
  refine lv_ishl hx hb hd ?_
  exact k p e R s m args below meth c H locs ls hC hH hq hL
theorem v_ishr {x y : Int32} (hd : decode Y.2.1 pc = .ok (.ishr, 1)) (k : am_V G Y d mc ms Q (pc + 1) L (.int (x >>> (y &&& 31)) :: st) M nx cn sn) : am_V G Y d mc ms Q pc L (.int y :: .int x :: st) M nx cn sn := by
  intro p e R s m args below meth c H locs ls hC hH hq hL
  have hx := hC.1
  have hb := hC.2.1
  refine lv_ishr hx hb hd ?_
  exact k p e R s m args below meth c H locs ls hC hH hq hL
theorem v_ladd {x y : Int64} (hd : decode Y.2.1 pc = .ok (.ladd, 1)) (k : am_V G Y d mc ms Q (pc + 1) L (.long (x + y) :: st) M nx cn sn) : am_V G Y d mc ms Q pc L (.long y :: .long x :: st) M nx cn sn := by
  intro p e R s m args below meth c H locs ls hC hH hq hL
  have hx := hC.1
  have hb := hC.2.1
  refine lv_ladd hx hb hd ?_
  exact k p e R s m args below meth c H locs ls hC hH hq hL
theorem v_lsub {x y : Int64} (hd : decode Y.2.1 pc = .ok (.lsub, 1)) (k : am_V G Y d mc ms Q (pc + 1) L (.long (x - y) :: st) M nx cn sn) : am_V G Y d mc ms Q pc L (.long y :: .long x :: st) M nx cn sn := by
  intro p e R s m args below meth c H locs ls hC hH hq hL
  have hx := hC.1
  have hb := hC.2.1
  refine lv_lsub hx hb hd ?_
  exact k p e R s m args below meth c H locs ls hC hH hq hL
theorem v_lmul {x y : Int64} (hd : decode Y.2.1 pc = .ok (.lmul, 1)) (k : am_V G Y d mc ms Q (pc + 1) L (.long (x * y) :: st) M nx cn sn) : am_V G Y d mc ms Q pc L (.long y :: .long x :: st) M nx cn sn := by
  intro p e R s m args below meth c H locs ls hC hH hq hL
  have hx := hC.1
  have hb := hC.2.1
  refine lv_lmul hx hb hd ?_
  exact k p e R s m args below meth c H locs ls hC hH hq hL
theorem v_lxor {x y : Int64} (hd : decode Y.2.1 pc = .ok (.lxor, 1)) (k : am_V G Y d mc ms Q (pc + 1) L (.long (x ^^^ y) :: st) M nx cn sn) : am_V G Y d mc ms Q pc L (.long y :: .long x :: st) M nx cn sn := by
  intro p e R s m args below meth c H locs ls hC hH hq hL
  have hx := hC.1
  have hb := hC.2.1
  refine lv_lxor hx hb hd ?_
  exact k p e R s m args below meth c H locs ls hC hH hq hL
theorem v_ldiv {x y : Int64} (hd : decode Y.2.1 pc = .ok (.ldiv, 1)) (hne : ¬ y = 0) (k : am_V G Y d mc ms Q (pc + 1) L (.long (x / y) :: st) M nx cn sn) : am_V G Y d mc ms Q pc L (.long y :: .long x :: st) M nx cn sn := by
  intro p e R s m args below meth c H locs ls hC hH hq hL
  have hx := hC.1
  have hb := hC.2.1
  refine lv_ldiv hx hb hd hne ?_
  exact k p e R s m args below meth c H locs ls hC hH hq hL
theorem v_lrem {x y : Int64} (hd : decode Y.2.1 pc = .ok (.lrem, 1)) (hne : ¬ y = 0) (k : am_V G Y d mc ms Q (pc + 1) L (.long (x - x / y * y) :: st) M nx cn sn) : am_V G Y d mc ms Q pc L (.long y :: .long x :: st) M nx cn sn := by
  intro p e R s m args below meth c H locs ls hC hH hq hL
  have hx := hC.1
  have hb := hC.2.1
  refine lv_lrem hx hb hd hne ?_
  exact k p e R s m args below meth c H locs ls hC hH hq hL
theorem v_lneg {x : Int64} (hd : decode Y.2.1 pc = .ok (.lneg, 1)) (k : am_V G Y d mc ms Q (pc + 1) L (.long (-x) :: st) M nx cn sn) : am_V G Y d mc ms Q pc L (.long x :: st) M nx cn sn := by
  intro p e R s m args below meth c H locs ls hC hH hq hL
  have hx := hC.1
  have hb := hC.2.1
  refine lv_lneg hx hb hd ?_
  exact k p e R s m args below meth c H locs ls hC hH hq hL
theorem v_iushr {x y v : Int32} (hd : decode Y.2.1 pc = .ok (.iushr, 1)) (hv : (x.toUInt32 >>> (y.toUInt32 &&& Int32.toUInt32 31)).toInt32 = v) (k : am_V G Y d mc ms Q (pc + 1) L (.int v :: st) M nx cn sn) : am_V G Y d mc ms Q pc L (.int y :: .int x :: st) M nx cn sn := by
  intro p e R s m args below meth c H locs ls hC hH hq hL
  have hx := hC.1
  have hb := hC.2.1
  refine lv_iushr hx hb hd hv ?_
  exact k p e R s m args below meth c H locs ls hC hH hq hL
theorem v_i2l {x : Int32} {v : Int64} (hd : decode Y.2.1 pc = .ok (.i2l, 1)) (hv : x.toInt64 = v) (k : am_V G Y d mc ms Q (pc + 1) L (.long v :: st) M nx cn sn) : am_V G Y d mc ms Q pc L (.int x :: st) M nx cn sn := by
  intro p e R s m args below meth c H locs ls hC hH hq hL
  have hx := hC.1
  have hb := hC.2.1
  refine lv_i2l hx hb hd hv ?_
  exact k p e R s m args below meth c H locs ls hC hH hq hL
theorem v_i2b {x v : Int32} (hd : decode Y.2.1 pc = .ok (.i2b, 1)) (hv : x.toInt8.toInt32 = v) (k : am_V G Y d mc ms Q (pc + 1) L (.int v :: st) M nx cn sn) : am_V G Y d mc ms Q pc L (.int x :: st) M nx cn sn := by
  intro p e R s m args below meth c H locs ls hC hH hq hL
  have hx := hC.1
  have hb := hC.2.1
  refine lv_i2b hx hb hd hv ?_
  exact k p e R s m args below meth c H locs ls hC hH hq hL
theorem v_i2c {x v : Int32} (hd : decode Y.2.1 pc = .ok (.i2c, 1)) (hv : (x.toUInt32 % 65536).toInt32 = v) (k : am_V G Y d mc ms Q (pc + 1) L (.int v :: st) M nx cn sn) : am_V G Y d mc ms Q pc L (.int x :: st) M nx cn sn := by
  intro p e R s m args below meth c H locs ls hC hH hq hL
  have hx := hC.1
  have hb := hC.2.1
  refine lv_i2c hx hb hd hv ?_
  exact k p e R s m args below meth c H locs ls hC hH hq hL
theorem v_lcmp {x y : Int64} (hd : decode Y.2.1 pc = .ok (.lcmp, 1)) (k : am_V G Y d mc ms Q (pc + 1) L (.int (lg_cmp x y) :: st) M nx cn sn) : am_V G Y d mc ms Q pc L (.long y :: .long x :: st) M nx cn sn := by
  intro p e R s m args below meth c H locs ls hC hH hq hL
  have hx := hC.1
  have hb := hC.2.1
  refine W.lcmp hx hb hd ?_
  exact k p e R s m args below meth c H locs ls hC hH hq hL
theorem v_dup {a : Value} (hd : decode Y.2.1 pc = .ok (.dup, 1)) (ha : a.category = 1) (k : am_V G Y d mc ms Q (pc + 1) L (a :: a :: st) M nx cn sn) : am_V G Y d mc ms Q pc L (a :: st) M nx cn sn := by
  intro p e R s m args below meth c H locs ls hC hH hq hL
  have hx := hC.1
  have hb := hC.2.1
  refine lv_dup hx hb hd ((am_cat G a).trans ha) ?_
  exact k p e R s m args below meth c H locs ls hC hH hq hL
theorem v_dup_x1 {a b : Value} (hd : decode Y.2.1 pc = .ok (.dup_x1, 1)) (ha : a.category = 1) (hb1 : b.category = 1) (k : am_V G Y d mc ms Q (pc + 1) L (a :: b :: a :: st) M nx cn sn) : am_V G Y d mc ms Q pc L (a :: b :: st) M nx cn sn := by
  intro p e R s m args below meth c H locs ls hC hH hq hL
  have hx := hC.1
  have hb := hC.2.1
  refine lv_dup_x1 hx hb hd ((am_cat G a).trans ha) ((am_cat G b).trans hb1) ?_
  exact k p e R s m args below meth c H locs ls hC hH hq hL
theorem v_dup2 {a b : Value} (hd : decode Y.2.1 pc = .ok (.dup2, 1)) (ha : a.category = 1) (hb1 : b.category = 1) (k : am_V G Y d mc ms Q (pc + 1) L (a :: b :: a :: b :: st) M nx cn sn) : am_V G Y d mc ms Q pc L (a :: b :: st) M nx cn sn := by
  intro p e R s m args below meth c H locs ls hC hH hq hL
  have hx := hC.1
  have hb := hC.2.1
  refine lv_dup2_11 hx hb hd ((am_cat G a).trans ha) ((am_cat G b).trans hb1) ?_
  exact k p e R s m args below meth c H locs ls hC hH hq hL
theorem v_pop {a : Value} (hd : decode Y.2.1 pc = .ok (.pop, 1)) (ha : a.category = 1) (k : am_V G Y d mc ms Q (pc + 1) L st M nx cn sn) : am_V G Y d mc ms Q pc L (a :: st) M nx cn sn := by
  intro p e R s m args below meth c H locs ls hC hH hq hL
  have hx := hC.1
  have hb := hC.2.1
  refine lv_pop hx hb hd ((am_cat G a).trans ha) ?_
  exact k p e R s m args below meth c H locs ls hC hH hq hL
theorem v_goto {off : Int} {tgt : Nat} (hd : decode Y.2.1 pc = .ok (.goto off, 3)) (ht : (pc : Int) + off = (tgt : Int)) (k : am_V G Y d mc ms Q tgt L st M nx cn sn) : am_V G Y d mc ms Q pc L st M nx cn sn := by
  intro p e R s m args below meth c H locs ls hC hH hq hL
  have hx := hC.1
  have hb := hC.2.1
  refine lv_goto hx hb hd ht ?_
  exact k p e R s m args below meth c H locs ls hC hH hq hL
theorem v_if_eq {x : Int32} {off : Int} {tgt : Nat} (hd : decode Y.2.1 pc = .ok (.ifCond .eq off, 3)) (ht : (pc : Int) + off = (tgt : Int)) (k : x = 0 → am_V G Y d mc ms Q tgt L st M nx cn sn) (k2 : ¬ x = 0 → am_V G Y d mc ms Q (pc + 3) L st M nx cn sn) : am_V G Y d mc ms Q pc L (.int x :: st) M nx cn sn := by
  intro p e R s m args below meth c H locs ls hC hH hq hL
  have hx := hC.1
  have hb := hC.2.1
  refine lv_if_eq hx hb hd ht (fun h => ?_) (fun h => ?_)
  · exact k h p e R s m args below meth c H locs ls hC hH hq hL
  · exact k2 h p e R s m args below meth c H locs ls hC hH hq hL
theorem v_icmp_eq {x y : Int32} {off : Int} {tgt : Nat} (hd : decode Y.2.1 pc = .ok (.if_icmp .eq off, 3)) (ht : (pc : Int) + off = (tgt : Int)) (k : x = y → am_V G Y d mc ms Q tgt L st M nx cn sn) (k2 : ¬ x = y → am_V G Y d mc ms Q (pc + 3) L st M nx cn sn) : am_V G Y d mc ms Q pc L (.int y :: .int x :: st) M nx cn sn := by
  intro p e R s m args below meth c H locs ls hC hH hq hL
  have hx := hC.1
  have hb := hC.2.1
  refine lv_icmp_eq hx hb hd ht (fun h => ?_) (fun h => ?_)
  · exact k h p e R s m args below meth c H locs ls hC hH hq hL
  · exact k2 h p e R s m args below meth c H locs ls hC hH hq hL
theorem v_if_ne {x : Int32} {off : Int} {tgt : Nat} (hd : decode Y.2.1 pc = .ok (.ifCond .ne off, 3)) (ht : (pc : Int) + off = (tgt : Int)) (k : ¬ x = 0 → am_V G Y d mc ms Q tgt L st M nx cn sn) (k2 : x = 0 → am_V G Y d mc ms Q (pc + 3) L st M nx cn sn) : am_V G Y d mc ms Q pc L (.int x :: st) M nx cn sn := by
  intro p e R s m args below meth c H locs ls hC hH hq hL
  have hx := hC.1
  have hb := hC.2.1
  refine lv_if_ne hx hb hd ht (fun h => ?_) (fun h => ?_)
  · exact k h p e R s m args below meth c H locs ls hC hH hq hL
  · exact k2 h p e R s m args below meth c H locs ls hC hH hq hL
theorem v_icmp_ne {x y : Int32} {off : Int} {tgt : Nat} (hd : decode Y.2.1 pc = .ok (.if_icmp .ne off, 3)) (ht : (pc : Int) + off = (tgt : Int)) (k : ¬ x = y → am_V G Y d mc ms Q tgt L st M nx cn sn) (k2 : x = y → am_V G Y d mc ms Q (pc + 3) L st M nx cn sn) : am_V G Y d mc ms Q pc L (.int y :: .int x :: st) M nx cn sn := by
  intro p e R s m args below meth c H locs ls hC hH hq hL
  have hx := hC.1
  have hb := hC.2.1
  refine lv_icmp_ne hx hb hd ht (fun h => ?_) (fun h => ?_)
  · exact k h p e R s m args below meth c H locs ls hC hH hq hL
  · exact k2 h p e R s m args below meth c H locs ls hC hH hq hL
theorem v_if_lt {x : Int32} {off : Int} {tgt : Nat} (hd : decode Y.2.1 pc = .ok (.ifCond .lt off, 3)) (ht : (pc : Int) + off = (tgt : Int)) (k : x < 0 → am_V G Y d mc ms Q tgt L st M nx cn sn) (k2 : ¬ x < 0 → am_V G Y d mc ms Q (pc + 3) L st M nx cn sn) : am_V G Y d mc ms Q pc L (.int x :: st) M nx cn sn := by
  intro p e R s m args below meth c H locs ls hC hH hq hL
  have hx := hC.1
  have hb := hC.2.1
  refine lv_if_lt hx hb hd ht (fun h => ?_) (fun h => ?_)
  · exact k h p e R s m args below meth c H locs ls hC hH hq hL
  · exact k2 h p e R s m args below meth c H locs ls hC hH hq hL
theorem v_icmp_lt {x y : Int32} {off : Int} {tgt : Nat} (hd : decode Y.2.1 pc = .ok (.if_icmp .lt off, 3)) (ht : (pc : Int) + off = (tgt : Int)) (k : x < y → am_V G Y d mc ms Q tgt L st M nx cn sn) (k2 : ¬ x < y → am_V G Y d mc ms Q (pc + 3) L st M nx cn sn) : am_V G Y d mc ms Q pc L (.int y :: .int x :: st) M nx cn sn := by
  intro p e R s m args below meth c H locs ls hC hH hq hL
  have hx := hC.1
  have hb := hC.2.1
  refine lv_icmp_lt hx hb hd ht (fun h => ?_) (fun h => ?_)
  · exact k h p e R s m args below meth c H locs ls hC hH hq hL
  · exact k2 h p e R s m args below meth c H locs ls hC hH hq hL
theorem v_if_ge {x : Int32} {off : Int} {tgt : Nat} (hd : decode Y.2.1 pc = .ok (.ifCond .ge off, 3)) (ht : (pc : Int) + off = (tgt : Int)) (k : 0 ≤ x → am_V G Y d mc ms Q tgt L st M nx cn sn) (k2 : ¬ 0 ≤ x → am_V G Y d mc ms Q (pc + 3) L st M nx cn sn) : am_V G Y d mc ms Q pc L (.int x :: st) M nx cn sn := by
  intro p e R s m args below meth c H locs ls hC hH hq hL
  have hx := hC.1
  have hb := hC.2.1
  refine lv_if_ge hx hb hd ht (fun h => ?_) (fun h => ?_)
  · exact k h p e R s m args below meth c H locs ls hC hH hq hL
  · exact k2 h p e R s m args below meth c H locs ls hC hH hq hL
theorem v_icmp_ge {x y : Int32} {off : Int} {tgt : Nat} (hd : decode Y.2.1 pc = .ok (.if_icmp .ge off, 3)) (ht : (pc : Int) + off = (tgt : Int)) (k : y ≤ x → am_V G Y d mc ms Q tgt L st M nx cn sn) (k2 : ¬ y ≤ x → am_V G Y d mc ms Q (pc + 3) L st M nx cn sn) : am_V G Y d mc ms Q pc L (.int y :: .int x :: st) M nx cn sn := by
  intro p e R s m args below meth c H locs ls hC hH hq hL
  have hx := hC.1
  have hb := hC.2.1
  refine lv_icmp_ge hx hb hd ht (fun h => ?_) (fun h => ?_)
  · exact k h p e R s m args below meth c H locs ls hC hH hq hL
  · exact k2 h p e R s m args below meth c H locs ls hC hH hq hL
theorem v_if_gt {x : Int32} {off : Int} {tgt : Nat} (hd : decode Y.2.1 pc = .ok (.ifCond .gt off, 3)) (ht : (pc : Int) + off = (tgt : Int)) (k : 0 < x → am_V G Y d mc ms Q tgt L st M nx cn sn) (k2 : ¬ 0 < x → am_V G Y d mc ms Q (pc + 3) L st M nx cn sn) : am_V G Y d mc ms Q pc L (.int x :: st) M nx cn sn := by
  intro p e R s m args below meth c H locs ls hC hH hq hL
  have hx := hC.1
  have hb := hC.2.1
  refine lv_if_gt hx hb hd ht (fun h => ?_) (fun h => ?_)
  · exact k h p e R s m args below meth c H locs ls hC hH hq hL
  · exact k2 h p e R s m args below meth c H locs ls hC hH hq hL
theorem v_icmp_gt {x y : Int32} {off : Int} {tgt : Nat} (hd : decode Y.2.1 pc = .ok (.if_icmp .gt off, 3)) (ht : (pc : Int) + off = (tgt : Int)) (k : y < x → am_V G Y d mc ms Q tgt L st M nx cn sn) (k2 : ¬ y < x → am_V G Y d mc ms Q (pc + 3) L st M nx cn sn) : am_V G Y d mc ms Q pc L (.int y :: .int x :: st) M nx cn sn := by
  intro p e R s m args below meth c H locs ls hC hH hq hL
  have hx := hC.1
  have hb := hC.2.1
  refine lv_icmp_gt hx hb hd ht (fun h => ?_) (fun h => ?_)
  · exact k h p e R s m args below meth c H locs ls hC hH hq hL
  · exact k2 h p e R s m args below meth c H locs ls hC hH hq hL
theorem v_if_le {x : Int32} {off : Int} {tgt : Nat} (hd : decode Y.2.1 pc = .ok (.ifCond .le off, 3)) (ht : (pc : Int) + off = (tgt : Int)) (k : x ≤ 0 → am_V G Y d mc ms Q tgt L st M nx cn sn) (k2 : ¬ x ≤ 0 → am_V G Y d mc ms Q (pc + 3) L st M nx cn sn) : am_V G Y d mc ms Q pc L (.int x :: st) M nx cn sn := by
  intro p e R s m args below meth c H locs ls hC hH hq hL
  have hx := hC.1
  have hb := hC.2.1
  refine lv_if_le hx hb hd ht (fun h => ?_) (fun h => ?_)
  · exact k h p e R s m args below meth c H locs ls hC hH hq hL
  · exact k2 h p e R s m args below meth c H locs ls hC hH hq hL
theorem v_icmp_le {x y : Int32} {off : Int} {tgt : Nat} (hd : decode Y.2.1 pc = .ok (.if_icmp .le off, 3)) (ht : (pc : Int) + off = (tgt : Int)) (k : x ≤ y → am_V G Y d mc ms Q tgt L st M nx cn sn) (k2 : ¬ x ≤ y → am_V G Y d mc ms Q (pc + 3) L st M nx cn sn) : am_V G Y d mc ms Q pc L (.int y :: .int x :: st) M nx cn sn := by
  intro p e R s m args below meth c H locs ls hC hH hq hL
  have hx := hC.1
  have hb := hC.2.1
  refine lv_icmp_le hx hb hd ht (fun h => ?_) (fun h => ?_)
  · exact k h p e R s m args below meth c H locs ls hC hH hq hL
  · exact k2 h p e R s m args below meth c H locs ls hC hH hq hL
theorem v_ifnonnull {x : Nat} {off : Int} {tgt : Nat} (hd : decode Y.2.1 pc = .ok (.ifnonnull off, 3)) (ht : (pc : Int) + off = (tgt : Int)) (k : am_V G Y d mc ms Q tgt L st M nx cn sn) : am_V G Y d mc ms Q pc L (.ref x :: st) M nx cn sn := by
  intro p e R s m args below meth c H locs ls hC hH hq hL
  have hx := hC.1
  have hb := hC.2.1
  refine lv_ifnonnull hx hb hd ht ?_
  exact k p e R s m args below meth c H locs ls hC hH hq hL
theorem v_ifnull {x : Nat} {off : Int} (hd : decode Y.2.1 pc = .ok (.ifnull off, 3)) (k : am_V G Y d mc ms Q (pc + 3) L st M nx cn sn) : am_V G Y d mc ms Q pc L (.ref x :: st) M nx cn sn := by
  intro p e R s m args below meth c H locs ls hC hH hq hL
  have hx := hC.1
  have hb := hC.2.1
  refine lv_ifnull hx hb hd ?_
  exact k p e R s m args below meth c H locs ls hC hH hq hL
theorem v_ifnullN {off : Int} {tgt : Nat} (hd : decode Y.2.1 pc = .ok (.ifnull off, 3)) (ht : (pc : Int) + off = (tgt : Int)) (k : am_V G Y d mc ms Q tgt L st M nx cn sn) : am_V G Y d mc ms Q pc L (.null :: st) M nx cn sn := by
  intro p e R s m args below meth c H locs ls hC hH hq hL
  have hx := hC.1
  have hb := hC.2.1
  refine lv_ifnullN hx hb hd ht ?_
  exact k p e R s m args below meth c H locs ls hC hH hq hL
theorem v_ifnonnullN {off : Int} (hd : decode Y.2.1 pc = .ok (.ifnonnull off, 3)) (k : am_V G Y d mc ms Q (pc + 3) L st M nx cn sn) : am_V G Y d mc ms Q pc L (.null :: st) M nx cn sn := by
  intro p e R s m args below meth c H locs ls hC hH hq hL
  have hx := hC.1
  have hb := hC.2.1
  refine lv_ifnonnullN hx hb hd ?_
  exact k p e R s m args below meth c H locs ls hC hH hq hL
theorem v_lookup {dflt : Int} {ps : Array (Int × Int)} {len : Nat} {x : Int32} {off : Int} {tgt : Nat} (hd : decode Y.2.1 pc = .ok (.lookupswitch dflt ps, len)) (hp : (ps.toList.zip (ps.toList.drop 1)).all (fun (a, next) => a.1 < next.1) = true) (ho : Op.lookupswitch.offset ps.toList dflt x.toInt = off) (ht : (pc : Int) + off = (tgt : Int)) (k : am_V G Y d mc ms Q tgt L st M nx cn sn) : am_V G Y d mc ms Q pc L (.int x :: st) M nx cn sn := by
  intro p e R s m args below meth c H locs ls hC hH hq hL
  have hx := hC.1
  have hb := hC.2.1
  refine lv_lookup hx hb hd hp ho ht ?_
  exact k p e R s m args below meth c H locs ls hC hH hq hL
theorem v_tableIn {dflt lo hi : Int} {offs : Array Int} {len : Nat} {x : Int32} {off : Int} {tgt : Nat} (hd : decode Y.2.1 pc = .ok (.tableswitch dflt lo hi offs, len)) (h1 : ¬ x.toInt < lo) (h2 : ¬ hi < x.toInt) (ho : offs[(x.toInt - lo).toNat]? = some off) (ht : (pc : Int) + off = (tgt : Int)) (k : am_V G Y d mc ms Q tgt L st M nx cn sn) : am_V G Y d mc ms Q pc L (.int x :: st) M nx cn sn := by
  intro p e R s m args below meth c H locs ls hC hH hq hL
  have hx := hC.1
  have hb := hC.2.1
  refine lv_tableIn hx hb hd h1 h2 ho ht ?_
  exact k p e R s m args below meth c H locs ls hC hH hq hL
theorem v_tableOut {dflt lo hi : Int} {offs : Array Int} {len : Nat} {x : Int32} {tgt : Nat} (hd : decode Y.2.1 pc = .ok (.tableswitch dflt lo hi offs, len)) (h : x.toInt < lo ∨ hi < x.toInt) (ht : (pc : Int) + dflt = (tgt : Int)) (k : am_V G Y d mc ms Q tgt L st M nx cn sn) : am_V G Y d mc ms Q pc L (.int x :: st) M nx cn sn := by
  intro p e R s m args below meth c H locs ls hC hH hq hL
  have hx := hC.1
  have hb := hC.2.1
  refine lv_tableOut hx hb hd h ht ?_
  exact k p e R s m args below meth c H locs ls hC hH hq hL
theorem v_ireturn {x : Int32} {ty : FieldType} (hd : decode Y.2.1 pc = .ok (.ireturn, 1)) (hr : Y.2.2.2.1 = some ty) (hn : narrow ty (.int x) = .int x) (h1 : cn ≤ mc) (h2 : sn ≤ ms) (hQ : Q (.inl (some (.int x))) M nx) : am_V G Y d mc ms Q pc L [.int x] M nx cn sn := by
  intro p e R s m args below meth c H locs ls hC hH hq hL
  have hx := hC.1
  have hb := hC.2.1
  have hlocks := hC.2.2.2.2.1
  refine xm_mono (fun t h => xm_of_MQ h) ?_
  refine W.widen h1 h2 ?_
  exact W.zret hx hb (hC.2.2.2.1.trans hr) hn (fun t ht _ => ⟨.inl (some (.int x)), M, nx, hQ, rfl, by rw [ht]; exact hH⟩) hq hd hlocks
theorem v_lreturn {x : Int64} (hd : decode Y.2.1 pc = .ok (.lreturn, 1)) (hr : Y.2.2.2.1 = some .long) (h1 : cn ≤ mc) (h2 : sn ≤ ms) (hQ : Q (.inl (some (.long x))) M nx) : am_V G Y d mc ms Q pc L [.long x] M nx cn sn := by
  intro p e R s m args below meth c H locs ls hC hH hq hL
  have hx := hC.1
  have hb := hC.2.1
  have hlocks := hC.2.2.2.2.1
  refine xm_mono (fun t h => xm_of_MQ h) ?_
  refine W.widen h1 h2 ?_
  exact W.lret hx hb (hC.2.2.2.1.trans hr) (fun t ht _ => ⟨.inl (some (.long x)), M, nx, hQ, rfl, by rw [ht]; exact hH⟩) hq hd hlocks
theorem v_return  (hd : decode Y.2.1 pc = .ok (.return_, 1)) (hr : Y.2.2.2.1 = none) (h1 : cn ≤ mc) (h2 : sn ≤ ms) (hQ : Q (.inl none) M nx) : am_V G Y d mc ms Q pc L [] M nx cn sn := by
  intro p e R s m args below meth c H locs ls hC hH hq hL
  have hx := hC.1
  have hb := hC.2.1
  have hlocks := hC.2.2.2.2.1
  refine xm_mono (fun t h => xm_of_MQ h) ?_
  refine W.widen h1 h2 ?_
  exact W.vret hx hb (hC.2.2.2.1.trans hr) (fun t ht _ => ⟨.inl none, M, nx, hQ, rfl, by rw [ht]; exact hH⟩) hq hd hlocks
theorem v_areturn {x : Nat} {rt : FieldType} (hd : decode Y.2.1 pc = .ok (.areturn, 1)) (hr : Y.2.2.2.1 = some rt) (hn : (∃ n, rt = .object n) ∨ ∃ t, rt = .array t) (h1 : cn ≤ mc) (h2 : sn ≤ ms) (hQ : Q (.inl (some (.ref x))) M nx) : am_V G Y d mc ms Q pc L [.ref x] M nx cn sn := by
  intro p e R s m args below meth c H locs ls hC hH hq hL
  have hx := hC.1
  have hb := hC.2.1
  have hlocks := hC.2.2.2.2.1
  refine xm_mono (fun t h => xm_of_MQ h) ?_
  refine W.widen h1 h2 ?_
  exact W.aret hx hb (hC.2.2.2.1.trans hr) hn (Or.inr ⟨_, rfl⟩) (fun t ht _ => ⟨.inl (some (.ref x)), M, nx, hQ, rfl, by rw [ht]; exact hH⟩) hq hd hlocks
theorem v_areturnN {rt : FieldType} (hd : decode Y.2.1 pc = .ok (.areturn, 1)) (hr : Y.2.2.2.1 = some rt) (hn : (∃ n, rt = .object n) ∨ ∃ t, rt = .array t) (h1 : cn ≤ mc) (h2 : sn ≤ ms) (hQ : Q (.inl (some .null)) M nx) : am_V G Y d mc ms Q pc L [.null] M nx cn sn := by
  intro p e R s m args below meth c H locs ls hC hH hq hL
  have hx := hC.1
  have hb := hC.2.1
  have hlocks := hC.2.2.2.2.1
  refine xm_mono (fun t h => xm_of_MQ h) ?_
  refine W.widen h1 h2 ?_
  exact W.aret hx hb (hC.2.2.2.1.trans hr) hn (Or.inl rfl) (fun t ht _ => ⟨.inl (some .null), M, nx, hQ, rfl, by rw [ht]; exact hH⟩) hq hd hlocks
end VR1
