/-! THE SMALL MACHINE'S MEMORY (mine): what a context gives, how the memory follows the heap, rows of fields and arrays -/
def am_up (M : am_M) (a : Nat) (o : am_O) : am_M := fun i => bif i == a then some o else M i
theorem am_up_eq (M : am_M) (a : Nat) (o : am_O) : am_up M a o a = some o := by simp [am_up]
theorem am_up_ne {M : am_M} {a i : Nat} {o : am_O} (h : i ≠ a) : am_up M a o i = M i := by
  have : (i == a) = false := by simpa using h
  simp [am_up, this]
section VM1
variable {G : am_G} {Y : am_Y} {d mc ms : Nat} {p : Program} {R : Room} {s : State} {m : MethodId} {meth : Method} {c : Code}
theorem am_wdc (hC : am_Cx G Y d mc ms p R s m meth c) {w : Cond} (h : am_has w) (a : Array Value) : w.before a s = true := by
  obtain ⟨A, hA⟩ := hC.2.2.2.2.2.2.2.2.2.2.2.2.2.1
  exact am_warm hC.2.2.2.2.2.2.2.2.1 h.2 (hA w h.1)
theorem am_cxW (hC : am_Cx G Y d mc ms p R s m meth c) : G.2.1.WarmedH s.vm := hC.2.2.2.2.2.2.2.2.1
theorem am_cxK (hC : am_Cx G Y d mc ms p R s m meth c) : va_K G.2.2.1 am_cl (am_tys G) s := va_K.moved (am_cxW hC).alike hC.2.2.2.2.2.2.2.2.2.2.2.2.2.2.1
theorem am_cxO (hC : am_Cx G Y d mc ms p R s m meth c) : s.vm.findClass Y.1.cls = some m.cls := hC.2.2.2.2.2.1
theorem am_cxR (hC : am_Cx G Y d mc ms p R s m meth c) : d ≤ R.frames ∧ 200 * d ≤ R.locals ∧ mc ≤ R.cells ∧ ms ≤ R.slots := hC.2.2.2.2.2.2.2.2.2.1
theorem am_cxOk (hC : am_Cx G Y d mc ms p R s m meth c) : am_Ok G := hC.2.2.2.2.2.2.2.2.2.2.2.2
/-- what lies below the start is as it was there -/
theorem am_cxS (hC : am_Cx G Y d mc ms p R s m meth c) {M : am_M} {nx : Nat} {H : Heap} {locs : List Loc} (hH : am_H G M nx H) (hq : ∀ q ∈ locs, am_A G q.base) : va_S (am_A G) G.2.1.heap H locs :=
  ⟨by rw [hH.1]; exact Nat.le_add_right _ _, fun q h1 _ => hH.2.2.1 q h1, hq⟩
theorem am_adB {i : Nat} (h : 1000 ≤ i) : am_ad G i = am_B G + (i - 1000) := by simp [am_ad, Nat.not_lt.mpr h]
theorem am_adA {i : Nat} (h : 1000 ≤ i) : am_A G (am_ad G i) := by rw [am_adB h]; exact Nat.le_add_right _ _
theorem am_ad_inj {i j : Nat} (hi : 1000 ≤ i) (hj : 1000 ≤ j) (h : am_ad G i = am_ad G j) : i = j := by
  rw [am_adB hi, am_adB hj] at h
  omega
theorem am_H_up {M : am_M} {nx a : Nat} {H H' : Heap} {o0 o : am_O} (hH : am_H G M nx H) (hM : M a = some o0) (z : H'.size = H.size) (oq : ∀ q, q ≠ am_ad G a → H'[q]? = H[q]?) (hat : va_at G.2.2.1 am_cl (am_ad G a, am_e G o) H') : am_H G (am_up M a o) nx H' := by
  obtain ⟨h1, h2, h3, h4⟩ := hH
  obtain ⟨ha1, ha2, -⟩ := h4 a _ hM
  refine ⟨z.trans h1, h2, fun q hq => ?_, fun i o' hi => ?_⟩
  · rw [oq q (fun e => by rw [e, am_adB ha1] at hq; omega)]
    exact h3 q hq
  · by_cases hia : i = a
    · subst hia
      rw [am_up_eq] at hi
      cases hi
      exact ⟨ha1, ha2, hat⟩
    · rw [am_up_ne hia] at hi
      obtain ⟨i1, i2, i3⟩ := h4 i _ hi
      exact ⟨i1, i2, i3.kept (oq _ (fun e => hia (am_ad_inj i1 ha1 e)))⟩
theorem am_H_new {M : am_M} {nx : Nat} {H H' : Heap} {o : am_O} (hH : am_H G M nx H) (z : H'.size = H.size + 1) (oq : ∀ q, q < H.size → H'[q]? = H[q]?) (hat : va_at G.2.2.1 am_cl (am_ad G nx, am_e G o) H') : am_H G (am_up M nx o) (nx + 1) H' := by
  obtain ⟨h1, h2, h3, h4⟩ := hH
  refine ⟨by rw [z, h1]; omega, by omega, fun q hq => ?_, fun i o' hi => ?_⟩
  · rw [oq q (by rw [h1]; omega)]
    exact h3 q hq
  · by_cases hia : i = nx
    · subst hia
      rw [am_up_eq] at hi
      cases hi
      exact ⟨h2, Nat.lt_succ_self _, hat⟩
    · rw [am_up_ne hia] at hi
      obtain ⟨i1, i2, i3⟩ := h4 i _ hi
      exact ⟨i1, by omega, i3.kept (oq _ i3.lt)⟩
theorem am_H_sz {M : am_M} {nx : Nat} {H : Heap} (hH : am_H G M nx H) : H.size = am_ad G nx := by rw [hH.1, am_adB hH.2.1]
theorem am_one {D : va_G} {cl : List vw_C} {q : Nat × va_E} {H : Heap} (h : va_at D cl q H) : va_P D cl [q] H := fun k x hk => by
  have hz : k < 1 := (List.getElem?_eq_some_iff.mp hk).1
  rw [show k = 0 by omega] at hk
  cases hk
  exact h
end VM1
/-- a field as a method of the class 'own' names it: its link, its class among am_cl, its place, its type -/
def am_F (own : String) (index ci k : Nat) (t : FieldType) (fin : Bool) : Prop :=
  ∃ C T N ty ref, am_clP ci C T N ty ∧ k < N ∧ ty k = t ∧ (T k).2.2.2 = fin ∧ (am_has (.fieldLink own index ref (T k).2.1 (T k).2.2.1) ∨ ∃ host, am_has (.fieldLinkNest own index ref (T k).2.1 (T k).2.2.1 host)) ∧ (ref = (T k).1 ∨ am_has (.sameField ref (T k).1 (T k).2.1 (T k).2.2.1)) ∧ (fin = true → (T k).1 = own ∧ am_has (.fieldLink own index ref (T k).2.1 (T k).2.2.1))
section VM2
variable {G : am_G} {Y : am_Y} {d mc ms : Nat} {Q : am_Qt} {pc : Nat} {L : List (Nat × Value)} {st : List Value} {M : am_M} {nx cn sn : Nat}
theorem am_sameF {p : Program} {R : Room} {s : State} {m : MethodId} {meth : Method} {c : Code} (hC : am_Cx G Y d mc ms p R s m meth c) {ref o n ds : String} (h : ref = o ∨ am_has (.sameField ref o n ds)) : ∀ x, s.fieldFound? o n ds = some x → s.fieldFound? ref n ds = some x := by
  rcases h with rfl | h
  · exact fun _ h => h
  · exact fun x hx => u_same (args := #[]) (am_wdc hC h #[]) x hx
theorem v_get {index ci k a : Nat} {t : FieldType} {fin : Bool} {fs : List Value} {v : Value} (hd : decode Y.2.1 pc = .ok (.getfield index, 3)) (hF : am_F Y.1.cls index ci k t fin) (hM : M a = some (.inr (ci, fs))) (hv : fs[k]? = some v) (kk : am_V G Y d mc ms Q (pc + 3) L (v :: st) M nx cn sn) : am_V G Y d mc ms Q pc L (.ref a :: st) M nx cn sn := by
  intro p e R s m args below meth c H locs ls hC hH hq hL
  have hx := hC.1
  have hb := hC.2.1
  obtain ⟨C, T, N, ty, ref, hP, hk, -, -, hl, hs, -⟩ := hF
  obtain ⟨-, -, hat⟩ := hH.2.2.2 a _ hM
  have hv' : (fs.map (am_v G))[k]? = some (am_v G v) := by rw [List.getElem?_map, hv]; rfl
  rcases hl with hl | ⟨host, hl⟩
  · refine va_get (D := G.2.2.1) (Ts := u_ws C T N) (ci := ci) hx hb (fun w hw => am_wdc hC (hP.2.1 w hw) args) (fun w hw => hw) (am_cxO hC) (am_cxK hC) (am_one hat) 0 rfl hP.1 k hk (am_wdc hC hl args) (am_sameF hC hs) hv' hd ?_
    exact kk p e R s m args below meth c H locs ls hC hH hq hL
  · refine va_getN (D := G.2.2.1) (Ts := u_ws C T N) (ci := ci) hx hb (fun w hw => am_wdc hC (hP.2.1 w hw) args) (fun w hw => hw) (am_cxO hC) (am_cxK hC) (am_one hat) 0 rfl hP.1 k hk (am_wdc hC hl args) (am_sameF hC hs) hv' hd ?_
    exact kk p e R s m args below meth c H locs ls hC hH hq hL
theorem am_q1 {locs : List Loc} {a i : Nat} (hq : ∀ q ∈ locs, am_A G q.base) (ha : am_A G a) : ∀ q ∈ locs ++ [⟨a, i⟩], am_A G q.base := by
  intro q h
  rcases List.mem_append.mp h with h | h
  · exact hq q h
  · rw [List.mem_singleton.mp h]
    exact ha
theorem v_put {index ci k a : Nat} {t : FieldType} {fs : List Value} {v : Value} (hd : decode Y.2.1 pc = .ok (.putfield index, 3)) (hF : am_F Y.1.cls index ci k t false) (hM : M a = some (.inr (ci, fs))) (hlen : k < fs.length) (hn : narrow t (am_v G v) = am_v G v) (hfit : fits t (am_v G v) = true)
    (kk : am_V G Y d mc ms Q (pc + 3) L st (am_up M a (.inr (ci, fs.set k v))) nx cn sn) : am_V G Y d mc ms Q pc L (v :: .ref a :: st) M nx cn sn := by
  intro p e R s m args below meth c H locs ls hC hH hq hL
  have hx := hC.1
  have hb := hC.2.1
  obtain ⟨C, T, N, ty, ref, hP, hk, ht, hfin, hl, hs, -⟩ := hF
  obtain ⟨ha1, -, hat⟩ := hH.2.2.2 a _ hM
  have hts : ∀ w ∈ u_ws C T N, w.before args s = true := fun w hw => am_wdc hC (hP.2.1 w hw) args
  have hK := am_cxK hC
  have hap := va_apart (own := C) hts (fun w hw => hw) ty hP.2.2.1 hP.2.2.2 hK hP.1
  obtain ⟨r, h1, cell, q1, q2, q3, q4⟩ := hat
  have hr : r = (C, T, N) := Option.some.inj (h1.symm.trans hP.1)
  subst hr
  obtain ⟨hS, hfc, kC, hkC, hkind⟩ := hK.1 ci _ hP.1
  obtain ⟨cf, kf, fi, f, hi, hsl⟩ := hS k hk
  have hlay := hts _ (u_in_lay hk)
  unfold u_lay at hlay
  rw [if_neg (by rw [hfin]; decide)] at hlay
  have hst := (u_facts hfc hkC (u_lays hts (fun w hw => hw) hk) hi).1
  have hdsc : parseFieldDescriptor (T k).2.2.1 = some t := by rw [hP.2.2.1 k hk, ht]
  have h6 := u_store hfc hkC hkind hlay hi hdsc hn hfit
  have key : ∀ H' : Heap, H'[am_ad G a]? = some (cell.setSlot f.slot (am_v G v)) → H'.size = H.size → (∀ q, q ≠ am_ad G a → H'[q]? = H[q]?) → W p G.1 e R s m args below meth c H' (locs ++ [⟨am_ad G a, f.slot⟩]) cn sn (xm_MQ below (am_post G Q) args s mc ms (am_A G)) (F0 m (pc + 3) ls (st.map (am_v G))) := by
    intro H' e1 e2 e3
    refine kk p e R s m args below meth c H' _ ls hC (am_H_up hH hM e2 e3 ?_) (am_q1 hq (am_adA ha1)) hL
    rw [hsl] at e1
    refine ⟨_, hP.1, t_OB.to (V := updV (vp_V (fs.map (am_v G))) k (am_v G v)) ⟨_, e1, q2, q3, t_set q4 hap hk _⟩ (fun j _ => ?_)⟩
    rw [vp_updV_set (by simpa using hlen)]
    simp [vp_V, List.map_set]
  rcases hl with hl | ⟨host, hl⟩
  · exact W.putK hx hb (f := f) ⟨am_cxO hC, am_wdc hC hl args, ⟨_, _, _, am_sameF hC hs _ hi⟩, hst⟩ (by rw [q2]; exact h6) q1 q3 (by rw [hsl]; exact k2_hasslot (q4 k hk)) rfl rfl hd key
  · exact va_WputK hx hb (f := f) (am_cxO hC) (am_wdc hC hl args) (am_sameF hC hs _ hi) hst (by rw [q2]; exact h6) q1 q3 (by rw [hsl]; exact k2_hasslot (q4 k hk)) rfl rfl hd key
theorem v_putF {index ci k a : Nat} {t : FieldType} {fs : List Value} {v : Value} (hd : decode Y.2.1 pc = .ok (.putfield index, 3)) (hF : am_F Y.1.cls index ci k t true) (hin : Y.1.name = "<init>") (hM : M a = some (.inr (ci, fs))) (hlen : k < fs.length) (hn : narrow t (am_v G v) = am_v G v) (hfit : fits t (am_v G v) = true)
    (kk : am_V G Y d mc ms Q (pc + 3) L st (am_up M a (.inr (ci, fs.set k v))) nx cn sn) : am_V G Y d mc ms Q pc L (v :: .ref a :: st) M nx cn sn := by
  intro p e R s m args below meth c H locs ls hC hH hq hL
  have hx := hC.1
  have hb := hC.2.1
  have hin2 : meth.name = "<init>" := hC.2.2.2.2.2.2.1.trans hin
  obtain ⟨C, T, N, ty, ref, hP, hk, ht, hfin, -, hs, hown⟩ := hF
  obtain ⟨hdecl, hl⟩ := hown rfl
  obtain ⟨ha1, -, hat⟩ := hH.2.2.2 a _ hM
  have hts : ∀ w ∈ u_ws C T N, w.before args s = true := fun w hw => am_wdc hC (hP.2.1 w hw) args
  have hK := am_cxK hC
  have hap := va_apart (own := C) hts (fun w hw => hw) ty hP.2.2.1 hP.2.2.2 hK hP.1
  obtain ⟨r, h1, cell, q1, q2, q3, q4⟩ := hat
  have hr : r = (C, T, N) := Option.some.inj (h1.symm.trans hP.1)
  subst hr
  obtain ⟨hS, hfc, kC, hkC, hkind⟩ := hK.1 ci _ hP.1
  obtain ⟨cf, kf, fi, f, hi, hsl⟩ := hS k hk
  have hlay := hts _ (u_in_lay hk)
  unfold u_lay at hlay
  rw [if_pos hfin] at hlay
  have hst := (u_facts hfc hkC (u_lays hts (fun w hw => hw) hk) hi).1
  have hcf : m.cls = cf := by
    obtain ⟨_, _, c', _, _, _, -, -, hf', -, -, -, hown2, -⟩ := Cond.laysFinal_spec hlay
    have e1 : c' = cf := by have := hi.symm.trans hf'; simp at this; exact this.1.symm
    rw [hdecl] at hown2
    rw [← e1]; exact Option.some.inj ((am_cxO hC).symm.trans hown2)
  have hdsc : parseFieldDescriptor (T k).2.2.1 = some t := by rw [hP.2.2.1 k hk, ht]
  have h6 := u_fits hfc hkC hkind (Or.inr hlay) hi hdsc hn hfit
  refine W.putFinK hx hb (am_cxO hC) (am_wdc hC hl args) (am_sameF hC hs _ hi) hst hcf hin2 (by rw [q2]; exact h6) q1 q3 (by rw [hsl]; exact k2_hasslot (q4 k hk)) rfl rfl hd fun H' e1 e2 e3 => ?_
  refine kk p e R s m args below meth c H' _ ls hC (am_H_up hH hM e2 e3 ?_) (am_q1 hq (am_adA ha1)) hL
  rw [hsl] at e1
  refine ⟨_, hP.1, t_OB.to (V := updV (vp_V (fs.map (am_v G))) k (am_v G v)) ⟨_, e1, q2, q3, t_set q4 hap hk _⟩ (fun j _ => ?_)⟩
  rw [vp_updV_set (by simpa using hlen)]
  simp [vp_V, List.map_set]
end VM2
