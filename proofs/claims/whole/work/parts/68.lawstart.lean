/-! THE LAW FROM ITS ENTRY (mine) -/
theorem ji_start {M0 Ma Mx Mb : am_M} (ha : vr_Q M0 (.inl none) Ma 1211) (hx : ∀ k, k < 1211 → Mx k = Ma k) (hb : MM_init_Q Mx (.inl none) Mb 1239) : JI 0 (fun _ => 0) (am_up Mb 1239 (.inl (2, 1, .inr (.inl (fun _ => 0))))) 1240 := by
  obtain ⟨_, _, a5, a6, a7, ao, ap, a8, a9, a10, a0, a1, a2, a3, a4, _⟩ := ha
  obtain ⟨_, _, ⟨sd, rk, s1, s2, b11, b12, b13, b14, b15, b16, b17, b18, b19, b20, b21, b22, b23, b24, b25, b26, b27, b28, b29, b30, b31, b32, b33, b34, b35, b36, b37, b38⟩, bf⟩ := hb
  have F : ∀ k, k < 1211 → (am_up Mb 1239 (.inl (2, 1, .inr (.inl (fun _ => 0))))) k = Ma k := fun k hk => (am_up_ne (by omega)).trans ((bf k hk).trans (hx k hk))
  have N : ∀ {k : Nat} {o : am_O}, k < 1239 → Mb k = some o → (am_up Mb 1239 (.inl (2, 1, .inr (.inl (fun _ => 0))))) k = some o := fun hk h => (am_up_ne (by omega)).trans h
  have z0 : ∀ i : Nat, -128 ≤ (0 : Int32).toInt ∧ (0 : Int32).toInt ≤ 127 := fun _ => by decide
  refine ⟨fun _ => 0, 0, 0, fun _ => 0, fun _ _ => 0, fun _ => 0, -1, 0, z0, by omega, by omega, fun i hi => absurd hi (by omega), ⟨(F _ (by omega)).trans a0, (F _ (by omega)).trans a1, (F _ (by omega)).trans a2, ?_, ?_⟩, ⟨⟨0, N (by omega) b11⟩, ?_, ⟨_, _, _, _, _, _, _, _, _, _, _, _, _, N (by omega) b25⟩, ⟨⟨_, N (by omega) b36⟩, ⟨_, N (by omega) b37⟩, ⟨_, N (by omega) b38⟩⟩, fun _ => 0, fun _ => 0, ?_⟩, am_up_eq _ _ _⟩
  · refine ⟨⟨_, _, _, _, _, _, (F _ (by omega)).trans a5⟩, ⟨_, _, _, _, _, _, _, (F _ (by omega)).trans a6⟩, (F _ (by omega)).trans a7, fun j _ hj => ?_, ⟨(0, 0, 0, 0), (F _ (by omega)).trans a8⟩, ⟨(0, 0, 0, 0), (F _ (by omega)).trans a9⟩, ⟨(0, 0, 0, 0), (F _ (by omega)).trans a10⟩⟩
    exact ⟨_, _, _, _, _, _, _, _, _, (F _ (by omega)).trans (ao j hj), (F _ (by omega)).trans (ap j hj)⟩
  · exact ⟨fun _ => 0, fun _ => 0, 54, 0, fun _ => none, 0, ⟨(F _ (by omega)).trans a3, (F _ (by omega)).trans a4, fun z => absurd z (by omega), by omega, by omega, fun i hi => absurd hi (by omega), fun i hi => absurd hi (by omega)⟩, Or.inl ⟨rfl, rfl⟩, fun i hi => absurd hi (by omega), fun i j hi => absurd hi (by omega)⟩
  · exact ⟨⟨N (by omega) b12, ⟨sd, rk, N (by omega) b26, s1, N (by omega) b27, s2⟩, N (by omega) b28⟩, ⟨(fun _ => 0, fun _ => 0, fun _ => 0, fun _ => 0, fun _ => 0, fun _ => 0), 0, 0, N (by omega) b13, N (by omega) b14, N (by omega) b15, N (by omega) b16, N (by omega) b17, N (by omega) b18, N (by omega) b19⟩, ⟨_, _, N (by omega) b20⟩, ⟨_, N (by omega) b21, z0⟩, ⟨_, N (by omega) b22⟩, ⟨_, N (by omega) b23⟩, ⟨_, N (by omega) b24⟩, ⟨_, N (by omega) b29, z0⟩, ⟨_, N (by omega) b30⟩, ⟨_, N (by omega) b31⟩, ⟨_, N (by omega) b32⟩⟩
  · exact ⟨N (by omega) b33, z0, ⟨_, N (by omega) b34, fun i _ => rfl⟩, ⟨_, N (by omega) b35, fun i hi => absurd hi (by omega)⟩, rfl, fun i hi => absurd hi (by omega), by omega⟩
set_option maxRecDepth 20000 in
theorem t_law (G : am_G) (hL3 : G.2.2.2.2.2.1 ≤ 3072) : am_V G m_LW_law 420 601024 7293034 (fun r M1 nx1 => r = .inl (some (.int 1))) 0 [(0, .ref 999)] [] (fun _ => none) 1000 0 0 := by
  refine v_new (fs := [.null, .null, .null, .int 0, .int 0]) (am_Dk d_LW_law (k := 0) rfl) cq_ok0 n_LW_8 i_VR.1 i_VR.2 (by decide) rfl (by omega) (by omega) ?_
  refine v_dup (am_Dk d_LW_law (k := 1) rfl) rfl ?_
  refine v_callI (rest := [.ref 1000]) (As := []) (mc' := 210) (ms' := 5235) (am_Dk d_LW_law (k := 2) rfl) c_LW_40 (t_VR_init G (d := 5) (by omega) (am_up_eq _ _ _)) (by omega) (by omega) (by omega) (by simp [Value.category]) rfl (fun v1 M2 n3 h4 => ?_) (fun _ _ _ h4 => ?_)
  rotate_left
  · exact absurd h4.1 (by simp)
  have hqa := h4
  obtain ⟨hv9, hn9, _⟩ := id h4
  cases hv9
  replace hn9 := hn9.symm
  subst hn9
  show am_V G _ _ _ _ _ 7 [(0, .ref 999)] [.ref 1000] M2 1211 211 5240
  refine v_astore_n (L1 := [(1, .ref 1000), (0, .ref 999)]) (am_Dk d_LW_law (k := 3) rfl) (by decide) rfl ?_
  refine v_new (fs := [.int 0, .int 0, .int 0, .int 0, .int 0, .null, .null, .null, .null, .null, .null, .null, .null, .null, .null, .long 0]) (am_Dk d_LW_law (k := 4) rfl) cq_ok9 n_LW_41 i_MM.1 i_MM.2 (by decide) rfl (by omega) (by omega) ?_
  refine v_dup (am_Dk d_LW_law (k := 5) rfl) rfl ?_
  refine v_callI (rest := [.ref 1211]) (As := []) (mc' := 27) (ms' := 335898) (am_Dk d_LW_law (k := 6) rfl) c_LW_43 (t_MM_init G (d := 7) (by omega) (am_up_eq _ _ _)) (by omega) (by omega) (by omega) (by simp [Value.category]) rfl (fun v5 M6 n7 h8 => ?_) (fun _ _ _ h8 => ?_)
  rotate_left
  · exact absurd h8.1 (by simp)
  have hqb := h8
  obtain ⟨hv9, hn9, _⟩ := id h8
  cases hv9
  replace hn9 := hn9.symm
  subst hn9
  show am_V G _ _ _ _ _ 15 [(1, .ref 1000), (0, .ref 999)] [.ref 1211] M6 1239 239 341154
  refine v_astore_n (L1 := [(2, .ref 1211), (1, .ref 1000), (0, .ref 999)]) (am_Dk d_LW_law (k := 7) rfl) (by decide) rfl ?_
  refine v_iconst (v := 1) (am_Dk d_LW_law (k := 8) rfl) (by decide) ?_
  refine v_new_long (N := 1) (am_Dk d_LW_law (k := 9) rfl) am_ac_long (by decide) (by decide) (by decide) (by omega) (by omega) ?_
  refine v_astore_n (L1 := [(3, .ref 1239), (2, .ref 1211), (1, .ref 1000), (0, .ref 999)]) (am_Dk d_LW_law (k := 10) rfl) (by decide) rfl ?_
  refine v_iconst (v := 0) (am_Dk d_LW_law (k := 11) rfl) (by decide) ?_
  refine v_istore (L1 := [(4, .int 0), (3, .ref 1239), (2, .ref 1211), (1, .ref 1000), (0, .ref 999)]) (am_Dk d_LW_law (k := 12) rfl) (by decide) rfl ?_
  exact l_law G (by decide) hL3 513 0 _ _ _ _ 0 (fun _ => 0) (by omega) (by omega) (ji_start hqa (fun k hk => am_up_ne (by omega)) hqb) (by decide) (by decide)
theorem lw_same {s t : State} {L : List Loc} {k n : Nat} (h : s.sameButNew t L k n) (hL : ∀ q ∈ L, s.heap.size ≤ q.base) : s.sameButNew t [] k n := by
  obtain ⟨a, b, c, d, e, g⟩ := h
  refine ⟨a, b, c, d, e, fun x cl hc => ?_⟩
  obtain ⟨c', k1, k2, k3, k4⟩ := g x cl hc
  refine ⟨c', k1, k2, k3, fun i _ => k4 i (fun hm => ?_)⟩
  have h1 := hL _ hm
  have h2 := (Array.getElem?_eq_some_iff.mp hc).1
  exact absurd h2 (Nat.not_lt.mpr h1)
theorem whole_start {p : Program} {e : Env} {s : State} {m : MethodId} {below : List Frame} {meth : Method} {c : Code} (l : Launch) {b L : Nat} {xs : Nat → Int32} (hL : L ≤ 3072) (hfl : l.flags = flags0) (hnm : meth.name = x.name) (hex : c.exceptionTable.toList.map (fun h => (h.startPc, h.endPc, h.handlerPc, h.catchType)) = []) (C0 : lw_At p s m meth c b L xs) : W p l e room_1 s m #[Value.ref b] below meth c s.heap [] 0 0 (lw_Z below #[Value.ref b] s) (entryFrame m ([Value.ref b] : List Value).toArray 8) := by
  obtain ⟨G, rfl, rfl, hG3, hG4, hG5, hOk⟩ := am_start l hfl C0
  obtain ⟨hx, hb, hr, hml, hown, hts, hX, hbl, hlocks, hgv⟩ := C0
  have hV := t_law G (by rw [hG3]; exact hL)
  have hl := lv_entry (([.ref 999] : List Value).map (am_v G)) (n := 8) (by rw [am_sl_len]; decide)
  rw [am_args] at hl
  have hH : am_H G (fun _ => none) 1000 G.2.1.heap := ⟨rfl, Nat.le_refl _, fun _ _ => rfl, fun i o h => by cases h⟩
  have e9 : ([Value.ref b] : List Value) = ([.ref 999] : List Value).map (am_v G) := by
    show [Value.ref b] = [Value.ref (am_ad G 999)]
    rw [hG5]
  rw [show (#[Value.ref b] : Array Value) = ([Value.ref b] : List Value).toArray from rfl, e9, lg_entry_eq]
  refine xm_mono (fun t ht => ?_) (hV p e room_1 G.2.1 m _ below meth c G.2.1.heap [] _ ⟨hx, hb, hml, hr, hlocks, hown, hnm, hex, State.WarmedH.refl _, ⟨by decide, by decide, Nat.le_refl _, Nat.le_refl _⟩, fun _ _ => rfl, Nat.le_refl _, hOk⟩ hH (fun q hq => by cases hq) hl)
  obtain ⟨o, h1, h2, ⟨r, M, nx, hQ, ho, _⟩, Lc, hE, hfr⟩ := ht
  subst hQ
  subst ho
  exact ⟨_, h1, h2, rfl, ⟨_, rfl⟩, hE.1, lw_same hE.2 hfr⟩
set_option maxHeartbeats 4000000 in
theorem lw_walk (l : Launch) (hfl : l.flags = flags0) (b : Addr) (xs : List Int32) : MetFree l x (headSpec (Jvm.Cond.code x code maxLocals ret :: tables_1) room_1) (lw_P b xs) (fun _ _ _ _ _ => True) lw_Q := by
  refine MetFree.of_bodyS (code := code) (maxLocals := maxLocals) (ret := ret) (by decide) ?_ ?_
  · intro args s m h hn
    obtain ⟨meth, c, h1, h2, h3, h4, h5, h6, -, -⟩ := Cond.code_spec hn (atoms_spec (ws := Jvm.Cond.code x code maxLocals ret :: tables_1) h _ List.mem_cons_self)
    exact ⟨meth, c, h1, h2, h3, h4, h5, h6⟩
  · intro p e s m args below meth c s₁ B hml0 hP _
    obtain ⟨rfl, hx, hbd, hgv⟩ := hP
    obtain ⟨scr, harrAt, hlist, hof, hsmall⟩ := hx
    obtain ⟨hcb, hkn, -, -⟩ := State.arrayAt?_spec harrAt
    have hown : s.vm.findClass R_law = some m.cls := findClass_of_methodNamed B.named
    have hts0 : ∀ c ∈ (Jvm.Cond.code x code maxLocals ret :: tables_1), c.before #[Value.ref b] s = true := atoms_spec (ws := Jvm.Cond.code x code maxLocals ret :: tables_1) B.pre
    have hts : ∀ w ∈ lw_tbl, w.before #[Value.ref b] s = true := k2_hts_sels lw_privs (fun w hw => hts0 w (List.mem_cons_of_mem _ hw)) lw_privs_ok
    have hml : c.maxLocals = 8 := B.maxLocals_eq (hts0 _ List.mem_cons_self)
    have X₀ : Stand p l e room_1 s m #[Value.ref b] below meth c s₁ [] 0 0 := Stand.of_body B
    have hh0 : s₁.heap = s.heap := by rw [B.state]; rfl
    have hsz : scr.slots.size = xs.length := by rw [← Array.length_toList, hlist, List.length_map]
    have hval : ∀ j : Nat, j < xs.length → scr.slots[j]? = some (.int (xs.getD j 0)) := fun j hj => by
      rw [← Array.getElem?_toList, hlist]
      simp [hj]
    have hbl : b < s.heap.size := (Array.getElem?_eq_some_iff.mp hcb).1
    have hX : va_X b xs.length (fun j => xs.getD j 0) s s.heap := ⟨scr, hcb, hof, hkn, hsz, hval⟩
    obtain ⟨m', meth', c', g0, g1, g2, -, -, g5, -⟩ := am_wd_spec (Y := m_LW_law) (hts0 _ List.mem_cons_self)
    cases B.named.symm.trans g0
    cases B.method.symm.trans g1
    cases (Stand.of_body B).code.symm.trans g2
    have K : W p l e room_1 s m #[Value.ref b] below meth c s₁.heap [] 0 0 (lw_Z below #[Value.ref b] s) (entryFrame m ([Value.ref b] : List Value).toArray 8) := by
      rw [hh0]
      exact whole_start l hbd hfl (name_of_methodNamed B.named B.method).1 g5 ⟨B.exec, B.bytes, B.returns, hml, hown, hts, hX, hbl, B.notSynchronized, hgv⟩
    obtain ⟨t, a1, o, b1, b2, b3⟩ := K s₁ rfl X₀
    exact ⟨t, o, a1, b1, b2, b3⟩
theorem lw_pre_spec {args : Array Value} {s : State} (h : (Jvm.Cond.and given_1 narrow_1).before args s = true) (hr : rest_1_c.before args s = true) : ∃ (b : Addr) (xs : List Int32), lw_P b xs args s := by
  have hs := flat_of_before _ h
  have hq := flat_of_before _ hr
  have hc : (Cond.count 1).before args s = true := hs _ (by decide +kernel)
  have harr : (Cond.arrayOf (.arg 0) .int).before args s = true := hs _ (by decide +kernel)
  have hle : (Cond.le (.length (.arg 0)) (.int 3072)).before args s = true := hs _ (by decide +kernel)
  have hlen : (Cond.isInt (.length (.arg 0))).before args s = true := hq _ (by decide +kernel)
  have hall : (Cond.all (.arg 0) (.isInt (.elem (.arg 0) (.index 0)))).before args s = true := hq _ (by decide +kernel)
  obtain ⟨b, xs, hb, hx⟩ := State.ints_of_pre rfl harr hlen hall
  have hsm : xs.length < 2 ^ 31 := hx.choose_spec.2.2.2
  have hev : (Term.length (.arg 0)).eval args s none [] s = some (.int xs.length.toInt32) := hx.length_eval hb
  have hv := Cond.le_ints hev (show (Term.int 3072).eval args s none [] s = some (.int 3072) from rfl)
  have hd : xs.length.toInt32 ≤ 3072 := by
    simpa [Cond.before, Cond.holds, hv] using hle
  have hN : xs.length ≤ 3072 := (Int32.ofNat_le_ofNat hsm (by decide)).mp (show Int32.ofNat xs.length ≤ Int32.ofNat 3072 from hd)
  exact ⟨b, xs, Cond.one_arg hc (show args[0]? = some (.ref b) from hb), hx, hN, h⟩
theorem lw_comes (l : Launch) (hfl : l.flags = flags0) : Comes l x (Jvm.Cond.code x code maxLocals ret :: tables_1) room_1 (fun tb e args s => Calls_1 tb e args s ∧ rest_1 tb e args s ∧ Pre_1 tb e args s)
    (fun _ _ args s o t => lw_Q args s o t) := by
  intro p e ha hc hk s m args below hf hfit hheap happ hpre
  obtain ⟨b, xs, hP⟩ := lw_pre_spec hpre.2.2 hpre.2.1
  obtain ⟨k, o, h1, h2, h3, hQ⟩ := lw_walk l hfl b xs p e ha hc hk s m args below hf ((Spec.applies_iff_loose hf).mp happ).1 hP trivial
  exact ⟨k, o, h1, h2, h3, hQ⟩
theorem lw_frame {s t : State} {o : Outcome} {args : Array Value} (h : Framed s o t [] 601024 7293034) :
    Framed s o t (fieldLocs frame_1_writes args s ++ arrayLocs frame_1_arrays args s ++ staticLocs frame_1_statics s) 601024 7293034 := h
theorem lw_limb (L : Cond) (hL : ∀ (args : Array Value) (s t : State), L.after args s (.returned (some (.int 1))) t = true) :
    ArmFor flags0 classFile x code maxLocals ret World_1 tables_1 room_1 Calls_1 rest_1 Pre_1
      (fun tb e a s o t => postC L tb e a s o t ∧ Framed s o t (fieldLocs frame_1_writes a s ++ arrayLocs frame_1_arrays a s ++ staticLocs frame_1_statics s) 601024 7293034) := by
  intro l hfl _ _ p e ha hc hk s m args below hf hfit hheap happ hpre
  obtain ⟨k, o, h1, h2, h3, rfl, hF⟩ := lw_comes l hfl p e ha hc hk s m args below hf hfit hheap happ hpre
  exact ⟨k, _, h1, h2, h3, hL args s _, lw_frame hF⟩
theorem i_vc : Claimed_1_1 ∧ Claimed_1_2 := ⟨lw_limb limb_1_1 (fun args s t => by simp [limb_1_1, Cond.after, Cond.holds, Cond.value]), lw_limb limb_1_2 (fun args s t => Cond.after_iff.mpr (by
  first | (rw [show limb_1_2 = Cond.eq .result (.int 1) from rfl, Cond.eq_ints (x := 1) (y := 1) rfl rfl]; simp; done) | (simp [limb_1_2, Cond.value, Term.eval]; done)))⟩
