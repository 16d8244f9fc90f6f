/-! CONSTANTS READ (mine): statics, fields of constants, their arrays, the script, ldc, comparisons of references, casts -/
def am_flk (own : String) (index : Nat) (ref n ds : String) : Prop := am_has (.fieldLink own index ref n ds) ∨ ∃ host, am_has (.fieldLinkNest own index ref n ds host)
section VK1
variable {G : am_G} {Y : am_Y} {d mc ms : Nat} {Q : am_Qt} {pc : Nat} {L : List (Nat × Value)} {st : List Value} {M : am_M} {nx cn sn : Nat}
theorem am_below {H : Heap} (hH : am_H G M nx H) : ∀ a : Nat, a < G.2.1.heap.size → ¬ am_A G a → H[a]? = G.2.1.heap[a]? := fun a h _ => hH.2.2.1 a h
theorem am_kcs {p : Program} {R : Room} {s : State} {m : MethodId} {meth : Method} {c : Code} (hC : am_Cx G Y d mc ms p R s m meth c) : am_Kc G := (am_cxOk hC).2.2.2.2
theorem v_gets0 {index : Nat} {C n ds : String} {w : Value} (hd : decode Y.2.1 pc = .ok (.getstatic index, 3)) (hl : am_flk Y.1.cls index C n ds) {p : Program} {e : Env} {R : Room} {s : State} {m : MethodId} {args : Array Value} {below : List Frame} {meth : Method} {c : Code} {H : Heap} {locs : List Loc} {ls : Array Slot} {Q0 : State → Prop} {rest : List Value} (hC : am_Cx G Y d mc ms p R s m meth c) (hH : am_H G M nx H) (hz : va_Z C n ds w (am_A G) G.2.1 G.2.1.heap)
    (k : W p G.1 e R s m args below meth c H locs cn sn Q0 (F0 m (pc + 3) ls (w :: rest))) : W p G.1 e R s m args below meth c H locs cn sn Q0 (F0 m pc ls rest) := by
  obtain ⟨cf, kf, fi, f, a, cell, h1, h2, h3, h4, h5, h6, h7, h8⟩ := (va_Z.moved (am_cxW hC).alike hz).kept (am_below hH)
  rcases hl with hl | ⟨host, hl⟩
  · exact W.gets hC.1 hC.2.1 (am_cxO hC) (am_wdc hC hl args) h1 h2 h3 h4 h5 (fun e => by rw [e] at h6; cases h6) h7 rfl hd k
  · exact va_WgetsN hC.1 hC.2.1 (am_cxO hC) (am_wdc hC hl args) h1 h2 h3 h4 h5 (fun e => by rw [e] at h6; cases h6) h7 rfl hd k
theorem v_gets {index : Nat} {C n ds : String} {v : Value} (hd : decode Y.2.1 pc = .ok (.getstatic index, 3)) (hl : am_flk Y.1.cls index C n ds) (hv : (C, n, ds, v) ∈ am_ks) (k : am_V G Y d mc ms Q (pc + 3) L (v :: st) M nx cn sn) : am_V G Y d mc ms Q pc L st M nx cn sn := by
  intro p e R s m args below meth c H locs ls hC hH hq hL
  have hx := hC.1
  have hb := hC.2.1
  have hz : va_Z C n ds (am_v G v) (am_A G) G.2.1 G.2.1.heap := (am_kcs hC).2.2.2.1 _ hv
  exact v_gets0 hd hl hC hH hz (k p e R s m args below meth c H locs ls hC hH hq hL)
theorem v_getsQ {index : Nat} (hd : decode Y.2.1 pc = .ok (.getstatic index, 3)) (hl : am_flk Y.1.cls index "jdk/internal/util/Preconditions" "SIOOBE_FORMATTER" "Ljava/util/function/BiFunction;") (k : am_V G Y d mc ms Q (pc + 3) L (.null :: st) M nx cn sn) (k2 : am_V G Y d mc ms Q (pc + 3) L (.ref 56 :: st) M nx cn sn) : am_V G Y d mc ms Q pc L st M nx cn sn := by
  intro p e R s m args below meth c H locs ls hC hH hq hL
  have hx := hC.1
  have hb := hC.2.1
  rcases (am_kcs hC).2.2.2.2.2.1 with hz | hz
  · exact v_gets0 hd hl hC hH hz (k p e R s m args below meth c H locs ls hC hH hq hL)
  · exact v_gets0 hd hl hC hH hz (k2 p e R s m args below meth c H locs ls hC hH hq hL)
theorem v_getK {index i : Nat} {o n ds ref : String} {v : Value} (hd : decode Y.2.1 pc = .ok (.getfield index, 3)) (hl : am_flk Y.1.cls index ref n ds) (hs : ref = o ∨ am_has (.sameField ref o n ds)) (hv : (i, o, n, ds, v) ∈ am_kf) (k : am_V G Y d mc ms Q (pc + 3) L (v :: st) M nx cn sn) : am_V G Y d mc ms Q pc L (.ref i :: st) M nx cn sn := by
  intro p e R s m args below meth c H locs ls hC hH hq hL
  have hx := hC.1
  have hb := hC.2.1
  obtain ⟨cf, kk, fi, f, cell, h1, h2, h3, h4, h5, h6⟩ := (va_OF.moved (am_cxW hC).alike ((am_kcs hC).2.1 _ hv)).kept (am_below hH)
  rcases hl with hl | ⟨host, hl⟩
  · exact W.getf hx hb (am_cxO hC) (am_wdc hC hl args) (am_sameF hC hs _ h1) h2 h3 h4 (v := am_v G v) h5 rfl rfl hd (k p e R s m args below meth c H locs ls hC hH hq hL)
  · exact va_Wgetf hx hb (am_cxO hC) (am_wdc hC hl args) (am_sameF hC hs _ h1) h2 h3 h4 (v := am_v G v) h5 rfl rfl hd (k p e R s m args below meth c H locs ls hC hH hq hL)
theorem v_tiald {i : Nat} {vs : List Value} {j : Int32} {v : Value} (hd : decode Y.2.1 pc = .ok (.iaload, 1)) (ht : (i, .int, vs) ∈ am_kt) (hin : vp_in j vs.length) (hv : vs.getD j.toNatClampNeg .null = v) (k : am_V G Y d mc ms Q (pc + 1) L (v :: st) M nx cn sn) : am_V G Y d mc ms Q pc L (.int j :: .ref i :: st) M nx cn sn := by
  subst hv
  intro p e R s m args below meth c H locs ls hC hH hq hL
  have hx := hC.1
  have hb := hC.2.1
  obtain ⟨cell, h1, h2, h3, h4, h5, h6, h7⟩ := (va_T.moved (am_cxW hC).alike ((am_kcs hC).2.2.1 _ ht)).kept (am_below hH)
  have hlt : j.toNatClampNeg < vs.length := Nat.not_le.mp fun q => hin (Or.inr q)
  have hin' : ¬ (j < 0 ∨ cell.slots.size ≤ j.toNatClampNeg) := by
    intro q
    rcases q with q | q
    · exact hin (Or.inl q)
    · have := h4
      dsimp only at this
      omega
  exact W.iald (v := am_v G (vs.getD j.toNatClampNeg .null)) hx hb h1 h2 h3 hin' (h6 _ hlt) rfl rfl hd (k p e R s m args below meth c H locs ls hC hH hq hL)
theorem v_tbald {i : Nat} {vs : List Value} {j : Int32} {v : Value} (hd : decode Y.2.1 pc = .ok (.baload, 1)) (ht : (i, .byte, vs) ∈ am_kt) (hin : vp_in j vs.length) (hv : vs.getD j.toNatClampNeg .null = v) (k : am_V G Y d mc ms Q (pc + 1) L (v :: st) M nx cn sn) : am_V G Y d mc ms Q pc L (.int j :: .ref i :: st) M nx cn sn := by
  subst hv
  intro p e R s m args below meth c H locs ls hC hH hq hL
  have hx := hC.1
  have hb := hC.2.1
  obtain ⟨cell, h1, h2, h3, h4, h5, h6, h7⟩ := (va_T.moved (am_cxW hC).alike ((am_kcs hC).2.2.1 _ ht)).kept (am_below hH)
  have hlt : j.toNatClampNeg < vs.length := Nat.not_le.mp fun q => hin (Or.inr q)
  have hin' : ¬ (j < 0 ∨ cell.slots.size ≤ j.toNatClampNeg) := by
    intro q
    rcases q with q | q
    · exact hin (Or.inl q)
    · have := h4
      dsimp only at this
      omega
  exact W.bald (v := am_v G (vs.getD j.toNatClampNeg .null)) hx hb h1 h2 h3 hin' (h6 _ hlt) rfl rfl hd (k p e R s m args below meth c H locs ls hC hH hq hL)
theorem v_taald {E : String} {i : Nat} {vs : List Value} {j : Int32} {v : Value} (hd : decode Y.2.1 pc = .ok (.aaload, 1)) (ht : (i, (.object E), vs) ∈ am_kt) (hin : vp_in j vs.length) (hv : vs.getD j.toNatClampNeg .null = v) (k : am_V G Y d mc ms Q (pc + 1) L (v :: st) M nx cn sn) : am_V G Y d mc ms Q pc L (.int j :: .ref i :: st) M nx cn sn := by
  subst hv
  intro p e R s m args below meth c H locs ls hC hH hq hL
  have hx := hC.1
  have hb := hC.2.1
  obtain ⟨cell, h1, h2, h3, h4, h5, h6, h7⟩ := (va_T.moved (am_cxW hC).alike ((am_kcs hC).2.2.1 _ ht)).kept (am_below hH)
  have hlt : j.toNatClampNeg < vs.length := Nat.not_le.mp fun q => hin (Or.inr q)
  have hin' : ¬ (j < 0 ∨ cell.slots.size ≤ j.toNatClampNeg) := by
    intro q
    rcases q with q | q
    · exact hin (Or.inl q)
    · have := h4
      dsimp only at this
      omega
  exact W.aald (v := am_v G (vs.getD j.toNatClampNeg .null)) (ty := .object E) hx hb h1 h2 rfl h3 hin' (h6 _ hlt) rfl rfl hd (k p e R s m args below meth c H locs ls hC hH hq hL)
theorem v_tlen {i : Nat} {ty : FieldType} {vs : List Value} {v : Int32} (hd : decode Y.2.1 pc = .ok (.arraylength, 1)) (ht : (i, ty, vs) ∈ am_kt) (hv : Int32.ofNat vs.length = v) (k : am_V G Y d mc ms Q (pc + 1) L (.int v :: st) M nx cn sn) : am_V G Y d mc ms Q pc L (.ref i :: st) M nx cn sn := by
  subst hv
  intro p e R s m args below meth c H locs ls hC hH hq hL
  have hx := hC.1
  have hb := hC.2.1
  obtain ⟨cell, h1, h2, h3, h4, h5, h6, h7⟩ := (va_T.moved (am_cxW hC).alike ((am_kcs hC).2.2.1 _ ht)).kept (am_below hH)
  exact W.alen (n := Int32.ofNat vs.length) hx hb h1 h2 h5 rfl rfl hd (k p e R s m args below meth c H locs ls hC hH hq hL)
theorem v_sld {j : Int32} (hd : decode Y.2.1 pc = .ok (.iaload, 1)) (hin : vp_in j G.2.2.2.2.2.1) (k : am_V G Y d mc ms Q (pc + 1) L (.int (G.2.2.2.2.2.2 j.toNatClampNeg) :: st) M nx cn sn) : am_V G Y d mc ms Q pc L (.int j :: .ref 999 :: st) M nx cn sn := by
  intro p e R s m args below meth c H locs ls hC hH hq hL
  have hx := hC.1
  have hb := hC.2.1
  have h9 := (am_cxOk hC).2.2.2.1
  refine va_sld (A := am_A G) (H0 := G.2.1.heap) hx hb (va_X.moved (am_cxW hC).alike (am_kcs hC).2.2.2.2.2.2.2.2.2.2) h9 (Nat.not_le.mpr h9) (am_cxS hC hH hq) hin hd ?_
  exact k p e R s m args below meth c H locs ls hC hH hq hL
theorem v_slen (hd : decode Y.2.1 pc = .ok (.arraylength, 1)) (k : am_V G Y d mc ms Q (pc + 1) L (.int (Int32.ofNat G.2.2.2.2.2.1) :: st) M nx cn sn) : am_V G Y d mc ms Q pc L (.ref 999 :: st) M nx cn sn := by
  intro p e R s m args below meth c H locs ls hC hH hq hL
  have hx := hC.1
  have hb := hC.2.1
  have h9 := (am_cxOk hC).2.2.2.1
  refine va_slen (A := am_A G) (H0 := G.2.1.heap) hx hb (va_X.moved (am_cxW hC).alike (am_kcs hC).2.2.2.2.2.2.2.2.2.2) h9 (Nat.not_le.mpr h9) (am_cxS hC hH hq) hd ?_
  exact k p e R s m args below meth c H locs ls hC hH hq hL
theorem v_ldcS {index i : Nat} {tx : String} (hd : decode Y.2.1 pc = .ok (.ldc index, 2)) (hv : (Y.1.cls, index, tx, i) ∈ am_kl) (k : am_V G Y d mc ms Q (pc + 2) L (.ref i :: st) M nx cn sn) : am_V G Y d mc ms Q pc L st M nx cn sn := by
  intro p e R s m args below meth c H locs ls hC hH hq hL
  have hx := hC.1
  have hb := hC.2.1
  have hz := vk_R.warm (am_cxW hC) ((am_kcs hC).2.2.2.2.1 _ hv)
  refine va_ldcS hx hb (am_cxO hC) hz hd ?_
  exact k p e R s m args below meth c H locs ls hC hH hq hL
theorem v_ldc {index : Nat} {v : Int32} (hd : decode Y.2.1 pc = .ok (.ldc index, 2)) (hv : am_has (.constant Y.1.cls index v)) (k : am_V G Y d mc ms Q (pc + 2) L (.int v :: st) M nx cn sn) : am_V G Y d mc ms Q pc L st M nx cn sn := by
  intro p e R s m args below meth c H locs ls hC hH hq hL
  have hx := hC.1
  have hb := hC.2.1
  refine lv_ldc hx hb (am_cxO hC) (am_wdc hC hv args) hd ?_
  exact k p e R s m args below meth c H locs ls hC hH hq hL
theorem v_ldc2 {index : Nat} {v : Int64} (hd : decode Y.2.1 pc = .ok (.ldc2_w index, 3)) (hv : am_has (.constantLong Y.1.cls index v)) (k : am_V G Y d mc ms Q (pc + 3) L (.long v :: st) M nx cn sn) : am_V G Y d mc ms Q pc L st M nx cn sn := by
  intro p e R s m args below meth c H locs ls hC hH hq hL
  have hx := hC.1
  have hb := hC.2.1
  refine lv_ldc2 hx hb (am_cxO hC) (am_wdc hC hv args) hd ?_
  exact k p e R s m args below meth c H locs ls hC hH hq hL
theorem v_ldcM {index : Nat} (hd : decode Y.2.1 pc = .ok (.ldc index, 2)) (hl : am_has (.classLink Y.1.cls index "[Ljava/lang/Object;")) (k : am_V G Y d mc ms Q (pc + 2) L (.ref 55 :: st) M nx cn sn) : am_V G Y d mc ms Q pc L st M nx cn sn := by
  intro p e R s m args below meth c H locs ls hC hH hq hL
  have hx := hC.1
  have hb := hC.2.1
  refine va_ldcM hx hb (am_cxO hC) (am_wdc hC hl args) (va_Mi.moved (am_cxW hC).alike (am_kcs hC).2.2.2.2.2.2.1) hd ?_
  exact k p e R s m args below meth c H locs ls hC hH hq hL
theorem am_vrf (r : Option Nat) : am_v G (va_rf r) = va_rf (r.map (am_ad G)) := by cases r <;> rfl
theorem v_acmp_eq {rx ry : Option Nat} {x y : Value} {off : Int} {tgt : Nat} (hd : decode Y.2.1 pc = .ok (.if_acmp .eq off, 3)) (hx0 : x = va_rf rx) (hy0 : y = va_rf ry) (ht : (pc : Int) + off = (tgt : Int)) (hi : am_Ok G → rx.map (am_ad G) = ry.map (am_ad G) → rx = ry) (k : rx = ry → am_V G Y d mc ms Q tgt L st M nx cn sn) (k2 : ¬ rx = ry → am_V G Y d mc ms Q (pc + 3) L st M nx cn sn) : am_V G Y d mc ms Q pc L (y :: x :: st) M nx cn sn := by
  subst hx0
  subst hy0
  intro p e R s m args below meth c H locs ls hC hH hq hL
  have hx := hC.1
  have hb := hC.2.1
  have hi := hi (am_cxOk hC)
  simp only [List.map_cons, am_vrf]
  refine lv_acmp_eq hx hb hd ht (fun h => ?_) (fun h => ?_)
  · exact k (hi h) p e R s m args below meth c H locs ls hC hH hq hL
  · exact k2 (fun h9 => h (by rw [h9])) p e R s m args below meth c H locs ls hC hH hq hL
theorem v_acmp_ne {rx ry : Option Nat} {x y : Value} {off : Int} {tgt : Nat} (hd : decode Y.2.1 pc = .ok (.if_acmp .ne off, 3)) (hx0 : x = va_rf rx) (hy0 : y = va_rf ry) (ht : (pc : Int) + off = (tgt : Int)) (hi : am_Ok G → rx.map (am_ad G) = ry.map (am_ad G) → rx = ry) (k : ¬ rx = ry → am_V G Y d mc ms Q tgt L st M nx cn sn) (k2 : rx = ry → am_V G Y d mc ms Q (pc + 3) L st M nx cn sn) : am_V G Y d mc ms Q pc L (y :: x :: st) M nx cn sn := by
  subst hx0
  subst hy0
  intro p e R s m args below meth c H locs ls hC hH hq hL
  have hx := hC.1
  have hb := hC.2.1
  have hi := hi (am_cxOk hC)
  simp only [List.map_cons, am_vrf]
  refine lv_acmp_ne hx hb hd ht (fun h => ?_) (fun h => ?_)
  · exact k (fun h9 => h (by rw [h9])) p e R s m args below meth c H locs ls hC hH hq hL
  · exact k2 (hi h) p e R s m args below meth c H locs ls hC hH hq hL
theorem v_castY {index ci a : Nat} {C nm : String} {T : u_T} {N : Nat} {ty : Nat → FieldType} {fs : List Value} (hd : decode Y.2.1 pc = .ok (.checkcast index, 3)) (hl : am_has (.classLink Y.1.cls index nm)) (hM : M a = some (.inr (ci, fs))) (hP : am_clP ci C T N ty) (hc : am_has (.castable C nm)) (k : am_V G Y d mc ms Q (pc + 3) L (.ref a :: st) M nx cn sn) : am_V G Y d mc ms Q pc L (.ref a :: st) M nx cn sn := by
  intro p e R s m args below meth c H locs ls hC hH hq hL
  have hx := hC.1
  have hb := hC.2.1
  obtain ⟨-, -, hat⟩ := hH.2.2.2 a _ hM
  refine va_castY hx hb (am_cxO hC) (am_wdc hC hl args) (am_wdc hC hc #[]) (va_recv (q0 := 0) (am_cxK hC) (am_one hat) hP.1 rfl) hd ?_
  exact k p e R s m args below meth c H locs ls hC hH hq hL
end VK1
