/-! THE LAW'S CALLS OF VALUE, LET, HOLDS, COUNT (mine; rows laid by the walker) -/
def qVC (f : Nat → Int32) (n : Nat) (c : Nat) (Vl : Nat → Nat) (Vg : Nat → Nat → Int32) (Vn : Nat → Int64) (xou : Nat) (xpl xle xl0 xl1 xre xe : Int32) (xlv xrv xv : Int64) (M : am_M) (nx : Nat) : am_Qt := fun r M1 nx1 => nx ≤ nx1 ∧ nx1 ≤ nx + 1 ∧ (∀ i, (1001 < i ∧ i < 1005) ∨ (1210 < i ∧ i < nx) → M1 i = M i) ∧ M1 1001 = some (.inr (1, [.ref 1002, .int 0])) ∧ cs0 M1 ∧ ((¬ xpl = -1 ∧ (∃ y, r = .inr y ∧ M1 y = some (.inr (16, []))) ∧ M1 1000 = some (.inr (0, [.ref 1001, .ref 1003, .ref 1005, .int xpl, .int 0]))) ∨ (xpl = -1 ∧ ((¬ xe = 0 ∧ (∃ y, r = .inr y ∧ M1 y = some (.inr (15, []))) ∧ M1 1000 = some (.inr (0, [.ref 1001, .ref 1003, .ref 1005, .int (-1), .int xe]))) ∨ (xe = 0 ∧ r = .inl (some (.long xv)) ∧ M1 1000 = some (.inr (0, [.ref 1001, .ref 1003, .ref 1005, .int (-1), .int 0]))))))
def qLC (f : Nat → Int32) (n : Nat) (c : Nat) (Vl : Nat → Nat) (Vg : Nat → Nat → Int32) (Vn : Nat → Int64) (xou : Nat) (xpl xle xl0 xl1 xre xe : Int32) (xlv xrv xv : Int64) (M : am_M) (nx : Nat) : am_Qt := fun r M1 nx1 => nx ≤ nx1 ∧ nx1 ≤ nx + 4 ∧ (∀ i, i = 1002 ∨ (1210 < i ∧ i < 1240) → M1 i = M i) ∧ M1 1001 = some (.inr (1, [.ref 1002, .int 0])) ∧ cs0 M1 ∧ ((¬ xpl = -1 ∧ (∃ y, r = .inr y ∧ M1 y = some (.inr (16, []))) ∧ M1 1000 = some (.inr (0, [.ref 1001, .ref 1003, .ref 1005, .int xpl, .int 0])) ∧ vz M1 c Vl Vg Vn nx1) ∨ (xpl = -1 ∧ ((¬ (xou = 10 ∧ xl0 < xl1) ∧ (∃ y, r = .inr y ∧ M1 y = some (.inr (16, []))) ∧ M1 1000 = some (.inr (0, [.ref 1001, .ref 1003, .ref 1005, .int 0, .int 0])) ∧ vz M1 c Vl Vg Vn nx1) ∨ ((xou = 10 ∧ xl0 < xl1) ∧ ((¬ xre = 0 ∧ (∃ y, r = .inr y ∧ M1 y = some (.inr (15, []))) ∧ M1 1000 = some (.inr (0, [.ref 1001, .ref 1003, .ref 1005, .int (-1), .int xre])) ∧ vz M1 c Vl Vg Vn nx1) ∨ (xre = 0 ∧ M1 1000 = some (.inr (0, [.ref 1001, .ref 1003, .ref 1005, .int (-1), .int 0])) ∧ ∃ p e, xl0 = nI p ∧ xl1 = nI e ∧ p < e ∧ e ≤ n ∧ ¬ (e = p + 1 ∧ tb f n p = 95) ∧ ((∃ i, vfF (vmt Vl Vg (e - p) (fun j => f (p + j))) c 0 = some i ∧ r = .inl (some (.int (nI c))) ∧ vz M1 c Vl Vg (vp_updL Vn i xrv) nx1) ∨ (vfF (vmt Vl Vg (e - p) (fun j => f (p + j))) c 0 = none ∧ c = 50 ∧ (∃ y, r = .inr y ∧ M1 y = some (.inr (13, []))) ∧ vz M1 c Vl Vg Vn nx1) ∨ (vfF (vmt Vl Vg (e - p) (fun j => f (p + j))) c 0 = none ∧ c < 50 ∧ r = .inl (some (.int (nI (c + 1)))) ∧ vz M1 (c + 1) (nwL Vl c (e - p)) (nwG Vg c (va_cpy f (fun _ => 0) p 0 (e - p))) (vp_updL Vn c xrv) nx1))))))))
def qHC (f : Nat → Int32) (n : Nat) (c : Nat) (Vl : Nat → Nat) (Vg : Nat → Nat → Int32) (Vn : Nat → Int64) (xou : Nat) (xpl xle xl0 xl1 xre xe : Int32) (xlv xrv xv : Int64) (M : am_M) (nx : Nat) : am_Qt := fun r M1 nx1 => nx ≤ nx1 ∧ nx1 ≤ nx + 1 ∧ (∀ i, (1001 < i ∧ i < 1005) ∨ (1210 < i ∧ i < nx) → M1 i = M i) ∧ M1 1001 = some (.inr (1, [.ref 1002, .int 0])) ∧ cs0 M1 ∧ ((¬ xpl = -1 ∧ (∃ y, r = .inr y ∧ M1 y = some (.inr (16, []))) ∧ M1 1000 = some (.inr (0, [.ref 1001, .ref 1003, .ref 1005, .int xpl, .int 0]))) ∨ (xpl = -1 ∧ ((cmpK xou = false ∧ (∃ y, r = .inr y ∧ M1 y = some (.inr (16, []))) ∧ M1 1000 = some (.inr (0, [.ref 1001, .ref 1003, .ref 1005, .int 0, .int 0]))) ∨ (cmpK xou = true ∧ ((¬ xle = 0 ∧ (∃ y, r = .inr y ∧ M1 y = some (.inr (15, []))) ∧ M1 1000 = some (.inr (0, [.ref 1001, .ref 1003, .ref 1005, .int (-1), .int xle]))) ∨ (xle = 0 ∧ ((¬ xre = 0 ∧ (∃ y, r = .inr y ∧ M1 y = some (.inr (15, []))) ∧ M1 1000 = some (.inr (0, [.ref 1001, .ref 1003, .ref 1005, .int (-1), .int xre]))) ∨ (xre = 0 ∧ r = .inl (some (.int (bi (truK xou xlv xrv)))) ∧ M1 1000 = some (.inr (0, [.ref 1001, .ref 1003, .ref 1005, .int (-1), .int 0]))))))))))
def qNC (pl er nn k : Int32) (M : am_M) (nx : Nat) : am_Qt := fun r M1 nx1 => ((k = 0 ∧ r = .inl (some (.int nn)) ∧ M1 = M ∧ nx1 = nx) ∨ (k = 1 ∧ r = .inl (some (.int pl)) ∧ M1 = M ∧ nx1 = nx) ∨ (k = 2 ∧ r = .inl (some (.int er)) ∧ M1 = M ∧ nx1 = nx)) ∨ ((¬ k = 0 ∧ ¬ k = 1 ∧ ¬ k = 2) ∧ r = .inr nx ∧ M1 = am_up M nx (.inr (14, [])) ∧ nx1 = nx + 1)
theorem qVC_ret {f : Nat → Int32} {n : Nat} {c : Nat} {Vl : Nat → Nat} {Vg : Nat → Nat → Int32} {Vn : Nat → Int64} {xou : Nat} {xpl xle xl0 xl1 xre xe : Int32} {xlv xrv xv : Int64} {M : am_M} {nx : Nat} {M1 : am_M} {nx1 : Nat} {v : Option Value} (h : qVC f n c Vl Vg Vn xou xpl xle xl0 xl1 xre xe xlv xrv xv M nx (.inl v) M1 nx1) : ∃ x, v = some (.long x) := by
  obtain ⟨_, _, _, _, _, ⟨_, ⟨y, h, _⟩, _⟩ | ⟨_, ⟨_, ⟨y, h, _⟩, _⟩ | ⟨_, h, _⟩⟩⟩ := h
  · cases h
  · cases h
  · exact ⟨_, Sum.inl.inj h⟩
theorem qVC_thr {f : Nat → Int32} {n : Nat} {c : Nat} {Vl : Nat → Nat} {Vg : Nat → Nat → Int32} {Vn : Nat → Int64} {xou : Nat} {xpl xle xl0 xl1 xre xe : Int32} {xlv xrv xv : Int64} {M : am_M} {nx : Nat} {M1 : am_M} {nx1 : Nat} {y : Nat} (h : qVC f n c Vl Vg Vn xou xpl xle xl0 xl1 xre xe xlv xrv xv M nx (.inr y) M1 nx1) : M1 y = some (.inr (15, [])) ∨ M1 y = some (.inr (16, [])) := by
  obtain ⟨_, _, _, _, _, ⟨_, ⟨y, h, h2⟩, _⟩ | ⟨_, ⟨_, ⟨y, h, h2⟩, _⟩ | ⟨_, h, _⟩⟩⟩ := h
  · cases h; exact Or.inr h2
  · cases h; exact Or.inl h2
  · cases h
theorem qHC_ret {f : Nat → Int32} {n : Nat} {c : Nat} {Vl : Nat → Nat} {Vg : Nat → Nat → Int32} {Vn : Nat → Int64} {xou : Nat} {xpl xle xl0 xl1 xre xe : Int32} {xlv xrv xv : Int64} {M : am_M} {nx : Nat} {M1 : am_M} {nx1 : Nat} {v : Option Value} (h : qHC f n c Vl Vg Vn xou xpl xle xl0 xl1 xre xe xlv xrv xv M nx (.inl v) M1 nx1) : ∃ b, v = some (.int (bi b)) := by
  obtain ⟨_, _, _, _, _, ⟨_, ⟨y, h, _⟩, _⟩ | ⟨_, ⟨_, ⟨y, h, _⟩, _⟩ | ⟨_, ⟨_, ⟨y, h, _⟩, _⟩ | ⟨_, ⟨_, ⟨y, h, _⟩, _⟩ | ⟨_, h, _⟩⟩⟩⟩⟩ := h
  · cases h
  · cases h
  · cases h
  · cases h
  · exact ⟨_, Sum.inl.inj h⟩
theorem qHC_thr {f : Nat → Int32} {n : Nat} {c : Nat} {Vl : Nat → Nat} {Vg : Nat → Nat → Int32} {Vn : Nat → Int64} {xou : Nat} {xpl xle xl0 xl1 xre xe : Int32} {xlv xrv xv : Int64} {M : am_M} {nx : Nat} {M1 : am_M} {nx1 : Nat} {y : Nat} (h : qHC f n c Vl Vg Vn xou xpl xle xl0 xl1 xre xe xlv xrv xv M nx (.inr y) M1 nx1) : M1 y = some (.inr (15, [])) ∨ M1 y = some (.inr (16, [])) := by
  obtain ⟨_, _, _, _, _, ⟨_, ⟨y, h, h2⟩, _⟩ | ⟨_, ⟨_, ⟨y, h, h2⟩, _⟩ | ⟨_, ⟨_, ⟨y, h, h2⟩, _⟩ | ⟨_, ⟨_, ⟨y, h, h2⟩, _⟩ | ⟨_, h, _⟩⟩⟩⟩⟩ := h
  · cases h; exact Or.inr h2
  · cases h; exact Or.inr h2
  · cases h; exact Or.inl h2
  · cases h; exact Or.inl h2
  · cases h
theorem qLC_ret {f : Nat → Int32} {n : Nat} {c : Nat} {Vl : Nat → Nat} {Vg : Nat → Nat → Int32} {Vn : Nat → Int64} {xou : Nat} {xpl xle xl0 xl1 xre xe : Int32} {xlv xrv xv : Int64} {M : am_M} {nx : Nat} {M1 : am_M} {nx1 : Nat} {v : Option Value} (h : qLC f n c Vl Vg Vn xou xpl xle xl0 xl1 xre xe xlv xrv xv M nx (.inl v) M1 nx1) : ∃ x, v = some (.int x) := by
  obtain ⟨_, _, _, _, _, ⟨_, ⟨y, h, _⟩, _⟩ | ⟨_, ⟨_, ⟨y, h, _⟩, _⟩ | ⟨_, ⟨_, ⟨y, h, _⟩, _⟩ | ⟨_, _, p, e, _, _, _, _, _, ⟨i, _, h, _⟩ | ⟨_, _, ⟨y, h, _⟩, _⟩ | ⟨_, _, h, _⟩⟩⟩⟩⟩ := h
  · cases h
  · cases h
  · cases h
  · exact ⟨_, Sum.inl.inj h⟩
  · cases h
  · exact ⟨_, Sum.inl.inj h⟩
theorem qLC_thr {f : Nat → Int32} {n : Nat} {c : Nat} {Vl : Nat → Nat} {Vg : Nat → Nat → Int32} {Vn : Nat → Int64} {xou : Nat} {xpl xle xl0 xl1 xre xe : Int32} {xlv xrv xv : Int64} {M : am_M} {nx : Nat} {M1 : am_M} {nx1 : Nat} {y : Nat} (h : qLC f n c Vl Vg Vn xou xpl xle xl0 xl1 xre xe xlv xrv xv M nx (.inr y) M1 nx1) : M1 y = some (.inr (15, [])) ∨ M1 y = some (.inr (16, [])) ∨ M1 y = some (.inr (13, [])) := by
  obtain ⟨_, _, _, _, _, ⟨_, ⟨y, h, h2⟩, _⟩ | ⟨_, ⟨_, ⟨y, h, h2⟩, _⟩ | ⟨_, ⟨_, ⟨y, h, h2⟩, _⟩ | ⟨_, _, p, e, _, _, _, _, _, ⟨i, _, h, _⟩ | ⟨_, _, ⟨y, h, h2⟩, _⟩ | ⟨_, _, h, _⟩⟩⟩⟩⟩ := h
  · cases h; exact Or.inr (Or.inl h2)
  · cases h; exact Or.inr (Or.inl h2)
  · cases h; exact Or.inl h2
  · cases h
  · cases h; exact Or.inr (Or.inr h2)
  · cases h
theorem qNC_ret {pl er nn k : Int32} {M M1 : am_M} {nx nx1 : Nat} {v : Option Value} (h : qNC pl er nn k M nx (.inl v) M1 nx1) : (∃ x, v = some (.int x)) ∧ M1 = M := by
  rcases h with (⟨_, h, h2, _⟩ | ⟨_, h, h2, _⟩ | ⟨_, h, h2, _⟩) | ⟨_, h, _⟩
  · exact ⟨⟨_, Sum.inl.inj h⟩, h2⟩
  · exact ⟨⟨_, Sum.inl.inj h⟩, h2⟩
  · exact ⟨⟨_, Sum.inl.inj h⟩, h2⟩
  · cases h
theorem qNC_thr {pl er nn k : Int32} {M M1 : am_M} {nx nx1 y : Nat} (h : qNC pl er nn k M nx (.inr y) M1 nx1) : M1 y = some (.inr (14, [])) := by
  rcases h with (⟨_, h, _⟩ | ⟨_, h, _⟩ | ⟨_, h, _⟩) | ⟨_, h, h2, _⟩
  · cases h
  · cases h
  · cases h
  · cases h
    rw [h2]
    exact am_up_eq _ _ _
set_option maxRecDepth 20000 in
theorem t_LW_value (G : am_G) {d nx : Nat} (hd : 12 ≤ d) {M : am_M} {f : Nat → Int32} {n : Nat} (hb : tbB f) (hn : n ≤ 4096) {pl er : Int32} (h0 : M 1000 = some (.inr (0, [.ref 1001, .ref 1003, .ref 1005, .int pl, .int er]))) (h1 : M 1001 = some (.inr (1, [.ref 1002, .int (nI n)]))) (h2 : M 1002 = some (.inl (0, 4096, .inl f))) {c ed cap : Nat} {Vi Vb Vl : Nat → Nat} {Vg : Nat → Nat → Int32} {Vn : Nat → Int64} {R : Nat → Option Nat} {mcn : Int32} (hV : vs M c Vi Vb Vl Vg Vn ed cap R mcn) (hw : vw M c Vi Vb ed cap R nx) (hx : 1240 ≤ nx) (hc5 : c ≤ 50) (hS : cs0 M) {lf rt la : Opd} (hL : M 1208 = some (cs_O lf)) (hRt : M 1209 = some (cs_O rt)) (hLa : M 1210 = some (cs_O la)) {xK : List Frm} {xdu xdn : Bool} {xsy xou xna : Nat} {xpl xpr xle xl0 xl1 xre xr0 xr1 xe xa0 xb0 : Int32} {xlv xrv xv : Int64} (hR : c_fin f n (c_run f n (cl_lu c Vl Vg Vn f) 16384 (c_s0 lf rt la)) = (xK, xdu, xdn, xsy, xpl, xou, xpr, xna, (xle, xlv, xl0, xl1), (xre, xrv, xr0, xr1), (xe, xv, xa0, xb0))) {g : Nat → Int64} (ho : M 1239 = some (.inl (2, 1, .inr (.inl g)))) : am_Tr G m_LW_value d 2 12 [.ref 1000, .ref 1239] M nx (fun r M1 nx1 => (∃ (x : Int64) (Mc : am_M), r = .inl (some (.int 0)) ∧ qVC f n c Vl Vg Vn xou xpl xle xl0 xl1 xre xe xlv xrv xv M nx (.inl (some (.long x))) Mc nx1 ∧ M1 = am_up Mc 1239 (.inl (2, 1, .inr (.inl (vp_updL g 0 x))))) ∨ (∃ (y : Nat) (k1 : Int32), r = .inl (some (.int k1)) ∧ qVC f n c Vl Vg Vn xou xpl xle xl0 xl1 xre xe xlv xrv xv M nx (.inr y) M1 nx1 ∧ ((k1 = 1 ∧ M1 y = some (.inr (15, []))) ∨ (k1 = 2 ∧ M1 y = some (.inr (16, [])))))) := by
  refine am_TrOf (by decide) (Nat.le_of_ble_eq_true rfl) ?_
  show am_V G _ _ _ _ _ 0 [(0, .ref 1000), (1, .ref 1239)] [] M nx 0 0
  refine v_aload_n (am_Dk d_LW_value (k := 0) rfl) rfl ?_
  refine v_iconst (v := 0) (am_Dk d_LW_value (k := 1) rfl) (by decide) ?_
  refine v_aload_n (am_Dk d_LW_value (k := 2) rfl) rfl ?_
  refine v_callV (rest := [.int 0, .ref 1239]) (As := []) (mc' := 2) (ms' := 12) (am_Dk d_LW_value (k := 3) rfl) c_LW_21 (Or.inl ⟨_, _, _, _, _, h0, cq_ok0⟩) (t_VR_value G (d := 11) (by omega) hb hn h0 h1 h2 hV hw hx hc5 hS hL hRt hLa hR) (by omega) (by omega) (by omega) (by simp [Value.category]) rfl (fun vR MR nR hq => ?_) (fun xT MT nT hq => ?_)
  · obtain ⟨xR, hx9⟩ := qVC_ret (xle := xle) (xl0 := xl0) (xl1 := xl1) (xre := xre) (xlv := xlv) (xrv := xrv) (f := f) (n := n) (c := c) (Vl := Vl) (Vg := Vg) (Vn := Vn) (xou := xou) hq
    subst hx9
    have ho9 : MR 1239 = some (.inl (2, 1, .inr (.inl g))) := (hq.2.2.1 1239 (Or.inr ⟨by omega, by omega⟩)).trans ho
    show am_V G _ _ _ _ _ 6 [(0, .ref 1000), (1, .ref 1239)] [.long xR, .int 0, .ref 1239] MR nR 2 12
    refine v_last (am_Dk d_LW_value (k := 4) rfl) ho9 rfl (show ¬ (_ ∨ _) from by decide) ?_
    refine v_goto (tgt := 16) (am_Dk d_LW_value (k := 5) rfl) (by decide) ?_
    refine v_iconst (v := 0) (am_Dk d_LW_value (k := 12) rfl) (by decide) ?_
    exact v_ireturn (am_Dk d_LW_value (k := 13) rfl) rfl rfl (by omega) (by omega) (Or.inl ⟨xR, _, rfl, hq, rfl⟩)
  · rcases qVC_thr (xle := xle) (xl0 := xl0) (xl1 := xl1) (xre := xre) (xlv := xlv) (xrv := xrv) (f := f) (n := n) (c := c) (Vl := Vl) (Vg := Vg) (Vn := Vn) (xou := xou) hq with hcx | hcx
    · refine vt_catch hcx cq_ok15 [] (0, 7, 10, 25) [(0, 7, 13, 27)] rfl (fun _ h => absurd h List.not_mem_nil) ⟨by decide, by decide, "java/lang/ArithmeticException", (am_at (k := 382) (by decide +kernel) (by decide +kernel)), (am_at (k := 785) (by decide +kernel) (by decide +kernel))⟩ ?_
      show am_V G _ _ _ _ _ 10 [(0, .ref 1000), (1, .ref 1239)] [.ref xT] MT nT 2 12
      refine v_astore_n (L1 := [(2, .ref xT), (0, .ref 1000), (1, .ref 1239)]) (am_Dk d_LW_value (k := 6) rfl) (by decide) rfl ?_
      refine v_iconst (v := 1) (am_Dk d_LW_value (k := 7) rfl) (by decide) ?_
      exact v_ireturn (am_Dk d_LW_value (k := 8) rfl) rfl rfl (by omega) (by omega) (Or.inr ⟨_, _, rfl, hq, Or.inl ⟨rfl, hcx⟩⟩)
    · refine vt_catch hcx cq_ok16 [(0, 7, 10, 25)] (0, 7, 13, 27) [] rfl (List.forall_mem_cons.mpr ⟨⟨by decide, by decide, "java/lang/ArithmeticException", (am_at (k := 382) (by decide +kernel) (by decide +kernel)), List.mem_of_getElem? (i := 404) (by decide +kernel)⟩, fun _ h => absurd h List.not_mem_nil⟩) ⟨by decide, by decide, "java/lang/UnsupportedOperationException", (am_at (k := 383) (by decide +kernel) (by decide +kernel)), (am_at (k := 766) (by decide +kernel) (by decide +kernel))⟩ ?_
      show am_V G _ _ _ _ _ 13 [(0, .ref 1000), (1, .ref 1239)] [.ref xT] MT nT 2 12
      refine v_astore_n (L1 := [(2, .ref xT), (0, .ref 1000), (1, .ref 1239)]) (am_Dk d_LW_value (k := 9) rfl) (by decide) rfl ?_
      refine v_iconst (v := 2) (am_Dk d_LW_value (k := 10) rfl) (by decide) ?_
      exact v_ireturn (am_Dk d_LW_value (k := 11) rfl) rfl rfl (by omega) (by omega) (Or.inr ⟨_, _, rfl, hq, Or.inr (⟨rfl, hcx⟩)⟩)
set_option maxRecDepth 20000 in
theorem t_LW_let (G : am_G) {d nx : Nat} (hd : 12 ≤ d) {M : am_M} {f : Nat → Int32} {n : Nat} (hb : tbB f) (hn : n ≤ 4096) {pl er : Int32} (h0 : M 1000 = some (.inr (0, [.ref 1001, .ref 1003, .ref 1005, .int pl, .int er]))) (h1 : M 1001 = some (.inr (1, [.ref 1002, .int (nI n)]))) (h2 : M 1002 = some (.inl (0, 4096, .inl f))) {c ed cap : Nat} {Vi Vb Vl : Nat → Nat} {Vg : Nat → Nat → Int32} {Vn : Nat → Int64} {R : Nat → Option Nat} {mcn : Int32} (hV : vs M c Vi Vb Vl Vg Vn ed cap R mcn) (hw : vw M c Vi Vb ed cap R nx) (hx : 1240 ≤ nx) (hc5 : c ≤ 50) (hS : cs0 M) {lf rt la : Opd} (hL : M 1208 = some (cs_O lf)) (hRt : M 1209 = some (cs_O rt)) (hLa : M 1210 = some (cs_O la)) {xK : List Frm} {xdu xdn : Bool} {xsy xou xna : Nat} {xpl xpr xle xl0 xl1 xre xr0 xr1 xe xa0 xb0 : Int32} {xlv xrv xv : Int64} (hR : c_fin f n (c_run f n (cl_lu c Vl Vg Vn f) 16384 (c_s0 lf rt la)) = (xK, xdu, xdn, xsy, xpl, xou, xpr, xna, (xle, xlv, xl0, xl1), (xre, xrv, xr0, xr1), (xe, xv, xa0, xb0))) {g : Nat → Int64} (ho : M 1239 = some (.inl (2, 1, .inr (.inl g)))) : am_Tr G m_LW_let d 7 4197 [.ref 1000, .ref 1239] M nx (fun r M1 nx1 => (∃ (x : Int32) (Mc : am_M), r = .inl (some (.int 0)) ∧ qLC f n c Vl Vg Vn xou xpl xle xl0 xl1 xre xe xlv xrv xv M nx (.inl (some (.int x))) Mc nx1 ∧ M1 = am_up Mc 1239 (.inl (2, 1, .inr (.inl (vp_updL g 0 (Int32.toInt64 x)))))) ∨ (∃ (y : Nat) (k1 : Int32), r = .inl (some (.int k1)) ∧ qLC f n c Vl Vg Vn xou xpl xle xl0 xl1 xre xe xlv xrv xv M nx (.inr y) M1 nx1 ∧ ((k1 = 1 ∧ M1 y = some (.inr (15, []))) ∨ (k1 = 2 ∧ M1 y = some (.inr (16, []))) ∨ (k1 = 3 ∧ M1 y = some (.inr (13, [])))))) := by
  refine am_TrOf (by decide) (Nat.le_of_ble_eq_true rfl) ?_
  show am_V G _ _ _ _ _ 0 [(0, .ref 1000), (1, .ref 1239)] [] M nx 0 0
  refine v_aload_n (am_Dk d_LW_let (k := 0) rfl) rfl ?_
  refine v_iconst (v := 0) (am_Dk d_LW_let (k := 1) rfl) (by decide) ?_
  refine v_aload_n (am_Dk d_LW_let (k := 2) rfl) rfl ?_
  refine v_callV (rest := [.int 0, .ref 1239]) (As := []) (mc' := 7) (ms' := 4197) (am_Dk d_LW_let (k := 3) rfl) c_LW_29 (Or.inl ⟨_, _, _, _, _, h0, cq_ok0⟩) (t_VR_let G (d := 11) (by omega) hb hn h0 h1 h2 hV hw hx hc5 hS hL hRt hLa hR) (by omega) (by omega) (by omega) (by simp [Value.category]) rfl (fun vR MR nR hq => ?_) (fun xT MT nT hq => ?_)
  · obtain ⟨xR, hx9⟩ := qLC_ret (xle := xle) (xe := xe) (xlv := xlv) (xv := xv) hq
    subst hx9
    have ho9 : MR 1239 = some (.inl (2, 1, .inr (.inl g))) := (hq.2.2.1 1239 (Or.inr ⟨by omega, by omega⟩)).trans ho
    show am_V G _ _ _ _ _ 6 [(0, .ref 1000), (1, .ref 1239)] [.int xR, .int 0, .ref 1239] MR nR 7 4197
    refine v_i2l (am_Dk d_LW_let (k := 4) rfl) rfl ?_
    refine v_last (am_Dk d_LW_let (k := 5) rfl) ho9 rfl (show ¬ (_ ∨ _) from by decide) ?_
    refine v_goto (tgt := 20) (am_Dk d_LW_let (k := 6) rfl) (by decide) ?_
    refine v_iconst (v := 0) (am_Dk d_LW_let (k := 16) rfl) (by decide) ?_
    exact v_ireturn (am_Dk d_LW_let (k := 17) rfl) rfl rfl (by omega) (by omega) (Or.inl ⟨xR, _, rfl, hq, rfl⟩)
  · rcases qLC_thr (xle := xle) (xe := xe) (xlv := xlv) (xv := xv) hq with hcx | hcx | hcx
    · refine vt_catch hcx cq_ok15 [] (0, 8, 11, 25) [(0, 8, 14, 27), (0, 8, 17, 13)] rfl (fun _ h => absurd h List.not_mem_nil) ⟨by decide, by decide, "java/lang/ArithmeticException", (am_at (k := 382) (by decide +kernel) (by decide +kernel)), (am_at (k := 785) (by decide +kernel) (by decide +kernel))⟩ ?_
      show am_V G _ _ _ _ _ 11 [(0, .ref 1000), (1, .ref 1239)] [.ref xT] MT nT 7 4197
      refine v_astore_n (L1 := [(2, .ref xT), (0, .ref 1000), (1, .ref 1239)]) (am_Dk d_LW_let (k := 7) rfl) (by decide) rfl ?_
      refine v_iconst (v := 1) (am_Dk d_LW_let (k := 8) rfl) (by decide) ?_
      exact v_ireturn (am_Dk d_LW_let (k := 9) rfl) rfl rfl (by omega) (by omega) (Or.inr ⟨_, _, rfl, hq, Or.inl ⟨rfl, hcx⟩⟩)
    · refine vt_catch hcx cq_ok16 [(0, 8, 11, 25)] (0, 8, 14, 27) [(0, 8, 17, 13)] rfl (List.forall_mem_cons.mpr ⟨⟨by decide, by decide, "java/lang/ArithmeticException", (am_at (k := 382) (by decide +kernel) (by decide +kernel)), List.mem_of_getElem? (i := 404) (by decide +kernel)⟩, fun _ h => absurd h List.not_mem_nil⟩) ⟨by decide, by decide, "java/lang/UnsupportedOperationException", (am_at (k := 383) (by decide +kernel) (by decide +kernel)), (am_at (k := 766) (by decide +kernel) (by decide +kernel))⟩ ?_
      show am_V G _ _ _ _ _ 14 [(0, .ref 1000), (1, .ref 1239)] [.ref xT] MT nT 7 4197
      refine v_astore_n (L1 := [(2, .ref xT), (0, .ref 1000), (1, .ref 1239)]) (am_Dk d_LW_let (k := 10) rfl) (by decide) rfl ?_
      refine v_iconst (v := 2) (am_Dk d_LW_let (k := 11) rfl) (by decide) ?_
      exact v_ireturn (am_Dk d_LW_let (k := 12) rfl) rfl rfl (by omega) (by omega) (Or.inr ⟨_, _, rfl, hq, Or.inr (Or.inl ⟨rfl, hcx⟩)⟩)
    · refine vt_catch hcx cq_ok13 [(0, 8, 11, 25), (0, 8, 14, 27)] (0, 8, 17, 13) [] rfl (List.forall_mem_cons.mpr ⟨⟨by decide, by decide, "java/lang/ArithmeticException", (am_at (k := 382) (by decide +kernel) (by decide +kernel)), List.mem_of_getElem? (i := 402) (by decide +kernel)⟩, List.forall_mem_cons.mpr ⟨⟨by decide, by decide, "java/lang/UnsupportedOperationException", (am_at (k := 383) (by decide +kernel) (by decide +kernel)), List.mem_of_getElem? (i := 422) (by decide +kernel)⟩, fun _ h => absurd h List.not_mem_nil⟩⟩) ⟨by decide, by decide, "java/lang/IndexOutOfBoundsException", (am_at (k := 282) (by decide +kernel) (by decide +kernel)), (am_at (k := 289) (by decide +kernel) (by decide +kernel))⟩ ?_
      show am_V G _ _ _ _ _ 17 [(0, .ref 1000), (1, .ref 1239)] [.ref xT] MT nT 7 4197
      refine v_astore_n (L1 := [(2, .ref xT), (0, .ref 1000), (1, .ref 1239)]) (am_Dk d_LW_let (k := 13) rfl) (by decide) rfl ?_
      refine v_iconst (v := 3) (am_Dk d_LW_let (k := 14) rfl) (by decide) ?_
      exact v_ireturn (am_Dk d_LW_let (k := 15) rfl) rfl rfl (by omega) (by omega) (Or.inr ⟨_, _, rfl, hq, Or.inr (Or.inr (⟨rfl, hcx⟩))⟩)
set_option maxRecDepth 20000 in
theorem t_LW_holds (G : am_G) {d nx : Nat} (hd : 12 ≤ d) {M : am_M} {f : Nat → Int32} {n : Nat} (hb : tbB f) (hn : n ≤ 4096) {pl er : Int32} (h0 : M 1000 = some (.inr (0, [.ref 1001, .ref 1003, .ref 1005, .int pl, .int er]))) (h1 : M 1001 = some (.inr (1, [.ref 1002, .int (nI n)]))) (h2 : M 1002 = some (.inl (0, 4096, .inl f))) {c ed cap : Nat} {Vi Vb Vl : Nat → Nat} {Vg : Nat → Nat → Int32} {Vn : Nat → Int64} {R : Nat → Option Nat} {mcn : Int32} (hV : vs M c Vi Vb Vl Vg Vn ed cap R mcn) (hw : vw M c Vi Vb ed cap R nx) (hx : 1240 ≤ nx) (hc5 : c ≤ 50) (hS : cs0 M) {lf rt la : Opd} (hL : M 1208 = some (cs_O lf)) (hRt : M 1209 = some (cs_O rt)) (hLa : M 1210 = some (cs_O la)) {xK : List Frm} {xdu xdn : Bool} {xsy xou xna : Nat} {xpl xpr xle xl0 xl1 xre xr0 xr1 xe xa0 xb0 : Int32} {xlv xrv xv : Int64} (hR : c_fin f n (c_run f n (cl_lu c Vl Vg Vn f) 16384 (c_s0 lf rt la)) = (xK, xdu, xdn, xsy, xpl, xou, xpr, xna, (xle, xlv, xl0, xl1), (xre, xrv, xr0, xr1), (xe, xv, xa0, xb0))) {g : Nat → Int64} (ho : M 1239 = some (.inl (2, 1, .inr (.inl g)))) : am_Tr G m_LW_holds d 4 24 [.ref 1000, .ref 1239] M nx (fun r M1 nx1 => (∃ (x : Bool) (Mc : am_M), r = .inl (some (.int 0)) ∧ qHC f n c Vl Vg Vn xou xpl xle xl0 xl1 xre xe xlv xrv xv M nx (.inl (some (.int (bi x)))) Mc nx1 ∧ M1 = am_up Mc 1239 (.inl (2, 1, .inr (.inl (vp_updL g 0 (if x = true then 1 else 0)))))) ∨ (∃ (y : Nat) (k1 : Int32), r = .inl (some (.int k1)) ∧ qHC f n c Vl Vg Vn xou xpl xle xl0 xl1 xre xe xlv xrv xv M nx (.inr y) M1 nx1 ∧ ((k1 = 1 ∧ M1 y = some (.inr (15, []))) ∨ (k1 = 2 ∧ M1 y = some (.inr (16, [])))))) := by
  refine am_TrOf (by decide) (Nat.le_of_ble_eq_true rfl) ?_
  show am_V G _ _ _ _ _ 0 [(0, .ref 1000), (1, .ref 1239)] [] M nx 0 0
  refine v_aload_n (am_Dk d_LW_holds (k := 0) rfl) rfl ?_
  refine v_iconst (v := 0) (am_Dk d_LW_holds (k := 1) rfl) (by decide) ?_
  refine v_aload_n (am_Dk d_LW_holds (k := 2) rfl) rfl ?_
  refine v_callV (rest := [.int 0, .ref 1239]) (As := []) (mc' := 4) (ms' := 24) (am_Dk d_LW_holds (k := 3) rfl) c_LW_33 (Or.inl ⟨_, _, _, _, _, h0, cq_ok0⟩) (t_VR_holds G (d := 11) (by omega) hb hn h0 h1 h2 hV hw hx hc5 hS hL hRt hLa hR) (by omega) (by omega) (by omega) (by simp [Value.category]) rfl (fun vR MR nR hq => ?_) (fun xT MT nT hq => ?_)
  · obtain ⟨xR, hx9⟩ := qHC_ret (xl0 := xl0) (xl1 := xl1) (xe := xe) (xv := xv) (f := f) (n := n) (c := c) (Vl := Vl) (Vg := Vg) (Vn := Vn) hq
    subst hx9
    have ho9 : MR 1239 = some (.inl (2, 1, .inr (.inl g))) := (hq.2.2.1 1239 (Or.inr ⟨by omega, by omega⟩)).trans ho
    cases xR
    · show am_V G _ _ _ _ _ 6 [(0, .ref 1000), (1, .ref 1239)] [.int 0, .int 0, .ref 1239] MR nR 4 24
      refine v_if_eq (tgt := 13) (am_Dk d_LW_holds (k := 4) rfl) (by decide) (fun c1 => ?_) (fun c1 => ?_)
      · have Nc1 := (nI_eq (a := 0) (b := 0) (by omega) (by omega)).mp c1
        refine v_lconst (v := 0) (am_Dk d_LW_holds (k := 7) rfl) (by decide) ?_
        refine v_last (am_Dk d_LW_holds (k := 8) rfl) ho9 rfl (show ¬ (_ ∨ _) from by decide) ?_
        refine v_goto (tgt := 24) (am_Dk d_LW_holds (k := 9) rfl) (by decide) ?_
        refine v_iconst (v := 0) (am_Dk d_LW_holds (k := 16) rfl) (by decide) ?_
        exact v_ireturn (am_Dk d_LW_holds (k := 17) rfl) rfl rfl (by omega) (by omega) (Or.inl ⟨false, _, rfl, hq, rfl⟩)
      · exact absurd (by decide) c1
    · show am_V G _ _ _ _ _ 6 [(0, .ref 1000), (1, .ref 1239)] [.int 1, .int 0, .ref 1239] MR nR 4 24
      refine v_if_eq (tgt := 13) (am_Dk d_LW_holds (k := 4) rfl) (by decide) (fun c2 => ?_) (fun c2 => ?_)
      · exact absurd c2 (by decide)
      · have Nc2 : ¬ 1 = 0 := fun z => c2 ((nI_eq (a := 1) (b := 0) (by omega) (by omega)).mpr z)
        refine v_lconst (v := 1) (am_Dk d_LW_holds (k := 5) rfl) (by decide) ?_
        refine v_goto (tgt := 14) (am_Dk d_LW_holds (k := 6) rfl) (by decide) ?_
        refine v_last (am_Dk d_LW_holds (k := 8) rfl) ho9 rfl (show ¬ (_ ∨ _) from by decide) ?_
        refine v_goto (tgt := 24) (am_Dk d_LW_holds (k := 9) rfl) (by decide) ?_
        refine v_iconst (v := 0) (am_Dk d_LW_holds (k := 16) rfl) (by decide) ?_
        exact v_ireturn (am_Dk d_LW_holds (k := 17) rfl) rfl rfl (by omega) (by omega) (Or.inl ⟨true, _, rfl, hq, rfl⟩)
  · rcases qHC_thr (xl0 := xl0) (xl1 := xl1) (xe := xe) (xv := xv) (f := f) (n := n) (c := c) (Vl := Vl) (Vg := Vg) (Vn := Vn) hq with hcx | hcx
    · refine vt_catch hcx cq_ok15 [] (0, 15, 18, 25) [(0, 15, 21, 27)] rfl (fun _ h => absurd h List.not_mem_nil) ⟨by decide, by decide, "java/lang/ArithmeticException", (am_at (k := 382) (by decide +kernel) (by decide +kernel)), (am_at (k := 785) (by decide +kernel) (by decide +kernel))⟩ ?_
      show am_V G _ _ _ _ _ 18 [(0, .ref 1000), (1, .ref 1239)] [.ref xT] MT nT 4 24
      refine v_astore_n (L1 := [(2, .ref xT), (0, .ref 1000), (1, .ref 1239)]) (am_Dk d_LW_holds (k := 10) rfl) (by decide) rfl ?_
      refine v_iconst (v := 1) (am_Dk d_LW_holds (k := 11) rfl) (by decide) ?_
      exact v_ireturn (am_Dk d_LW_holds (k := 12) rfl) rfl rfl (by omega) (by omega) (Or.inr ⟨_, _, rfl, hq, Or.inl ⟨rfl, hcx⟩⟩)
    · refine vt_catch hcx cq_ok16 [(0, 15, 18, 25)] (0, 15, 21, 27) [] rfl (List.forall_mem_cons.mpr ⟨⟨by decide, by decide, "java/lang/ArithmeticException", (am_at (k := 382) (by decide +kernel) (by decide +kernel)), List.mem_of_getElem? (i := 404) (by decide +kernel)⟩, fun _ h => absurd h List.not_mem_nil⟩) ⟨by decide, by decide, "java/lang/UnsupportedOperationException", (am_at (k := 383) (by decide +kernel) (by decide +kernel)), (am_at (k := 766) (by decide +kernel) (by decide +kernel))⟩ ?_
      show am_V G _ _ _ _ _ 21 [(0, .ref 1000), (1, .ref 1239)] [.ref xT] MT nT 4 24
      refine v_astore_n (L1 := [(2, .ref xT), (0, .ref 1000), (1, .ref 1239)]) (am_Dk d_LW_holds (k := 13) rfl) (by decide) rfl ?_
      refine v_iconst (v := 2) (am_Dk d_LW_holds (k := 14) rfl) (by decide) ?_
      exact v_ireturn (am_Dk d_LW_holds (k := 15) rfl) rfl rfl (by omega) (by omega) (Or.inr ⟨_, _, rfl, hq, Or.inr (⟨rfl, hcx⟩)⟩)
set_option maxRecDepth 20000 in
theorem t_LW_count (G : am_G) {d nx : Nat} (hd : 7 ≤ d) {M : am_M} {pl er nn k : Int32} (h0 : M 1000 = some (.inr (0, [.ref 1001, .ref 1003, .ref 1005, .int pl, .int er]))) (h1 : M 1001 = some (.inr (1, [.ref 1002, .int nn]))) (hx : 1240 ≤ nx) {g : Nat → Int64} (ho : M 1239 = some (.inl (2, 1, .inr (.inl g)))) : am_Tr G m_LW_count d 1 6 [.ref 1000, .int k, .ref 1239] M nx (fun r M1 nx1 => (∃ (x : Int32) (Mc : am_M), r = .inl (some (.int 0)) ∧ qNC pl er nn k M nx (.inl (some (.int x))) Mc nx1 ∧ M1 = am_up Mc 1239 (.inl (2, 1, .inr (.inl (vp_updL g 0 (Int32.toInt64 x)))))) ∨ (∃ (y : Nat) (k1 : Int32), r = .inl (some (.int k1)) ∧ qNC pl er nn k M nx (.inr y) M1 nx1 ∧ ((k1 = 1 ∧ M1 y = some (.inr (14, [])))))) := by
  refine am_TrOf (by decide) (Nat.le_of_ble_eq_true rfl) ?_
  show am_V G _ _ _ _ _ 0 [(0, .ref 1000), (1, .int k), (2, .ref 1239)] [] M nx 0 0
  refine v_aload_n (am_Dk d_LW_count (k := 0) rfl) rfl ?_
  refine v_iconst (v := 0) (am_Dk d_LW_count (k := 1) rfl) (by decide) ?_
  refine v_aload_n (am_Dk d_LW_count (k := 2) rfl) rfl ?_
  refine v_iload_n (am_Dk d_LW_count (k := 3) rfl) rfl ?_
  refine v_callV (rest := [.int 0, .ref 1239]) (As := [.int k]) (mc' := 1) (ms' := 6) (am_Dk d_LW_count (k := 4) rfl) c_LW_37 (Or.inl ⟨_, _, _, _, _, h0, cq_ok0⟩) (t_VR_count G (d := 6) (by omega) h0 h1 hx) (by omega) (by omega) (by omega) (by simp [Value.category]) rfl (fun vR MR nR hq => ?_) (fun xT MT nT hq => ?_)
  · obtain ⟨xR, hx9⟩ := (qNC_ret hq).1
    subst hx9
    have ho9 : MR 1239 = some (.inl (2, 1, .inr (.inl g))) := by rw [(qNC_ret hq).2]; exact ho
    show am_V G _ _ _ _ _ 7 [(0, .ref 1000), (1, .int k), (2, .ref 1239)] [.int xR, .int 0, .ref 1239] MR nR 1 6
    refine v_i2l (am_Dk d_LW_count (k := 5) rfl) rfl ?_
    refine v_last (am_Dk d_LW_count (k := 6) rfl) ho9 rfl (show ¬ (_ ∨ _) from by decide) ?_
    refine v_goto (tgt := 15) (am_Dk d_LW_count (k := 7) rfl) (by decide) ?_
    refine v_iconst (v := 0) (am_Dk d_LW_count (k := 11) rfl) (by decide) ?_
    exact v_ireturn (am_Dk d_LW_count (k := 12) rfl) rfl rfl (by omega) (by omega) (Or.inl ⟨xR, _, rfl, hq, rfl⟩)
  · have hcx := qNC_thr hq
    refine vt_catch hcx cq_ok14 [] (0, 9, 12, 19) [] rfl (fun _ h => absurd h List.not_mem_nil) ⟨by decide, by decide, "java/lang/IllegalArgumentException", (am_at (k := 359) (by decide +kernel) (by decide +kernel)), (am_at (k := 366) (by decide +kernel) (by decide +kernel))⟩ ?_
    show am_V G _ _ _ _ _ 12 [(0, .ref 1000), (1, .int k), (2, .ref 1239)] [.ref xT] MT nT 1 6
    refine v_astore_n (L1 := [(3, .ref xT), (0, .ref 1000), (1, .int k), (2, .ref 1239)]) (am_Dk d_LW_count (k := 8) rfl) (by decide) rfl ?_
    refine v_iconst (v := 1) (am_Dk d_LW_count (k := 9) rfl) (by decide) ?_
    exact v_ireturn (am_Dk d_LW_count (k := 10) rfl) rfl rfl (by omega) (by omega) (Or.inr ⟨_, _, rfl, hq, ⟨rfl, hcx⟩⟩)
