/-! VALUE, LET, HOLDS, COUNT, CLEAR ON BOTH SIDES (mine) -/
def zwV (f : Nat → Int32) (n : Nat) (c : Nat) (Vl : Nat → Nat) (Vg : Nat → Nat → Int32) (Vn : Nat → Int64) (xou : Nat) (xpl xle xl0 xl1 xre xe : Int32) (xlv xrv xv : Int64) (g : Nat → Int64) (M : am_M) (nx : Nat) : am_Qt := fun r M1 nx1 => (∃ (x : Int64) (Mc : am_M), r = .inl (some (.int 0)) ∧ qVC f n c Vl Vg Vn xou xpl xle xl0 xl1 xre xe xlv xrv xv M nx (.inl (some (.long x))) Mc nx1 ∧ M1 = am_up Mc 1239 (.inl (2, 1, .inr (.inl (vp_updL g 0 x))))) ∨ (∃ (y : Nat) (k1 : Int32), r = .inl (some (.int k1)) ∧ qVC f n c Vl Vg Vn xou xpl xle xl0 xl1 xre xe xlv xrv xv M nx (.inr y) M1 nx1 ∧ ((k1 = 1 ∧ M1 y = some (.inr (15, []))) ∨ (k1 = 2 ∧ M1 y = some (.inr (16, [])))))
def zwL (f : Nat → Int32) (n : Nat) (c : Nat) (Vl : Nat → Nat) (Vg : Nat → Nat → Int32) (Vn : Nat → Int64) (xou : Nat) (xpl xle xl0 xl1 xre xe : Int32) (xlv xrv xv : Int64) (g : Nat → Int64) (M : am_M) (nx : Nat) : am_Qt := fun r M1 nx1 => (∃ (x : Int32) (Mc : am_M), r = .inl (some (.int 0)) ∧ qLC f n c Vl Vg Vn xou xpl xle xl0 xl1 xre xe xlv xrv xv M nx (.inl (some (.int x))) Mc nx1 ∧ M1 = am_up Mc 1239 (.inl (2, 1, .inr (.inl (vp_updL g 0 (Int32.toInt64 x)))))) ∨ (∃ (y : Nat) (k1 : Int32), r = .inl (some (.int k1)) ∧ qLC f n c Vl Vg Vn xou xpl xle xl0 xl1 xre xe xlv xrv xv M nx (.inr y) M1 nx1 ∧ ((k1 = 1 ∧ M1 y = some (.inr (15, []))) ∨ (k1 = 2 ∧ M1 y = some (.inr (16, []))) ∨ (k1 = 3 ∧ M1 y = some (.inr (13, [])))))
def zwH (f : Nat → Int32) (n : Nat) (c : Nat) (Vl : Nat → Nat) (Vg : Nat → Nat → Int32) (Vn : Nat → Int64) (xou : Nat) (xpl xle xl0 xl1 xre xe : Int32) (xlv xrv xv : Int64) (g : Nat → Int64) (M : am_M) (nx : Nat) : am_Qt := fun r M1 nx1 => (∃ (x : Bool) (Mc : am_M), r = .inl (some (.int 0)) ∧ qHC f n c Vl Vg Vn xou xpl xle xl0 xl1 xre xe xlv xrv xv M nx (.inl (some (.int (bi x)))) Mc nx1 ∧ M1 = am_up Mc 1239 (.inl (2, 1, .inr (.inl (vp_updL g 0 (if x = true then 1 else 0)))))) ∨ (∃ (y : Nat) (k1 : Int32), r = .inl (some (.int k1)) ∧ qHC f n c Vl Vg Vn xou xpl xle xl0 xl1 xre xe xlv xrv xv M nx (.inr y) M1 nx1 ∧ ((k1 = 1 ∧ M1 y = some (.inr (15, []))) ∨ (k1 = 2 ∧ M1 y = some (.inr (16, [])))))
def zwN (pl er nn k : Int32) (g : Nat → Int64) (M : am_M) (nx : Nat) : am_Qt := fun r M1 nx1 => (∃ (x : Int32) (Mc : am_M), r = .inl (some (.int 0)) ∧ qNC pl er nn k M nx (.inl (some (.int x))) Mc nx1 ∧ M1 = am_up Mc 1239 (.inl (2, 1, .inr (.inl (vp_updL g 0 (Int32.toInt64 x)))))) ∨ (∃ (y : Nat) (k1 : Int32), r = .inl (some (.int k1)) ∧ qNC pl er nn k M nx (.inr y) M1 nx1 ∧ ((k1 = 1 ∧ M1 y = some (.inr (14, [])))))
def mV (f : Nat → Int32) (n : Nat) (lu : Nat → Nat → Option Int64) (c : Nat) (Vl : Nat → Nat) (Vg : Nat → Nat → Int32) (Vn : Nat → Int64) (P : Nat → Int32) (Q : Nat → Nat) (M : am_M) (nx : Nat) : am_Qt := fun r M1 nx1 => nx1 = nx ∧ (∀ i, i < 1211 ∨ (1232 < i ∧ i < 1236) ∨ 1238 < i → M1 i = M i) ∧ rx f M1 ∧ rcell M1 ∧ wks M1 ∧ ((∃ w, w ≤ n ∧ rdBad f n lu w ∧ r = .inl (some (.long 0)) ∧ ∃ re1, M1 1211 = some (.inr (9, [.int 2, .int 0, .int (nI w), .int 0, .int (nI c), .ref 1212, .ref 1213, .ref 1220, .ref 1225, .ref 1233, .ref 1234, .ref 1235, .ref 1236, .ref 1237, .ref 1238, .long re1]))) ∨ ∃ W t sz re1, rdOk f n lu W t sz ∧ ((¬ (W.1 t).1 = 0 ∧ r = .inl (some (.long 0)) ∧ M1 1211 = some (.inr (9, [.int 1, .int 0, .int (-1), .int ((W.1 t).1), .int (nI c), .ref 1212, .ref 1213, .ref 1220, .ref 1225, .ref 1233, .ref 1234, .ref 1235, .ref 1236, .ref 1237, .ref 1238, .long re1]))) ∨ ((W.1 t).1 = 0 ∧ r = .inl (some (.long (W.1 t).2)) ∧ M1 1211 = some (.inr (9, [.int 0, .int 0, .int (-1), .int 0, .int (nI c), .ref 1212, .ref 1213, .ref 1220, .ref 1225, .ref 1233, .ref 1234, .ref 1235, .ref 1236, .ref 1237, .ref 1238, .long re1])))))
def mL (f : Nat → Int32) (n : Nat) (lu : Nat → Nat → Option Int64) (c : Nat) (Vl : Nat → Nat) (Vg : Nat → Nat → Int32) (Vn : Nat → Int64) (P : Nat → Int32) (Q : Nat → Nat) (M : am_M) (nx : Nat) : am_Qt := fun r M1 nx1 => nx1 = nx ∧ (∀ i, i < 1211 ∨ 1238 < i → M1 i = M i) ∧ rx f M1 ∧ rcell M1 ∧ wks M1 ∧ ((∃ w re1, w ≤ n ∧ rdBad f n lu w ∧ r = .inl (some (.int 0)) ∧ tbl M1 c Vl Vg Vn P Q ∧ M1 1211 = some (.inr (9, [.int 2, .int 0, .int (nI w), .int 0, .int (nI c), .ref 1212, .ref 1213, .ref 1220, .ref 1225, .ref 1233, .ref 1234, .ref 1235, .ref 1236, .ref 1237, .ref 1238, .long re1]))) ∨ ∃ W t sz re1, rdOk f n lu W t sz ∧ ((letV W t = none ∧ r = .inl (some (.int 0)) ∧ tbl M1 c Vl Vg Vn P Q ∧ M1 1211 = some (.inr (9, [.int 2, .int 0, .int 0, .int 0, .int (nI c), .ref 1212, .ref 1213, .ref 1220, .ref 1225, .ref 1233, .ref 1234, .ref 1235, .ref 1236, .ref 1237, .ref 1238, .long re1]))) ∨ ∃ q, letV W t = some q ∧ ((¬ (W.1 (W.2.1 t).2.2).1 = 0 ∧ r = .inl (some (.int 0)) ∧ tbl M1 c Vl Vg Vn P Q ∧ M1 1211 = some (.inr (9, [.int 1, .int 0, .int (-1), .int ((W.1 (W.2.1 t).2.2).1), .int (nI c), .ref 1212, .ref 1213, .ref 1220, .ref 1225, .ref 1233, .ref 1234, .ref 1235, .ref 1236, .ref 1237, .ref 1238, .long re1]))) ∨ ((W.1 (W.2.1 t).2.2).1 = 0 ∧ inR (W.1 (W.2.1 t).2.2).2 ∧ ((∃ i, vfF (vmt Vl Vg q.1 q.2) c 0 = some i ∧ r = .inl (some (.int (nI c))) ∧ tbl M1 c Vl Vg (vp_updL Vn i (W.1 (W.2.1 t).2.2).2) P Q ∧ M1 1211 = some (.inr (9, [.int 0, .int 0, .int (-1), .int 0, .int (nI c), .ref 1212, .ref 1213, .ref 1220, .ref 1225, .ref 1233, .ref 1234, .ref 1235, .ref 1236, .ref 1237, .ref 1238, .long re1]))) ∨ (vfF (vmt Vl Vg q.1 q.2) c 0 = none ∧ c = 50 ∧ r = .inl (some (.int 0)) ∧ tbl M1 c Vl Vg Vn P Q ∧ M1 1211 = some (.inr (9, [.int 3, .int 0, .int (-1), .int 0, .int (nI c), .ref 1212, .ref 1213, .ref 1220, .ref 1225, .ref 1233, .ref 1234, .ref 1235, .ref 1236, .ref 1237, .ref 1238, .long re1]))) ∨ (vfF (vmt Vl Vg q.1 q.2) c 0 = none ∧ c < 50 ∧ r = .inl (some (.int (nI (c + 1)))) ∧ (∃ P' Q', tbl M1 (c + 1) (nwL Vl c q.1) (nwG Vg c q.2) (vp_updL Vn c (W.1 (W.2.1 t).2.2).2) P' Q') ∧ M1 1211 = some (.inr (9, [.int 0, .int 0, .int (-1), .int 0, .int (nI (c + 1)), .ref 1212, .ref 1213, .ref 1220, .ref 1225, .ref 1233, .ref 1234, .ref 1235, .ref 1236, .ref 1237, .ref 1238, .long re1]))))))))
def mH (f : Nat → Int32) (n : Nat) (lu : Nat → Nat → Option Int64) (c : Nat) (Vl : Nat → Nat) (Vg : Nat → Nat → Int32) (Vn : Nat → Int64) (P : Nat → Int32) (Q : Nat → Nat) (M : am_M) (nx : Nat) : am_Qt := fun r M1 nx1 => nx1 = nx ∧ (∀ i, i < 1211 ∨ (1232 < i ∧ i < 1236) ∨ 1238 < i → M1 i = M i) ∧ rx f M1 ∧ rcell M1 ∧ wks M1 ∧ ((∃ w re1, w ≤ n ∧ rdBad f n lu w ∧ r = .inl (some (.int 0)) ∧ M1 1211 = some (.inr (9, [.int 2, .int 0, .int (nI w), .int 0, .int (nI c), .ref 1212, .ref 1213, .ref 1220, .ref 1225, .ref 1233, .ref 1234, .ref 1235, .ref 1236, .ref 1237, .ref 1238, .long re1]))) ∨ ∃ W t sz re1, rdOk f n lu W t sz ∧ ((cmpK (W.2.1 t).1 = false ∧ r = .inl (some (.int 0)) ∧ M1 1211 = some (.inr (9, [.int 2, .int 0, .int 0, .int 0, .int (nI c), .ref 1212, .ref 1213, .ref 1220, .ref 1225, .ref 1233, .ref 1234, .ref 1235, .ref 1236, .ref 1237, .ref 1238, .long re1]))) ∨ (cmpK (W.2.1 t).1 = true ∧ ((¬ (W.1 (W.2.1 t).2.1).1 = 0 ∧ r = .inl (some (.int 0)) ∧ M1 1211 = some (.inr (9, [.int 1, .int 0, .int (-1), .int ((W.1 (W.2.1 t).2.1).1), .int (nI c), .ref 1212, .ref 1213, .ref 1220, .ref 1225, .ref 1233, .ref 1234, .ref 1235, .ref 1236, .ref 1237, .ref 1238, .long re1]))) ∨ ((W.1 (W.2.1 t).2.1).1 = 0 ∧ ¬ (W.1 (W.2.1 t).2.2).1 = 0 ∧ r = .inl (some (.int 0)) ∧ M1 1211 = some (.inr (9, [.int 1, .int 0, .int (-1), .int ((W.1 (W.2.1 t).2.2).1), .int (nI c), .ref 1212, .ref 1213, .ref 1220, .ref 1225, .ref 1233, .ref 1234, .ref 1235, .ref 1236, .ref 1237, .ref 1238, .long re1]))) ∨ ((W.1 (W.2.1 t).2.1).1 = 0 ∧ (W.1 (W.2.1 t).2.2).1 = 0 ∧ r = .inl (some (.int (bi (truK (W.2.1 t).1 (W.1 (W.2.1 t).2.1).2 (W.1 (W.2.1 t).2.2).2)))) ∧ M1 1211 = some (.inr (9, [.int 0, .int 0, .int (-1), .int 0, .int (nI c), .ref 1212, .ref 1213, .ref 1220, .ref 1225, .ref 1233, .ref 1234, .ref 1235, .ref 1236, .ref 1237, .ref 1238, .long re1])))))))
theorem j_ci {f : Nat → Int32} {n : Nat} {c : Nat} {Vl : Nat → Nat} {Vg : Nat → Nat → Int32} {Vn : Nat → Int64} {pl er pl' er' : Int32} {M Mc M2 : am_M} {nx nx1 : Nat} (hC : CI f n c Vl Vg Vn pl er M nx) (hx : 1240 ≤ nx) (q3 : ∀ i, (1001 < i ∧ i < 1005) ∨ (1210 < i ∧ i < nx) → Mc i = M i) (q4 : Mc 1001 = some (.inr (1, [.ref 1002, .int 0]))) (q5 : cs0 Mc) (h0 : Mc 1000 = some (.inr (0, [.ref 1001, .ref 1003, .ref 1005, .int pl', .int er']))) (hn1 : nx ≤ nx1) (F : ∀ i, i < 1211 ∨ 1239 < i → M2 i = Mc i) : CI f 0 c Vl Vg Vn pl' er' M2 nx1 := by
  obtain ⟨_, _, a, _, b⟩ := hC
  exact ⟨(F _ (by omega)).trans h0, (F _ (by omega)).trans q4, (F _ (by omega)).trans ((q3 _ (by omega)).trans a), cs0_fr q5 (fun i h1 h2 => F i (by omega)), vz_fr b hn1 ((F _ (by omega)).trans (q3 _ (by omega))) ((F _ (by omega)).trans (q3 _ (by omega))) (fun i h1 h2 => (F i (by omega)).trans (q3 i (by omega)))⟩
theorem j_ciL {f : Nat → Int32} {n n9 : Nat} {c : Nat} {Vl : Nat → Nat} {Vg : Nat → Nat → Int32} {Vn : Nat → Int64} {c' : Nat} {Vl' : Nat → Nat} {Vg' : Nat → Nat → Int32} {Vn' : Nat → Int64} {pl er pl' er' : Int32} {M Mc M2 : am_M} {nx nx1 : Nat} (hC : CI f n c Vl Vg Vn pl er M nx) (q3 : Mc 1002 = M 1002) (q4 : Mc 1001 = some (.inr (1, [.ref 1002, .int 0]))) (q5 : cs0 Mc) (h0 : Mc 1000 = some (.inr (0, [.ref 1001, .ref 1003, .ref 1005, .int pl', .int er']))) (hv : vz Mc c' Vl' Vg' Vn' nx1) (F : ∀ i, i < 1211 ∨ 1239 < i → M2 i = Mc i) : CI f 0 c' Vl' Vg' Vn' pl' er' M2 nx1 := by
  obtain ⟨_, _, a, _, b⟩ := hC
  exact ⟨(F _ (by omega)).trans h0, (F _ (by omega)).trans q4, (F _ (by omega)).trans (q3.trans a), cs0_fr q5 (fun i h1 h2 => F i (by omega)), vz_fr hv (Nat.le_refl _) (F _ (by omega)) (F _ (by omega)) (fun i h1 h2 => F i (by omega))⟩
theorem j_value {f : Nat → Int32} {n : Nat} {c : Nat} {Vl : Nat → Nat} {Vg : Nat → Nat → Int32} {Vn : Nat → Int64} {pl er th : Int32} {g : Nat → Int64} {M M1 M2 : am_M} {nx nx1 nx2 : Nat} (hb : tbB f) (hn : n ≤ 4096) (hx : 1240 ≤ nx) (hN : nmNo c Vl Vg) (hC : CI f n c Vl Vg Vn pl er M nx) (hM : MI f n c Vl Vg Vn pl er th M) (hg : M 1239 = some (.inl (2, 1, .inr (.inl g)))) {lf rt la : Opd} {xK : List Frm} {xdu xdn : Bool} {xsy xou xna : Nat} {xpl xpr xle xl0 xl1 xre xr0 xr1 xe xa0 xb0 : Int32} {xlv xrv xv : Int64} (hR : c_fin f n (c_run f n (cl_lu c Vl Vg Vn f) 16384 (c_s0 lf rt la)) = (xK, xdu, xdn, xsy, xpl, xou, xpr, xna, (xle, xlv, xl0, xl1), (xre, xrv, xr0, xr1), (xe, xv, xa0, xb0))) {P : Nat → Int32} {Q : Nat → Nat} {k : Int32} {v2 : Option Value} (h1 : zwV f n c Vl Vg Vn xou xpl xle xl0 xl1 xre xe xlv xrv xv g M nx (.inl (some (.int k))) M1 nx1) (h2 : mV f n (cl_lu c Vl Vg Vn f) c Vl Vg Vn P Q M1 nx1 (.inl v2) M2 nx2) : ∃ b g1, v2 = some (.long b) ∧ nx2 = nx1 ∧ JI k g1 M2 nx2 ∧ (k = 0 → g1 0 = b) := by
  obtain ⟨b1, b2, b3, b4, b5, b6⟩ := h2
  obtain ⟨P, Q, hT⟩ := hM.2.2.2.2
  subst b1
  rcases h1 with ⟨x, Mc, E1, ⟨q1, q2, q3, q4, q5, q6⟩, E2⟩ | ⟨y, k1, E1, ⟨q1, q2, q3, q4, q5, q6⟩, hk⟩
  · cases E1
    have F : ∀ i, i < 1211 ∨ 1239 < i → M2 i = Mc i := fun i hi => (b2 i (by omega)).trans (by rw [E2]; exact am_up_ne (by omega))
    have hT2 : tbl M2 c Vl Vg Vn P Q := tbl_fr hT (fun i h1 h2 => (b2 i (by omega)).trans (Eq.trans (by rw [E2]; exact am_up_ne (by omega)) (q3 i (by omega))))
    have hO : M2 1239 = some (.inl (2, 1, .inr (.inl (vp_updL g 0 x)))) := (b2 _ (by omega)).trans (by rw [E2]; exact am_up_eq _ _ _)
    rcases q6 with ⟨_, ⟨y, hy, _⟩, _⟩ | ⟨hpl, ⟨_, ⟨y, hy, _⟩, _⟩ | ⟨he, hv, h00⟩⟩
    · cases hy
    · cases hy
    · cases hv
      subst hpl
      rcases b6 with ⟨w, hw, hbad, _⟩ | ⟨W, t, sz, re9, hok, b7⟩
      · have h9 := hbad lf rt la
        rw [hR] at h9
        exact absurd (show (-1 : Int32) = nI w from h9).symm (nI_m1 (by omega))
      · obtain ⟨K2, pr2, a2, ou2, lf2, rt2, w2, h9, hOp, hRt2, hR0⟩ := hok lf rt la
        rw [hR] at h9
        cases h9
        have hW : W.1 t = (xe, xv) := hOp.1
        rcases b7 with ⟨c1, _⟩ | ⟨c1, c2, c3⟩
        · exact absurd (by rw [hW]; exact he) c1
        · cases c2
          exact ⟨_, _, rfl, rfl, ⟨f, 0, c, Vl, Vg, Vn, -1, 0, hb, Nat.zero_le _, Nat.le_trans hx q1, hN, j_ci hC hx q3 q4 q5 h00 q1 F, ⟨⟨_, c3⟩, b3, b4, b5, P, Q, hT2⟩, hO⟩, fun _ => (updL_at _ _ _).trans (by rw [hW])⟩
  · cases E1
    have F : ∀ i, i < 1211 ∨ 1239 < i → M2 i = M1 i := fun i hi => b2 i (by omega)
    have hT2 : tbl M2 c Vl Vg Vn P Q := tbl_fr hT (fun i h1 h2 => (b2 i (by omega)).trans (q3 i (by omega)))
    have hO : M2 1239 = some (.inl (2, 1, .inr (.inl g))) := (b2 _ (by omega)).trans ((q3 _ (by omega)).trans hg)
    rcases q6 with ⟨hp, ⟨y2, hy, hy2⟩, h00⟩ | ⟨hpl, ⟨he, ⟨y2, hy, hy2⟩, h00⟩ | ⟨_, hv, _⟩⟩
    · cases hy
      rcases hk with ⟨_, z⟩ | ⟨hk, _⟩
      · cases hy2.symm.trans z
      · subst hk
        rcases b6 with ⟨w, hw, hbad, c2, re9, c3⟩ | ⟨W, t, sz, re9, hok, _⟩
        · have h9 := hbad lf rt la
          rw [hR] at h9
          replace h9 : xpl = nI w := h9
          subst h9
          cases c2
          exact ⟨_, _, rfl, rfl, ⟨f, 0, c, Vl, Vg, Vn, _, 0, hb, Nat.zero_le _, Nat.le_trans hx q1, hN, j_ci hC hx q3 q4 q5 h00 q1 F, ⟨⟨_, c3⟩, b3, b4, b5, P, Q, hT2⟩, hO⟩, fun z => absurd z (by decide)⟩
        · obtain ⟨K2, pr2, a2, ou2, lf2, rt2, w2, h9, hOp, hRt2, hR0⟩ := hok lf rt la
          rw [hR] at h9
          cases h9
          exact absurd rfl hp
    · cases hy
      subst hpl
      rcases hk with ⟨hk, _⟩ | ⟨_, z⟩
      · subst hk
        rcases b6 with ⟨w, hw, hbad, _⟩ | ⟨W, t, sz, re9, hok, b7⟩
        · have h9 := hbad lf rt la
          rw [hR] at h9
          exact absurd (show (-1 : Int32) = nI w from h9).symm (nI_m1 (by omega))
        · obtain ⟨K2, pr2, a2, ou2, lf2, rt2, w2, h9, hOp, hRt2, hR0⟩ := hok lf rt la
          rw [hR] at h9
          cases h9
          have hW : W.1 t = (xe, xv) := hOp.1
          rcases b7 with ⟨c1, c2, c3⟩ | ⟨c1, _⟩
          · cases c2
            rw [hW] at c3
            exact ⟨_, _, rfl, rfl, ⟨f, 0, c, Vl, Vg, Vn, -1, xe, hb, Nat.zero_le _, Nat.le_trans hx q1, hN, j_ci hC hx q3 q4 q5 h00 q1 F, ⟨⟨_, c3⟩, b3, b4, b5, P, Q, hT2⟩, hO⟩, fun z => absurd z (by decide)⟩
          · rw [hW] at c1
            exact absurd c1 he
      · cases hy2.symm.trans z
    · cases hv
theorem bi_inj {a b : Bool} (h : bi a = bi b) : a = b := by
  cases a <;> cases b <;> first | rfl | exact absurd h (by decide)
theorem j_holds {f : Nat → Int32} {n : Nat} {c : Nat} {Vl : Nat → Nat} {Vg : Nat → Nat → Int32} {Vn : Nat → Int64} {pl er th : Int32} {g : Nat → Int64} {M M1 M2 : am_M} {nx nx1 nx2 : Nat} (hb : tbB f) (hn : n ≤ 4096) (hx : 1240 ≤ nx) (hN : nmNo c Vl Vg) (hC : CI f n c Vl Vg Vn pl er M nx) (hM : MI f n c Vl Vg Vn pl er th M) (hg : M 1239 = some (.inl (2, 1, .inr (.inl g)))) {lf rt la : Opd} {xK : List Frm} {xdu xdn : Bool} {xsy xou xna : Nat} {xpl xpr xle xl0 xl1 xre xr0 xr1 xe xa0 xb0 : Int32} {xlv xrv xv : Int64} (hR : c_fin f n (c_run f n (cl_lu c Vl Vg Vn f) 16384 (c_s0 lf rt la)) = (xK, xdu, xdn, xsy, xpl, xou, xpr, xna, (xle, xlv, xl0, xl1), (xre, xrv, xr0, xr1), (xe, xv, xa0, xb0))) {P : Nat → Int32} {Q : Nat → Nat} {k : Int32} {v2 : Option Value} (h1 : zwH f n c Vl Vg Vn xou xpl xle xl0 xl1 xre xe xlv xrv xv g M nx (.inl (some (.int k))) M1 nx1) (h2 : mH f n (cl_lu c Vl Vg Vn f) c Vl Vg Vn P Q M1 nx1 (.inl v2) M2 nx2) : ∃ b g1, v2 = some (.int (bi b)) ∧ nx2 = nx1 ∧ JI k g1 M2 nx2 ∧ (k = 0 → g1 0 = if b = true then 1 else 0) := by
  obtain ⟨b1, b2, b3, b4, b5, b6⟩ := h2
  obtain ⟨P, Q, hT⟩ := hM.2.2.2.2
  subst b1
  rcases h1 with ⟨x, Mc, E1, ⟨q1, q2, q3, q4, q5, q6⟩, E2⟩ | ⟨y, k1, E1, ⟨q1, q2, q3, q4, q5, q6⟩, hk⟩
  · cases E1
    have F : ∀ i, i < 1211 ∨ 1239 < i → M2 i = Mc i := fun i hi => (b2 i (by omega)).trans (by rw [E2]; exact am_up_ne (by omega))
    have hT2 : tbl M2 c Vl Vg Vn P Q := tbl_fr hT (fun i h1 h2 => (b2 i (by omega)).trans (Eq.trans (by rw [E2]; exact am_up_ne (by omega)) (q3 i (by omega))))
    have hO : M2 1239 = some (.inl (2, 1, .inr (.inl (vp_updL g 0 (if x = true then 1 else 0))))) := (b2 _ (by omega)).trans (by rw [E2]; exact am_up_eq _ _ _)
    rcases q6 with ⟨_, ⟨y, hy, _⟩, _⟩ | ⟨hpl, ⟨_, ⟨y, hy, _⟩, _⟩ | ⟨hc1, ⟨_, ⟨y, hy, _⟩, _⟩ | ⟨he1, ⟨_, ⟨y, hy, _⟩, _⟩ | ⟨he2, hv, h00⟩⟩⟩⟩
    · cases hy
    · cases hy
    · cases hy
    · cases hy
    · have hxb : x = truK xou xlv xrv := bi_inj (Value.int.inj (Option.some.inj (Sum.inl.inj hv)))
      subst hpl
      rcases b6 with ⟨w, re9, hw, hbad, _⟩ | ⟨W, t, sz, re9, hok, b7⟩
      · have h9 := hbad lf rt la
        rw [hR] at h9
        exact absurd (show (-1 : Int32) = nI w from h9).symm (nI_m1 (by omega))
      · obtain ⟨K2, pr2, a2, ou2, lf2, rt2, w2, h9, hOp, hRt2, hR0⟩ := hok lf rt la
        rw [hR] at h9
        cases h9
        have hcm : cmpK xou = cmpK (W.2.1 t).1 := by
          by_cases h0 : (W.2.1 t).1 = 0
          · rcases hR0 h0 with z | z
            · rw [z, h0]
            · rw [z, h0]; rfl
          · rw [(hRt2 h0).1]
        have hOp2 : cmpK xou = true → (W.2.1 t).1 = xou ∧ W.1 (W.2.1 t).2.1 = (xle, xlv) ∧ W.1 (W.2.1 t).2.2 = (xre, xrv) := fun z => by
          have h0 : ¬ (W.2.1 t).1 = 0 := fun y => by rw [hcm, y] at z; exact absurd z (by decide)
          obtain ⟨y1, _, _, y4, y5⟩ := hRt2 h0
          exact ⟨y1.symm, y4.1, y5.1⟩
        obtain ⟨o1, o2, o3⟩ := hOp2 hc1
        rw [o1, o2, o3] at b7
        rcases b7 with ⟨c1, _⟩ | ⟨_, ⟨c1, _⟩ | ⟨_, c1, _⟩ | ⟨_, _, c2, c3⟩⟩
        · exact absurd (c1.symm.trans hc1) (by decide)
        · exact absurd he1 c1
        · exact absurd he2 c1
        · cases c2
          exact ⟨_, _, rfl, rfl, ⟨f, 0, c, Vl, Vg, Vn, -1, 0, hb, Nat.zero_le _, Nat.le_trans hx q1, hN, j_ci hC hx q3 q4 q5 h00 q1 F, ⟨⟨_, c3⟩, b3, b4, b5, P, Q, hT2⟩, hO⟩, fun _ => (updL_at _ _ _).trans (by rw [hxb])⟩
  · cases E1
    have F : ∀ i, i < 1211 ∨ 1239 < i → M2 i = M1 i := fun i hi => b2 i (by omega)
    have hT2 : tbl M2 c Vl Vg Vn P Q := tbl_fr hT (fun i h1 h2 => (b2 i (by omega)).trans (q3 i (by omega)))
    have hO : M2 1239 = some (.inl (2, 1, .inr (.inl g))) := (b2 _ (by omega)).trans ((q3 _ (by omega)).trans hg)
    rcases q6 with ⟨hp, ⟨y2, hy, hy2⟩, h00⟩ | ⟨hpl, ⟨hc1, ⟨y2, hy, hy2⟩, h00⟩ | ⟨hc1, ⟨he1, ⟨y2, hy, hy2⟩, h00⟩ | ⟨he1, ⟨he2, ⟨y2, hy, hy2⟩, h00⟩ | ⟨_, hv, _⟩⟩⟩⟩
    · cases hy
      rcases hk with ⟨_, z⟩ | ⟨hk, _⟩
      · cases hy2.symm.trans z
      · subst hk
        rcases b6 with ⟨w, re9, hw, hbad, c2, c3⟩ | ⟨W, t, sz, re9, hok, _⟩
        · have h9 := hbad lf rt la
          rw [hR] at h9
          replace h9 : xpl = nI w := h9
          subst h9
          cases c2
          exact ⟨false, _, rfl, rfl, ⟨f, 0, c, Vl, Vg, Vn, _, 0, hb, Nat.zero_le _, Nat.le_trans hx q1, hN, j_ci hC hx q3 q4 q5 h00 q1 F, ⟨⟨_, c3⟩, b3, b4, b5, P, Q, hT2⟩, hO⟩, fun z => absurd z (by decide)⟩
        · obtain ⟨K2, pr2, a2, ou2, lf2, rt2, w2, h9, hOp, hRt2, hR0⟩ := hok lf rt la
          rw [hR] at h9
          cases h9
          exact absurd rfl hp
    · cases hy
      subst hpl
      rcases hk with ⟨_, z⟩ | ⟨hk, _⟩
      · cases hy2.symm.trans z
      · subst hk
        rcases b6 with ⟨w, re9, hw, hbad, _⟩ | ⟨W, t, sz, re9, hok, b7⟩
        · have h9 := hbad lf rt la
          rw [hR] at h9
          exact absurd (show (-1 : Int32) = nI w from h9).symm (nI_m1 (by omega))
        · obtain ⟨K2, pr2, a2, ou2, lf2, rt2, w2, h9, hOp, hRt2, hR0⟩ := hok lf rt la
          rw [hR] at h9
          cases h9
          have hcm : cmpK xou = cmpK (W.2.1 t).1 := by
            by_cases h0 : (W.2.1 t).1 = 0
            · rcases hR0 h0 with z | z
              · rw [z, h0]
              · rw [z, h0]; rfl
            · rw [(hRt2 h0).1]
          have hOp2 : cmpK xou = true → (W.2.1 t).1 = xou ∧ W.1 (W.2.1 t).2.1 = (xle, xlv) ∧ W.1 (W.2.1 t).2.2 = (xre, xrv) := fun z => by
            have h0 : ¬ (W.2.1 t).1 = 0 := fun y => by rw [hcm, y] at z; exact absurd z (by decide)
            obtain ⟨y1, _, _, y4, y5⟩ := hRt2 h0
            exact ⟨y1.symm, y4.1, y5.1⟩
          rcases b7 with ⟨_, c2, c3⟩ | ⟨c1, _⟩
          · cases c2
            exact ⟨false, _, rfl, rfl, ⟨f, 0, c, Vl, Vg, Vn, 0, 0, hb, Nat.zero_le _, Nat.le_trans hx q1, hN, j_ci hC hx q3 q4 q5 h00 q1 F, ⟨⟨_, c3⟩, b3, b4, b5, P, Q, hT2⟩, hO⟩, fun z => absurd z (by decide)⟩
          · exact absurd (hc1.symm.trans (hcm.trans c1)) (by decide)
    · cases hy
      subst hpl
      rcases hk with ⟨hk, _⟩ | ⟨_, z⟩
      · subst hk
        rcases b6 with ⟨w, re9, hw, hbad, _⟩ | ⟨W, t, sz, re9, hok, b7⟩
        · have h9 := hbad lf rt la
          rw [hR] at h9
          exact absurd (show (-1 : Int32) = nI w from h9).symm (nI_m1 (by omega))
        · obtain ⟨K2, pr2, a2, ou2, lf2, rt2, w2, h9, hOp, hRt2, hR0⟩ := hok lf rt la
          rw [hR] at h9
          cases h9
          have hcm : cmpK xou = cmpK (W.2.1 t).1 := by
            by_cases h0 : (W.2.1 t).1 = 0
            · rcases hR0 h0 with z | z
              · rw [z, h0]
              · rw [z, h0]; rfl
            · rw [(hRt2 h0).1]
          have hOp2 : cmpK xou = true → (W.2.1 t).1 = xou ∧ W.1 (W.2.1 t).2.1 = (xle, xlv) ∧ W.1 (W.2.1 t).2.2 = (xre, xrv) := fun z => by
            have h0 : ¬ (W.2.1 t).1 = 0 := fun y => by rw [hcm, y] at z; exact absurd z (by decide)
            obtain ⟨y1, _, _, y4, y5⟩ := hRt2 h0
            exact ⟨y1.symm, y4.1, y5.1⟩
          obtain ⟨o1, o2, o3⟩ := hOp2 hc1
          rw [o1, o2, o3] at b7
          rcases b7 with ⟨c1, _⟩ | ⟨_, ⟨_, c2, c3⟩ | ⟨c1, _⟩ | ⟨c1, _⟩⟩
          · exact absurd (c1.symm.trans hc1) (by decide)
          · cases c2
            exact ⟨false, _, rfl, rfl, ⟨f, 0, c, Vl, Vg, Vn, -1, _, hb, Nat.zero_le _, Nat.le_trans hx q1, hN, j_ci hC hx q3 q4 q5 h00 q1 F, ⟨⟨_, c3⟩, b3, b4, b5, P, Q, hT2⟩, hO⟩, fun z => absurd z (by decide)⟩
          · exact absurd c1 he1
          · exact absurd c1 he1
      · cases hy2.symm.trans z
    · cases hy
      subst hpl
      rcases hk with ⟨hk, _⟩ | ⟨_, z⟩
      · subst hk
        rcases b6 with ⟨w, re9, hw, hbad, _⟩ | ⟨W, t, sz, re9, hok, b7⟩
        · have h9 := hbad lf rt la
          rw [hR] at h9
          exact absurd (show (-1 : Int32) = nI w from h9).symm (nI_m1 (by omega))
        · obtain ⟨K2, pr2, a2, ou2, lf2, rt2, w2, h9, hOp, hRt2, hR0⟩ := hok lf rt la
          rw [hR] at h9
          cases h9
          have hcm : cmpK xou = cmpK (W.2.1 t).1 := by
            by_cases h0 : (W.2.1 t).1 = 0
            · rcases hR0 h0 with z | z
              · rw [z, h0]
              · rw [z, h0]; rfl
            · rw [(hRt2 h0).1]
          have hOp2 : cmpK xou = true → (W.2.1 t).1 = xou ∧ W.1 (W.2.1 t).2.1 = (xle, xlv) ∧ W.1 (W.2.1 t).2.2 = (xre, xrv) := fun z => by
            have h0 : ¬ (W.2.1 t).1 = 0 := fun y => by rw [hcm, y] at z; exact absurd z (by decide)
            obtain ⟨y1, _, _, y4, y5⟩ := hRt2 h0
            exact ⟨y1.symm, y4.1, y5.1⟩
          obtain ⟨o1, o2, o3⟩ := hOp2 hc1
          rw [o1, o2, o3] at b7
          rcases b7 with ⟨c1, _⟩ | ⟨_, ⟨c1, _⟩ | ⟨_, _, c2, c3⟩ | ⟨_, c1, _⟩⟩
          · exact absurd (c1.symm.trans hc1) (by decide)
          · exact absurd he1 c1
          · cases c2
            exact ⟨false, _, rfl, rfl, ⟨f, 0, c, Vl, Vg, Vn, -1, _, hb, Nat.zero_le _, Nat.le_trans hx q1, hN, j_ci hC hx q3 q4 q5 h00 q1 F, ⟨⟨_, c3⟩, b3, b4, b5, P, Q, hT2⟩, hO⟩, fun z => absurd z (by decide)⟩
          · exact absurd c1 he2
      · cases hy2.symm.trans z
    · cases hv
theorem let_q {f : Nat → Int32} {n : Nat} (hn : n ≤ 4096) {W : Gho} {t sz xou : Nat} {xle xl0 xl1 xre xr0 xr1 : Int32} {xlv xrv : Int64} (h2 : ¬ (W.2.1 t).1 = 0 → xou = (W.2.1 t).1 ∧ (W.2.1 t).2.1 < sz ∧ (W.2.1 t).2.2 < sz ∧ OpN f n W (W.2.1 t).2.1 (xle, xlv, xl0, xl1) ∧ OpN f n W (W.2.1 t).2.2 (xre, xrv, xr0, xr1)) (h0 : (W.2.1 t).1 = 0 → xou = 0 ∨ xou = 1) : (¬ (xou = 10 ∧ xl0 < xl1) ∧ letV W t = none) ∨ ((xou = 10 ∧ xl0 < xl1) ∧ W.1 (W.2.1 t).2.2 = (xre, xrv) ∧ ∃ q p e, letV W t = some q ∧ xl0 = nI p ∧ xl1 = nI e ∧ p < e ∧ e ≤ n ∧ q.1 + p = e ∧ ∀ i, i < q.1 → q.2 i = f (p + i)) := by
  by_cases h10 : (W.2.1 t).1 = 10
  · obtain ⟨y1, _, _, y4, y5⟩ := h2 (by omega)
    have y6 := y4.2
    rw [letV, if_pos h10]
    cases hq : W.2.2 (W.2.1 t).2.1 with
    | none =>
      rw [hq] at y6
      exact Or.inl ⟨fun z => y6 z.2, rfl⟩
    | some q =>
      rw [hq] at y6
      obtain ⟨p, e, k1, k2, k3, k4, k5, k6⟩ := y6
      replace k1 : xl0 = nI p := k1
      replace k2 : xl1 = nI e := k2
      refine Or.inr ⟨⟨y1.trans h10, ?_⟩, y5.1, q, p, e, rfl, k1, k2, k3, k4, k5, k6⟩
      rw [k1, k2]
      exact (nI_ltI (by omega) (by omega)).mpr k3
  · refine Or.inl ⟨fun z => ?_, ?_⟩
    · by_cases h00 : (W.2.1 t).1 = 0
      · have := h0 h00
        omega
      · have := (h2 h00).1
        omega
    · rw [letV, if_neg h10]
theorem j_let {f : Nat → Int32} {n : Nat} {c : Nat} {Vl : Nat → Nat} {Vg : Nat → Nat → Int32} {Vn : Nat → Int64} {pl er th : Int32} {g : Nat → Int64} {M M1 M2 : am_M} {nx nx1 nx2 : Nat} (hb : tbB f) (hn : n ≤ 4096) (hx : 1240 ≤ nx) (hN : nmNo c Vl Vg) (hC : CI f n c Vl Vg Vn pl er M nx) (hM : MI f n c Vl Vg Vn pl er th M) (hg : M 1239 = some (.inl (2, 1, .inr (.inl g)))) {lf rt la : Opd} {xK : List Frm} {xdu xdn : Bool} {xsy xou xna : Nat} {xpl xpr xle xl0 xl1 xre xr0 xr1 xe xa0 xb0 : Int32} {xlv xrv xv : Int64} (hR : c_fin f n (c_run f n (cl_lu c Vl Vg Vn f) 16384 (c_s0 lf rt la)) = (xK, xdu, xdn, xsy, xpl, xou, xpr, xna, (xle, xlv, xl0, xl1), (xre, xrv, xr0, xr1), (xe, xv, xa0, xb0))) {P : Nat → Int32} {Q : Nat → Nat} {k : Int32} {v2 : Option Value} (hT : tbl M1 c Vl Vg Vn P Q) (h1 : zwL f n c Vl Vg Vn xou xpl xle xl0 xl1 xre xe xlv xrv xv g M nx (.inl (some (.int k))) M1 nx1) (h2 : mL f n (cl_lu c Vl Vg Vn f) c Vl Vg Vn P Q M1 nx1 (.inl v2) M2 nx2) : ∃ b g1, v2 = some (.int b) ∧ nx2 = nx1 ∧ JI k g1 M2 nx2 ∧ (k = 0 → g1 0 = Int32.toInt64 b) := by
  obtain ⟨b1, b2, b3, b4, b5, b6⟩ := h2
  subst b1
  rcases h1 with ⟨x, Mc, E1, ⟨q1, q2, q3, q4, q5, q6⟩, E2⟩ | ⟨y, k1, E1, ⟨q1, q2, q3, q4, q5, q6⟩, hk⟩
  · cases E1
    have F : ∀ i, i < 1211 ∨ 1239 < i → M2 i = Mc i := fun i hi => (b2 i (by omega)).trans (by rw [E2]; exact am_up_ne (by omega))
    have hO : M2 1239 = some (.inl (2, 1, .inr (.inl (vp_updL g 0 (Int32.toInt64 x))))) := (b2 _ (by omega)).trans (by rw [E2]; exact am_up_eq _ _ _)
    rcases q6 with ⟨_, ⟨y, hy, _⟩, _⟩ | ⟨hpl, ⟨_, ⟨y, hy, _⟩, _⟩ | ⟨hY, ⟨_, ⟨y, hy, _⟩, _⟩ | ⟨he, h00, p, e, hp0, hp1, hpe, hen, hun, hq6⟩⟩⟩
    · cases hy
    · cases hy
    · cases hy
    · subst hpl
      rcases b6 with ⟨w, re9, hw, hbad, _⟩ | ⟨W, t, sz, re9, hok, b7⟩
      · have h9 := hbad lf rt la
        rw [hR] at h9
        exact absurd (show (-1 : Int32) = nI w from h9).symm (nI_m1 (by omega))
      · obtain ⟨K2, pr2, a2, ou2, lf2, rt2, w2, h9, hOp, hRt2, hR0⟩ := hok lf rt la
        rw [hR] at h9
        cases h9
        rcases let_q hn hRt2 hR0 with ⟨hno, hln⟩ | ⟨hyes, hW2, q, p', e', hlq, hl0, hl1, hpe', hen', hqe, hqf⟩
        · exact absurd hY hno
        · have hpp : p' = p := (nI_eq (by omega) (by omega)).mp (hl0.symm.trans hp0)
          have hee : e' = e := (nI_eq (by omega) (by omega)).mp (hl1.symm.trans hp1)
          subst hpp
          subst hee
          have hq1 : q.1 = e' - p' := by omega
          have hvq : vfF (vmt Vl Vg q.1 q.2) c 0 = vfF (vmt Vl Vg (e' - p') (fun j => f (p' + j))) c 0 := by rw [vmt_g hqf, hq1]
          rcases b7 with ⟨c1, _⟩ | ⟨q9, c1, b8⟩
          · exact absurd (hlq.symm.trans c1) (by simp)
          · obtain rfl : q = q9 := Option.some.inj (hlq.symm.trans c1)
            rw [hW2, hvq] at b8
            rcases b8 with ⟨c2, _⟩ | ⟨_, hin, b9⟩
            · exact absurd he c2
            · rcases hq6 with ⟨i, hvf, hv, hvz⟩ | ⟨_, _, ⟨y, hy, _⟩, _⟩ | ⟨hvf, hc, hv, hvz⟩
              · cases hv
                rcases b9 with ⟨i2, d1, d2, d3, d4⟩ | ⟨d1, _⟩ | ⟨d1, _⟩
                · obtain rfl : i = i2 := Option.some.inj (hvf.symm.trans d1)
                  cases d2
                  exact ⟨_, _, rfl, rfl, ⟨f, 0, c, Vl, Vg, _, -1, 0, hb, Nat.zero_le _, Nat.le_trans hx q1, hN, j_ciL (n9 := n) hC (q3 _ (by omega)) q4 q5 h00 hvz F, ⟨⟨_, d4⟩, b3, b4, b5, P, Q, d3⟩, hO⟩, fun _ => updL_at _ _ _⟩
                · exact absurd (hvf.symm.trans d1) (by simp)
                · exact absurd (hvf.symm.trans d1) (by simp)
              · cases hy
              · cases hv
                rcases b9 with ⟨i2, d1, _⟩ | ⟨_, d2, _⟩ | ⟨d1, d2, d3, ⟨P2, Q2, d4⟩, d5⟩
                · exact absurd (hvf.symm.trans d1) (by simp)
                · omega
                · cases d3
                  rw [hq1] at d4
                  have hcp : ∀ j, j < e' - p' → va_cpy f (fun _ => 0) p' 0 (e' - p') j = f (p' + j) := fun j hj => by
                    rw [va_cpy, if_pos (by omega)]
                    congr 1
                  have hN2 : nmNo (c + 1) (nwL Vl c (e' - p')) (nwG Vg c (va_cpy f (fun _ => 0) p' 0 (e' - p'))) := fun i hi hl hz => by
                    by_cases hic : i = c
                    · rw [hic, show nwL Vl c (e' - p') c = e' - p' from if_pos rfl] at hl
                      rw [hic, show nwG Vg c (va_cpy f (fun _ => 0) p' 0 (e' - p')) c = va_cpy f (fun _ => 0) p' 0 (e' - p') from if_pos rfl, hcp 0 (by omega)] at hz
                      refine hun ⟨by omega, ?_⟩
                      rw [tb, if_pos (by omega), show f p' = 95 from hz]
                      decide
                    · rw [show nwL Vl c (e' - p') i = Vl i from if_neg hic] at hl
                      rw [show nwG Vg c (va_cpy f (fun _ => 0) p' 0 (e' - p')) i = Vg i from if_neg hic] at hz
                      exact hN i (by omega) hl hz
                  have hT3 := tbl_g (Vg' := nwG Vg c (va_cpy f (fun _ => 0) p' 0 (e' - p'))) d4 (fun i hi j hj => by
                    by_cases hic : i = c
                    · rw [hic, show nwL Vl c (e' - p') c = e' - p' from if_pos rfl] at hj
                      rw [hic, show nwG Vg c q.2 c = q.2 from if_pos rfl, show nwG Vg c (va_cpy f (fun _ => 0) p' 0 (e' - p')) c = va_cpy f (fun _ => 0) p' 0 (e' - p') from if_pos rfl, hcp j hj, hqf j (by omega)]
                    · rw [show nwG Vg c q.2 i = Vg i from if_neg hic, show nwG Vg c (va_cpy f (fun _ => 0) p' 0 (e' - p')) i = Vg i from if_neg hic])
                  exact ⟨_, _, rfl, rfl, ⟨f, 0, c + 1, _, _, _, -1, 0, hb, Nat.zero_le _, Nat.le_trans hx q1, hN2, j_ciL (n9 := n) hC (q3 _ (by omega)) q4 q5 h00 hvz F, ⟨⟨_, d5⟩, b3, b4, b5, P2, Q2, hT3⟩, hO⟩, fun _ => updL_at _ _ _⟩
  · cases E1
    have F : ∀ i, i < 1211 ∨ 1239 < i → M2 i = M1 i := fun i hi => b2 i (by omega)
    have hO : M2 1239 = some (.inl (2, 1, .inr (.inl g))) := (b2 _ (by omega)).trans ((q3 _ (by omega)).trans hg)
    rcases q6 with ⟨hp, ⟨y2, hy, hy2⟩, h00, hvz⟩ | ⟨hpl, ⟨hY, ⟨y2, hy, hy2⟩, h00, hvz⟩ | ⟨hY, ⟨he, ⟨y2, hy, hy2⟩, h00, hvz⟩ | ⟨he, h00, p, e, hp0, hp1, hpe, hen, hun, hq6⟩⟩⟩
    · cases hy
      rcases hk with ⟨_, z⟩ | ⟨hk, _⟩ | ⟨_, z⟩
      · cases hy2.symm.trans z
      · subst hk
        rcases b6 with ⟨w, re9, hw, hbad, c2, hT2, c3⟩ | ⟨W, t, sz, re9, hok, _⟩
        · have h9 := hbad lf rt la
          rw [hR] at h9
          replace h9 : xpl = nI w := h9
          subst h9
          cases c2
          exact ⟨_, _, rfl, rfl, ⟨f, 0, c, Vl, Vg, Vn, _, 0, hb, Nat.zero_le _, Nat.le_trans hx q1, hN, j_ciL (n9 := n) hC (q3 _ (by omega)) q4 q5 h00 hvz F, ⟨⟨_, c3⟩, b3, b4, b5, P, Q, hT2⟩, hO⟩, fun z => absurd z (by decide)⟩
        · obtain ⟨K2, pr2, a2, ou2, lf2, rt2, w2, h9, hOp, hRt2, hR0⟩ := hok lf rt la
          rw [hR] at h9
          cases h9
          exact absurd rfl hp
      · cases hy2.symm.trans z
    · cases hy
      subst hpl
      rcases hk with ⟨_, z⟩ | ⟨hk, _⟩ | ⟨_, z⟩
      · cases hy2.symm.trans z
      · subst hk
        rcases b6 with ⟨w, re9, hw, hbad, _⟩ | ⟨W, t, sz, re9, hok, b7⟩
        · have h9 := hbad lf rt la
          rw [hR] at h9
          exact absurd (show (-1 : Int32) = nI w from h9).symm (nI_m1 (by omega))
        · obtain ⟨K2, pr2, a2, ou2, lf2, rt2, w2, h9, hOp, hRt2, hR0⟩ := hok lf rt la
          rw [hR] at h9
          cases h9
          rcases let_q hn hRt2 hR0 with ⟨hno, hln⟩ | ⟨hyes, hW2, q, p', e', hlq, hl0, hl1, hpe', hen', hqe, hqf⟩
          · rcases b7 with ⟨_, c2, hT2, c3⟩ | ⟨q9, c1, _⟩
            · cases c2
              exact ⟨_, _, rfl, rfl, ⟨f, 0, c, Vl, Vg, Vn, 0, 0, hb, Nat.zero_le _, Nat.le_trans hx q1, hN, j_ciL (n9 := n) hC (q3 _ (by omega)) q4 q5 h00 hvz F, ⟨⟨_, c3⟩, b3, b4, b5, P, Q, hT2⟩, hO⟩, fun z => absurd z (by decide)⟩
            · exact absurd (hln.symm.trans c1) (by simp)
          · exact absurd hyes hY
      · cases hy2.symm.trans z
    · cases hy
      subst hpl
      rcases hk with ⟨hk, _⟩ | ⟨_, z⟩ | ⟨_, z⟩
      · subst hk
        rcases b6 with ⟨w, re9, hw, hbad, _⟩ | ⟨W, t, sz, re9, hok, b7⟩
        · have h9 := hbad lf rt la
          rw [hR] at h9
          exact absurd (show (-1 : Int32) = nI w from h9).symm (nI_m1 (by omega))
        · obtain ⟨K2, pr2, a2, ou2, lf2, rt2, w2, h9, hOp, hRt2, hR0⟩ := hok lf rt la
          rw [hR] at h9
          cases h9
          rcases let_q hn hRt2 hR0 with ⟨hno, hln⟩ | ⟨hyes, hW2, q, p', e', hlq, hl0, hl1, hpe', hen', hqe, hqf⟩
          · exact absurd hY hno
          · rcases b7 with ⟨c1, _⟩ | ⟨q9, c1, b8⟩
            · exact absurd (hlq.symm.trans c1) (by simp)
            · rw [hW2] at b8
              rcases b8 with ⟨_, c2, hT2, c3⟩ | ⟨c2, _⟩
              · cases c2
                exact ⟨_, _, rfl, rfl, ⟨f, 0, c, Vl, Vg, Vn, -1, _, hb, Nat.zero_le _, Nat.le_trans hx q1, hN, j_ciL (n9 := n) hC (q3 _ (by omega)) q4 q5 h00 hvz F, ⟨⟨_, c3⟩, b3, b4, b5, P, Q, hT2⟩, hO⟩, fun z => absurd z (by decide)⟩
              · exact absurd c2 he
      · cases hy2.symm.trans z
      · cases hy2.symm.trans z
    · subst hpl
      rcases hq6 with ⟨i, _, hv, _⟩ | ⟨hvf, hc, ⟨y2, hy, hy2⟩, hvz⟩ | ⟨_, _, hv, _⟩
      · cases hv
      · cases hy
        rcases hk with ⟨_, z⟩ | ⟨_, z⟩ | ⟨hk, _⟩
        · cases hy2.symm.trans z
        · cases hy2.symm.trans z
        · subst hk
          rcases b6 with ⟨w, re9, hw, hbad, _⟩ | ⟨W, t, sz, re9, hok, b7⟩
          · have h9 := hbad lf rt la
            rw [hR] at h9
            exact absurd (show (-1 : Int32) = nI w from h9).symm (nI_m1 (by omega))
          · obtain ⟨K2, pr2, a2, ou2, lf2, rt2, w2, h9, hOp, hRt2, hR0⟩ := hok lf rt la
            rw [hR] at h9
            cases h9
            rcases let_q hn hRt2 hR0 with ⟨hno, hln⟩ | ⟨hyes, hW2, q, p', e', hlq, hl0, hl1, hpe', hen', hqe, hqf⟩
            · exact absurd hY hno
            · have hpp : p' = p := (nI_eq (by omega) (by omega)).mp (hl0.symm.trans hp0)
              have hee : e' = e := (nI_eq (by omega) (by omega)).mp (hl1.symm.trans hp1)
              subst hpp
              subst hee
              have hq1 : q.1 = e' - p' := by omega
              have hvq : vfF (vmt Vl Vg q.1 q.2) c 0 = vfF (vmt Vl Vg (e' - p') (fun j => f (p' + j))) c 0 := by rw [vmt_g hqf, hq1]
              rcases b7 with ⟨c1, _⟩ | ⟨q9, c1, b8⟩
              · exact absurd (hlq.symm.trans c1) (by simp)
              · obtain rfl : q = q9 := Option.some.inj (hlq.symm.trans c1)
                rw [hW2, hvq] at b8
                rcases b8 with ⟨c2, _⟩ | ⟨_, _, b9⟩
                · exact absurd he c2
                · rcases b9 with ⟨i2, d1, _⟩ | ⟨_, _, d2, hT2, c3⟩ | ⟨_, d2, _⟩
                  · exact absurd (hvf.symm.trans d1) (by simp)
                  · cases d2
                    exact ⟨_, _, rfl, rfl, ⟨f, 0, c, Vl, Vg, Vn, -1, 0, hb, Nat.zero_le _, Nat.le_trans hx q1, hN, j_ciL (n9 := n) hC (q3 _ (by omega)) q4 q5 h00 hvz F, ⟨⟨_, c3⟩, b3, b4, b5, P, Q, hT2⟩, hO⟩, fun z => absurd z (by decide)⟩
                  · omega
      · cases hv
theorem j_count {f : Nat → Int32} {n : Nat} {c : Nat} {Vl : Nat → Nat} {Vg : Nat → Nat → Int32} {Vn : Nat → Int64} {pl er th : Int32} {g : Nat → Int64} {M M1 M2 : am_M} {nx nx1 nx2 : Nat} (hb : tbB f) (hn : n ≤ 4096) (hx : 1240 ≤ nx) (hN : nmNo c Vl Vg) (hC : CI f n c Vl Vg Vn pl er M nx) (hM : MI f n c Vl Vg Vn pl er th M) (hg : M 1239 = some (.inl (2, 1, .inr (.inl g)))) {w : Int32} {k : Int32} {v2 : Option Value} {re : Int64} (h1 : zwN pl er (nI n) w g M nx (.inl (some (.int k))) M1 nx1) (h2 : qNM n pl er (nI c) re w M1 nx1 (.inl v2) M2 nx2) : ∃ b g1, v2 = some (.int b) ∧ nx2 = nx1 ∧ JI k g1 M2 nx2 ∧ (k = 0 → g1 0 = Int32.toInt64 b) := by
  obtain ⟨b0, b1, b6⟩ := h2
  subst b1
  rcases h1 with ⟨x, Mc, E1, hq, E2⟩ | ⟨y, k1, E1, hq, hk, hk9⟩
  · cases E1
    rcases hq with (⟨hkx, hxv, hMc, hxn⟩ | ⟨hkx, hxv, hMc, hxn⟩ | ⟨hkx, hxv, hMc, hxn⟩) | ⟨_, hxv, _⟩
    · rw [hMc] at E2
      subst hxn
      cases hxv
      have F : ∀ i, ¬ (i = 1211 ∨ i = 1239) → M2 i = M i := fun i hi => by rw [b0, E2, am_up_ne (by omega), am_up_ne (by omega)]
      have hO : M2 1239 = some (.inl (2, 1, .inr (.inl (vp_updL g 0 (Int32.toInt64 (nI n)))))) := by rw [b0, E2, am_up_ne (by decide)]; exact am_up_eq _ _ _
      rcases b6 with ⟨hk2, hv⟩ | ⟨hk2, hv⟩ | ⟨hk2, hv⟩ | ⟨z0, z1, z2, hv⟩
      · cases hv
        subst hk2
        have h11 := (congrFun b0 1211).trans (am_up_eq _ _ _)
        rw [show (if (0 : Int32) = 0 then (0 : Int32) else if (0 : Int32) = 1 then 0 else if (0 : Int32) = 2 then 0 else 1) = 0 from by decide] at h11
        exact ⟨_, _, rfl, rfl, ⟨f, n, c, Vl, Vg, Vn, pl, er, hb, hn, hx, hN, CI_fr hC (Nat.le_refl _) (fun i h1 h2 => F i (by omega)) (fun i h1 h2 => F i (by omega)), MI_set hM h11 ((F _ (by omega)).trans hM.2.1.1.1) (fun i h1 h2 => F i (by omega)), hO⟩, fun _ => updL_at _ _ _⟩
      · exact absurd (hkx.symm.trans hk2) (by decide)
      · exact absurd (hkx.symm.trans hk2) (by decide)
      · exact absurd hkx z0
    · rw [hMc] at E2
      subst hxn
      cases hxv
      have F : ∀ i, ¬ (i = 1211 ∨ i = 1239) → M2 i = M i := fun i hi => by rw [b0, E2, am_up_ne (by omega), am_up_ne (by omega)]
      have hO : M2 1239 = some (.inl (2, 1, .inr (.inl (vp_updL g 0 (Int32.toInt64 pl))))) := by rw [b0, E2, am_up_ne (by decide)]; exact am_up_eq _ _ _
      rcases b6 with ⟨hk2, hv⟩ | ⟨hk2, hv⟩ | ⟨hk2, hv⟩ | ⟨z0, z1, z2, hv⟩
      · exact absurd (hkx.symm.trans hk2) (by decide)
      · cases hv
        subst hk2
        have h11 := (congrFun b0 1211).trans (am_up_eq _ _ _)
        rw [show (if (1 : Int32) = 0 then (0 : Int32) else if (1 : Int32) = 1 then 0 else if (1 : Int32) = 2 then 0 else 1) = 0 from by decide] at h11
        exact ⟨_, _, rfl, rfl, ⟨f, n, c, Vl, Vg, Vn, pl, er, hb, hn, hx, hN, CI_fr hC (Nat.le_refl _) (fun i h1 h2 => F i (by omega)) (fun i h1 h2 => F i (by omega)), MI_set hM h11 ((F _ (by omega)).trans hM.2.1.1.1) (fun i h1 h2 => F i (by omega)), hO⟩, fun _ => updL_at _ _ _⟩
      · exact absurd (hkx.symm.trans hk2) (by decide)
      · exact absurd hkx z1
    · rw [hMc] at E2
      subst hxn
      cases hxv
      have F : ∀ i, ¬ (i = 1211 ∨ i = 1239) → M2 i = M i := fun i hi => by rw [b0, E2, am_up_ne (by omega), am_up_ne (by omega)]
      have hO : M2 1239 = some (.inl (2, 1, .inr (.inl (vp_updL g 0 (Int32.toInt64 er))))) := by rw [b0, E2, am_up_ne (by decide)]; exact am_up_eq _ _ _
      rcases b6 with ⟨hk2, hv⟩ | ⟨hk2, hv⟩ | ⟨hk2, hv⟩ | ⟨z0, z1, z2, hv⟩
      · exact absurd (hkx.symm.trans hk2) (by decide)
      · exact absurd (hkx.symm.trans hk2) (by decide)
      · cases hv
        subst hk2
        have h11 := (congrFun b0 1211).trans (am_up_eq _ _ _)
        rw [show (if (2 : Int32) = 0 then (0 : Int32) else if (2 : Int32) = 1 then 0 else if (2 : Int32) = 2 then 0 else 1) = 0 from by decide] at h11
        exact ⟨_, _, rfl, rfl, ⟨f, n, c, Vl, Vg, Vn, pl, er, hb, hn, hx, hN, CI_fr hC (Nat.le_refl _) (fun i h1 h2 => F i (by omega)) (fun i h1 h2 => F i (by omega)), MI_set hM h11 ((F _ (by omega)).trans hM.2.1.1.1) (fun i h1 h2 => F i (by omega)), hO⟩, fun _ => updL_at _ _ _⟩
      · exact absurd hkx z2
    · cases hxv
  · cases E1
    subst hk
    rcases hq with (⟨_, hxv, _⟩ | ⟨_, hxv, _⟩ | ⟨_, hxv, _⟩) | ⟨⟨z0, z1, z2⟩, hxv, hM1, hxn⟩
    · cases hxv
    · cases hxv
    · cases hxv
    · cases hxv
      subst hxn
      have F : ∀ i, ¬ (i = 1211 ∨ i = nx) → M2 i = M i := fun i hi => by rw [b0, hM1, am_up_ne (by omega), am_up_ne (by omega)]
      have h11 := (congrFun b0 1211).trans (am_up_eq _ _ _)
      rw [if_neg z0, if_neg z1, if_neg z2] at h11
      rcases b6 with ⟨hk2, _⟩ | ⟨hk2, _⟩ | ⟨hk2, _⟩ | ⟨_, _, _, hv⟩
      · exact absurd hk2 z0
      · exact absurd hk2 z1
      · exact absurd hk2 z2
      · cases hv
        exact ⟨_, _, rfl, rfl, ⟨f, n, c, Vl, Vg, Vn, pl, er, hb, hn, by omega, hN, CI_fr hC (by omega) (fun i h1 h2 => F i (by omega)) (fun i h1 h2 => F i (by omega)), MI_set hM h11 ((F _ (by omega)).trans hM.2.1.1.1) (fun i h1 h2 => F i (by omega)), (F _ (by omega)).trans hg⟩, fun z => absurd z (by decide)⟩
def qKC (c : Nat) (Vl : Nat → Nat) (Vg : Nat → Nat → Int32) (Vn : Nat → Int64) (M : am_M) (nx : Nat) : am_Qt := fun r M1 nx1 => r = .inl (some (.int (nI c))) ∧ nx1 = nx ∧ (∀ i, 1000 ≤ i → i < 1240 → ¬ i = 1004 → M1 i = M i) ∧ vz M1 0 Vl Vg Vn nx
def qKM (n : Nat) (pl er va : Int32) (re : Int64) (M : am_M) (nx : Nat) : am_Qt := fun r M1 nx1 => r = .inl (some (.int va)) ∧ M1 = am_up M 1211 (.inr (9, [.int 0, .int (nI n), .int pl, .int er, .int 0, .ref 1212, .ref 1213, .ref 1220, .ref 1225, .ref 1233, .ref 1234, .ref 1235, .ref 1236, .ref 1237, .ref 1238, .long re])) ∧ nx1 = nx
theorem j_clear {f : Nat → Int32} {n : Nat} {c : Nat} {Vl : Nat → Nat} {Vg : Nat → Nat → Int32} {Vn : Nat → Int64} {pl er th : Int32} {g : Nat → Int64} {M M1 M2 : am_M} {nx nx1 nx2 : Nat} (hb : tbB f) (hn : n ≤ 4096) (hx : 1240 ≤ nx) (hN : nmNo c Vl Vg) (hC : CI f n c Vl Vg Vn pl er M nx) (hM : MI f n c Vl Vg Vn pl er th M) (hg : M 1239 = some (.inl (2, 1, .inr (.inl g)))) {xv v2 : Option Value} {re : Int64} (h1 : qKC c Vl Vg Vn M nx (.inl xv) M1 nx1) (h2 : qKM n pl er (nI c) re M1 nx1 (.inl v2) M2 nx2) : xv = some (.int (nI c)) ∧ v2 = some (.int (nI c)) ∧ nx2 = nx ∧ ∃ g1, JI 0 g1 M2 nx2 := by
  obtain ⟨xna, a2, a3, a4⟩ := h1
  obtain ⟨b1, b2, b3⟩ := h2
  cases xna
  cases b1
  subst a2
  subst b3
  have F : ∀ i, 1000 ≤ i → i < 1240 → ¬ (i = 1211 ∨ i = 1004) → M2 i = M i := fun i h1 h2 hi => by
    rw [b2, am_up_ne (by omega)]
    exact a3 i h1 h2 (by omega)
  obtain ⟨P, Q, d⟩ := hM.2.2.2.2
  obtain ⟨_, hx2, hrc, hwk, _⟩ := hM
  obtain ⟨k0, k1, k2, k3, _⟩ := hC
  refine ⟨rfl, rfl, rfl, g, f, n, 0, Vl, Vg, Vn, pl, er, hb, hn, hx, fun i hi => absurd hi (by omega), ⟨(F _ (by omega) (by omega) (by omega)).trans k0, (F _ (by omega) (by omega) (by omega)).trans k1, (F _ (by omega) (by omega) (by omega)).trans k2, cs0_fr k3 (fun i h1 h2 => F i (by omega) (by omega) (by omega)), vz_fr a4 (Nat.le_refl _) (by rw [b2]; exact am_up_ne (by omega)) (by rw [b2]; exact am_up_ne (by omega)) (fun i h1 h2 => by rw [b2]; exact am_up_ne (by omega))⟩, ⟨⟨re, by rw [b2]; exact am_up_eq _ _ _⟩, rx_frA hx2 ((F _ (by omega) (by omega) (by omega)).trans hx2.1.1) (fun i h1 h2 => F i (by omega) (by omega) (by omega)), rcell_fr hrc (F _ (by omega) (by omega) (by omega)), wks_fr hwk (fun i h1 h2 => F i (by omega) (by omega) (by omega)), P, Q, ?_⟩, (F _ (by omega) (by omega) (by omega)).trans hg⟩
  have d2 := tbl_fr (M1 := M2) d (fun i h1 h2 => F i (by omega) (by omega) (by omega))
  obtain ⟨t1, t2, ⟨Qa, t3, t4⟩, ⟨Vr, t5, t6⟩, t7, t8, t9⟩ := d2
  exact ⟨t1, t2, ⟨Qa, t3, fun i hi => t4 i (by omega)⟩, ⟨Vr, t5, fun i hi => absurd hi (by omega)⟩, t7, fun i hi => absurd hi (by omega), by omega⟩
theorem zwV_fr {f : Nat → Int32} {n : Nat} {c : Nat} {Vl : Nat → Nat} {Vg : Nat → Nat → Int32} {Vn : Nat → Int64} {xou : Nat} {xpl xle xl0 xl1 xre xe : Int32} {xlv xrv xv : Int64} {g : Nat → Int64} {M : am_M} {nx : Nat} {M1 : am_M} {nx1 : Nat} {v : Option Value} (hx : 1240 ≤ nx) (h : zwV f n c Vl Vg Vn xou xpl xle xl0 xl1 xre xe xlv xrv xv g M nx (.inl v) M1 nx1) : (∃ k, v = some (.int k)) ∧ nx ≤ nx1 ∧ ∀ i, 1211 ≤ i → i ≤ 1238 → M1 i = M i := by
  rcases h with ⟨x, Mc, E1, ⟨q1, q2, q3, _⟩, E2⟩ | ⟨y, k1, E1, ⟨q1, q2, q3, _⟩, _⟩
  · exact ⟨⟨_, Sum.inl.inj E1⟩, q1, fun i h1 h2 => by rw [E2, am_up_ne (by omega)]; exact q3 i (by omega)⟩
  · exact ⟨⟨_, Sum.inl.inj E1⟩, q1, fun i h1 h2 => q3 i (by omega)⟩
theorem zwL_fr {f : Nat → Int32} {n : Nat} {c : Nat} {Vl : Nat → Nat} {Vg : Nat → Nat → Int32} {Vn : Nat → Int64} {xou : Nat} {xpl xle xl0 xl1 xre xe : Int32} {xlv xrv xv : Int64} {g : Nat → Int64} {M : am_M} {nx : Nat} {M1 : am_M} {nx1 : Nat} {v : Option Value} (hx : 1240 ≤ nx) (h : zwL f n c Vl Vg Vn xou xpl xle xl0 xl1 xre xe xlv xrv xv g M nx (.inl v) M1 nx1) : (∃ k, v = some (.int k)) ∧ nx ≤ nx1 ∧ ∀ i, 1211 ≤ i → i ≤ 1238 → M1 i = M i := by
  rcases h with ⟨x, Mc, E1, ⟨q1, q2, q3, _⟩, E2⟩ | ⟨y, k1, E1, ⟨q1, q2, q3, _⟩, _⟩
  · exact ⟨⟨_, Sum.inl.inj E1⟩, q1, fun i h1 h2 => by rw [E2, am_up_ne (by omega)]; exact q3 i (by omega)⟩
  · exact ⟨⟨_, Sum.inl.inj E1⟩, q1, fun i h1 h2 => q3 i (by omega)⟩
theorem zwH_fr {f : Nat → Int32} {n : Nat} {c : Nat} {Vl : Nat → Nat} {Vg : Nat → Nat → Int32} {Vn : Nat → Int64} {xou : Nat} {xpl xle xl0 xl1 xre xe : Int32} {xlv xrv xv : Int64} {g : Nat → Int64} {M : am_M} {nx : Nat} {M1 : am_M} {nx1 : Nat} {v : Option Value} (hx : 1240 ≤ nx) (h : zwH f n c Vl Vg Vn xou xpl xle xl0 xl1 xre xe xlv xrv xv g M nx (.inl v) M1 nx1) : (∃ k, v = some (.int k)) ∧ nx ≤ nx1 ∧ ∀ i, 1211 ≤ i → i ≤ 1238 → M1 i = M i := by
  rcases h with ⟨x, Mc, E1, ⟨q1, q2, q3, _⟩, E2⟩ | ⟨y, k1, E1, ⟨q1, q2, q3, _⟩, _⟩
  · exact ⟨⟨_, Sum.inl.inj E1⟩, q1, fun i h1 h2 => by rw [E2, am_up_ne (by omega)]; exact q3 i (by omega)⟩
  · exact ⟨⟨_, Sum.inl.inj E1⟩, q1, fun i h1 h2 => q3 i (by omega)⟩
theorem zwN_fr {pl er nn k : Int32} {g : Nat → Int64} {M M1 : am_M} {nx nx1 : Nat} {v : Option Value} (hx : 1240 ≤ nx) (h : zwN pl er nn k g M nx (.inl v) M1 nx1) : (∃ k, v = some (.int k)) ∧ nx ≤ nx1 ∧ ∀ i, 1211 ≤ i → i ≤ 1238 → M1 i = M i := by
  rcases h with ⟨x, Mc, E1, hq, E2⟩ | ⟨y, k1, E1, hq, _⟩
  · rcases hq with (⟨_, _, hM, hn⟩ | ⟨_, _, hM, hn⟩ | ⟨_, _, hM, hn⟩) | ⟨_, h, _⟩
    · exact ⟨⟨_, Sum.inl.inj E1⟩, by omega, fun i h1 h2 => by rw [E2, hM, am_up_ne (by omega)]⟩
    · exact ⟨⟨_, Sum.inl.inj E1⟩, by omega, fun i h1 h2 => by rw [E2, hM, am_up_ne (by omega)]⟩
    · exact ⟨⟨_, Sum.inl.inj E1⟩, by omega, fun i h1 h2 => by rw [E2, hM, am_up_ne (by omega)]⟩
    · cases h
  · rcases hq with (⟨_, h, _⟩ | ⟨_, h, _⟩ | ⟨_, h, _⟩) | ⟨_, h, hM, hn⟩
    · cases h
    · cases h
    · cases h
    · exact ⟨⟨_, Sum.inl.inj E1⟩, by omega, fun i h1 h2 => by rw [hM, am_up_ne (by omega)]⟩
theorem qFC_fr {f : Nat → Int32} {g : Nat → Int64} {n : Nat} {p0 p1 p2 p3 p4 : Int32} {M M1 : am_M} {nx nx1 : Nat} {v : Option Value} (hx : 1240 ≤ nx) (h : qFC f g n p0 p1 p2 p3 p4 M nx (.inl v) M1 nx1) : (∃ k, v = some (.int k)) ∧ nx ≤ nx1 ∧ ∀ i, 1211 ≤ i → i ≤ 1238 → M1 i = M i := by
  rcases h with ⟨_, h, hM, hn⟩ | ⟨_, h, hM, hn⟩
  · exact ⟨⟨_, Sum.inl.inj h⟩, by omega, fun i h1 h2 => by rw [hM, am_up_ne (by omega), am_up_ne (by omega), am_up_ne (by omega)]⟩
  · exact ⟨⟨_, Sum.inl.inj h⟩, by omega, fun i h1 h2 => by rw [hM, am_up_ne (by omega)]⟩
theorem qEC_fr {g : Nat → Int64} {n : Nat} {k : Int32} {M M1 : am_M} {nx nx1 : Nat} {v : Option Value} (hx : 1240 ≤ nx) (h : qEC g n k M nx (.inl v) M1 nx1) : (∃ k, v = some (.int k)) ∧ nx ≤ nx1 ∧ ∀ i, 1211 ≤ i → i ≤ 1238 → M1 i = M i := by
  rcases h with ⟨_, _, h, hM, hn⟩ | ⟨_, h, hM, hn⟩
  · exact ⟨⟨_, Sum.inl.inj h⟩, by omega, fun i h1 h2 => by rw [hM, am_up_ne (by omega), am_up_ne (by omega)]⟩
  · exact ⟨⟨_, Sum.inl.inj h⟩, by omega, fun i h1 h2 => by rw [hM, am_up_ne (by omega)]⟩
