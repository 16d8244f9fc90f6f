/-! THE CLASS AND THE REFERENCE TOGETHER (mine) -/
def CI (f : Nat → Int32) (n : Nat) (c : Nat) (Vl : Nat → Nat) (Vg : Nat → Nat → Int32) (Vn : Nat → Int64) (pl er : Int32) (M : am_M) (nx : Nat) : Prop := M 1000 = some (.inr (0, [.ref 1001, .ref 1003, .ref 1005, .int pl, .int er])) ∧ M 1001 = some (.inr (1, [.ref 1002, .int (nI n)])) ∧ M 1002 = some (.inl (0, 4096, .inl f)) ∧ cs0 M ∧ vz M c Vl Vg Vn nx
def MI (f : Nat → Int32) (n : Nat) (c : Nat) (Vl : Nat → Nat) (Vg : Nat → Nat → Int32) (Vn : Nat → Int64) (pl er th : Int32) (M : am_M) : Prop := (∃ re, M 1211 = some (.inr (9, [.int th, .int (nI n), .int pl, .int er, .int (nI c), .ref 1212, .ref 1213, .ref 1220, .ref 1225, .ref 1233, .ref 1234, .ref 1235, .ref 1236, .ref 1237, .ref 1238, .long re]))) ∧ rx f M ∧ rcell M ∧ wks M ∧ ∃ P Q, tbl M c Vl Vg Vn P Q
def JI (th : Int32) (g : Nat → Int64) (M : am_M) (nx : Nat) : Prop := ∃ (f : Nat → Int32) (n : Nat) (c : Nat) (Vl : Nat → Nat) (Vg : Nat → Nat → Int32) (Vn : Nat → Int64) (pl er : Int32), tbB f ∧ n ≤ 4096 ∧ 1240 ≤ nx ∧ nmNo c Vl Vg ∧ CI f n c Vl Vg Vn pl er M nx ∧ MI f n c Vl Vg Vn pl er th M ∧ M 1239 = some (.inl (2, 1, .inr (.inl g)))
theorem rx_frA {f f' : Nat → Int32} {M M1 : am_M} (h : rx f M) (h2 : M1 1212 = some (.inl (0, 4096, .inl f'))) (hf : ∀ i, 1213 ≤ i → i ≤ 1232 → M1 i = M i) : rx f' M1 := by
  obtain ⟨⟨_, ⟨sd, ra, b1, b2, b3, b4⟩, b5⟩, ⟨A, sz, pt, b⟩, ⟨s9, t9, c⟩, ⟨T, d, d2⟩, ⟨A9, e⟩, ⟨X, e2⟩, ⟨Y, e3⟩, ⟨g, g1, g2⟩, ⟨S, g3⟩, ⟨V, g4⟩, ⟨kc, g5⟩⟩ := h
  exact ⟨⟨h2, ⟨sd, ra, (hf _ (by omega) (by omega)).trans b1, b2, (hf _ (by omega) (by omega)).trans b3, b4⟩, (hf _ (by omega) (by omega)).trans b5⟩, ⟨A, sz, pt, ARs_fr b (fun i h1 h2 => hf i (by omega) (by omega))⟩, ⟨s9, t9, (hf _ (by omega) (by omega)).trans c⟩, ⟨T, (hf _ (by omega) (by omega)).trans d, d2⟩, ⟨A9, (hf _ (by omega) (by omega)).trans e⟩, ⟨X, (hf _ (by omega) (by omega)).trans e2⟩, ⟨Y, (hf _ (by omega) (by omega)).trans e3⟩, ⟨g, (hf _ (by omega) (by omega)).trans g1, g2⟩, ⟨S, (hf _ (by omega) (by omega)).trans g3⟩, ⟨V, (hf _ (by omega) (by omega)).trans g4⟩, ⟨kc, (hf _ (by omega) (by omega)).trans g5⟩⟩
theorem wks_fr {M M1 : am_M} (h : wks M) (hf : ∀ i, 1236 ≤ i → i ≤ 1238 → M1 i = M i) : wks M1 := by
  obtain ⟨⟨a, h1⟩, ⟨b, h2⟩, ⟨c, h3⟩⟩ := h
  exact ⟨⟨a, (hf _ (by omega) (by omega)).trans h1⟩, ⟨b, (hf _ (by omega) (by omega)).trans h2⟩, ⟨c, (hf _ (by omega) (by omega)).trans h3⟩⟩
/-- the reference, its own cell told anew -/
theorem MI_set {f f' : Nat → Int32} {n n' : Nat} {c : Nat} {Vl : Nat → Nat} {Vg : Nat → Nat → Int32} {Vn : Nat → Int64} {pl er th pl' er' th' : Int32} {re : Int64} {M M1 : am_M} (h : MI f n c Vl Vg Vn pl er th M) (h0 : M1 1211 = some (.inr (9, [.int th', .int (nI n'), .int pl', .int er', .int (nI c), .ref 1212, .ref 1213, .ref 1220, .ref 1225, .ref 1233, .ref 1234, .ref 1235, .ref 1236, .ref 1237, .ref 1238, .long re]))) (h2 : M1 1212 = some (.inl (0, 4096, .inl f'))) (hf : ∀ i, 1213 ≤ i → i ≤ 1238 → M1 i = M i) : MI f' n' c Vl Vg Vn pl' er' th' M1 := by
  obtain ⟨_, a, b, c1, P, Q, d⟩ := h
  exact ⟨⟨re, h0⟩, rx_frA a h2 (fun i h1 h2 => hf i (by omega) (by omega)), rcell_fr b (hf _ (by omega) (by omega)), wks_fr c1 (fun i h1 h2 => hf i (by omega) (by omega)), P, Q, tbl_fr d (fun i h1 h2 => hf i (by omega) (by omega))⟩
theorem MI_fr {f : Nat → Int32} {n : Nat} {c : Nat} {Vl : Nat → Nat} {Vg : Nat → Nat → Int32} {Vn : Nat → Int64} {pl er th : Int32} {M M1 : am_M} (h : MI f n c Vl Vg Vn pl er th M) (hf : ∀ i, 1211 ≤ i → i ≤ 1238 → M1 i = M i) : MI f n c Vl Vg Vn pl er th M1 := by
  obtain ⟨⟨re, h0⟩, hx⟩ := id h
  exact MI_set h ((hf _ (by omega) (by omega)).trans h0) ((hf _ (by omega) (by omega)).trans hx.1.1.1) (fun i h1 h2 => hf i (by omega) (by omega))
theorem CI_set {f f' : Nat → Int32} {n n' : Nat} {c : Nat} {Vl : Nat → Nat} {Vg : Nat → Nat → Int32} {Vn : Nat → Int64} {pl er pl' er' : Int32} {M M1 : am_M} {nx nx1 : Nat} (h : CI f n c Vl Vg Vn pl er M nx) (h0 : M1 1000 = some (.inr (0, [.ref 1001, .ref 1003, .ref 1005, .int pl', .int er']))) (h1 : M1 1001 = some (.inr (1, [.ref 1002, .int (nI n')]))) (h2 : M1 1002 = some (.inl (0, 4096, .inl f'))) (hx : nx ≤ nx1) (hf : ∀ i, 1003 ≤ i → i ≤ 1210 → M1 i = M i) (hg : ∀ i, 1240 ≤ i → i < nx → M1 i = M i) : CI f' n' c Vl Vg Vn pl' er' M1 nx1 := by
  obtain ⟨_, _, _, a, b⟩ := h
  exact ⟨h0, h1, h2, cs0_fr a (fun i h1 h2 => hf i (by omega) (by omega)), vz_fr b hx (hf _ (by omega) (by omega)) (hf _ (by omega) (by omega)) hg⟩
theorem CI_fr {f : Nat → Int32} {n : Nat} {c : Nat} {Vl : Nat → Nat} {Vg : Nat → Nat → Int32} {Vn : Nat → Int64} {pl er : Int32} {M M1 : am_M} {nx nx1 : Nat} (h : CI f n c Vl Vg Vn pl er M nx) (hx : nx ≤ nx1) (hf : ∀ i, 1000 ≤ i → i ≤ 1210 → M1 i = M i) (hg : ∀ i, 1240 ≤ i → i < nx → M1 i = M i) : CI f n c Vl Vg Vn pl er M1 nx1 := by
  obtain ⟨a0, a1, a2, _⟩ := id h
  exact CI_set h ((hf _ (by omega) (by omega)).trans a0) ((hf _ (by omega) (by omega)).trans a1) ((hf _ (by omega) (by omega)).trans a2) hx (fun i h1 h2 => hf i (by omega) (by omega)) hg
theorem bs_B (w k : Int32) : -128 ≤ (bs w k).toInt ∧ (bs w k).toInt ≤ 127 := by
  rw [bs, pk_vb, Int8.toInt_toInt32]
  have h1 := Int8.le_toInt (Int32.toInt8 (w >>> (k &&& 31)))
  have h2 := Int8.toInt_lt (Int32.toInt8 (w >>> (k &&& 31)))
  omega
theorem as4_B {f : Nat → Int32} (h : tbB f) (n : Nat) (w : Int32) : tbB (as4 f n w) := tbB_up (tbB_up (tbB_up (tbB_up h (bs_B _ _)) (bs_B _ _)) (bs_B _ _)) (bs_B _ _)
def qFC (f : Nat → Int32) (g : Nat → Int64) (n : Nat) (p0 p1 p2 p3 p4 : Int32) (M : am_M) (nx : Nat) : am_Qt := fun r M1 nx1 => (n + 20 ≤ 4096 ∧ r = .inl (some (.int 0)) ∧ M1 = am_up (am_up (am_up M 1002 (.inl (0, 4096, .inl (ap4 (ap4 (ap4 (ap4 (ap4 f n p0) (n + 4) p1) (n + 8) p2) (n + 12) p3) (n + 16) p4)))) 1001 (.inr (1, [.ref 1002, .int (nI (n + 20))]))) 1239 (.inl (2, 1, .inr (.inl (vp_updL g 0 (Int32.toInt64 (nI (n + 20))))))) ∧ nx1 = nx) ∨ (4096 < n + 20 ∧ r = .inl (some (.int 1)) ∧ M1 = am_up M nx (.inr (13, [])) ∧ nx1 = nx + 1)
def qFM (f : Nat → Int32) (n : Nat) (pl er va : Int32) (re : Int64) (p0 p1 p2 p3 p4 : Int32) (M : am_M) (nx : Nat) : am_Qt := fun r M1 nx1 => (n + 20 ≤ 4096 ∧ r = .inl (some (.int (nI (n + 20)))) ∧ M1 = am_up (am_up M 1212 (.inl (0, 4096, .inl (as4 (as4 (as4 (as4 (as4 f n p0) (n + 4) p1) (n + 8) p2) (n + 12) p3) (n + 16) p4)))) 1211 (.inr (9, [.int 0, .int (nI (n + 20)), .int pl, .int er, .int va, .ref 1212, .ref 1213, .ref 1220, .ref 1225, .ref 1233, .ref 1234, .ref 1235, .ref 1236, .ref 1237, .ref 1238, .long re])) ∧ nx1 = nx) ∨ (4096 < n + 20 ∧ r = .inl (some (.int 0)) ∧ M1 = am_up M 1211 (.inr (9, [.int 1, .int (nI n), .int pl, .int er, .int va, .ref 1212, .ref 1213, .ref 1220, .ref 1225, .ref 1233, .ref 1234, .ref 1235, .ref 1236, .ref 1237, .ref 1238, .long re])) ∧ nx1 = nx)
def qEC (g : Nat → Int64) (n : Nat) (k : Int32) (M : am_M) (nx : Nat) : am_Qt := fun r M1 nx1 => (¬ k < 0 ∧ k ≤ nI n ∧ r = .inl (some (.int 0)) ∧ M1 = am_up (am_up M 1001 (.inr (1, [.ref 1002, .int k]))) 1239 (.inl (2, 1, .inr (.inl (vp_updL g 0 (Int32.toInt64 k))))) ∧ nx1 = nx) ∨ ((k < 0 ∨ ¬ k ≤ nI n) ∧ r = .inl (some (.int 1)) ∧ M1 = am_up M nx (.inr (14, [])) ∧ nx1 = nx + 1)
def qEM (n : Nat) (pl er va : Int32) (re : Int64) (k : Int32) (M : am_M) (nx : Nat) : am_Qt := fun r M1 nx1 => (¬ k < 0 ∧ k ≤ nI n ∧ r = .inl (some (.int k)) ∧ M1 = am_up M 1211 (.inr (9, [.int 0, .int k, .int pl, .int er, .int va, .ref 1212, .ref 1213, .ref 1220, .ref 1225, .ref 1233, .ref 1234, .ref 1235, .ref 1236, .ref 1237, .ref 1238, .long re])) ∧ nx1 = nx) ∨ ((k < 0 ∨ ¬ k ≤ nI n) ∧ r = .inl (some (.int 0)) ∧ M1 = am_up M 1211 (.inr (9, [.int 1, .int (nI n), .int pl, .int er, .int va, .ref 1212, .ref 1213, .ref 1220, .ref 1225, .ref 1233, .ref 1234, .ref 1235, .ref 1236, .ref 1237, .ref 1238, .long re])) ∧ nx1 = nx)
def qNM (n : Nat) (pl er va : Int32) (re : Int64) (k : Int32) (M : am_M) (nx : Nat) : am_Qt := fun r M1 nx1 => M1 = am_up M 1211 (.inr (9, [.int (if k = 0 then 0 else if k = 1 then 0 else if k = 2 then 0 else 1), .int (nI n), .int pl, .int er, .int va, .ref 1212, .ref 1213, .ref 1220, .ref 1225, .ref 1233, .ref 1234, .ref 1235, .ref 1236, .ref 1237, .ref 1238, .long re])) ∧ nx1 = nx ∧ ((k = 0 ∧ r = .inl (some (.int (nI n)))) ∨ (k = 1 ∧ r = .inl (some (.int pl))) ∨ (k = 2 ∧ r = .inl (some (.int er))) ∨ (¬ k = 0 ∧ ¬ k = 1 ∧ ¬ k = 2 ∧ r = .inl (some (.int 0))))
theorem nI_ofw {w : Int32} {n : Nat} (h1 : ¬ w < 0) (h2 : w ≤ nI n) (hn : n ≤ 4096) : ∃ m, w = nI m ∧ m ≤ n := by
  have h3 : 0 ≤ w.toInt := by
    have := fun z => h1 (Int32.lt_iff_toInt_lt.mpr z)
    simp at this
    exact this
  have h4 := Int32.le_iff_toInt_le.mp h2
  rw [nI_toInt (by omega)] at h4
  refine ⟨w.toInt.toNat, ?_, by omega⟩
  apply Int32.toInt_inj.mp
  rw [nI_toInt (by omega)]
  omega
theorem j_feed {f : Nat → Int32} {n : Nat} {c : Nat} {Vl : Nat → Nat} {Vg : Nat → Nat → Int32} {Vn : Nat → Int64} {pl er th : Int32} {g : Nat → Int64} {M M1 M2 : am_M} {nx nx1 nx2 : Nat} (hb : tbB f) (hn : n ≤ 4096) (hx : 1240 ≤ nx) (hN : nmNo c Vl Vg) (hC : CI f n c Vl Vg Vn pl er M nx) (hM : MI f n c Vl Vg Vn pl er th M) (hg : M 1239 = some (.inl (2, 1, .inr (.inl g)))) {p0 p1 p2 p3 p4 : Int32} {k : Int32} {v2 : Option Value} {re : Int64} (h1 : qFC f g n p0 p1 p2 p3 p4 M nx (.inl (some (.int k))) M1 nx1) (h2 : qFM f n pl er (nI c) re p0 p1 p2 p3 p4 M1 nx1 (.inl v2) M2 nx2) : ∃ b g1, v2 = some (.int b) ∧ nx2 = nx1 ∧ JI k g1 M2 nx2 ∧ (k = 0 → g1 0 = Int32.toInt64 b) := by
  rcases h1 with ⟨a1, e1, a3, a4⟩ | ⟨a1, e1, a3, a4⟩
  · rcases h2 with ⟨b1, f1, b3, b4⟩ | ⟨b1, _⟩
    · cases e1
      cases f1
      rw [by_ap, by_ap, by_ap, by_ap, by_ap] at a3
      subst a3; subst a4; subst b3; subst b4
      have F : ∀ i, ¬ (i = 1211 ∨ i = 1212 ∨ i = 1239 ∨ i = 1001 ∨ i = 1002) → (am_up (am_up (am_up (am_up (am_up M 1002 (.inl (0, 4096, .inl (as4 (as4 (as4 (as4 (as4 f n p0) (n + 4) p1) (n + 8) p2) (n + 12) p3) (n + 16) p4)))) 1001 (.inr (1, [.ref 1002, .int (nI (n + 20))]))) 1239 (.inl (2, 1, .inr (.inl (vp_updL g 0 (Int32.toInt64 (nI (n + 20)))))))) 1212 (.inl (0, 4096, .inl (as4 (as4 (as4 (as4 (as4 f n p0) (n + 4) p1) (n + 8) p2) (n + 12) p3) (n + 16) p4)))) 1211 (.inr (9, [.int 0, .int (nI (n + 20)), .int pl, .int er, .int (nI c), .ref 1212, .ref 1213, .ref 1220, .ref 1225, .ref 1233, .ref 1234, .ref 1235, .ref 1236, .ref 1237, .ref 1238, .long re]))) i = M i := fun i hi => by rw [am_up_ne (by omega), am_up_ne (by omega), am_up_ne (by omega), am_up_ne (by omega), am_up_ne (by omega)]
      refine ⟨_, _, rfl, rfl, ⟨_, n + 20, c, Vl, Vg, Vn, pl, er, as4_B (as4_B (as4_B (as4_B (as4_B hb _ _) _ _) _ _) _ _) _ _, b1, hx, hN, CI_set hC ((F _ (by omega)).trans hC.1) ((am_up_ne (show 1001 ≠ 1211 from by decide)).trans ((am_up_ne (show 1001 ≠ 1212 from by decide)).trans ((am_up_ne (show 1001 ≠ 1239 from by decide)).trans (am_up_eq _ _ _)))) ((am_up_ne (show 1002 ≠ 1211 from by decide)).trans ((am_up_ne (show 1002 ≠ 1212 from by decide)).trans ((am_up_ne (show 1002 ≠ 1239 from by decide)).trans ((am_up_ne (show 1002 ≠ 1001 from by decide)).trans (am_up_eq _ _ _))))) (Nat.le_refl _) (fun i h1 h2 => F i (by omega)) (fun i h1 h2 => F i (by omega)), MI_set hM (am_up_eq _ _ _) ((am_up_ne (show 1212 ≠ 1211 from by decide)).trans (am_up_eq _ _ _)) (fun i h1 h2 => F i (by omega)), (am_up_ne (show 1239 ≠ 1211 from by decide)).trans ((am_up_ne (show 1239 ≠ 1212 from by decide)).trans (am_up_eq _ _ _))⟩, fun _ => updL_at _ _ _⟩
    · omega
  · rcases h2 with ⟨b1, _⟩ | ⟨b1, f1, b3, b4⟩
    · omega
    · cases e1
      cases f1
      subst a3; subst a4; subst b3; subst b4
      have F : ∀ i, ¬ (i = 1211 ∨ i = nx) → (am_up (am_up M nx (.inr (13, []))) 1211 (.inr (9, [.int 1, .int (nI n), .int pl, .int er, .int (nI c), .ref 1212, .ref 1213, .ref 1220, .ref 1225, .ref 1233, .ref 1234, .ref 1235, .ref 1236, .ref 1237, .ref 1238, .long re]))) i = M i := fun i hi => by rw [am_up_ne (by omega), am_up_ne (by omega)]
      exact ⟨_, _, rfl, rfl, ⟨f, n, c, Vl, Vg, Vn, pl, er, hb, hn, by omega, hN, CI_fr hC (by omega) (fun i h1 h2 => F i (by omega)) (fun i h1 h2 => F i (by omega)), MI_set hM (am_up_eq _ _ _) ((F _ (by omega)).trans hM.2.1.1.1) (fun i h1 h2 => F i (by omega)), (F _ (by omega)).trans hg⟩, fun z => absurd z (by decide)⟩
theorem j_end {f : Nat → Int32} {n : Nat} {c : Nat} {Vl : Nat → Nat} {Vg : Nat → Nat → Int32} {Vn : Nat → Int64} {pl er th : Int32} {g : Nat → Int64} {M M1 M2 : am_M} {nx nx1 nx2 : Nat} (hb : tbB f) (hn : n ≤ 4096) (hx : 1240 ≤ nx) (hN : nmNo c Vl Vg) (hC : CI f n c Vl Vg Vn pl er M nx) (hM : MI f n c Vl Vg Vn pl er th M) (hg : M 1239 = some (.inl (2, 1, .inr (.inl g)))) {w : Int32} {k : Int32} {v2 : Option Value} {re : Int64} (h1 : qEC g n w M nx (.inl (some (.int k))) M1 nx1) (h2 : qEM n pl er (nI c) re w M1 nx1 (.inl v2) M2 nx2) : ∃ b g1, v2 = some (.int b) ∧ nx2 = nx1 ∧ JI k g1 M2 nx2 ∧ (k = 0 → g1 0 = Int32.toInt64 b) := by
  rcases h1 with ⟨a1, a2, e1, a3, a4⟩ | ⟨a1, e1, a3, a4⟩
  · rcases h2 with ⟨b1, b2, f1, b3, b4⟩ | ⟨b1, _⟩
    · cases e1
      cases f1
      obtain ⟨m, rfl, hm⟩ : ∃ m, w = nI m ∧ m ≤ n := nI_ofw a1 a2 hn
      subst a3; subst a4; subst b3; subst b4
      have F : ∀ i, ¬ (i = 1211 ∨ i = 1239 ∨ i = 1001) → (am_up (am_up (am_up M 1001 (.inr (1, [.ref 1002, .int (nI m)]))) 1239 (.inl (2, 1, .inr (.inl (vp_updL g 0 (Int32.toInt64 (nI m))))))) 1211 (.inr (9, [.int 0, .int (nI m), .int pl, .int er, .int (nI c), .ref 1212, .ref 1213, .ref 1220, .ref 1225, .ref 1233, .ref 1234, .ref 1235, .ref 1236, .ref 1237, .ref 1238, .long re]))) i = M i := fun i hi => by rw [am_up_ne (by omega), am_up_ne (by omega), am_up_ne (by omega)]
      refine ⟨_, _, rfl, rfl, ⟨f, m, c, Vl, Vg, Vn, pl, er, hb, by omega, hx, hN, CI_set hC ((F _ (by omega)).trans hC.1) ((am_up_ne (show 1001 ≠ 1211 from by decide)).trans ((am_up_ne (show 1001 ≠ 1239 from by decide)).trans (am_up_eq _ _ _))) ((F _ (by omega)).trans hC.2.2.1) (Nat.le_refl _) (fun i h1 h2 => F i (by omega)) (fun i h1 h2 => F i (by omega)), MI_set hM (am_up_eq _ _ _) ((F _ (by omega)).trans hM.2.1.1.1) (fun i h1 h2 => F i (by omega)), (am_up_ne (show 1239 ≠ 1211 from by decide)).trans (am_up_eq _ _ _)⟩, fun _ => updL_at _ _ _⟩
    · exact absurd b1 (fun z => z.elim a1 (fun y => y a2))
  · rcases h2 with ⟨b1, b2, _⟩ | ⟨b1, f1, b3, b4⟩
    · exact absurd a1 (fun z => z.elim b1 (fun y => y b2))
    · cases e1
      cases f1
      subst a3; subst a4; subst b3; subst b4
      have F : ∀ i, ¬ (i = 1211 ∨ i = nx) → (am_up (am_up M nx (.inr (14, []))) 1211 (.inr (9, [.int 1, .int (nI n), .int pl, .int er, .int (nI c), .ref 1212, .ref 1213, .ref 1220, .ref 1225, .ref 1233, .ref 1234, .ref 1235, .ref 1236, .ref 1237, .ref 1238, .long re]))) i = M i := fun i hi => by rw [am_up_ne (by omega), am_up_ne (by omega)]
      exact ⟨_, _, rfl, rfl, ⟨f, n, c, Vl, Vg, Vn, pl, er, hb, hn, by omega, hN, CI_fr hC (by omega) (fun i h1 h2 => F i (by omega)) (fun i h1 h2 => F i (by omega)), MI_set hM (am_up_eq _ _ _) ((F _ (by omega)).trans hM.2.1.1.1) (fun i h1 h2 => F i (by omega)), (F _ (by omega)).trans hg⟩, fun z => absurd z (by decide)⟩
