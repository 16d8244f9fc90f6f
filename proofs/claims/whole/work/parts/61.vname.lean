/-! NO VARIABLE IS NAMED "_", AND WHAT THE OPERANDS OF A READING MAY BE (mine); BOTH TABLES ALIKE -/
def nU (f : Nat → Int32) (n : Nat) (o : Opd) : Prop := o.2.2.1 < o.2.2.2 → ∃ p e, o.2.2.1 = nI p ∧ o.2.2.2 = nI e ∧ p < e ∧ e ≤ n ∧ ¬ (e = p + 1 ∧ tb f n p = 95)
def nF (f : Nat → Int32) (n : Nat) (fr : Frm) : Prop := (fr.1 = 3 → nU f n fr.2.2.2.2) ∧ (fr.1 = 4 → ¬ fr.2.2.2.1 = 0 → nU f n fr.2.2.2.2)
def nV (f : Nat → Int32) (n : Nat) (s : Cfg) : Prop := (s.2.1 = false → nU f n s.2.2.2.2.2.2.2.2.2.2) ∧ (s.2.2.2.2.2.1 = 10 → nU f n s.2.2.2.2.2.2.2.2.1) ∧ ∀ fr ∈ s.1, nF f n fr
section NV1
variable {f : Nat → Int32} {n : Nat} {lu : Nat → Nat → Option Int64}
theorem nU_0 {e : Int32} {v : Int64} : nU f n (e, v, 0, 0) := fun h => absurd h (by decide : ¬ (0 : Int32) < 0)
theorem nU_vo (hn : n ≤ 4096) {a : Nat} (ha : a ≤ n) : nU f n (c_vo f n lu a) := by
  have t := tok_ok f ha
  intro h
  by_cases hc : (tok f n a).2.2.1 = (tok f n a).2.1 + 1 ∧ tb f n (tok f n a).2.1 = 95
  · replace h : (if (tok f n a).2.2.1 = (tok f n a).2.1 + 1 ∧ tb f n (tok f n a).2.1 = 95 then (0 : Int32) else nI (tok f n a).2.1) < (if (tok f n a).2.2.1 = (tok f n a).2.1 + 1 ∧ tb f n (tok f n a).2.1 = 95 then (0 : Int32) else nI (tok f n a).2.2.1) := h
    rw [if_pos hc, if_pos hc] at h
    exact absurd h (by decide)
  · replace h : (if (tok f n a).2.2.1 = (tok f n a).2.1 + 1 ∧ tb f n (tok f n a).2.1 = 95 then (0 : Int32) else nI (tok f n a).2.1) < (if (tok f n a).2.2.1 = (tok f n a).2.1 + 1 ∧ tb f n (tok f n a).2.1 = 95 then (0 : Int32) else nI (tok f n a).2.2.1) := h
    rw [if_neg hc, if_neg hc] at h
    have h8 := (nI_ltI (a := (tok f n a).2.1) (b := (tok f n a).2.2.1) (by omega) (by omega)).mp h
    refine ⟨(tok f n a).2.1, (tok f n a).2.2.1, ?_, ?_, h8, by omega, hc⟩
    · show (if (tok f n a).2.2.1 = (tok f n a).2.1 + 1 ∧ tb f n (tok f n a).2.1 = 95 then (0 : Int32) else nI (tok f n a).2.1) = _
      rw [if_neg hc]
    · show (if (tok f n a).2.2.1 = (tok f n a).2.1 + 1 ∧ tb f n (tok f n a).2.1 = 95 then (0 : Int32) else nI (tok f n a).2.2.1) = _
      rw [if_neg hc]
theorem nV_beg {ro nm : Nat} {mo : Int32} {K : List Frm} {du dn : Bool} {sy ou a : Nat} {pl pr : Int32} {lf rt la : Opd} (h1 : du = false → nU f n la) (h2 : ou = 10 → nU f n lf) (h3 : ∀ fr ∈ K, nF f n fr) (h : ro = 3 → nU f n la) : nV f n (c_beg f n ro nm mo (K, du, dn, sy, pl, ou, pr, a, lf, rt, la)) := by
  rw [c_beg]
  split
  · refine ⟨fun z => absurd (show true = false from z) (by decide), h2, fun fr hfr => ?_⟩
    rcases List.mem_cons.mp hfr with h9 | h9
    · subst h9
      exact ⟨h, fun _ z => absurd rfl z⟩
    · exact h3 fr h9
  · exact ⟨h1, h2, h3⟩
theorem nV_stp (hn : n ≤ 4096) {s : Cfg} (ha : s.2.2.2.2.2.2.2.1 ≤ n) (h : nV f n s) : nV f n (c_stp f n lu s) := by
  obtain ⟨K, du, dn, sy, pl, ou, pr, a, lf, rt, la⟩ := s
  obtain ⟨h1, h2, h4⟩ := h
  replace h1 : du = false → nU f n la := h1
  replace h2 : ou = 10 → nU f n lf := h2
  replace h4 : ∀ fr ∈ K, nF f n fr := h4
  replace ha : a ≤ n := ha
  rw [c_stp]
  split
  · split
    · rw [c_name]
      split
      · exact nV_beg h1 h2 h4 (fun z => absurd z (by decide))
      split
      · exact ⟨fun _ => nU_0, h2, h4⟩
      split
      · exact nV_beg h1 h2 h4 (fun z => absurd z (by decide))
      · exact ⟨fun _ => nU_0, h2, h4⟩
    · rw [c_rop]
      split
      · exact ⟨fun _ => nU_vo hn ha, h2, h4⟩
      split
      · exact ⟨fun _ => nU_0, h2, h4⟩
      split
      · exact nV_beg h1 h2 h4 (fun z => absurd z (by decide))
      split
      · exact nV_beg h1 h2 h4 (fun z => absurd z (by decide))
      · exact ⟨h1, h2, h4⟩
  · rename_i hdu
    have hla : nU f n la := h1 (by cases du; rfl; exact absurd rfl hdu)
    cases K with
    | nil => exact ⟨h1, h2, h4⟩
    | cons fr K =>
      have hT : ∀ fr ∈ K, nF f n fr := fun g q => h4 g (List.mem_cons_of_mem _ q)
      have hfr : nF f n fr := h4 fr List.mem_cons_self
      obtain ⟨ro, nm, mo, ar, fi⟩ := fr
      obtain ⟨f3, f4⟩ := hfr
      replace f3 : ro = 3 → nU f n fi := f3
      replace f4 : ro = 4 → ¬ ar = 0 → nU f n fi := f4
      rw [c_go]
      split
      · exact nV_beg h1 h2 h4 (fun _ => hla)
      split
      · rw [c_eP]
        split
        · exact ⟨fun _ => hla, h2, hT⟩
        · exact ⟨h1, h2, h4⟩
      split
      · exact ⟨fun _ => nU_0, fun z => absurd (show (if nI 1 = 2 then nm else 0) = 10 from z) (by rw [if_neg (by decide)]; decide), hT⟩
      split
      · rename_i h3
        exact ⟨fun _ => nU_0, fun _ => f3 h3, hT⟩
      split
      · rename_i h5
        have hif : nU f n (if ar = 0 then la else fi) := by
          by_cases h0 : ar = 0
          · rw [if_pos h0]; exact hla
          · rw [if_neg h0]; exact f4 h5 h0
        have hc : ∀ g ∈ (ro, nm, mo, ar + 1, (if ar = 0 then la else fi)) :: K, nF f n g := fun g q => by
          rcases List.mem_cons.mp q with h9 | h9
          · subst h9
            exact ⟨fun z => absurd (h5.symm.trans z) (by decide), fun _ _ => hif⟩
          · exact hT g h9
        rw [c_eA]
        split
        · exact ⟨fun _ => nU_0, fun _ => hif, hT⟩
        split
        · split
          · exact ⟨fun z => absurd (show true = false from z) (by decide), h2, hc⟩
          · exact ⟨fun z => absurd (show true = false from z) (by decide), h2, hc⟩
        · exact ⟨fun _ => hla, h2, hc⟩
      split
      · rw [c_eE]
        split
        · rename_i h6
          rw [c_eL, if_pos h6]
          exact ⟨fun _ => nU_0, fun z => absurd (show 0 = 10 from z) (by decide), hT⟩
        split
        · refine ⟨fun z => absurd (show true = false from z) (by decide), h2, fun g q => ?_⟩
          rcases List.mem_cons.mp q with h9 | h9
          · subst h9
            have e : ¬ (if (tok f n a).1 = 8 then 6 else 5 : Nat) = 3 ∧ ¬ (if (tok f n a).1 = 8 then 6 else 5 : Nat) = 4 := by split <;> decide
            exact ⟨fun z => absurd z e.1, fun z => absurd z e.2⟩
          · exact hT g h9
        · exact ⟨h1, h2, h4⟩
      split
      · rw [c_eL]
        split
        · exact ⟨fun _ => nU_0, fun z => absurd (show 0 = 10 from z) (by decide), hT⟩
        · exact ⟨h1, h2, h4⟩
      · rw [c_eW]
        split
        · split
          · exact ⟨h1, h2, h4⟩
          · exact ⟨h1, h2, h4⟩
        · exact ⟨h1, h2, h4⟩
theorem nV_run (hn : n ≤ 4096) : ∀ (m : Nat) (s : Cfg), (c_on s = true → wf n s) → nV f n s → nV f n (c_run f n lu m s)
  | 0, _, _, h => h
  | m + 1, s, hw, h => by
    rw [c_run]
    split
    · rename_i hc
      exact nV_run hn m _ (fun h' => wf_stp hn (hw hc) hc h') (nV_stp hn (hw hc).2.1 h)
    · exact h
theorem nV_fin {s : Cfg} (h : nV f n s) : nV f n (c_fin f n s) := by
  obtain ⟨K, du, dn, sy, pl, ou, pr, a, lf, rt, la⟩ := s
  rw [c_fin]
  split
  · exact h
  · exact h
/-- the variable to the left of an outermost 'is' -/
theorem nV_let (hn : n ≤ 4096) {lf rt la : Opd} {K : List Frm} {du dn : Bool} {sy a : Nat} {pl pr : Int32} {lf' rt' la' : Opd} (h : c_fin f n (c_run f n lu 16384 (c_s0 lf rt la)) = (K, du, dn, sy, pl, 10, pr, a, lf', rt', la')) : nU f n lf' := by
  have hw : wf n (c_s0 lf rt la) := ⟨by show 1 ≤ 100; decide, Nat.zero_le _, by show 0 < 7; decide, by show 0 < 26; decide, by show 0 ≤ 7; decide, ⟨fun _ => rfl, fun _ => rfl⟩, Or.inl rfl⟩
  have h0 : nV f n (c_s0 lf rt la) := by
    refine ⟨fun z => absurd (show true = false from z) (by decide), fun z => absurd (show 0 = 10 from z) (by decide), fun fr hfr => ?_⟩
    rcases List.mem_cons.mp hfr with h9 | h9
    · subst h9
      exact ⟨fun z => absurd (show 0 = 3 from z) (by decide), fun z => absurd (show 0 = 4 from z) (by decide)⟩
    · exact absurd h9 (List.not_mem_nil)
  have h1 := nV_fin (nV_run hn 16384 _ (fun _ => hw) h0 (lu := lu))
  rw [h] at h1
  exact h1.2.1 rfl
end NV1
theorem tbl_g {M : am_M} {c : Nat} {Vl : Nat → Nat} {Vg Vg' : Nat → Nat → Int32} {Vn : Nat → Int64} {P : Nat → Int32} {Q : Nat → Nat} (h : tbl M c Vl Vg Vn P Q) (hg : ∀ i, i < c → ∀ j, j < Vl i → Vg i j = Vg' i j) : tbl M c Vl Vg' Vn P Q := by
  obtain ⟨a, b, c1, d, e, g, k⟩ := h
  exact ⟨a, b, c1, d, e, fun i hi => ⟨(g i hi).1, (g i hi).2.1, fun j hj => ((g i hi).2.2.1 j hj).trans (hg i hi j hj), (g i hi).2.2.2⟩, k⟩
theorem vmt_g {Vl : Nat → Nat} {Vg : Nat → Nat → Int32} {l : Nat} {g g' : Nat → Int32} (h : ∀ j, j < l → g j = g' j) : vmt Vl Vg l g = vmt Vl Vg l g' := by
  funext i
  rw [vmt, vmt]
  congr 1
  apply propext
  constructor
  · exact fun ⟨a1, a2⟩ => ⟨a1, fun j hj => (a2 j hj).trans (h j hj)⟩
  · exact fun ⟨a1, a2⟩ => ⟨a1, fun j hj => (a2 j hj).trans (h j hj).symm⟩
theorem vf_no {p : Nat → Bool} : ∀ (m i : Nat), (∀ j, i ≤ j → j < i + m → p j = false) → vfF p m i = none
  | 0, _, _ => rfl
  | m + 1, i, h => by
    rw [vfF, if_neg (by rw [h i (Nat.le_refl _) (by omega)]; decide)]
    exact vf_no m (i + 1) (fun j h1 h2 => h j (by omega) (by omega))
def nmNo (c : Nat) (Vl : Nat → Nat) (Vg : Nat → Nat → Int32) : Prop := ∀ i, i < c → Vl i = 1 → ¬ Vg i 0 = 95
theorem lu_ok {c : Nat} {Vl : Nat → Nat} {Vg : Nat → Nat → Int32} {Vn : Nat → Int64} (f : Nat → Int32) (n : Nat) (h : nmNo c Vl Vg) : luOk f n (luT c Vl Vg Vn) (cl_lu c Vl Vg Vn f) := by
  refine ⟨fun p e _ _ => rfl, fun l g g' hg => ?_, fun g hg => ?_⟩
  · rw [luT, luT, vmt_g hg]
  · rw [luT, vf_no (p := vmt Vl Vg 1 g) c 0 (fun j _ h2 => decide_eq_false (fun z => h j (by omega) z.1 ((z.2 0 (by decide)).trans hg)))]
    rfl
/-- the class's variables, with what lies where left open -/
def vz (M : am_M) (c : Nat) (Vl : Nat → Nat) (Vg : Nat → Nat → Int32) (Vn : Nat → Int64) (nx : Nat) : Prop := ∃ Vi Vb ed cap R mcn, vs M c Vi Vb Vl Vg Vn ed cap R mcn ∧ vw M c Vi Vb ed cap R nx
theorem vz_fr {M M1 : am_M} {c : Nat} {Vl : Nat → Nat} {Vg : Nat → Nat → Int32} {Vn : Nat → Int64} {nx nx1 : Nat} (h : vz M c Vl Vg Vn nx) (hn : nx ≤ nx1) (h3 : M1 1003 = M 1003) (h4 : M1 1004 = M 1004) (hf : ∀ i, 1240 ≤ i → i < nx → M1 i = M i) : vz M1 c Vl Vg Vn nx1 := by
  obtain ⟨Vi, Vb, ed, cap, R, mcn, ⟨a, b, c1, d, e, g, k⟩, w1, w2, w3⟩ := h
  refine ⟨Vi, Vb, ed, cap, R, mcn, ⟨h3.trans a, h4.trans b, fun z => ?_, d, e, g, fun i hi => ?_⟩, ?_, fun i hi => ?_, w3⟩
  · rcases w1 with ⟨_, h0⟩ | ⟨g1, g2, g3, _⟩
    · omega
    · exact (hf _ g1 g2).trans g3
  · obtain ⟨k1, k2, k3, k4, k5, k6⟩ := k i hi
    exact ⟨(hf _ k4 (w2 i hi).1).trans k1, (hf _ k5 (w2 i hi).2).trans k2, k3, k4, k5, k6⟩
  · rcases w1 with w1 | ⟨g1, g2, g3, g4⟩
    · exact Or.inl w1
    · exact Or.inr ⟨g1, by omega, (hf _ g1 g2).trans g3, g4⟩
  · have := w2 i hi
    omega
theorem cs0_fr {M M1 : am_M} (h : cs0 M) (hf : ∀ i, 1005 ≤ i → i ≤ 1210 → M1 i = M i) : cs0 M1 := by
  obtain ⟨⟨ou, dp, du, dn, sy, pl, a⟩, ⟨kd, nm, p6, af, nf, nt, nu, b⟩, c, d, ⟨o1, e⟩, ⟨o2, g⟩, ⟨o3, k⟩⟩ := h
  exact ⟨⟨ou, dp, du, dn, sy, pl, (hf _ (by omega) (by omega)).trans a⟩, ⟨kd, nm, p6, af, nf, nt, nu, (hf _ (by omega) (by omega)).trans b⟩, (hf _ (by omega) (by omega)).trans c, cs_Xup d (fun i h1 h2 => hf i (by omega) (by omega)), ⟨o1, (hf _ (by omega) (by omega)).trans e⟩, ⟨o2, (hf _ (by omega) (by omega)).trans g⟩, ⟨o3, (hf _ (by omega) (by omega)).trans k⟩⟩
/-- a number set -/
theorem vz_set {M M1 : am_M} {c : Nat} {Vi Vb Vl : Nat → Nat} {Vg : Nat → Nat → Int32} {Vn : Nat → Int64} {ed cap : Nat} {R : Nat → Option Nat} {mcn : Int32} {nx : Nat} (hV : vs M c Vi Vb Vl Vg Vn ed cap R mcn) (hw : vw M c Vi Vb ed cap R nx) {i : Nat} (hi : i < c) {v : Int64} (h3 : M1 1003 = M 1003) (h4 : M1 1004 = M 1004) (hf : ∀ k, 1240 ≤ k → k < nx → ¬ k = Vi i → M1 k = M k) (hu : M1 (Vi i) = some (.inr (4, [.ref (Vb i), .long v]))) : vz M1 c Vl Vg (vp_updL Vn i v) nx := by
  obtain ⟨a, b, c1, d, e, g, k⟩ := hV
  obtain ⟨w1, w2, w3⟩ := hw
  have hE := c1 (by omega)
  have hei : ¬ ed = Vi i := fun z => by
    have h1 := (k i hi).1
    rw [← z] at h1
    cases hE.symm.trans h1
  have hel : 1240 ≤ ed ∧ ed < nx := by
    rcases w1 with ⟨_, h0⟩ | ⟨g1, g2, _⟩
    · omega
    · exact ⟨g1, g2⟩
  refine ⟨Vi, Vb, ed, cap, R, mcn, ⟨h3.trans a, h4.trans b, fun _ => (hf _ hel.1 hel.2 hei).trans hE, d, e, g, fun j hj => ?_⟩, ?_, w2, w3⟩
  · obtain ⟨k1, k2, k3, k4, k5, k6⟩ := k j hj
    have hbi : ¬ Vb j = Vi i := fun z => by
      rw [z] at k2
      cases k2.symm.trans (k i hi).1
    refine ⟨?_, (hf _ k5 (w2 j hj).2 hbi).trans k2, k3, k4, k5, k6⟩
    by_cases hji : j = i
    · rw [hji, updL_at]; exact hu
    · rw [updL_ne _ _ hji]; exact (hf _ k4 (w2 j hj).1 (fun z => hji (w3 j i hj hi z))).trans k1
  · rcases w1 with w1 | ⟨g1, g2, g3, g4⟩
    · exact Or.inl w1
    · exact Or.inr ⟨g1, g2, (hf _ g1 g2 hei).trans g3, g4⟩
/-- a variable more -/
theorem vz_new {M M1 : am_M} {c : Nat} {Vi Vb Vl : Nat → Nat} {Vg : Nat → Nat → Int32} {Vn : Nat → Int64} {ed cap : Nat} {R : Nat → Option Nat} {mcn : Int32} {nx nx1 : Nat} (hV : vs M c Vi Vb Vl Vg Vn ed cap R mcn) (hw : vw M c Vi Vb ed cap R nx) (hx : 1240 ≤ nx) {ed1 cap1 l : Nat} {R1 : Nat → Option Nat} {mc1 : Int32} {v : Int64} {g9 : Nat → Int32} (hl : l ≤ 4096) (h3 : M1 1003 = M 1003) (h4 : M1 1004 = some (.inr (3, [.int mc1, .ref ed1, .int (nI (c + 1))]))) (he : M1 ed1 = some (.inl (3, cap1, .inr (.inr (.inr (.inr R1)))))) (he1 : 1240 ≤ ed1) (he2 : ed1 < nx1) (hc1 : c + 1 ≤ cap1) (hc2 : cap1 ≤ 75) (hR1 : ∀ i, i < c → R1 i = R i) (hR2 : R1 c = some (nx + 1)) (hb : M1 nx = some (.inl (0, l, .inl g9))) (hv : M1 (nx + 1) = some (.inr (4, [.ref nx, .long v]))) (hn1 : nx + 2 ≤ nx1) (hf : ∀ i, 1240 ≤ i → i < nx → ¬ i = ed → M1 i = M i) : vz M1 (c + 1) (nwL Vl c l) (nwG Vg c g9) (vp_updL Vn c v) nx1 := by
  obtain ⟨a, b, c1, d, e, g, k⟩ := hV
  obtain ⟨w1, w2, w3⟩ := hw
  have hL : ∀ (A : Nat → Nat) (x : Nat), nwL A c x c = x := fun A x => if_pos rfl
  have hN : ∀ (A : Nat → Nat) (x j : Nat), j < c → nwL A c x j = A j := fun A x j hj => if_neg (by omega)
  have hne : ∀ j, j < c → ¬ Vi j = ed ∧ ¬ Vb j = ed := fun j hj => by
    have hE := c1 (by omega)
    obtain ⟨k1, k2, _⟩ := k j hj
    constructor
    · intro z; rw [z] at k1; cases hE.symm.trans k1
    · intro z; rw [z] at k2; cases hE.symm.trans k2
  refine ⟨nwL Vi c (nx + 1), nwL Vb c nx, ed1, cap1, R1, mc1, ⟨h3.trans a, h4, fun _ => he, hc1, by omega, fun i hi => ?_, fun i hi => ?_⟩, Or.inr ⟨he1, he2, he, by omega, hc2⟩, fun i hi => ?_, fun i j hi hj hij => ?_⟩
  · by_cases hic : i = c
    · rw [hic, hL]; exact hR2
    · rw [hN _ _ _ (by omega), hR1 i (by omega), g i (by omega)]
  · by_cases hic : i = c
    · rw [hic, hL, hL, hL, updL_at, show nwG Vg c g9 c = g9 from if_pos rfl]
      exact ⟨hv, hb, hl, by omega, by omega, he1⟩
    · have hi' : i < c := by omega
      obtain ⟨k1, k2, k3, k4, k5, k6⟩ := k i hi'
      rw [hN _ _ _ hi', hN _ _ _ hi', hN _ _ _ hi', updL_ne _ _ hic, show nwG Vg c g9 i = Vg i from if_neg hic]
      exact ⟨(hf _ k4 (w2 i hi').1 (hne i hi').1).trans k1, (hf _ k5 (w2 i hi').2 (hne i hi').2).trans k2, k3, k4, k5, he1⟩
  · by_cases hic : i = c
    · rw [hic, hL, hL]; omega
    · have hi' : i < c := by omega
      have := w2 i hi'
      rw [hN _ _ _ hi', hN _ _ _ hi']; omega
  · by_cases hic : i = c
    · by_cases hjc : j = c
      · omega
      · have := (w2 j (by omega)).1
        rw [hic, hL, hN _ _ _ (by omega)] at hij
        omega
    · by_cases hjc : j = c
      · have := (w2 i (by omega)).1
        rw [hjc, hL, hN _ _ _ (by omega)] at hij
        omega
      · rw [hN _ _ _ (by omega), hN _ _ _ (by omega)] at hij
        exact w3 i j (by omega) (by omega) hij
/-- no variable more -/
theorem vz_clr {M M1 : am_M} {c : Nat} {Vi Vb Vl : Nat → Nat} {Vg : Nat → Nat → Int32} {Vn : Nat → Int64} {ed cap : Nat} {R R1 : Nat → Option Nat} {mcn mc1 : Int32} {nx : Nat} (hV : vs M c Vi Vb Vl Vg Vn ed cap R mcn) (hw : vw M c Vi Vb ed cap R nx) (h3 : M1 1003 = M 1003) (h4 : M1 1004 = some (.inr (3, [.int mc1, .ref ed, .int (nI 0)]))) (he : 1240 ≤ ed → M1 ed = some (.inl (3, cap, .inr (.inr (.inr (.inr R1)))))) : vz M1 0 Vl Vg Vn nx := by
  obtain ⟨a, b, c1, d, e, g, k⟩ := hV
  obtain ⟨w1, w2, w3⟩ := hw
  refine ⟨Vi, Vb, ed, cap, R1, mc1, ⟨h3.trans a, h4, fun z => absurd z (by omega), by omega, e, fun i hi => absurd hi (by omega), fun i hi => absurd hi (by omega)⟩, ?_, fun i hi => absurd hi (by omega), fun i j hi => absurd hi (by omega)⟩
  rcases w1 with ⟨h, _⟩ | ⟨g1, g2, g3, g4⟩
  · exact Or.inl ⟨h, rfl⟩
  · exact Or.inr ⟨g1, g2, he g1, g4⟩
/-! the outermost compound's name is a name -/
section NV2
variable {f : Nat → Int32} {n : Nat} {lu : Nat → Nat → Option Int64}
theorem ou_beg {ro nm : Nat} {mo : Int32} (s : Cfg) : (c_beg f n ro nm mo s).2.2.2.2.2.1 = s.2.2.2.2.2.1 := by
  obtain ⟨K, du, dn, sy, pl, ou, pr, a, lf, rt, la⟩ := s
  rw [c_beg]
  split <;> rfl
theorem ou_stp {s : Cfg} (hK : wfK s.1) (h : s.2.2.2.2.2.1 < 26) : (c_stp f n lu s).2.2.2.2.2.1 < 26 := by
  obtain ⟨K, du, dn, sy, pl, ou, pr, a, lf, rt, la⟩ := s
  replace h : ou < 26 := h
  replace hK : wfK K := hK
  rw [c_stp]
  split
  · split
    · rw [c_name]
      split
      · rw [ou_beg]; exact h
      split
      · exact h
      split
      · rw [ou_beg]; exact h
      · exact h
    · rw [c_rop]
      split
      · exact h
      split
      · exact h
      split
      · rw [ou_beg]; exact h
      split
      · rw [ou_beg]; exact h
      · exact h
  · cases K with
    | nil => exact h
    | cons fr K =>
      obtain ⟨ro, nm, mo, ar, fi⟩ := fr
      have hm : nm < 26 := hK.2.1
      have hc : ∀ (m : Nat), (if nI m = 2 then nm else 0) < 26 := fun m => by split <;> omega
      rw [c_go]
      split
      · rw [ou_beg]; exact h
      split
      · rw [c_eP]
        split <;> exact h
      split
      · exact hc 1
      split
      · exact hc 2
      split
      · rw [c_eA]
        split
        · exact hc (ar + 1)
        split
        · split <;> exact h
        · exact h
      split
      · rw [c_eE]
        split
        · rename_i h6
          rw [c_eL, if_pos h6]
          exact (by decide : 0 < 26)
        split
        · exact h
        · exact h
      split
      · rw [c_eL]
        split
        · exact (by decide : 0 < 26)
        · exact h
      · rw [c_eW]
        split
        · split <;> exact h
        · exact h
theorem ou_run (hn : n ≤ 4096) : ∀ (m : Nat) (s : Cfg), (c_on s = true → wf n s) → s.2.2.2.2.2.1 < 26 → (c_run f n lu m s).2.2.2.2.2.1 < 26
  | 0, _, _, h => h
  | m + 1, s, hw, h => by
    rw [c_run]
    split
    · rename_i hc
      exact ou_run hn m _ (fun h' => wf_stp hn (hw hc) hc h') (ou_stp (hw hc).2.2 h)
    · exact h
theorem ou_fin (hn : n ≤ 4096) {lf rt la : Opd} {K : List Frm} {du dn : Bool} {sy ou a : Nat} {pl pr : Int32} {lf' rt' la' : Opd} (h : c_fin f n (c_run f n lu 16384 (c_s0 lf rt la)) = (K, du, dn, sy, pl, ou, pr, a, lf', rt', la')) : ou < 26 := by
  have hw : wf n (c_s0 lf rt la) := ⟨by show 1 ≤ 100; decide, Nat.zero_le _, by show 0 < 7; decide, by show 0 < 26; decide, by show 0 ≤ 7; decide, ⟨fun _ => rfl, fun _ => rfl⟩, Or.inl rfl⟩
  have h1 : (c_run f n lu 16384 (c_s0 lf rt la)).2.2.2.2.2.1 < 26 := ou_run hn 16384 _ (fun _ => hw) (by show 0 < 26; decide)
  revert h h1
  generalize c_run f n lu 16384 (c_s0 lf rt la) = s
  obtain ⟨K1, du1, dn1, sy1, pl1, ou1, pr1, a1, lf1, rt1, la1⟩ := s
  intro h h1
  rw [c_fin] at h
  split at h
  · cases h; exact h1
  · cases h; exact h1
end NV2
theorem vw_fr {M M1 : am_M} {c : Nat} {Vi Vb : Nat → Nat} {ed cap : Nat} {R : Nat → Option Nat} {nx nx1 : Nat} (h : vw M c Vi Vb ed cap R nx) (hn : nx ≤ nx1) (hf : ∀ i, 1240 ≤ i → i < nx → M1 i = M i) : vw M1 c Vi Vb ed cap R nx1 := by
  obtain ⟨w1, w2, w3⟩ := h
  refine ⟨?_, fun i hi => ?_, w3⟩
  · rcases w1 with w1 | ⟨g1, g2, g3, g4⟩
    · exact Or.inl w1
    · exact Or.inr ⟨g1, by omega, (hf _ g1 g2).trans g3, g4⟩
  · have := w2 i hi
    omega
