/-! THE MACHINE'S OPEN TERMS STAY IN ORDER (mine) -/
def wfK : List Frm → Prop
  | [] => False
  | fr :: K => fr.1 < 7 ∧ fr.2.1 < 26 ∧ fr.2.2.2.1 ≤ 7 ∧ (fr.1 = 0 ↔ K = []) ∧ (K = [] ∨ wfK K)
def wf (n : Nat) (s : Cfg) : Prop := s.1.length ≤ 100 ∧ s.2.2.2.2.2.2.2.1 ≤ n ∧ wfK s.1
section WF1
variable {f : Nat → Int32} {n : Nat} {lu : Nat → Nat → Option Int64}
theorem on_pl {s : Cfg} (h : c_on s = true) : s.2.2.2.2.1 = -1 := (of_decide_eq_true h).2
theorem wf_brk (hn : n ≤ 4096) {s : Cfg} (ha : s.2.2.2.2.2.2.2.1 ≤ n) (h : c_on (c_brk f n s) = true) : False := by
  obtain ⟨K, du, dn, sy, pl, ou, pr, a, lf, rt, la⟩ := s
  have t := tok_ok f (show a ≤ n from ha)
  exact nI_m1 (w := (tok f n a).2.1) (by omega) (on_pl h)
theorem wf_beg (hn : n ≤ 4096) {K : List Frm} {du dn : Bool} {sy ou a ro nm : Nat} {pl pr mo : Int32} {lf rt la : Opd} (hK : wfK K) (ha : a ≤ n) (h1 : 0 < ro ∧ ro < 7) (h2 : nm < 26) (h : c_on (c_beg f n ro nm mo (K, du, dn, sy, pl, ou, pr, a, lf, rt, la)) = true) : wf n (c_beg f n ro nm mo (K, du, dn, sy, pl, ou, pr, a, lf, rt, la)) := by
  rw [c_beg] at h ⊢
  split at h
  · rename_i h9
    rw [if_pos h9]
    refine ⟨by show K.length + 1 ≤ 100; omega, ha, h1.2, h2, Nat.zero_le _, ⟨fun z => absurd z (by omega), fun z => ?_⟩, Or.inr hK⟩
    rw [z] at hK
    exact absurd hK id
  · have t := tok_ok f ha
    exact absurd (on_pl h) (nI_m1 (w := (tok f n a).2.1) (by omega))
theorem wfK_t {fr : Frm} {K : List Frm} (h : wfK (fr :: K)) (h0 : ¬ fr.1 = 0) : wfK K := h.2.2.2.2.resolve_left (fun z => h0 (h.2.2.2.1.mpr z))
theorem wf_stp (hn : n ≤ 4096) {s : Cfg} (h : wf n s) (ho : c_on s = true) (h1 : c_on (c_stp f n lu s) = true) : wf n (c_stp f n lu s) := by
  obtain ⟨K, du, dn, sy, pl, ou, pr, a, lf, rt, la⟩ := s
  obtain ⟨hl, ha, hK⟩ := h
  replace hl : K.length ≤ 100 := hl
  replace ha : a ≤ n := ha
  replace hK : wfK K := hK
  have t := tok_ok f ha
  have t1 := tok_ok f (show (tok f n a).2.2.1 ≤ n by omega)
  by_cases hd : du = true
  · rw [c_stp, if_pos hd] at h1 ⊢
    by_cases h2 : (tok f n a).1 = 2
    · rw [if_pos h2] at h1 ⊢
      rw [c_name] at h1 ⊢
      split at h1
      · rename_i h9
        rw [if_pos h9]
        exact wf_beg hn hK (by omega) (by decide) (by omega) h1
      rename_i h9
      rw [if_neg h9]
      split at h1
      · rename_i h8
        rw [if_pos h8]
        exact ⟨hl, by show (tok f n (tok f n a).2.2.1).2.2.1 ≤ n; omega, hK⟩
      rename_i h8
      rw [if_neg h8]
      split at h1
      · rename_i h7
        rw [if_pos h7]
        exact wf_beg hn hK (by omega) (by decide) (by omega) h1
      · rename_i h7
        rw [if_neg h7]
        exact ⟨hl, by show (tok f n a).2.2.1 ≤ n; omega, hK⟩
    · rw [if_neg h2] at h1 ⊢
      rw [c_rop] at h1 ⊢
      split at h1
      · rename_i h9
        rw [if_pos h9]
        exact ⟨hl, by show (tok f n a).2.2.1 ≤ n; omega, hK⟩
      rename_i h9
      rw [if_neg h9]
      split at h1
      · rename_i h8
        rw [if_pos h8]
        exact ⟨hl, by show (tok f n a).2.2.1 ≤ n; omega, hK⟩
      rename_i h8
      rw [if_neg h8]
      split at h1
      · rename_i h7
        rw [if_pos h7]
        exact wf_beg hn hK (by omega) (by decide) (by decide) h1
      rename_i h7
      rw [if_neg h7]
      split at h1
      · rename_i h6
        rw [if_pos h6]
        exact wf_beg hn hK (by omega) (by decide) (by decide) h1
      · exact (wf_brk hn ha h1).elim
  · rw [c_stp, if_neg hd] at h1 ⊢
    cases K with
    | nil => exact absurd hK id
    | cons fr K =>
      obtain ⟨ro, nm, mo, ar, fi⟩ := fr
      have hK0 := hK
      obtain ⟨k1, k2, k3, k4, k5⟩ := hK0
      replace k1 : ro < 7 := k1
      replace k2 : nm < 26 := k2
      replace k3 : ar ≤ 7 := k3
      have hl' : K.length + 1 ≤ 100 := hl
      rw [c_go] at h1 ⊢
      split at h1
      · rename_i h9
        rw [if_pos h9]
        exact wf_beg hn hK (by omega) (by decide) (by omega) h1
      rename_i h9
      rw [if_neg h9]
      split at h1
      · rename_i h8
        rw [if_pos h8]
        have hT := wfK_t hK (by show ¬ ro = 0; omega)
        rw [c_eP] at h1 ⊢
        split at h1
        · rename_i g
          rw [if_pos g]
          exact ⟨by show K.length ≤ 100; omega, by show (tok f n a).2.2.1 ≤ n; omega, hT⟩
        · exact (wf_brk hn ha h1).elim
      rename_i h8
      rw [if_neg h8]
      split at h1
      · rename_i h7
        rw [if_pos h7]
        exact ⟨by show K.length ≤ 100; omega, ha, wfK_t hK (by show ¬ ro = 0; omega)⟩
      rename_i h7
      rw [if_neg h7]
      split at h1
      · rename_i h6
        rw [if_pos h6]
        exact ⟨by show K.length ≤ 100; omega, ha, wfK_t hK (by show ¬ ro = 0; omega)⟩
      rename_i h6
      rw [if_neg h6]
      split at h1
      · rename_i h5
        rw [if_pos h5]
        have hT := wfK_t hK (by show ¬ ro = 0; omega)
        rw [c_eA] at h1 ⊢
        split at h1
        · rename_i g
          rw [if_pos g]
          exact ⟨by show K.length ≤ 100; omega, by show (tok f n a).2.2.1 ≤ n; omega, hT⟩
        rename_i g
        rw [if_neg g]
        split at h1
        · rename_i g1
          rw [if_pos g1]
          split at h1
          · exact (wf_brk hn (by show (tok f n a).2.2.1 ≤ n; omega) h1).elim
          · rename_i g2
            rw [if_neg g2]
            exact ⟨by show K.length + 1 ≤ 100; omega, by show (tok f n a).2.2.1 ≤ n; omega, k1, k2, by show ar + 1 ≤ 7; omega, k4, k5⟩
        · exact (wf_brk hn ha h1).elim
      rename_i h5
      rw [if_neg h5]
      split at h1
      · rename_i h4
        rw [if_pos h4]
        have hT := wfK_t hK (by show ¬ ro = 0; omega)
        rw [c_eE] at h1 ⊢
        split at h1
        · rename_i g
          rw [if_pos g]
          rw [c_eL, if_pos g] at h1 ⊢
          exact ⟨by show K.length ≤ 100; omega, by show (tok f n a).2.2.1 ≤ n; omega, hT⟩
        rename_i g
        rw [if_neg g]
        split at h1
        · rename_i g1
          rw [if_pos g1]
          have e : (if (tok f n a).1 = 8 then 6 else 5 : Nat) < 7 ∧ ¬ (if (tok f n a).1 = 8 then 6 else 5 : Nat) = 0 := by split <;> decide
          exact ⟨by show K.length + 1 ≤ 100; omega, by show (tok f n a).2.2.1 ≤ n; omega, e.1, k2, k3, ⟨fun z => absurd z e.2, fun z => absurd (k4.mpr z) (by show ¬ ro = 0; omega)⟩, k5⟩
        · exact (wf_brk hn ha h1).elim
      rename_i h4
      rw [if_neg h4]
      split at h1
      · rename_i h3
        rw [if_pos h3]
        have hT := wfK_t hK (by show ¬ ro = 0; omega)
        rw [c_eL] at h1 ⊢
        split at h1
        · rename_i g
          rw [if_pos g]
          exact ⟨by show K.length ≤ 100; omega, by show (tok f n a).2.2.1 ≤ n; omega, hT⟩
        · exact (wf_brk hn ha h1).elim
      · rename_i h3
        rw [if_neg h3]
        rw [c_eW] at h1 ⊢
        split at h1
        · rename_i g
          rw [if_pos g]
          split at h1
          · exact absurd (show true = false from (of_decide_eq_true h1).1) (by decide)
          · exact (wf_brk hn (by show (tok f n a).2.2.1 ≤ n; omega) h1).elim
        · exact (wf_brk hn ha h1).elim
theorem sy_beg {ro nm : Nat} {mo : Int32} (s : Cfg) : (c_beg f n ro nm mo s).2.2.2.1 = s.2.2.2.1 := by
  obtain ⟨K, du, dn, sy, pl, ou, pr, a, lf, rt, la⟩ := s
  rw [c_beg]
  split <;> rfl
theorem sy_stp (s : Cfg) : (c_stp f n lu s).2.2.2.1 ≤ s.2.2.2.1 + 2 := by
  obtain ⟨K, du, dn, sy, pl, ou, pr, a, lf, rt, la⟩ := s
  show _ ≤ sy + 2
  rw [c_stp]
  split
  · split
    · rw [c_name]
      repeat' split
      · rw [sy_beg]; show sy ≤ _; omega
      · show sy + 1 ≤ _; omega
      · rw [sy_beg]; show sy ≤ _; omega
      · show sy + 1 ≤ _; omega
    · rw [c_rop]
      repeat' split
      · show sy + 1 ≤ _; omega
      · show sy + 1 ≤ _; omega
      · rw [sy_beg]; show sy ≤ _; omega
      · rw [sy_beg]; show sy ≤ _; omega
      · show sy ≤ _; omega
  · cases K with
    | nil => show sy ≤ _; omega
    | cons fr K =>
      obtain ⟨ro, nm, mo, ar, fi⟩ := fr
      rw [c_go]
      split
      · rw [sy_beg]; show sy ≤ _; omega
      split
      · rw [c_eP]
        split <;> (show sy ≤ _; omega)
      split
      · show sy + 1 ≤ _; omega
      split
      · show sy + 1 ≤ _; omega
      split
      · rw [c_eA]
        split
        · show sy + 1 ≤ _; omega
        split
        · split <;> (show sy ≤ _; omega)
        · show sy ≤ _; omega
      split
      · rw [c_eE]
        split
        · rw [c_eL]
          split <;> (show sy + 2 ≤ _; omega)
        split
        · show sy + 1 ≤ _; omega
        · show sy ≤ _; omega
      split
      · rw [c_eL]
        split <;> (show sy ≤ _; omega)
      · rw [c_eW]
        split
        · split <;> (show sy ≤ _; omega)
        · show sy ≤ _; omega
end WF1
