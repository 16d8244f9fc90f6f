/-! WHAT THE MACHINE DOES OVER A WHOLE TERM (mine): TOk, TBad and what closes them -/
def c_at (f : Nat → Int32) (n : Nat) (lu : Nat → Nat → Option Int64) (k : Nat) (s s' : Cfg) : Prop := ∀ m, c_run f n lu (m + k) s = c_run f n lu m s'
def c_hb (f : Nat → Int32) (n : Nat) (lu : Nat → Nat → Option Int64) (k : Nat) (s : Cfg) (w : Nat) : Prop := ∃ s' : Cfg, s'.2.2.2.2.1 = nI w ∧ ∀ m, c_run f n lu (m + k) s = s'
section CL1
variable {f : Nat → Int32} {n : Nat} {lu : Nat → Nat → Option Int64}
theorem c_at0 (s : Cfg) : c_at f n lu 0 s s := fun _ => rfl
theorem c_atT {k k' : Nat} {s s1 s2 : Cfg} (h1 : c_at f n lu k s s1) (h2 : c_at f n lu k' s1 s2) : c_at f n lu (k + k') s s2 := by
  intro m
  have e := h1 (m + k')
  rw [show m + (k + k') = m + k' + k from by omega, e]
  exact h2 m
theorem c_at1 {s s1 : Cfg} (h : c_on s = true) (h2 : c_stp f n lu s = s1) : c_at f n lu 1 s s1 := by
  intro m
  rw [c_run, if_pos h, h2]
theorem c_hbT {k k' w : Nat} {s s1 : Cfg} (h1 : c_at f n lu k s s1) (h2 : c_hb f n lu k' s1 w) : c_hb f n lu (k + k') s w := by
  obtain ⟨s', h3, h4⟩ := h2
  refine ⟨s', h3, fun m => ?_⟩
  rw [show m + (k + k') = m + k' + k from by omega, h1 (m + k')]
  exact h4 m
theorem c_runH {s : Cfg} (h : ¬ s.2.2.2.2.1 = -1) : ∀ m, c_run f n lu m s = s
  | 0 => rfl
  | m + 1 => by
    rw [c_run, if_neg]
    rw [c_on, decide_eq_true_iff]
    exact fun z => h z.2
theorem c_hb1 {s s1 : Cfg} {w : Nat} (h : c_on s = true) (h2 : c_stp f n lu s = s1) (h3 : s1.2.2.2.2.1 = nI w) (h4 : ¬ nI w = -1) : c_hb f n lu 1 s w := by
  refine ⟨s1, h3, fun m => ?_⟩
  rw [c_at1 h h2 m]
  exact c_runH (by rw [h3]; exact h4) m
/-- the outermost compound behind a term -/
def c_ro (ro : Nat) (L9 R9 : Opd) (ou ou' : Nat) (lf rt : Opd) : Prop := (¬ ro = 0 → ou' = ro ∧ lf = L9 ∧ rt = R9) ∧ (ro = 0 → ou' = ou ∨ ou' = 0 ∨ ou' = 1)
def TOk (f : Nat → Int32) (n : Nat) (lu : Nat → Nat → Option Int64) (o : Nat) (mo : Int32) (a a' : Nat) (r : Int32) (D : Nat) (w : Opd) (ro : Nat) (L9 R9 : Opd) : Prop :=
  a < a' ∧ a' ≤ n ∧ ∀ (K : List Frm) (rl nm ar : Nat) (fi : Opd) (sy ou : Nat) (pr : Int32) (lf rt la : Opd), K.length = o →
    ∃ k ou' lf' rt', k + 1 ≤ 2 * (a' - a) ∧ c_ro ro L9 R9 ou ou' lf' rt' ∧
      c_at f n lu k ((rl, nm, mo, ar, fi) :: K, true, false, sy, -1, ou, pr, a, lf, rt, la) ((rl, nm, mo, ar, fi) :: K, false, false, sy + D, -1, ou', r, a', lf', rt', w)
def TBad (f : Nat → Int32) (n : Nat) (lu : Nat → Nat → Option Int64) (o : Nat) (mo : Int32) (a w : Nat) : Prop :=
  ∀ (K : List Frm) (rl nm ar : Nat) (fi : Opd) (sy ou : Nat) (pr : Int32) (lf rt la : Opd), K.length = o →
    ∃ k, k ≤ 2 * (n - a) + 2 ∧ c_hb f n lu k ((rl, nm, mo, ar, fi) :: K, true, false, sy, -1, ou, pr, a, lf, rt, la) w
theorem nI_m1 {w : Nat} (h : w ≤ 4096) : ¬ nI w = -1 := by
  intro e
  have := congrArg Int32.toInt e
  rw [show ((-1 : Int32).toInt) = -1 from by decide, nI_toInt (by omega)] at this
  omega
/-- no operator between two sides goes on behind the term -/
def c_end (f : Nat → Int32) (n : Nat) (mo : Int32) (a : Nat) (r : Int32) : Prop := ¬ (0 < kn_inf (tok f n a).2.2.2.2 ∧ kn_inf (tok f n a).2.2.2.2 ≤ mo ∧ r ≤ kn_ml (tok f n a).2.2.2.2)
theorem q_int {o : Nat} {mo : Int32} {a : Nat} (ha : a ≤ n) (h : (tok f n a).1 = 1) : TOk f n lu o mo a (tok f n a).2.2.1 0 1 (setE (tok f n a).2.2.2.1, setN (tok f n a).2.2.2.1, 0, 0) 0 (0, 0, 0, 0) (0, 0, 0, 0) := by
  have t1 := tok_ok f ha
  have t2 := tok_pos f ha (by rw [h]; decide)
  refine ⟨by omega, by omega, fun K rl nm ar fi sy ou pr lf rt la hK => ⟨1, ou, lf, rt, by omega, ⟨fun z => absurd rfl z, fun _ => Or.inl rfl⟩, c_at1 rfl ?_⟩⟩
  rw [c_stp, if_pos rfl, if_neg (by rw [h]; decide), c_rop, if_neg (by rw [h]; decide), if_pos h]
  rfl
theorem q_var {o : Nat} {mo : Int32} {a : Nat} (ha : a ≤ n) (h : (tok f n a).1 = 0) : TOk f n lu o mo a (tok f n a).2.2.1 0 1 (c_vo f n lu a) 0 (0, 0, 0, 0) (0, 0, 0, 0) := by
  have t1 := tok_ok f ha
  have t2 := tok_pos f ha (by rw [h]; decide)
  refine ⟨by omega, by omega, fun K rl nm ar fi sy ou pr lf rt la hK => ⟨1, ou, lf, rt, by omega, ⟨fun z => absurd rfl z, fun _ => Or.inl rfl⟩, c_at1 rfl ?_⟩⟩
  rw [c_stp, if_pos rfl, if_neg (by rw [h]; decide), c_rop, if_pos h]
  rfl
/-- a token that no operand begins with -/
theorem q_no {o : Nat} {mo : Int32} {a : Nat} (hn : n ≤ 4096) (ha : a ≤ n) (h : ¬ ((tok f n a).1 = 0 ∨ (tok f n a).1 = 1 ∨ (tok f n a).1 = 2 ∨ (tok f n a).1 = 3 ∨ (tok f n a).1 = 5)) : TBad f n lu o mo a (tok f n a).2.1 := by
  have t1 := tok_ok f ha
  intro K rl nm ar fi sy ou pr lf rt la hK
  refine ⟨1, by omega, c_hb1 rfl (by
    rw [c_stp, if_pos rfl, if_neg (by omega), c_rop, if_neg (by omega), if_neg (by omega), if_neg (by omega), if_neg (by omega)]) rfl (nI_m1 (by omega))⟩
/-- what a begun term comes to: its frame over the others, or the break where 100 are open -/
theorem q_beg {o : Nat} {ro nm : Nat} {mo : Int32} {K : List Frm} (hK : K.length = o) (ho : o < 100) {du dn : Bool} {sy ou a : Nat} {pl pr : Int32} {lf rt la : Opd} : c_beg f n ro nm mo (K, du, dn, sy, pl, ou, pr, a, lf, rt, la) = ((ro, nm, mo, 0, la) :: K, true, dn, sy, pl, ou, 0, a, lf, rt, la) := by
  rw [c_beg, if_pos (by omega)]
theorem q_beg9 {o : Nat} {ro nm : Nat} {mo : Int32} {K : List Frm} (hK : K.length = o) (ho : ¬ o < 100) {du dn : Bool} {sy ou a : Nat} {pl pr : Int32} {lf rt la : Opd} : (c_beg f n ro nm mo (K, du, dn, sy, pl, ou, pr, a, lf, rt, la)).2.2.2.2.1 = nI (tok f n a).2.1 := by
  rw [c_beg, if_neg (by omega)]
/-- a term begun in parentheses -/
theorem q_par {o : Nat} {mo : Int32} {a a' : Nat} (ha : a ≤ n) (h : (tok f n a).1 = 3) (ho : o + 1 < 100) {r : Int32} {D ro : Nat} {w L9 R9 : Opd} (h1 : TOk f n lu (o + 1) 1200 (tok f n a).2.2.1 a' r D w ro L9 R9) (he : c_end f n 1200 a' r) (h2 : (tok f n a').1 = 4) : TOk f n lu o mo a (tok f n a').2.2.1 0 D w ro L9 R9 := by
  have t1 := tok_ok f ha
  have t2 := tok_pos f ha (by rw [h]; decide)
  obtain ⟨g1, g2, g3⟩ := h1
  have t3 := tok_ok f g2
  have t4 := tok_pos f g2 (by rw [h2]; decide)
  refine ⟨by omega, by omega, fun K rl nm ar fi sy ou pr lf rt la hK => ?_⟩
  obtain ⟨k, ou', lf', rt', hk, hr, hR⟩ := g3 ((rl, nm, mo, ar, fi) :: K) 1 0 0 la sy ou 0 lf rt la (by rw [List.length_cons, hK])
  refine ⟨1 + (k + 1), ou', lf', rt', by omega, hr, c_atT (c_at1 rfl ?_) (c_atT hR (c_at1 rfl ?_))⟩
  · rw [c_stp, if_pos rfl, if_neg (by rw [h]; decide), c_rop, if_neg (by rw [h]; decide), if_neg (by rw [h]; decide), if_pos h]
    exact q_beg (o := o + 1) (by rw [List.length_cons, hK]) ho
  · rw [c_stp, if_neg (by decide), c_go, if_neg he, if_pos rfl, c_eP, if_pos h2]
    rfl
theorem q_parB {o : Nat} {mo : Int32} {a w : Nat} (hn : n ≤ 4096) (ha : a ≤ n) (h : (tok f n a).1 = 3) (h1 : ¬ o + 1 < 100 ∧ w = (tok f n (tok f n a).2.2.1).2.1 ∨ o + 1 < 100 ∧ TBad f n lu (o + 1) 1200 (tok f n a).2.2.1 w) : TBad f n lu o mo a w := by
  have t1 := tok_ok f ha
  have t2 := tok_pos f ha (by rw [h]; decide)
  have t3 := tok_ok f (show (tok f n a).2.2.1 ≤ n by omega)
  intro K rl nm ar fi sy ou pr lf rt la hK
  have hs : c_stp f n lu ((rl, nm, mo, ar, fi) :: K, true, false, sy, -1, ou, pr, a, lf, rt, la) = c_beg f n 1 0 1200 ((rl, nm, mo, ar, fi) :: K, true, false, sy, -1, ou, pr, (tok f n a).2.2.1, lf, rt, la) := by
    rw [c_stp, if_pos rfl, if_neg (by rw [h]; decide), c_rop, if_neg (by rw [h]; decide), if_neg (by rw [h]; decide), if_pos h]
  rcases h1 with ⟨ho, rfl⟩ | ⟨ho, h1⟩
  · exact ⟨1, by omega, c_hb1 rfl hs (q_beg9 (o := o + 1) (by rw [List.length_cons, hK]) ho) (nI_m1 (by omega))⟩
  · obtain ⟨k, hk, hB⟩ := h1 ((rl, nm, mo, ar, fi) :: K) 1 0 0 la sy ou 0 lf rt la (by rw [List.length_cons, hK])
    exact ⟨1 + k, by omega, c_hbT (c_at1 rfl (hs.trans (q_beg (o := o + 1) (by rw [List.length_cons, hK]) ho))) hB⟩
theorem q_parN {o : Nat} {mo : Int32} {a a' : Nat} (hn : n ≤ 4096) (ha : a ≤ n) (h : (tok f n a).1 = 3) (ho : o + 1 < 100) {r : Int32} {D ro : Nat} {w L9 R9 : Opd} (h1 : TOk f n lu (o + 1) 1200 (tok f n a).2.2.1 a' r D w ro L9 R9) (he : c_end f n 1200 a' r) (h2 : ¬ (tok f n a').1 = 4) : TBad f n lu o mo a (tok f n a').2.1 := by
  have t1 := tok_ok f ha
  have t2 := tok_pos f ha (by rw [h]; decide)
  obtain ⟨g1, g2, g3⟩ := h1
  have t3 := tok_ok f g2
  intro K rl nm ar fi sy ou pr lf rt la hK
  obtain ⟨k, ou', lf', rt', hk, hr, hR⟩ := g3 ((rl, nm, mo, ar, fi) :: K) 1 0 0 la sy ou 0 lf rt la (by rw [List.length_cons, hK])
  refine ⟨1 + (k + 1), by omega, c_hbT (c_at1 rfl ?_) (c_hbT hR (c_hb1 rfl (s1 := c_brk f n ((1, 0, 1200, 0, la) :: (rl, nm, mo, ar, fi) :: K, false, false, sy + D, -1, ou', r, a', lf', rt', w)) ?_ rfl (nI_m1 (by omega))))⟩
  · rw [c_stp, if_pos rfl, if_neg (by rw [h]; decide), c_rop, if_neg (by rw [h]; decide), if_neg (by rw [h]; decide), if_pos h]
    exact q_beg (o := o + 1) (by rw [List.length_cons, hK]) ho
  · rw [c_stp, if_neg (by decide), c_go, if_neg he, if_pos rfl, c_eP, if_neg h2]
/-- an operator between two sides -/
theorem q_inf {o : Nat} {mo : Int32} {a a1 a2 : Nat} (ho : o + 1 < 100) {r1 r2 : Int32} {D1 D2 ro1 ro2 ro : Nat} {w1 w2 L1 R1 L2 R2 : Opd} (h1 : TOk f n lu o mo a a1 r1 D1 w1 ro1 L1 R1) (hi : ¬ c_end f n mo a1 r1) (h2 : TOk f n lu (o + 1) (kn_mr (tok f n a1).2.2.2.2) (tok f n a1).2.2.1 a2 r2 D2 w2 ro2 L2 R2) (he : c_end f n (kn_mr (tok f n a1).2.2.2.2) a2 r2) (hro : ro = (tok f n a1).2.2.2.2 ∨ ro = 0 ∧ (tok f n a1).2.2.2.2 ≤ 1) : TOk f n lu o mo a a2 (kn_inf (tok f n a1).2.2.2.2) (D1 + D2 + 1) ((rk2 (tok f n a1).2.2.2.2 w1.1 w1.2.1 w2.1 w2.2.1).1, (rk2 (tok f n a1).2.2.2.2 w1.1 w1.2.1 w2.1 w2.2.1).2, 0, 0) ro w1 w2 := by
  obtain ⟨g1, g2, g3⟩ := h1
  obtain ⟨b1, b2, b3⟩ := h2
  have t1 := tok_ok f g2
  have t2 : (tok f n a1).2.1 < (tok f n a1).2.2.1 := by
    refine tok_pos f g2 (fun z => hi ?_)
    rw [c_end, tok_nm f (by rw [z]; decide) (by rw [z]; decide)]
    exact fun y => absurd y.1 (by decide)
  refine ⟨by omega, b2, fun K rl nm ar fi sy ou pr lf rt la hK => ?_⟩
  obtain ⟨k1, ou1, lf1, rt1, hk1, hr1, hR1⟩ := g3 K rl nm ar fi sy ou pr lf rt la hK
  obtain ⟨k2, ou2, lf2, rt2, hk2, hr2, hR2⟩ := b3 ((rl, nm, mo, ar, fi) :: K) 3 (tok f n a1).2.2.2.2 0 w1 (sy + D1) ou1 0 lf1 rt1 w1 (by rw [List.length_cons, hK])
  refine ⟨k1 + (1 + (k2 + 1)), (tok f n a1).2.2.2.2, w1, w2, by omega, ?_, c_atT hR1 (c_atT (c_at1 rfl ?_) (c_atT hR2 (c_at1 rfl ?_)))⟩
  · rcases hro with h | ⟨h, h'⟩
    · exact ⟨fun _ => ⟨h.symm, rfl, rfl⟩, fun z => Or.inr (Or.inl (h ▸ z))⟩
    · exact ⟨fun z => absurd h z, fun _ => Or.inr (by omega)⟩
  · rw [c_stp, if_neg (by decide), c_go, if_pos (Classical.not_not.mp hi)]
    exact q_beg (o := o + 1) (by rw [List.length_cons, hK]) ho
  · rw [c_stp, if_neg (by decide), c_go, if_neg he, if_neg (by decide), if_neg (by decide), if_pos rfl, c_cmb, c_lv, if_pos (by decide), cbn, if_neg (by decide), if_pos (by decide), show sy + (D1 + D2 + 1) = sy + D1 + D2 + 1 from by omega]
    rfl
theorem q_infB {o : Nat} {mo : Int32} {a a1 w : Nat} (hn : n ≤ 4096) {r1 : Int32} {D1 ro1 : Nat} {w1 L1 R1 : Opd} (h1 : TOk f n lu o mo a a1 r1 D1 w1 ro1 L1 R1) (hi : ¬ c_end f n mo a1 r1) (h2 : ¬ o + 1 < 100 ∧ w = (tok f n (tok f n a1).2.2.1).2.1 ∨ o + 1 < 100 ∧ TBad f n lu (o + 1) (kn_mr (tok f n a1).2.2.2.2) (tok f n a1).2.2.1 w) : TBad f n lu o mo a w := by
  obtain ⟨g1, g2, g3⟩ := h1
  have t1 := tok_ok f g2
  have t3 := tok_ok f (show (tok f n a1).2.2.1 ≤ n by omega)
  have t2 : (tok f n a1).2.1 < (tok f n a1).2.2.1 := by
    refine tok_pos f g2 (fun z => hi ?_)
    rw [c_end, tok_nm f (by rw [z]; decide) (by rw [z]; decide)]
    exact fun y => absurd y.1 (by decide)
  intro K rl nm ar fi sy ou pr lf rt la hK
  obtain ⟨k1, ou1, lf1, rt1, hk1, hr1, hR1⟩ := g3 K rl nm ar fi sy ou pr lf rt la hK
  have hs : c_stp f n lu ((rl, nm, mo, ar, fi) :: K, false, false, sy + D1, -1, ou1, r1, a1, lf1, rt1, w1) = c_beg f n 3 (tok f n a1).2.2.2.2 (kn_mr (tok f n a1).2.2.2.2) ((rl, nm, mo, ar, fi) :: K, false, false, sy + D1, -1, ou1, r1, (tok f n a1).2.2.1, lf1, rt1, w1) := by
    rw [c_stp, if_neg (by decide), c_go, if_pos (Classical.not_not.mp hi)]
  rcases h2 with ⟨ho, rfl⟩ | ⟨ho, h2⟩
  · exact ⟨k1 + 1, by omega, c_hbT hR1 (c_hb1 rfl hs (q_beg9 (o := o + 1) (by rw [List.length_cons, hK]) ho) (nI_m1 (by omega)))⟩
  · obtain ⟨k, hk, hB⟩ := h2 ((rl, nm, mo, ar, fi) :: K) 3 (tok f n a1).2.2.2.2 0 w1 (sy + D1) ou1 0 lf1 rt1 w1 (by rw [List.length_cons, hK])
    exact ⟨k1 + (1 + k), by omega, c_hbT hR1 (c_hbT (c_at1 rfl (hs.trans (q_beg (o := o + 1) (by rw [List.length_cons, hK]) ho))) hB)⟩
/-- a row of arguments or elements begun -/
def ARg (f : Nat → Int32) (n : Nat) (lu : Nat → Nat → Option Int64) (o : Nat) (mo : Int32) (a rl9 nm9 i D ai : Nat) (fi9 : Opd) : Prop :=
  a < ai ∧ ai ≤ n ∧ ∀ (K : List Frm) (rl nm ar : Nat) (fi : Opd) (sy ou : Nat) (pr : Int32) (lf rt la : Opd), K.length = o →
    ∃ k ou' pr' lf' rt' la' fi', k + 1 ≤ 2 * (ai - a) ∧ (¬ i = 0 → fi' = fi9) ∧
      c_at f n lu k ((rl, nm, mo, ar, fi) :: K, true, false, sy, -1, ou, pr, a, lf, rt, la) ((rl9, nm9, 999, i, fi') :: (rl, nm, mo, ar, fi) :: K, true, false, sy + D, -1, ou', pr', ai, lf', rt', la')
theorem q_arg0 {o : Nat} {mo : Int32} {a : Nat} (ha : a ≤ n) (h : (tok f n a).1 = 2) (h1 : (tok f n (tok f n a).2.2.1).2.1 = (tok f n a).2.2.1) (h2 : (tok f n (tok f n a).2.2.1).1 = 3) (ho : o + 1 < 100) : ARg f n lu o mo a 4 (tok f n a).2.2.2.2 0 0 (tok f n (tok f n a).2.2.1).2.2.1 (0, 0, 0, 0) := by
  have t1 := tok_ok f ha
  have t2 := tok_pos f ha (by rw [h]; decide)
  have t3 := tok_ok f (show (tok f n a).2.2.1 ≤ n by omega)
  refine ⟨by omega, by omega, fun K rl nm ar fi sy ou pr lf rt la hK => ⟨1, ou, 0, lf, rt, la, la, by omega, fun z => absurd rfl z, c_at1 rfl ?_⟩⟩
  rw [c_stp, if_pos rfl, if_pos h, c_name, if_pos ⟨h1, h2⟩]
  exact q_beg (o := o + 1) (by rw [List.length_cons, hK]) ho
theorem q_arg9 {o : Nat} {mo : Int32} {a : Nat} (hn : n ≤ 4096) (ha : a ≤ n) (h : (tok f n a).1 = 2) (h1 : (tok f n (tok f n a).2.2.1).2.1 = (tok f n a).2.2.1) (h2 : (tok f n (tok f n a).2.2.1).1 = 3) (ho : ¬ o + 1 < 100) : TBad f n lu o mo a (tok f n (tok f n (tok f n a).2.2.1).2.2.1).2.1 := by
  have t1 := tok_ok f ha
  have t3 := tok_ok f (show (tok f n a).2.2.1 ≤ n by omega)
  have t4 := tok_ok f (show (tok f n (tok f n a).2.2.1).2.2.1 ≤ n by omega)
  intro K rl nm ar fi sy ou pr lf rt la hK
  refine ⟨1, by omega, c_hb1 rfl (by rw [c_stp, if_pos rfl, if_pos h, c_name, if_pos ⟨h1, h2⟩]) (q_beg9 (o := o + 1) (by rw [List.length_cons, hK]) ho) (nI_m1 (by omega))⟩
theorem q_ele0 {o : Nat} {mo : Int32} {a : Nat} (ha : a ≤ n) (h : (tok f n a).1 = 5) (ho : o + 1 < 100) : ARg f n lu o mo a 5 0 0 0 (tok f n a).2.2.1 (0, 0, 0, 0) := by
  have t1 := tok_ok f ha
  have t2 := tok_pos f ha (by rw [h]; decide)
  refine ⟨by omega, by omega, fun K rl nm ar fi sy ou pr lf rt la hK => ⟨1, ou, 0, lf, rt, la, la, by omega, fun z => absurd rfl z, c_at1 rfl ?_⟩⟩
  rw [c_stp, if_pos rfl, if_neg (by rw [h]; decide), c_rop, if_neg (by rw [h]; decide), if_neg (by rw [h]; decide), if_neg (by rw [h]; decide), if_pos h]
  exact q_beg (o := o + 1) (by rw [List.length_cons, hK]) ho
theorem q_ele9 {o : Nat} {mo : Int32} {a : Nat} (hn : n ≤ 4096) (ha : a ≤ n) (h : (tok f n a).1 = 5) (ho : ¬ o + 1 < 100) : TBad f n lu o mo a (tok f n (tok f n a).2.2.1).2.1 := by
  have t1 := tok_ok f ha
  have t3 := tok_ok f (show (tok f n a).2.2.1 ≤ n by omega)
  intro K rl nm ar fi sy ou pr lf rt la hK
  refine ⟨1, by omega, c_hb1 rfl (by rw [c_stp, if_pos rfl, if_neg (by rw [h]; decide), c_rop, if_neg (by rw [h]; decide), if_neg (by rw [h]; decide), if_neg (by rw [h]; decide), if_pos h]) (q_beg9 (o := o + 1) (by rw [List.length_cons, hK]) ho) (nI_m1 (by omega))⟩
/-- the term that is read in a row breaks -/
theorem q_rowB {o : Nat} {mo : Int32} {a rl9 nm9 i D ai w : Nat} {fi9 : Opd} (h : ARg f n lu o mo a rl9 nm9 i D ai fi9) (hB : TBad f n lu (o + 1) 999 ai w) : TBad f n lu o mo a w := by
  obtain ⟨g1, g2, g3⟩ := h
  intro K rl nm ar fi sy ou pr lf rt la hK
  obtain ⟨k, ou', pr', lf', rt', la', fi', hk, _, hR⟩ := g3 K rl nm ar fi sy ou pr lf rt la hK
  obtain ⟨k2, hk2, hB⟩ := hB ((rl, nm, mo, ar, fi) :: K) rl9 nm9 i fi' (sy + D) ou' pr' lf' rt' la' (by rw [List.length_cons, hK])
  exact ⟨k + k2, by omega, c_hbT hR hB⟩
/-- a term read in a row, then one step more -/
theorem q_rowS {o : Nat} {mo : Int32} {a rl9 nm9 i D ai a' ro : Nat} {fi9 : Opd} (h : ARg f n lu o mo a rl9 nm9 i D ai fi9) {r : Int32} {D' : Nat} {w L9 R9 : Opd} (h1 : TOk f n lu (o + 1) 999 ai a' r D' w ro L9 R9) (K : List Frm) (rl nm ar : Nat) (fi : Opd) (sy ou : Nat) (pr : Int32) (lf rt la : Opd) (hK : K.length = o) :
    ∃ k ou' lf' rt' fi', k + 2 ≤ 2 * (a' - a) ∧ (¬ i = 0 → fi' = fi9) ∧
      c_at f n lu k ((rl, nm, mo, ar, fi) :: K, true, false, sy, -1, ou, pr, a, lf, rt, la) ((rl9, nm9, 999, i, fi') :: (rl, nm, mo, ar, fi) :: K, false, false, sy + D + D', -1, ou', r, a', lf', rt', w) := by
  obtain ⟨g1, g2, g3⟩ := h
  obtain ⟨b1, b2, b3⟩ := h1
  obtain ⟨k, ou', pr', lf', rt', la', fi', hk, hf, hR⟩ := g3 K rl nm ar fi sy ou pr lf rt la hK
  obtain ⟨k2, ou2, lf2, rt2, hk2, _, hR2⟩ := b3 ((rl, nm, mo, ar, fi) :: K) rl9 nm9 i fi' (sy + D) ou' pr' lf' rt' la' (by rw [List.length_cons, hK])
  exact ⟨k + k2, ou2, lf2, rt2, fi', by omega, hf, c_atT hR hR2⟩
theorem q_argC {o : Nat} {mo : Int32} {a nm9 i D ai a' ro : Nat} {fi9 : Opd} (h : ARg f n lu o mo a 4 nm9 i D ai fi9) {r : Int32} {D' : Nat} {w L9 R9 : Opd} (h1 : TOk f n lu (o + 1) 999 ai a' r D' w ro L9 R9) (he : c_end f n 999 a' r) (h2 : (tok f n a').1 = 7) (hi : ¬ i = 7) : ARg f n lu o mo a 4 nm9 (i + 1) (D + D') (tok f n a').2.2.1 (if i = 0 then w else fi9) := by
  have g := h1.2.1
  have g0 := h1.1
  have g' := h.1
  have t1 := tok_ok f g
  refine ⟨by omega, by omega, fun K rl nm ar fi sy ou pr lf rt la hK => ?_⟩
  obtain ⟨k, ou', lf', rt', fi', hk, hf, hR⟩ := q_rowS h h1 K rl nm ar fi sy ou pr lf rt la hK
  refine ⟨k + 1, ou', r, lf', rt', w, (if i = 0 then w else fi'), by omega, fun _ => ?_, c_atT hR (c_at1 rfl ?_)⟩
  · by_cases h0 : i = 0
    · rw [if_pos h0, if_pos h0]
    · rw [if_neg h0, if_neg h0, hf h0]
  · rw [c_stp, if_neg (by decide), c_go, if_neg he, if_neg (by decide), if_neg (by decide), if_neg (by decide), if_pos rfl, c_eA, if_neg (by rw [h2]; decide), if_pos h2, if_neg hi, show sy + (D + D') = sy + D + D' from by omega]
theorem q_argE {o : Nat} {mo : Int32} {a nm9 i D ai a' ro : Nat} {fi9 : Opd} (h : ARg f n lu o mo a 4 nm9 i D ai fi9) {r : Int32} {D' : Nat} {w L9 R9 : Opd} (h1 : TOk f n lu (o + 1) 999 ai a' r D' w ro L9 R9) (he : c_end f n 999 a' r) (h2 : (tok f n a').1 = 4) (hi8 : i < 8) : TOk f n lu o mo a (tok f n a').2.2.1 0 (D + D' + 1) ((if i = 0 then rk1 nm9 w.1 w.2.1 else if i = 1 then rk2 nm9 fi9.1 fi9.2.1 w.1 w.2.1 else (2, 0)).1, (if i = 0 then rk1 nm9 w.1 w.2.1 else if i = 1 then rk2 nm9 fi9.1 fi9.2.1 w.1 w.2.1 else (2, 0)).2, 0, 0) (if i = 1 then nm9 else 0) fi9 w := by
  have g := h1.2.1
  have g0 := h1.1
  have g' := h.1
  have t1 := tok_ok f g
  have t2 := tok_pos f g (by rw [h2]; decide)
  refine ⟨by omega, by omega, fun K rl nm ar fi sy ou pr lf rt la hK => ?_⟩
  obtain ⟨k, ou', lf', rt', fi', hk, hf, hR⟩ := q_rowS h h1 K rl nm ar fi sy ou pr lf rt la hK
  refine ⟨k + 1, (if i = 1 then nm9 else 0), (if i = 0 then w else fi'), w, by omega, ?_, c_atT hR (c_at1 rfl ?_)⟩
  · by_cases h0 : i = 1
    · rw [if_pos h0, if_neg (by omega), hf (by omega)]
      exact ⟨fun _ => ⟨rfl, rfl, rfl⟩, fun z => Or.inr (Or.inl z)⟩
    · rw [if_neg h0]
      exact ⟨fun z => absurd rfl z, fun _ => Or.inr (Or.inl rfl)⟩
  · rw [c_stp, if_neg (by decide), c_go, if_neg he, if_neg (by decide), if_neg (by decide), if_neg (by decide), if_pos rfl, c_eA, if_pos h2, c_cmb, c_lv, show sy + (D + D' + 1) = sy + D + D' + 1 from by omega]
    have e1 : (nI (i + 1) = 1) ↔ i = 0 := by rw [show (1 : Int32) = nI 1 from rfl, nI_eq (by omega) (by omega)]; omega
    have e2 : (nI (i + 1) = 2) ↔ i = 1 := by rw [show (2 : Int32) = nI 2 from rfl, nI_eq (by omega) (by omega)]; omega
    by_cases h0 : i = 0
    · have e3 : ¬ i = 1 := by omega
      simp [h0, cbn, show nI 1 = (1 : Int32) from rfl]
    · have e4 : ¬ nI (i + 1) = 1 := by rw [e1]; exact h0
      by_cases h1 : i = 1
      · simp [h1, cbn, hf h0, show nI 2 = (2 : Int32) from rfl]
      · have e5 : ¬ nI (i + 1) = 2 := by rw [e2]; exact h1
        simp [h0, h1, cbn, hf h0, e4, e5]
theorem q_arg8 {o : Nat} {mo : Int32} {a nm9 D ai a' ro : Nat} {fi9 : Opd} (hn : n ≤ 4096) (h : ARg f n lu o mo a 4 nm9 7 D ai fi9) {r : Int32} {D' : Nat} {w L9 R9 : Opd} (h1 : TOk f n lu (o + 1) 999 ai a' r D' w ro L9 R9) (he : c_end f n 999 a' r) (h2 : (tok f n a').1 = 7) : TBad f n lu o mo a (tok f n (tok f n a').2.2.1).2.1 := by
  have g := h1.2.1
  have g0 := h1.1
  have g' := h.1
  have t1 := tok_ok f g
  have t2 := tok_ok f (show (tok f n a').2.2.1 ≤ n by omega)
  intro K rl nm ar fi sy ou pr lf rt la hK
  obtain ⟨k, ou', lf', rt', fi', hk, hf, hR⟩ := q_rowS h h1 K rl nm ar fi sy ou pr lf rt la hK
  refine ⟨k + 1, by omega, c_hbT hR (c_hb1 rfl (by rw [c_stp, if_neg (by decide), c_go, if_neg he, if_neg (by decide), if_neg (by decide), if_neg (by decide), if_pos rfl, c_eA, if_neg (by rw [h2]; decide), if_pos h2, if_pos rfl, c_brk]) rfl (nI_m1 (by omega)))⟩
theorem q_argN {o : Nat} {mo : Int32} {a nm9 i D ai a' ro : Nat} {fi9 : Opd} (hn : n ≤ 4096) (h : ARg f n lu o mo a 4 nm9 i D ai fi9) {r : Int32} {D' : Nat} {w L9 R9 : Opd} (h1 : TOk f n lu (o + 1) 999 ai a' r D' w ro L9 R9) (he : c_end f n 999 a' r) (h2 : ¬ (tok f n a').1 = 7) (h4 : ¬ (tok f n a').1 = 4) : TBad f n lu o mo a (tok f n a').2.1 := by
  have g := h1.2.1
  have g0 := h1.1
  have g' := h.1
  have t1 := tok_ok f g
  intro K rl nm ar fi sy ou pr lf rt la hK
  obtain ⟨k, ou', lf', rt', fi', hk, hf, hR⟩ := q_rowS h h1 K rl nm ar fi sy ou pr lf rt la hK
  refine ⟨k + 1, by omega, c_hbT hR (c_hb1 rfl (by rw [c_stp, if_neg (by decide), c_go, if_neg he, if_neg (by decide), if_neg (by decide), if_neg (by decide), if_pos rfl, c_eA, if_neg h4, if_neg h2, c_brk]) rfl (nI_m1 (by omega)))⟩
/-- elements of a list -/
theorem q_eleC {o : Nat} {mo : Int32} {a D ai a' ro : Nat} {fi9 : Opd} (h : ARg f n lu o mo a 5 0 0 D ai fi9) {r : Int32} {D' : Nat} {w L9 R9 : Opd} (h1 : TOk f n lu (o + 1) 999 ai a' r D' w ro L9 R9) (he : c_end f n 999 a' r) (h2 : (tok f n a').1 = 7 ∨ (tok f n a').1 = 8) : ARg f n lu o mo a (if (tok f n a').1 = 8 then 6 else 5) 0 0 (D + D' + 1) (tok f n a').2.2.1 fi9 := by
  have g := h1.2.1
  have g0 := h1.1
  have g' := h.1
  have t1 := tok_ok f g
  refine ⟨by omega, by omega, fun K rl nm ar fi sy ou pr lf rt la hK => ?_⟩
  obtain ⟨k, ou', lf', rt', fi', hk, hf, hR⟩ := q_rowS h h1 K rl nm ar fi sy ou pr lf rt la hK
  refine ⟨k + 1, ou', r, lf', rt', w, fi', by omega, fun z => absurd rfl z, c_atT hR (c_at1 rfl ?_)⟩
  rw [c_stp, if_neg (by decide), c_go, if_neg he, if_neg (by decide), if_neg (by decide), if_neg (by decide), if_neg (by decide), if_pos rfl, c_eE, if_neg (by omega), if_pos h2, show sy + (D + D' + 1) = sy + D + D' + 1 from by omega]
theorem q_eleE {o : Nat} {mo : Int32} {a D ai a' ro : Nat} {fi9 : Opd} (h : ARg f n lu o mo a 5 0 0 D ai fi9) {r : Int32} {D' : Nat} {w L9 R9 : Opd} (h1 : TOk f n lu (o + 1) 999 ai a' r D' w ro L9 R9) (he : c_end f n 999 a' r) (h2 : (tok f n a').1 = 6) : TOk f n lu o mo a (tok f n a').2.2.1 0 (D + D' + 2) (2, 0, 0, 0) 0 (0, 0, 0, 0) (0, 0, 0, 0) := by
  have g := h1.2.1
  have g0 := h1.1
  have g' := h.1
  have t1 := tok_ok f g
  have t2 := tok_pos f g (by rw [h2]; decide)
  refine ⟨by omega, by omega, fun K rl nm ar fi sy ou pr lf rt la hK => ?_⟩
  obtain ⟨k, ou', lf', rt', fi', hk, hf, hR⟩ := q_rowS h h1 K rl nm ar fi sy ou pr lf rt la hK
  refine ⟨k + 1, 0, lf', rt', by omega, ⟨fun z => absurd rfl z, fun _ => Or.inr (Or.inl rfl)⟩, c_atT hR (c_at1 rfl ?_)⟩
  rw [c_stp, if_neg (by decide), c_go, if_neg he, if_neg (by decide), if_neg (by decide), if_neg (by decide), if_neg (by decide), if_pos rfl, c_eE, if_pos h2, c_eL, if_pos h2, show sy + (D + D' + 2) = sy + D + D' + 2 from by omega]
  rfl
theorem q_eleN {o : Nat} {mo : Int32} {a D ai a' ro : Nat} {fi9 : Opd} (hn : n ≤ 4096) (h : ARg f n lu o mo a 5 0 0 D ai fi9) {r : Int32} {D' : Nat} {w L9 R9 : Opd} (h1 : TOk f n lu (o + 1) 999 ai a' r D' w ro L9 R9) (he : c_end f n 999 a' r) (h2 : ¬ ((tok f n a').1 = 6 ∨ (tok f n a').1 = 7 ∨ (tok f n a').1 = 8)) : TBad f n lu o mo a (tok f n a').2.1 := by
  have g := h1.2.1
  have g0 := h1.1
  have g' := h.1
  have t1 := tok_ok f g
  intro K rl nm ar fi sy ou pr lf rt la hK
  obtain ⟨k, ou', lf', rt', fi', hk, hf, hR⟩ := q_rowS h h1 K rl nm ar fi sy ou pr lf rt la hK
  refine ⟨k + 1, by omega, c_hbT hR (c_hb1 rfl (by rw [c_stp, if_neg (by decide), c_go, if_neg he, if_neg (by decide), if_neg (by decide), if_neg (by decide), if_neg (by decide), if_pos rfl, c_eE, if_neg (by omega), if_neg (by omega), c_brk]) rfl (nI_m1 (by omega)))⟩
theorem q_taiE {o : Nat} {mo : Int32} {a D ai a' ro : Nat} {fi9 : Opd} (h : ARg f n lu o mo a 6 0 0 D ai fi9) {r : Int32} {D' : Nat} {w L9 R9 : Opd} (h1 : TOk f n lu (o + 1) 999 ai a' r D' w ro L9 R9) (he : c_end f n 999 a' r) (h2 : (tok f n a').1 = 6) : TOk f n lu o mo a (tok f n a').2.2.1 0 (D + D') (2, 0, 0, 0) 0 (0, 0, 0, 0) (0, 0, 0, 0) := by
  have g := h1.2.1
  have g0 := h1.1
  have g' := h.1
  have t1 := tok_ok f g
  have t2 := tok_pos f g (by rw [h2]; decide)
  refine ⟨by omega, by omega, fun K rl nm ar fi sy ou pr lf rt la hK => ?_⟩
  obtain ⟨k, ou', lf', rt', fi', hk, hf, hR⟩ := q_rowS h h1 K rl nm ar fi sy ou pr lf rt la hK
  refine ⟨k + 1, 0, lf', rt', by omega, ⟨fun z => absurd rfl z, fun _ => Or.inr (Or.inl rfl)⟩, c_atT hR (c_at1 rfl ?_)⟩
  rw [c_stp, if_neg (by decide), c_go, if_neg he, if_neg (by decide), if_neg (by decide), if_neg (by decide), if_neg (by decide), if_neg (by decide), if_pos rfl, c_eL, if_pos h2, show sy + (D + D') = sy + D + D' from by omega]
  rfl
theorem q_taiN {o : Nat} {mo : Int32} {a D ai a' ro : Nat} {fi9 : Opd} (hn : n ≤ 4096) (h : ARg f n lu o mo a 6 0 0 D ai fi9) {r : Int32} {D' : Nat} {w L9 R9 : Opd} (h1 : TOk f n lu (o + 1) 999 ai a' r D' w ro L9 R9) (he : c_end f n 999 a' r) (h2 : ¬ (tok f n a').1 = 6) : TBad f n lu o mo a (tok f n a').2.1 := by
  have g := h1.2.1
  have g0 := h1.1
  have g' := h.1
  have t1 := tok_ok f g
  intro K rl nm ar fi sy ou pr lf rt la hK
  obtain ⟨k, ou', lf', rt', fi', hk, hf, hR⟩ := q_rowS h h1 K rl nm ar fi sy ou pr lf rt la hK
  refine ⟨k + 1, by omega, c_hbT hR (c_hb1 rfl (by rw [c_stp, if_neg (by decide), c_go, if_neg he, if_neg (by decide), if_neg (by decide), if_neg (by decide), if_neg (by decide), if_neg (by decide), if_pos rfl, c_eL, if_neg h2, c_brk]) rfl (nI_m1 (by omega)))⟩
/-- names -/
theorem q_neg {o : Nat} {mo : Int32} {a : Nat} (ha : a ≤ n) (h : (tok f n a).1 = 2) (h1 : (tok f n (tok f n a).2.2.1).2.1 = (tok f n a).2.2.1) (h2 : (tok f n (tok f n a).2.2.1).1 = 1) (h3 : (tok f n a).2.2.2.2 = 18) : TOk f n lu o mo a (tok f n (tok f n a).2.2.1).2.2.1 0 1 (setE (-(tok f n (tok f n a).2.2.1).2.2.2.1), setN (-(tok f n (tok f n a).2.2.1).2.2.2.1), 0, 0) 0 (0, 0, 0, 0) (0, 0, 0, 0) := by
  have t1 := tok_ok f ha
  have t2 := tok_pos f ha (by rw [h]; decide)
  have t3 := tok_ok f (show (tok f n a).2.2.1 ≤ n by omega)
  refine ⟨by omega, by omega, fun K rl nm ar fi sy ou pr lf rt la hK => ⟨1, ou, lf, rt, by omega, ⟨fun z => absurd rfl z, fun _ => Or.inl rfl⟩, c_at1 rfl ?_⟩⟩
  rw [c_stp, if_pos rfl, if_pos h, c_name, if_neg (by rw [h2]; omega), if_pos ⟨h1, h2, h3⟩]
  rfl
/-- neither ( nor a number of - stands right behind the name -/
def c_pl (f : Nat → Int32) (n a : Nat) : Prop := ¬ ((tok f n (tok f n a).2.2.1).2.1 = (tok f n a).2.2.1 ∧ (tok f n (tok f n a).2.2.1).1 = 3) ∧ ¬ ((tok f n (tok f n a).2.2.1).2.1 = (tok f n a).2.2.1 ∧ (tok f n (tok f n a).2.2.1).1 = 1 ∧ (tok f n a).2.2.2.2 = 18)
def c_pf (f : Nat → Int32) (n : Nat) (mo : Int32) (a : Nat) : Prop := 0 < kn_pf (tok f n a).2.2.2.2 ∧ kn_pf (tok f n a).2.2.2.2 ≤ mo ∧ c_can (tok f n (tok f n a).2.2.1) = true
theorem q_pre {o : Nat} {mo : Int32} {a a' : Nat} (ha : a ≤ n) (h : (tok f n a).1 = 2) (hp : c_pl f n a) (hq : c_pf f n mo a) (ho : o + 1 < 100) {r : Int32} {D ro : Nat} {w L9 R9 : Opd} (h1 : TOk f n lu (o + 1) (kn_pf (tok f n a).2.2.2.2) (tok f n a).2.2.1 a' r D w ro L9 R9) (he : c_end f n (kn_pf (tok f n a).2.2.2.2) a' r) : TOk f n lu o mo a a' (kn_pf (tok f n a).2.2.2.2) (D + 1) ((rk1 (tok f n a).2.2.2.2 w.1 w.2.1).1, (rk1 (tok f n a).2.2.2.2 w.1 w.2.1).2, 0, 0) 0 (0, 0, 0, 0) (0, 0, 0, 0) := by
  have t1 := tok_ok f ha
  have t2 := tok_pos f ha (by rw [h]; decide)
  obtain ⟨g1, g2, g3⟩ := h1
  refine ⟨by omega, by omega, fun K rl nm ar fi sy ou pr lf rt la hK => ?_⟩
  obtain ⟨k, ou', lf', rt', hk, hr, hR⟩ := g3 ((rl, nm, mo, ar, fi) :: K) 2 (tok f n a).2.2.2.2 0 la sy ou 0 lf rt la (by rw [List.length_cons, hK])
  refine ⟨1 + (k + 1), 0, la, w, by omega, ⟨fun z => absurd rfl z, fun _ => Or.inr (Or.inl rfl)⟩, c_atT (c_at1 rfl ?_) (c_atT hR (c_at1 rfl ?_))⟩
  · rw [c_stp, if_pos rfl, if_pos h, c_name, if_neg hp.1, if_neg hp.2, if_pos (show 0 < kn_pf (tok f n a).2.2.2.2 ∧ kn_pf (tok f n a).2.2.2.2 ≤ c_mo ((rl, nm, mo, ar, fi) :: K) ∧ c_can (tok f n (tok f n a).2.2.1) = true from hq)]
    exact q_beg (o := o + 1) (by rw [List.length_cons, hK]) ho
  · rw [c_stp, if_neg (by decide), c_go, if_neg he, if_neg (by decide), if_pos rfl, c_cmb, c_lv, if_neg (by decide), cbn, if_pos (by decide)]
    rfl
theorem q_preB {o : Nat} {mo : Int32} {a w : Nat} (hn : n ≤ 4096) (ha : a ≤ n) (h : (tok f n a).1 = 2) (hp : c_pl f n a) (hq : c_pf f n mo a) (h1 : ¬ o + 1 < 100 ∧ w = (tok f n (tok f n a).2.2.1).2.1 ∨ o + 1 < 100 ∧ TBad f n lu (o + 1) (kn_pf (tok f n a).2.2.2.2) (tok f n a).2.2.1 w) : TBad f n lu o mo a w := by
  have t1 := tok_ok f ha
  have t2 := tok_pos f ha (by rw [h]; decide)
  have t3 := tok_ok f (show (tok f n a).2.2.1 ≤ n by omega)
  intro K rl nm ar fi sy ou pr lf rt la hK
  have hs : c_stp f n lu ((rl, nm, mo, ar, fi) :: K, true, false, sy, -1, ou, pr, a, lf, rt, la) = c_beg f n 2 (tok f n a).2.2.2.2 (kn_pf (tok f n a).2.2.2.2) ((rl, nm, mo, ar, fi) :: K, true, false, sy, -1, ou, pr, (tok f n a).2.2.1, lf, rt, la) := by
    rw [c_stp, if_pos rfl, if_pos h, c_name, if_neg hp.1, if_neg hp.2, if_pos (show 0 < kn_pf (tok f n a).2.2.2.2 ∧ kn_pf (tok f n a).2.2.2.2 ≤ c_mo ((rl, nm, mo, ar, fi) :: K) ∧ c_can (tok f n (tok f n a).2.2.1) = true from hq)]
  rcases h1 with ⟨ho, rfl⟩ | ⟨ho, h1⟩
  · exact ⟨1, by omega, c_hb1 rfl hs (q_beg9 (o := o + 1) (by rw [List.length_cons, hK]) ho) (nI_m1 (by omega))⟩
  · obtain ⟨k, hk, hB⟩ := h1 ((rl, nm, mo, ar, fi) :: K) 2 (tok f n a).2.2.2.2 0 la sy ou 0 lf rt la (by rw [List.length_cons, hK])
    exact ⟨1 + k, by omega, c_hbT (c_at1 rfl (hs.trans (q_beg (o := o + 1) (by rw [List.length_cons, hK]) ho))) hB⟩
theorem q_atom {o : Nat} {mo : Int32} {a : Nat} (ha : a ≤ n) (h : (tok f n a).1 = 2) (hp : c_pl f n a) (hq : ¬ c_pf f n mo a) : TOk f n lu o mo a (tok f n a).2.2.1 0 1 (2, 0, 0, 0) 0 (0, 0, 0, 0) (0, 0, 0, 0) := by
  have t1 := tok_ok f ha
  have t2 := tok_pos f ha (by rw [h]; decide)
  refine ⟨by omega, by omega, fun K rl nm ar fi sy ou pr lf rt la hK => ⟨1, ou, lf, rt, by omega, ⟨fun z => absurd rfl z, fun _ => Or.inl rfl⟩, c_at1 rfl ?_⟩⟩
  rw [c_stp, if_pos rfl, if_pos h, c_name, if_neg hp.1, if_neg hp.2, if_neg (show ¬ (0 < kn_pf (tok f n a).2.2.2.2 ∧ kn_pf (tok f n a).2.2.2.2 ≤ c_mo ((rl, nm, mo, ar, fi) :: K) ∧ c_can (tok f n (tok f n a).2.2.1) = true) from hq)]
  rfl
/-- a prefix before a sign that nothing begins with: the class begins a term and breaks there -/
theorem q_preX {o : Nat} {mo : Int32} {a : Nat} (hn : n ≤ 4096) (ha : a ≤ n) (h : (tok f n a).1 = 2) (hp : c_pl f n a) (hq : c_pf f n mo a) (h1 : (tok f n (tok f n a).2.2.1).1 = 10 ∨ (tok f n (tok f n a).2.2.1).1 = 11) : TBad f n lu o mo a (tok f n (tok f n a).2.2.1).2.1 := by
  have t1 := tok_ok f ha
  refine q_preB hn ha h hp hq ?_
  by_cases ho : o + 1 < 100
  · exact Or.inr ⟨ho, q_no hn (by omega) (by omega)⟩
  · exact Or.inl ⟨ho, rfl⟩
/-- the whole reading -/
def c_s0 (lf rt la : Opd) : Cfg := ([(0, 0, 1200, 0, la)], true, false, 0, -1, 0, 0, 0, lf, rt, la)
theorem q_runB {w : Nat} (hn : n ≤ 4096) (h : TBad f n lu 0 1200 0 w) (lf rt la : Opd) : (c_run f n lu 16384 (c_s0 lf rt la)).2.2.2.2.1 = nI w := by
  obtain ⟨k, hk, s', h1, h2⟩ := h [] 0 0 0 la 0 0 0 lf rt la rfl
  have := h2 (16384 - k)
  rw [show 16384 - k + k = 16384 from by omega] at this
  rw [c_s0, this, h1]
theorem q_run {a' : Nat} (hn : n ≤ 4096) {r : Int32} {D ro : Nat} {w L9 R9 : Opd} (h : TOk f n lu 0 1200 0 a' r D w ro L9 R9) (he : c_end f n 1200 a' r) (h1 : (tok f n a').1 = 9) (h2 : (tok f n (tok f n a').2.2.1).1 = 10) (lf rt la : Opd) :
    ∃ ou' lf' rt', c_ro ro L9 R9 0 ou' lf' rt' ∧ c_run f n lu 16384 (c_s0 lf rt la) = ([(0, 0, 1200, 0, la)], false, true, D, -1, ou', r, (tok f n a').2.2.1, lf', rt', w) := by
  obtain ⟨g1, g2, g3⟩ := h
  obtain ⟨k, ou', lf', rt', hk, hr, hR⟩ := g3 [] 0 0 0 la 0 0 0 lf rt la rfl
  refine ⟨ou', lf', rt', hr, ?_⟩
  have e := hR (16384 - k)
  rw [show 16384 - k + k = 16384 from by omega] at e
  rw [c_s0, e, show 16384 - k = (16384 - k - 1) + 1 from by omega, c_run, if_pos (by rfl), c_stp, if_neg (by decide), c_go, if_neg he, if_neg (by decide), if_neg (by decide), if_neg (by decide), if_neg (by decide), if_neg (by decide), if_neg (by decide), c_eW, if_pos h1, if_pos h2, Nat.zero_add]
  generalize 16384 - k - 1 = m
  cases m with
  | zero => rfl
  | succ m => rw [c_run, if_neg (by exact (by decide : ¬ false = true))]
theorem q_runN {a' : Nat} (hn : n ≤ 4096) {r : Int32} {D ro : Nat} {w L9 R9 : Opd} (h : TOk f n lu 0 1200 0 a' r D w ro L9 R9) (he : c_end f n 1200 a' r) (h1 : ¬ (tok f n a').1 = 9) (lf rt la : Opd) : (c_run f n lu 16384 (c_s0 lf rt la)).2.2.2.2.1 = nI (tok f n a').2.1 := by
  obtain ⟨g1, g2, g3⟩ := h
  have t1 := tok_ok f g2
  obtain ⟨k, ou', lf', rt', hk, hr, hR⟩ := g3 [] 0 0 0 la 0 0 0 lf rt la rfl
  have e := hR (16384 - k)
  rw [show 16384 - k + k = 16384 from by omega] at e
  rw [c_s0, e, show 16384 - k = (16384 - k - 1) + 1 from by omega, c_run, if_pos (by rfl), c_stp, if_neg (by decide), c_go, if_neg he, if_neg (by decide), if_neg (by decide), if_neg (by decide), if_neg (by decide), if_neg (by decide), if_neg (by decide), c_eW, if_neg h1, c_brk, c_runH (nI_m1 (by omega))]
theorem q_runE {a' : Nat} (hn : n ≤ 4096) {r : Int32} {D ro : Nat} {w L9 R9 : Opd} (h : TOk f n lu 0 1200 0 a' r D w ro L9 R9) (he : c_end f n 1200 a' r) (h1 : (tok f n a').1 = 9) (h2 : ¬ (tok f n (tok f n a').2.2.1).1 = 10) (lf rt la : Opd) : (c_run f n lu 16384 (c_s0 lf rt la)).2.2.2.2.1 = nI (tok f n (tok f n a').2.2.1).2.1 := by
  obtain ⟨g1, g2, g3⟩ := h
  have t1 := tok_ok f g2
  have t2 := tok_ok f (show (tok f n a').2.2.1 ≤ n by omega)
  obtain ⟨k, ou', lf', rt', hk, hr, hR⟩ := g3 [] 0 0 0 la 0 0 0 lf rt la rfl
  have e := hR (16384 - k)
  rw [show 16384 - k + k = 16384 from by omega] at e
  rw [c_s0, e, show 16384 - k = (16384 - k - 1) + 1 from by omega, c_run, if_pos (by rfl), c_stp, if_neg (by decide), c_go, if_neg he, if_neg (by decide), if_neg (by decide), if_neg (by decide), if_neg (by decide), if_neg (by decide), if_neg (by decide), c_eW, if_pos h1, if_neg h2, c_brk, c_runH (nI_m1 (by omega))]
end CL1
