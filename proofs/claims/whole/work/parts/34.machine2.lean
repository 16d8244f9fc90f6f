/-! THE CLASS'S READING AS A PURE MACHINE (mine): open terms as a row (the innermost first), a step for each round of read's loop; cs: the memory holds that state -/
abbrev Opd : Type := Int32 × Int64 × Int32 × Int32
abbrev Frm : Type := Nat × Nat × Int32 × Nat × Opd
abbrev Cfg : Type := List Frm × Bool × Bool × Nat × Int32 × Nat × Int32 × Nat × Opd × Opd × Opd
def c_brk (f : Nat → Int32) (n : Nat) (s : Cfg) : Cfg := match s with
  | (K, du, dn, sy, _, ou, pr, a, lf, rt, la) => (K, du, dn, sy, nI (tok f n a).2.1, ou, pr, a, lf, rt, la)
def c_beg (f : Nat → Int32) (n : Nat) (ro nm : Nat) (mo : Int32) (s : Cfg) : Cfg := match s with
  | (K, du, dn, sy, pl, ou, pr, a, lf, rt, la) => if K.length < 100 then ((ro, nm, mo, 0, la) :: K, true, dn, sy, pl, ou, 0, a, lf, rt, la) else (K, du, dn, sy, nI (tok f n a).2.1, ou, pr, a, lf, rt, la)
def c_nxt (f : Nat → Int32) (n : Nat) (s : Cfg) : Cfg := match s with
  | (K, du, dn, sy, pl, ou, pr, a, lf, rt, la) => (K, du, dn, sy, pl, ou, pr, (tok f n a).2.2.1, lf, rt, la)
def c_opd (o : Opd) (s : Cfg) : Cfg := match s with
  | (K, _, dn, sy, pl, ou, _, a, lf, rt, _) => (K, false, dn, sy + 1, pl, ou, 0, a, lf, rt, o)
def c_lv (p : Int32) (s : Cfg) : Cfg := match s with
  | (K, du, dn, sy, pl, ou, _, a, lf, rt, la) => (K.tail, du, dn, sy, pl, ou, p, a, lf, rt, la)
def c_cmb (k : Nat) (m : Nat) (fi : Opd) (s : Cfg) : Cfg := match s with
  | (K, du, dn, sy, pl, _, pr, a, _, _, la) => (K, du, dn, sy + 1, pl, (if nI m = 2 then k else 0), pr, a, fi, la, ((cbn (nI m) k fi.1 fi.2.1 la.1 la.2.1).1, (cbn (nI m) k fi.1 fi.2.1 la.1 la.2.1).2, 0, 0))
def c_int (f : Nat → Int32) (n : Nat) (v : Int64) (s : Cfg) : Cfg := c_opd (setE v, setN v, 0, 0) (c_nxt f n s)
def c_vo (f : Nat → Int32) (n : Nat) (lu : Nat → Nat → Option Int64) (a : Nat) : Opd :=
  ((match lu (tok f n a).2.1 (tok f n a).2.2.1 with
    | none => 1
    | some v => setE v),
   (match lu (tok f n a).2.1 (tok f n a).2.2.1 with
    | none => 0
    | some v => setN v),
   (if (tok f n a).2.2.1 = (tok f n a).2.1 + 1 ∧ tb f n (tok f n a).2.1 = 95 then 0 else nI (tok f n a).2.1),
   (if (tok f n a).2.2.1 = (tok f n a).2.1 + 1 ∧ tb f n (tok f n a).2.1 = 95 then 0 else nI (tok f n a).2.2.1))
def c_var (f : Nat → Int32) (n : Nat) (lu : Nat → Nat → Option Int64) (s : Cfg) : Cfg := match s with
  | (K, du, dn, sy, pl, ou, pr, a, lf, rt, la) => c_opd (c_vo f n lu a) (c_nxt f n (K, du, dn, sy, pl, ou, pr, a, lf, rt, la))
def c_can (t : Nat × Nat × Nat × Int64 × Nat) : Bool := if t.1 = 2 then decide (0 < kn_pf t.2.2.2.2 ∨ kn_inf t.2.2.2.2 = 0) else decide (¬ (t.1 = 4 ∨ t.1 = 6 ∨ t.1 = 7 ∨ t.1 = 8 ∨ t.1 = 9))
def c_mo (K : List Frm) : Int32 := match K with
  | [] => 0
  | fr :: _ => fr.2.2.1
def c_name (f : Nat → Int32) (n : Nat) (s : Cfg) : Cfg := match s with
  | (K, du, dn, sy, pl, ou, pr, a, lf, rt, la) =>
    if (tok f n (tok f n a).2.2.1).2.1 = (tok f n a).2.2.1 ∧ (tok f n (tok f n a).2.2.1).1 = 3 then c_beg f n 4 (tok f n a).2.2.2.2 999 (K, du, dn, sy, pl, ou, pr, (tok f n (tok f n a).2.2.1).2.2.1, lf, rt, la)
    else if (tok f n (tok f n a).2.2.1).2.1 = (tok f n a).2.2.1 ∧ (tok f n (tok f n a).2.2.1).1 = 1 ∧ (tok f n a).2.2.2.2 = 18 then c_int f n (-(tok f n (tok f n a).2.2.1).2.2.2.1) (K, du, dn, sy, pl, ou, pr, (tok f n a).2.2.1, lf, rt, la)
    else if 0 < kn_pf (tok f n a).2.2.2.2 ∧ kn_pf (tok f n a).2.2.2.2 ≤ c_mo K ∧ c_can (tok f n (tok f n a).2.2.1) = true then c_beg f n 2 (tok f n a).2.2.2.2 (kn_pf (tok f n a).2.2.2.2) (K, du, dn, sy, pl, ou, pr, (tok f n a).2.2.1, lf, rt, la)
    else c_opd (2, 0, 0, 0) (K, du, dn, sy, pl, ou, pr, (tok f n a).2.2.1, lf, rt, la)
def c_rop (f : Nat → Int32) (n : Nat) (lu : Nat → Nat → Option Int64) (s : Cfg) : Cfg := match s with
  | (K, du, dn, sy, pl, ou, pr, a, lf, rt, la) =>
    if (tok f n a).1 = 0 then c_var f n lu (K, du, dn, sy, pl, ou, pr, a, lf, rt, la)
    else if (tok f n a).1 = 1 then c_int f n (tok f n a).2.2.2.1 (K, du, dn, sy, pl, ou, pr, a, lf, rt, la)
    else if (tok f n a).1 = 3 then c_beg f n 1 0 1200 (K, du, dn, sy, pl, ou, pr, (tok f n a).2.2.1, lf, rt, la)
    else if (tok f n a).1 = 5 then c_beg f n 5 0 999 (K, du, dn, sy, pl, ou, pr, (tok f n a).2.2.1, lf, rt, la)
    else c_brk f n (K, du, dn, sy, pl, ou, pr, a, lf, rt, la)
def c_eL (f : Nat → Int32) (n : Nat) (s : Cfg) : Cfg := match s with
  | (K, du, dn, sy, pl, ou, pr, a, lf, rt, la) => if (tok f n a).1 = 6 then (K.tail, du, dn, sy, pl, 0, 0, (tok f n a).2.2.1, lf, rt, (2, 0, 0, 0)) else c_brk f n (K, du, dn, sy, pl, ou, pr, a, lf, rt, la)
def c_eE (f : Nat → Int32) (n : Nat) (s : Cfg) : Cfg := match s with
  | (fr :: K, du, dn, sy, pl, ou, pr, a, lf, rt, la) =>
    if (tok f n a).1 = 6 then c_eL f n (fr :: K, du, dn, sy + 2, pl, ou, pr, a, lf, rt, la)
    else if (tok f n a).1 = 7 ∨ (tok f n a).1 = 8 then ((if (tok f n a).1 = 8 then 6 else 5, fr.2) :: K, true, dn, sy + 1, pl, ou, pr, (tok f n a).2.2.1, lf, rt, la)
    else c_brk f n (fr :: K, du, dn, sy, pl, ou, pr, a, lf, rt, la)
  | s => s
def c_eA (f : Nat → Int32) (n : Nat) (s : Cfg) : Cfg := match s with
  | ((ro, nm, mo, ar, fi) :: K, du, dn, sy, pl, ou, pr, a, lf, rt, la) =>
    if (tok f n a).1 = 4 then c_lv 0 (c_cmb nm (ar + 1) (if ar = 0 then la else fi) ((ro, nm, mo, ar + 1, (if ar = 0 then la else fi)) :: K, du, dn, sy, pl, ou, pr, (tok f n a).2.2.1, lf, rt, la))
    else if (tok f n a).1 = 7 then (if ar = 7 then c_brk f n ((ro, nm, mo, ar + 1, (if ar = 0 then la else fi)) :: K, true, dn, sy, pl, ou, pr, (tok f n a).2.2.1, lf, rt, la) else ((ro, nm, mo, ar + 1, (if ar = 0 then la else fi)) :: K, true, dn, sy, pl, ou, pr, (tok f n a).2.2.1, lf, rt, la))
    else c_brk f n ((ro, nm, mo, ar + 1, (if ar = 0 then la else fi)) :: K, du, dn, sy, pl, ou, pr, a, lf, rt, la)
  | s => s
def c_eP (f : Nat → Int32) (n : Nat) (s : Cfg) : Cfg := match s with
  | (K, du, dn, sy, pl, ou, pr, a, lf, rt, la) => if (tok f n a).1 = 4 then (K.tail, du, dn, sy, pl, ou, 0, (tok f n a).2.2.1, lf, rt, la) else c_brk f n (K, du, dn, sy, pl, ou, pr, a, lf, rt, la)
def c_eW (f : Nat → Int32) (n : Nat) (s : Cfg) : Cfg := match s with
  | (K, du, dn, sy, pl, ou, pr, a, lf, rt, la) => if (tok f n a).1 = 9 then (if (tok f n (tok f n a).2.2.1).1 = 10 then (K, du, true, sy, pl, ou, pr, (tok f n a).2.2.1, lf, rt, la) else c_brk f n (K, du, false, sy, pl, ou, pr, (tok f n a).2.2.1, lf, rt, la)) else c_brk f n (K, du, dn, sy, pl, ou, pr, a, lf, rt, la)
def c_go (f : Nat → Int32) (n : Nat) (s : Cfg) : Cfg := match s with
  | ((ro, nm, mo, ar, fi) :: K, du, dn, sy, pl, ou, pr, a, lf, rt, la) =>
    if 0 < kn_inf (tok f n a).2.2.2.2 ∧ kn_inf (tok f n a).2.2.2.2 ≤ mo ∧ pr ≤ kn_ml (tok f n a).2.2.2.2 then c_beg f n 3 (tok f n a).2.2.2.2 (kn_mr (tok f n a).2.2.2.2) ((ro, nm, mo, ar, fi) :: K, du, dn, sy, pl, ou, pr, (tok f n a).2.2.1, lf, rt, la)
    else if ro = 1 then c_eP f n ((ro, nm, mo, ar, fi) :: K, du, dn, sy, pl, ou, pr, a, lf, rt, la)
    else if ro = 2 then c_lv (kn_pf nm) (c_cmb nm 1 fi ((ro, nm, mo, ar, fi) :: K, du, dn, sy, pl, ou, pr, a, lf, rt, la))
    else if ro = 3 then c_lv (kn_inf nm) (c_cmb nm 2 fi ((ro, nm, mo, ar, fi) :: K, du, dn, sy, pl, ou, pr, a, lf, rt, la))
    else if ro = 4 then c_eA f n ((ro, nm, mo, ar, fi) :: K, du, dn, sy, pl, ou, pr, a, lf, rt, la)
    else if ro = 5 then c_eE f n ((ro, nm, mo, ar, fi) :: K, du, dn, sy, pl, ou, pr, a, lf, rt, la)
    else if ro = 6 then c_eL f n ((ro, nm, mo, ar, fi) :: K, du, dn, sy, pl, ou, pr, a, lf, rt, la)
    else c_eW f n ((ro, nm, mo, ar, fi) :: K, du, dn, sy, pl, ou, pr, a, lf, rt, la)
  | s => s
def c_stp (f : Nat → Int32) (n : Nat) (lu : Nat → Nat → Option Int64) (s : Cfg) : Cfg := match s with
  | (K, du, dn, sy, pl, ou, pr, a, lf, rt, la) => if du = true then (if (tok f n a).1 = 2 then c_name f n (K, du, dn, sy, pl, ou, pr, a, lf, rt, la) else c_rop f n lu (K, du, dn, sy, pl, ou, pr, a, lf, rt, la)) else c_go f n (K, du, dn, sy, pl, ou, pr, a, lf, rt, la)
def c_on (s : Cfg) : Bool := decide (s.2.2.1 = false ∧ s.2.2.2.2.1 = -1)
def c_run (f : Nat → Int32) (n : Nat) (lu : Nat → Nat → Option Int64) : Nat → Cfg → Cfg
  | 0, s => s
  | m + 1, s => if c_on s = true then c_run f n lu m (c_stp f n lu s) else s
def cs_O (o : Opd) : am_O := .inr (8, [.int o.1, .long o.2.1, .int o.2.2.1, .int o.2.2.2])
def cs_F (fr : Frm) (pr : Int32) (j : Nat) : am_O := .inr (7, [.ref (38 + fr.1), .ref fr.2.1, .int fr.2.2.1, .int pr, .int (nI fr.2.2.2.1), .ref (2 * j + 1009)])
def cs_R (dp : Nat) (du dn : Bool) (sy : Nat) (pl : Int32) (ou : Nat) : am_O := .inr (5, [.ref 1001, .ref 1003, .ref 1006, .ref 1007, .int (nI dp), .int (bi du), .int (bi dn), .int (nI sy), .int pl, .ref ou, .ref 1208, .ref 1209, .ref 1210])
def cs_K (M : am_M) : List Frm → Prop
  | [] => True
  | fr :: K => (∃ pr, M (2 * K.length + 1008) = some (cs_F fr pr K.length)) ∧ M (2 * K.length + 1009) = some (cs_O fr.2.2.2.2) ∧ cs_K M K
def cs_X (M : am_M) (lo : Nat) : Prop := ∀ j, lo ≤ j → j < 100 → ∃ ro tn mo pr ar e v a b, M (2 * j + 1008) = some (.inr (7, [.ref ro, .ref tn, .int mo, .int pr, .int ar, .ref (2 * j + 1009)])) ∧ M (2 * j + 1009) = some (.inr (8, [.int e, .long v, .int a, .int b]))
def cs_S (f : Nat → Int32) (n a : Nat) (M : am_M) : Prop := ∃ nu nf nt, M 1006 = some (.inr (6, [.ref 1001, .ref (26 + (tok f n a).1), .int (nI (tok f n a).2.1), .int (nI (tok f n a).2.2.1), .long nu, .ref (tok f n a).2.2.2.2, .int nf, .int nt])) ∧ ((tok f n a).1 = 1 → nu = (tok f n a).2.2.2.1)
def cs_T (M : am_M) (K : List Frm) (pr : Int32) : Prop := match K with
  | [] => True
  | fr :: K => M (2 * K.length + 1008) = some (cs_F fr pr K.length)
def cs (f : Nat → Int32) (n : Nat) (M : am_M) (s : Cfg) : Prop := match s with
  | (K, du, dn, sy, pl, ou, pr, a, lf, rt, la) => M 1005 = some (cs_R K.length du dn sy pl ou) ∧ cs_S f n a M ∧ M 1007 = some (.inl (4, 100, .inr (.inr (.inr (.inr (ci_arr 100)))))) ∧ (du = false → cs_T M K pr) ∧ cs_K M K ∧ cs_X M K.length ∧ M 1208 = some (cs_O lf) ∧ M 1209 = some (cs_O rt) ∧ M 1210 = some (cs_O la)
def cs_fr (M M1 : am_M) : Prop := ∀ i, i < 1005 ∨ 1210 < i → M1 i = M i
theorem cs_Kup {M M1 : am_M} : ∀ {K : List Frm}, cs_K M K → (∀ i, 1008 ≤ i → i < 2 * K.length + 1008 → M1 i = M i) → cs_K M1 K
  | [], _, _ => trivial
  | fr :: K, h, hf => by
    obtain ⟨⟨pr, h1⟩, h2, h3⟩ := h
    have hl : (fr :: K).length = K.length + 1 := rfl
    exact ⟨⟨pr, (hf _ (by omega) (by omega)).trans h1⟩, (hf _ (by omega) (by omega)).trans h2, cs_Kup h3 (fun i h1 h2 => hf i h1 (by omega))⟩
theorem cs_Xup {M M1 : am_M} {lo : Nat} (h : cs_X M lo) (hf : ∀ i, 2 * lo + 1008 ≤ i → i < 1208 → M1 i = M i) : cs_X M1 lo := by
  intro j h1 h2
  obtain ⟨ro, tn, mo, pr, ar, e, v, a, b, h3, h4⟩ := h j h1 h2
  exact ⟨ro, tn, mo, pr, ar, e, v, a, b, (hf _ (by omega) (by omega)).trans h3, (hf _ (by omega) (by omega)).trans h4⟩
theorem cs_Xdn {M : am_M} {lo : Nat} (h9 : cs_X M (lo + 1)) {ro tn : Nat} {mo pr ar e a b : Int32} {v : Int64} (h3 : M (2 * lo + 1008) = some (.inr (7, [.ref ro, .ref tn, .int mo, .int pr, .int ar, .ref (2 * lo + 1009)]))) (h4 : M (2 * lo + 1009) = some (.inr (8, [.int e, .long v, .int a, .int b]))) : cs_X M lo := by
  intro j h1 h2
  rcases Nat.lt_or_eq_of_le h1 with h | h
  · exact h9 j h h2
  · subst h
    exact ⟨ro, tn, mo, pr, ar, e, v, a, b, h3, h4⟩
theorem cs_frT {M M1 M2 : am_M} (h1 : cs_fr M M1) (h2 : cs_fr M1 M2) : cs_fr M M2 := fun i hi => (h2 i hi).trans (h1 i hi)
theorem cs_Xmo {M : am_M} {lo hi : Nat} (h : cs_X M lo) (hl : lo ≤ hi) : cs_X M hi := fun j h1 h2 => h j (Nat.le_trans hl h1) h2
