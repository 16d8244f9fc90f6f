/-! THE REFERENCE'S READER AS ONE STATE; WHAT IT SAYS OF A TERM (mine) -/
def mr_o (n at9 be : Nat) (tk : Int32) (op : Nat) (nu : Int64) (l tp : Nat) (pl : Int32) (vb : Nat) (kn rk : Int32) : am_O := .inr (12, [.ref 1226, .ref 1227, .ref 1228, .ref 1213, .ref 1220, .ref 1212, .int (nI n), .int (nI at9), .int (nI be), .int tk, .int (nI op), .long nu, .ref 1229, .int (nI l), .ref 1230, .int (nI tp), .int pl, .ref 1231, .int (nI vb), .int kn, .int rk, .ref 1232])
def mb (f : Nat → Int32) (M : am_M) : Prop := M 1212 = some (.inl (0, 4096, .inl f)) ∧ (∃ sd rkA, M 1226 = some (.inl (5, 20, .inr (.inr (.inr (.inr sd))))) ∧ (∀ i, i < 20 → sd i = some (i + 141)) ∧ M 1227 = some (.inl (1, 20, .inl rkA)) ∧ ∀ i, i < 20 → rkA i = rk_tab.getD i 0) ∧ M 1228 = some (.inr (17, []))
def pb_ok (n a op tp sz pt ns tx vb e1 e2 : Nat) : Prop := a ≤ n ∧ op ≤ 100 ∧ tp ≤ a ∧ sz ≤ a ∧ pt ≤ sz ∧ vb ≤ a ∧ ns ≤ a + e1 + e2 ∧ tx ≤ a + e1 + 2 * e2 ∧ e1 ≤ 1 ∧ e2 ≤ 1
def PS (f : Nat → Int32) (n : Nat) (LU : Nat → (Nat → Int32) → Option Int64) (M : am_M) (a op tp : Nat) (S : Nat → Int32) (rk : Int32) (sz pt ns tx vb e1 e2 : Nat) (W : Gho) (On : Nat → Nat) (Vx : Nat → Option (Nat × (Nat → Int32))) : Prop :=
  pb_ok n a op tp sz pt ns tx vb e1 e2 ∧ mb f M ∧ RS LU M sz pt ns tx vb e1 e2 W On Vx ∧ M 1230 = some (.inl (1, 4200, .inl S)) ∧ (∃ kc, M 1232 = some (.inl (0, 4096, .inl kc))) ∧ ∃ tk nu l g kn, M 1225 = some (mr_o n (tok f n a).2.1 (tok f n a).2.2.1 tk op nu l tp (-1) vb kn rk) ∧ scT f (tok f n a) tk nu l g ∧ M 1229 = some (.inl (0, 4096, .inl g)) ∧ tbB g
def pf_fr (M M1 : am_M) : Prop := ∀ i, i < 1213 ∨ 1232 < i → M1 i = M i
/-- the reader's cells are there, whatever they hold -/
def rx (f : Nat → Int32) (M : am_M) : Prop := mb f M ∧ (∃ A sz pt, ARs M A sz pt) ∧ (∃ s9 t9, M 1220 = some (.inr (11, [.ref 1221, .ref 1222, .ref 1223, .ref 1224, .int s9, .int t9]))) ∧ (∃ T, M 1221 = some (.inl (0, 5000, .inl T)) ∧ tbB T) ∧ (∃ A, M 1222 = some (.inl (1, 9001, .inl A))) ∧ (∃ X, M 1223 = some (.inl (1, 9000, .inl X))) ∧ (∃ Y, M 1224 = some (.inl (1, 1024, .inl Y))) ∧ (∃ g, M 1229 = some (.inl (0, 4096, .inl g)) ∧ tbB g) ∧ (∃ S, M 1230 = some (.inl (1, 4200, .inl S))) ∧ (∃ V, M 1231 = some (.inl (1, 4200, .inl V))) ∧ ∃ kc, M 1232 = some (.inl (0, 4096, .inl kc))
def PX (f : Nat → Int32) (n : Nat) (M : am_M) (w : Nat) : Prop := w ≤ n ∧ rx f M ∧ ∃ a9 b9 tk op nu l tp vb kn rk, M 1225 = some (mr_o n a9 b9 tk op nu l tp (nI w) vb kn rk)
theorem mb_fr {f : Nat → Int32} {M M1 : am_M} (h : mb f M) (hf : ∀ i, i = 1212 ∨ i = 1226 ∨ i = 1227 ∨ i = 1228 → M1 i = M i) : mb f M1 := by
  obtain ⟨a, ⟨sd, ra, b, c, d, e⟩, g⟩ := h
  exact ⟨(hf _ (by omega)).trans a, ⟨sd, ra, (hf _ (by omega)).trans b, c, (hf _ (by omega)).trans d, e⟩, (hf _ (by omega)).trans g⟩
theorem RS_rx {f : Nat → Int32} {LU : Nat → (Nat → Int32) → Option Int64} {M : am_M} {sz pt ns tx vb e1 e2 : Nat} {W : Gho} {On : Nat → Nat} {Vx : Nat → Option (Nat × (Nat → Int32))} (hm : mb f M) (h : RS LU M sz pt ns tx vb e1 e2 W On Vx) {g S : Nat → Int32} (h1 : M 1229 = some (.inl (0, 4096, .inl g))) (hg : tbB g) (h2 : M 1230 = some (.inl (1, 4200, .inl S))) (h3 : ∃ kc, M 1232 = some (.inl (0, 4096, .inl kc))) : rx f M := by
  obtain ⟨A, T, F, Va, a, b, c, _⟩ := h
  obtain ⟨b1, b2, b3, b4, ⟨A9, b5, _⟩, ⟨X, b6, _⟩, ⟨Y, b7, _⟩⟩ := b
  exact ⟨hm, ⟨A, sz, pt, a⟩, ⟨_, _, b1⟩, ⟨T, b2, b3⟩, ⟨A9, b5⟩, ⟨X, b6⟩, ⟨Y, b7⟩, ⟨g, h1, hg⟩, ⟨S, h2⟩, ⟨Va, c⟩, h3⟩
theorem rx_fr {f : Nat → Int32} {M M1 : am_M} (h : rx f M) (hf : ∀ i, ¬ i = 1225 → M1 i = M i) : rx f M1 := by
  obtain ⟨a, ⟨A, sz, pt, b⟩, ⟨s9, t9, c⟩, ⟨T, d, d2⟩, ⟨A9, e⟩, ⟨X, e2⟩, ⟨Y, e3⟩, ⟨g, g1, g2⟩, ⟨S, g3⟩, ⟨V, g4⟩, ⟨kc, g5⟩⟩ := h
  exact ⟨mb_fr a (fun i hi => hf i (by omega)), ⟨A, sz, pt, ARs_fr b (fun i h1 h2 => hf i (by omega))⟩, ⟨s9, t9, (hf _ (by omega)).trans c⟩, ⟨T, (hf _ (by omega)).trans d, d2⟩, ⟨A9, (hf _ (by omega)).trans e⟩, ⟨X, (hf _ (by omega)).trans e2⟩, ⟨Y, (hf _ (by omega)).trans e3⟩, ⟨g, (hf _ (by omega)).trans g1, g2⟩, ⟨S, (hf _ (by omega)).trans g3⟩, ⟨V, (hf _ (by omega)).trans g4⟩, ⟨kc, (hf _ (by omega)).trans g5⟩⟩
/-- an operand of the class and a term of the reference say the same -/
def OpN (f : Nat → Int32) (n : Nat) (W : Gho) (x : Nat) (w : Opd) : Prop := W.1 x = (w.1, w.2.1) ∧ (match W.2.2 x with
  | none => ¬ w.2.2.1 < w.2.2.2
  | some q => ∃ p e, w.2.2.1 = nI p ∧ w.2.2.2 = nI e ∧ p < e ∧ e ≤ n ∧ q.1 + p = e ∧ ∀ i, i < q.1 → q.2 i = f (p + i))
theorem OpN_ext {f : Nat → Int32} {n sz x : Nat} {W W' : Gho} {w : Opd} (h : OpN f n W x w) (hW : gh_eq sz W W') (hx : x < sz) : OpN f n W' x w := by
  obtain ⟨a, b, c⟩ := hW x hx
  rw [OpN, a, c]
  exact h
def TRes (f : Nat → Int32) (n : Nat) (lu : Nat → Nat → Option Int64) (o : Nat) (mo : Int32) (a sz : Nat) (W' : Gho) (a' : Nat) (rk' : Int32) (sz' t : Nat) : Prop :=
  (∃ w ro L9 R9, TOk f n lu o mo a a' rk' (sz' - sz) w ro L9 R9 ∧ OpN f n W' t w ∧ (W'.2.1 t).1 = ro ∧ (¬ ro = 0 → (W'.2.1 t).2.1 < sz' ∧ (W'.2.1 t).2.2 < sz' ∧ OpN f n W' (W'.2.1 t).2.1 L9 ∧ OpN f n W' (W'.2.1 t).2.2 R9)) ∨ (((tok f n a').1 = 10 ∨ (tok f n a').1 = 11) ∧ TBad f n lu o mo a (tok f n a').2.1)
def pext (a tp sz pt ns : Nat) (S : Nat → Int32) (W : Gho) (On : Nat → Nat) (t a' : Nat) (S' : Nat → Int32) (sz' pt' ns' : Nat) (W' : Gho) (On' : Nat → Nat) : Prop := t < sz' ∧ sz < sz' ∧ gh_eq sz W W' ∧ ns ≤ ns' ∧ (∀ k, k < ns → On' k = On k) ∧ (∀ i, i < tp → S' i = S i) ∧ sz' + a ≤ sz + a' ∧ pt' + sz + 1 ≤ pt + sz' ∧ a < a'
def RQ (f : Nat → Int32) (n : Nat) (LU : Nat → (Nat → Int32) → Option Int64) (lu : Nat → Nat → Option Int64) (M : am_M) (nx o : Nat) (mo : Int32) (a op tp : Nat) (S : Nat → Int32) (sz pt ns : Nat) (W : Gho) (On : Nat → Nat) (E : Nat → Int32 → Prop) (B : Nat → Prop) : am_Qt := fun r M1 nx1 => nx1 = nx ∧ pf_fr M M1 ∧ ((∃ t a' S' rk' sz' pt' ns' tx' vb' e1' e2' W' On' Vx', r = .inl (some (.int (nI t))) ∧ PS f n LU M1 a' op tp S' rk' sz' pt' ns' tx' vb' e1' e2' W' On' Vx' ∧ pext a tp sz pt ns S W On t a' S' sz' pt' ns' W' On' ∧ TRes f n lu o mo a sz W' a' rk' sz' t ∧ E a' rk') ∨ ∃ w, r = .inr 1228 ∧ PX f n M1 w ∧ B w)
def TermC (G : am_G) (f : Nat → Int32) (n : Nat) (LU : Nat → (Nat → Int32) → Option Int64) (lu : Nat → Nat → Option Int64) (o d : Nat) : Prop := ∀ (nx : Nat) (M : am_M) (mo : Int32) (a tp : Nat) (S : Nat → Int32) (rk : Int32) (sz pt ns tx vb e1 e2 : Nat) (W : Gho) (On : Nat → Nat) (Vx : Nat → Option (Nat × (Nat → Int32))), PS f n LU M a o tp S rk sz pt ns tx vb e1 e2 W On Vx → 200 ≤ mo → am_Tr G m_MR_term d 0 0 [.ref 1225, .int mo] M nx (RQ f n LU lu M nx o mo a o tp S sz pt ns W On (fun a' rk' => o < 100 ∧ c_end f n mo a' rk') (fun w => (o = 100 ∧ w = (tok f n a).2.1) ∨ (o < 100 ∧ TBad f n lu o mo a w)))
/-- no name is asked for twice: the flags pay for [] and . -/
theorem nmQ_cg {T : Nat → Int32} {F : Nat → Nat} {k l : Nat} {g g' : Nat → Int32} (h : nmQ T F k l g) (hg : ∀ i, i < l → g' i = g i) : nmQ T F k l g' := ⟨h.1, fun i hi => (h.2 i hi).trans (hg i hi).symm⟩
