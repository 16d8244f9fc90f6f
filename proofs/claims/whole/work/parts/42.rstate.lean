/-! THE REFERENCE'S TERMS, NAMES AND VARIABLES AS ONE STATE (mine) -/
def wDot : Nat → Int32 := fun _ => 46
def wNil : Nat → Int32 := fun i => if i = 0 then 91 else 93
def vx_ok (T : Nat → Int32) (F : Nat → Nat) (ns : Nat) (Va : Nat → Int32) (Vx : Nat → Option (Nat × (Nat → Int32))) (v : Nat) : Prop := (Va v = -1 ∧ Vx v = none) ∨ ∃ k l g, k < ns ∧ Va v = nI k ∧ nmQ T F k l g ∧ Vx v = some (l, g)
def RSx (LU : Nat → (Nat → Int32) → Option Int64) (M : am_M) (sz pt ns tx vb e1 e2 : Nat) (W : Gho) (On : Nat → Nat) (Vx : Nat → Option (Nat × (Nat → Int32))) (A : Arn) (T : Nat → Int32) (F : Nat → Nat) (Va : Nat → Int32) : Prop :=
  ARs M A sz pt ∧ NMs M ns tx T F ∧ M 1231 = some (.inl (1, 4200, .inl Va)) ∧ (∀ x, x < sz → ar_ok LU T F ns Va vb pt A W x) ∧ (∀ k, k < ns → On k = ordN T F k) ∧ (∀ v, v < vb → vx_ok T F ns Va Vx v) ∧ (e1 = 1 → ∃ k, k < ns ∧ nmQ T F k 1 wDot) ∧ (e2 = 1 → ∃ k, k < ns ∧ nmQ T F k 2 wNil)
def RS (LU : Nat → (Nat → Int32) → Option Int64) (M : am_M) (sz pt ns tx vb e1 e2 : Nat) (W : Gho) (On : Nat → Nat) (Vx : Nat → Option (Nat × (Nat → Int32))) : Prop := ∃ A T F Va, RSx LU M sz pt ns tx vb e1 e2 W On Vx A T F Va
def rs_fr (M M1 : am_M) : Prop := ∀ i, (1213 ≤ i ∧ i ≤ 1224) ∨ i = 1231 → M1 i = M i
theorem NMs_fr {M M1 : am_M} {ns tx : Nat} {T : Nat → Int32} {F : Nat → Nat} (h : NMs M ns tx T F) (hf : ∀ i, 1220 ≤ i → i ≤ 1224 → M1 i = M i) : NMs M1 ns tx T F := by
  obtain ⟨a, b, c, d, ⟨A, e1, e2⟩, ⟨X, f1, f2⟩, ⟨Y, g1, g2⟩⟩ := h
  exact ⟨(hf _ (by omega) (by omega)).trans a, (hf _ (by omega) (by omega)).trans b, c, d, ⟨A, (hf _ (by omega) (by omega)).trans e1, e2⟩, ⟨X, (hf _ (by omega) (by omega)).trans f1, f2⟩, ⟨Y, (hf _ (by omega) (by omega)).trans g1, g2⟩⟩
theorem ARs_fr {M M1 : am_M} {A : Arn} {sz pt : Nat} (h : ARs M A sz pt) (hf : ∀ i, 1213 ≤ i → i ≤ 1219 → M1 i = M i) : ARs M1 A sz pt := by
  obtain ⟨a, b, c, d, e, f, g⟩ := h
  exact ⟨(hf _ (by omega) (by omega)).trans a, (hf _ (by omega) (by omega)).trans b, (hf _ (by omega) (by omega)).trans c, (hf _ (by omega) (by omega)).trans d, (hf _ (by omega) (by omega)).trans e, (hf _ (by omega) (by omega)).trans f, (hf _ (by omega) (by omega)).trans g⟩
section RS1
variable {LU : Nat → (Nat → Int32) → Option Int64} {M M1 : am_M} {sz pt ns tx vb e1 e2 : Nat} {W : Gho} {On : Nat → Nat} {Vx : Nat → Option (Nat × (Nat → Int32))} {A : Arn} {T : Nat → Int32} {F : Nat → Nat} {Va : Nat → Int32}
theorem RSx_fr (h : RSx LU M sz pt ns tx vb e1 e2 W On Vx A T F Va) (hf : rs_fr M M1) : RSx LU M1 sz pt ns tx vb e1 e2 W On Vx A T F Va := by
  obtain ⟨a, b, c, d⟩ := h
  exact ⟨ARs_fr a (fun i h1 h2 => hf i (by omega)), NMs_fr b (fun i h1 h2 => hf i (by omega)), (hf _ (by omega)).trans c, d⟩
theorem RS_fr (h : RS LU M sz pt ns tx vb e1 e2 W On Vx) (hf : rs_fr M M1) : RS LU M1 sz pt ns tx vb e1 e2 W On Vx := by
  obtain ⟨A, T, F, Va, h⟩ := h
  exact ⟨A, T, F, Va, RSx_fr h hf⟩
theorem vx_ext {T' : Nat → Int32} {F' : Nat → Nat} {ns' v : Nat} {Va' : Nat → Int32} (hO : nmO F ns tx) (hN : nm_eq T T' F F' ns tx) (hn : ns ≤ ns') (hV : Va' v = Va v) (h : vx_ok T F ns Va Vx v) : vx_ok T' F' ns' Va' Vx v := by
  rcases h with ⟨a, b⟩ | ⟨k, l, g, a, b, c, d⟩
  · exact Or.inl ⟨hV.trans a, b⟩
  · exact Or.inr ⟨k, l, g, by omega, hV.trans b, nmQ_ext hO hN a c, d⟩
/-- a name is asked for: it was there, or it is there now -/
theorem RS_of {l k : Nat} {g : Nat → Int32} (h : RSx LU M sz pt ns tx vb e1 e2 W On Vx A T F Va)
    (hp : (k < ns ∧ nmQ T F k l g ∧ M1 = M) ∨ ((∀ j, j < ns → ¬ nmQ T F j l g) ∧ k = ns ∧ NMs M1 (ns + 1) (tx + l) (nmT T tx l g) (nmF F ns (tx + l)) ∧ ∀ i, i < 1220 ∨ 1224 < i → M1 i = M i)) :
    ∃ ns' tx' On' T' F', RSx LU M1 sz pt ns' tx' vb e1 e2 W On' Vx A T' F' Va ∧ k < ns' ∧ On' k = spg l g ∧ nmQ T' F' k l g ∧ (∀ j, j < ns → On' j = On j) ∧ (ns' = ns ∧ tx' = tx ∨ ns' = ns + 1 ∧ tx' = tx + l ∧ ∀ j, j < ns → ¬ nmQ T F j l g) := by
  rcases hp with ⟨h1, h2, rfl⟩ | ⟨h1, rfl, h3, h4⟩
  · refine ⟨ns, tx, On, T, F, h, h1, ?_, h2, fun _ _ => rfl, Or.inl ⟨rfl, rfl⟩⟩
    rw [h.2.2.2.2.1 k h1, ordN, h2.1]
    exact spg_cg (fun i hi => h2.2 i hi)
  · obtain ⟨a, b, c, d, e, f, g1, g2⟩ := h
    have hO := b.2.2.2.1
    have hN : nm_eq T (nmT T tx l g) F (nmF F k (tx + l)) k tx := ⟨fun j hj => by rw [nmT, if_neg (by omega)], fun j hj => by rw [nmF, if_neg (by omega)]⟩
    have hq := nm_new (T := T) (l := l) (g := g) hO
    refine ⟨k + 1, tx + l, (fun j => if j = k then spg l g else On j), _, _, ⟨ARs_fr a (fun i z1 z2 => h4 i (by omega)), h3, (h4 _ (by omega)).trans c, fun x hx => ?_, fun j hj => ?_, fun v hv => ?_, fun z => ?_, fun z => ?_⟩, by omega, if_pos rfl, hq, fun j hj => if_neg (by omega), Or.inr ⟨rfl, rfl, h1⟩⟩
    · exact ar_ext hx hO hN (by omega) (fun _ _ => rfl) (Nat.le_refl _) (ar_refl _ _ _) (Nat.le_refl _) (gh_refl _ _) (d x hx)
    · show (if j = k then spg l g else On j) = _
      by_cases hjk : j = k
      · rw [if_pos hjk, hjk, ordN, hq.1]
        exact (spg_cg (fun i hi => hq.2 i hi)).symm
      · rw [if_neg hjk, e j (by omega)]
        exact (ordN_ext hO hN (by omega)).symm
    · exact vx_ext hO hN (by omega) rfl (f v hv)
    · obtain ⟨q, q1, q2⟩ := g1 z
      exact ⟨q, by omega, nmQ_ext hO hN q1 q2⟩
    · obtain ⟨q, q1, q2⟩ := g2 z
      exact ⟨q, by omega, nmQ_ext hO hN q1 q2⟩
def gu (W : Gho) (x : Nat) (w : Int32 × Int64) (r : Nat × Nat × Nat) (n : Option (Nat × (Nat → Int32))) : Gho := (fun i => if i = x then w else W.1 i, fun i => if i = x then r else W.2.1 i, fun i => if i = x then n else W.2.2 i)
theorem gu_eq (W : Gho) (x : Nat) (w : Int32 × Int64) (r : Nat × Nat × Nat) (n : Option (Nat × (Nat → Int32))) : gh_eq x W (gu W x w r n) := fun i hi => ⟨if_neg (by omega), if_neg (by omega), if_neg (by omega)⟩
theorem gu_at (W : Gho) (x : Nat) (w : Int32 × Int64) (r : Nat × Nat × Nat) (n : Option (Nat × (Nat → Int32))) : (gu W x w r n).1 x = w ∧ (gu W x w r n).2.1 x = r ∧ (gu W x w r n).2.2 x = n := ⟨if_pos rfl, if_pos rfl, if_pos rfl⟩
/-- one term more -/
theorem RS_add {A' : Arn} {pt' : Nat} {w : Int32 × Int64} {r : Nat × Nat × Nat} {n9 : Option (Nat × (Nat → Int32))} (h : RSx LU M sz pt ns tx vb e1 e2 W On Vx A T F Va) (hA : ARs M1 A' (sz + 1) pt') (hf : ∀ i, i < 1213 ∨ 1219 < i → M1 i = M i) (he : ar_eq sz pt A A') (hp : pt ≤ pt') (hx : ar_ok LU T F ns Va vb pt' A' (gu W sz w r n9) sz) : RSx LU M1 (sz + 1) pt' ns tx vb e1 e2 (gu W sz w r n9) On Vx A' T F Va := by
  obtain ⟨a, b, c, d, e, f, g1, g2⟩ := h
  refine ⟨hA, NMs_fr b (fun i z1 z2 => hf i (by omega)), (hf _ (by omega)).trans c, fun x hx9 => ?_, e, f, g1, g2⟩
  rcases Nat.lt_or_eq_of_le (Nat.le_of_lt_succ hx9) with z | z
  · exact ar_ext z b.2.2.2.1 (nm_refl _ _ _ _) (Nat.le_refl _) (fun _ _ => rfl) (Nat.le_refl _) he hp (gu_eq _ _ _ _ _) (d x z)
  · rw [z]
    exact hx
def wV (LU : Nat → (Nat → Int32) → Option Int64) (o : Option (Nat × (Nat → Int32))) : Int32 × Int64 := match o with
  | none => (1, 0)
  | some q => lvW (LU q.1 q.2)
theorem upd_at (f : Nat → Int32) (k : Nat) (x : Int32) : upd f k x k = x := if_pos rfl
theorem upd_ne (f : Nat → Int32) {k j : Nat} (x : Int32) (h : ¬ j = k) : upd f k x j = f j := if_neg h
theorem updL_at (f : Nat → Int64) (k : Nat) (x : Int64) : vp_updL f k x k = x := if_pos rfl
theorem updL_ne (f : Nat → Int64) {k j : Nat} (x : Int64) (h : ¬ j = k) : vp_updL f k x j = f j := if_neg h
theorem RS_var {Kd Nm Fi Ma Pa : Nat → Int32} {Nu : Nat → Int64} {v : Nat} (h : RSx LU M sz pt ns tx vb e1 e2 W On Vx (Kd, Nm, Fi, Ma, Pa, Nu) T F Va) (hv : v < vb) (hA : ARs M1 (upd Kd sz 0, upd Nm sz (nI v), Fi, upd Ma sz 0, Pa, Nu) (sz + 1) pt) (hf : ∀ i, i < 1213 ∨ 1219 < i → M1 i = M i) : RSx LU M1 (sz + 1) pt ns tx vb e1 e2 (gu W sz (wV LU (Vx v)) (0, 0, 0) (Vx v)) On Vx (upd Kd sz 0, upd Nm sz (nI v), Fi, upd Ma sz 0, Pa, Nu) T F Va := by
  refine RS_add h hA hf ⟨fun x hx => ⟨upd_ne _ _ (by omega), upd_ne _ _ (by omega), rfl, upd_ne _ _ (by omega), rfl⟩, fun _ _ => rfl⟩ (Nat.le_refl _) (Or.inl ?_)
  obtain ⟨g1, g2, g3⟩ := gu_at W sz (wV LU (Vx v)) (0, 0, 0) (Vx v)
  refine ⟨upd_at _ _ _, upd_at _ _ _, by rw [g2], v, hv, upd_at _ _ _, ?_⟩
  rcases h.2.2.2.2.2.1 v hv with ⟨a, b⟩ | ⟨k, l, g, a, b, c, d⟩
  · exact Or.inl ⟨a, by rw [g1, b]; rfl, by rw [g3, b]⟩
  · exact Or.inr ⟨k, l, g, a, b, c, by rw [g3, d], by rw [g1, d]; rfl⟩
theorem RS_int {Kd Nm Fi Ma Pa : Nat → Int32} {Nu : Nat → Int64} {num : Int64} (h : RSx LU M sz pt ns tx vb e1 e2 W On Vx (Kd, Nm, Fi, Ma, Pa, Nu) T F Va) (hr : inR num) (hA : ARs M1 (upd Kd sz 1, Nm, Fi, upd Ma sz 0, Pa, vp_updL Nu sz num) (sz + 1) pt) (hf : ∀ i, i < 1213 ∨ 1219 < i → M1 i = M i) : RSx LU M1 (sz + 1) pt ns tx vb e1 e2 (gu W sz (0, num) (0, 0, 0) none) On Vx (upd Kd sz 1, Nm, Fi, upd Ma sz 0, Pa, vp_updL Nu sz num) T F Va := by
  refine RS_add h hA hf ⟨fun x hx => ⟨upd_ne _ _ (by omega), rfl, rfl, upd_ne _ _ (by omega), updL_ne _ _ (by omega)⟩, fun _ _ => rfl⟩ (Nat.le_refl _) (Or.inr (Or.inl ?_))
  obtain ⟨g1, g2, g3⟩ := gu_at W sz (0, num) (0, 0, 0) none
  have hu : (upd Kd sz 1, Nm, Fi, upd Ma sz 0, Pa, vp_updL Nu sz num).2.2.2.2.2 sz = num := updL_at _ _ _
  exact ⟨upd_at _ _ _, upd_at _ _ _, by rw [g2], by rw [g1, hu], g3, by rw [hu]; exact hr⟩
theorem RS_comp {Kd Nm Fi Ma Pa Sk : Nat → Int32} {Nu : Nat → Int64} {k c fr : Nat} {y : Nat → Nat} (h : RSx LU M sz pt ns tx vb e1 e2 W On Vx (Kd, Nm, Fi, Ma, Pa, Nu) T F Va) (hk : k < ns) (hc : c ≤ 8) (hy : ∀ i, i < c → y i < sz ∧ Sk (fr + i) = nI (y i)) (hA : ARs M1 (upd Kd sz 2, upd Nm sz (nI k), upd Fi sz (nI pt), upd Ma sz (nI c), ptF Pa Sk pt fr c, Nu) (sz + 1) (pt + c)) (hf : ∀ i, i < 1213 ∨ 1219 < i → M1 i = M i) : RSx LU M1 (sz + 1) (pt + c) ns tx vb e1 e2 (gu W sz (if c = 1 then rk1 (On k) (W.1 (y 0)).1 (W.1 (y 0)).2 else if c = 2 then rk2 (On k) (W.1 (y 0)).1 (W.1 (y 0)).2 (W.1 (y 1)).1 (W.1 (y 1)).2 else (2, 0)) (if c = 2 then (On k, y 0, y 1) else (0, 0, 0)) none) On Vx (upd Kd sz 2, upd Nm sz (nI k), upd Fi sz (nI pt), upd Ma sz (nI c), ptF Pa Sk pt fr c, Nu) T F Va := by
  refine RS_add h hA hf ⟨fun x hx => ⟨upd_ne _ _ (by omega), upd_ne _ _ (by omega), upd_ne _ _ (by omega), upd_ne _ _ (by omega), rfl⟩, fun i hi => ?_⟩ (Nat.le_add_right _ _) (Or.inr (Or.inr ?_))
  · show ptF Pa Sk pt fr c i = Pa i
    rw [ptF, if_neg (by omega)]
  obtain ⟨g1, g2, g3⟩ := gu_at W sz (if c = 1 then rk1 (On k) (W.1 (y 0)).1 (W.1 (y 0)).2 else if c = 2 then rk2 (On k) (W.1 (y 0)).1 (W.1 (y 0)).2 (W.1 (y 1)).1 (W.1 (y 1)).2 else (2, 0)) (if c = 2 then (On k, y 0, y 1) else (0, 0, 0)) none
  have hu : ∀ i, i < c → ptF Pa Sk pt fr c (pt + i) = nI (y i) := by
    intro i hi
    rw [ptF, if_pos (by omega), ← (hy i hi).2]
    congr 1
    omega
  have hge := gu_eq W sz (if c = 1 then rk1 (On k) (W.1 (y 0)).1 (W.1 (y 0)).2 else if c = 2 then rk2 (On k) (W.1 (y 0)).1 (W.1 (y 0)).2 (W.1 (y 1)).1 (W.1 (y 1)).2 else (2, 0)) (if c = 2 then (On k, y 0, y 1) else (0, 0, 0)) none
  have ho := h.2.2.2.2.1 k hk
  refine ⟨upd_at _ _ _, g3, k, c, pt, hk, upd_at _ _ _, hc, upd_at _ _ _, fun _ => upd_at _ _ _, Nat.le_refl _, fun i hi => ⟨y i, (hy i hi).1, hu i hi⟩, fun e => ?_, fun e => ?_, fun z1 z2 => ?_, fun z => ?_⟩
  · have h0 := (hy 0 (by omega)).1
    refine ⟨y 0, h0, hu 0 (by omega), ?_⟩
    rw [g1, (hge (y 0) h0).1, if_pos e, ← ho]
  · have h0 := (hy 0 (by omega)).1
    have h1 := (hy 1 (by omega)).1
    refine ⟨y 0, y 1, h0, h1, hu 0 (by omega), hu 1 (by omega), ?_, ?_⟩
    · rw [g1, (hge (y 0) h0).1, (hge (y 1) h1).1, if_neg (by omega), if_pos e, ← ho]
    · rw [g2, if_pos e, ← ho]
  · rw [g1, if_neg z1, if_neg z2]
  · rw [g2, if_neg z]
theorem RS_atom {Kd Nm Fi Ma Pa : Nat → Int32} {Nu : Nat → Int64} {k : Nat} (h : RSx LU M sz pt ns tx vb e1 e2 W On Vx (Kd, Nm, Fi, Ma, Pa, Nu) T F Va) (hk : k < ns) (hA : ARs M1 (upd Kd sz 2, upd Nm sz (nI k), Fi, upd Ma sz 0, Pa, Nu) (sz + 1) pt) (hf : ∀ i, i < 1213 ∨ 1219 < i → M1 i = M i) : RSx LU M1 (sz + 1) pt ns tx vb e1 e2 (gu W sz (2, 0) (0, 0, 0) none) On Vx (upd Kd sz 2, upd Nm sz (nI k), Fi, upd Ma sz 0, Pa, Nu) T F Va := by
  refine RS_add h hA hf ⟨fun x hx => ⟨upd_ne _ _ (by omega), upd_ne _ _ (by omega), rfl, upd_ne _ _ (by omega), rfl⟩, fun _ _ => rfl⟩ (Nat.le_refl _) (Or.inr (Or.inr ?_))
  obtain ⟨g1, g2, g3⟩ := gu_at W sz (2, 0) (0, 0, 0) none
  exact ⟨upd_at _ _ _, g3, k, 0, 0, hk, upd_at _ _ _, by decide, upd_at _ _ _, fun z => absurd rfl z, Nat.zero_le _, fun i hi => absurd hi (by omega), fun e => absurd e (by decide), fun e => absurd e (by decide), fun _ _ => g1, fun _ => by rw [g2]⟩
end RS1
