/-! THE REFERENCE'S TERMS (mine): each term's worth by its own parts; growing keeps what is there -/
def lvW (o : Option Int64) : Int32 × Int64 := match o with
  | none => (1, 0)
  | some v => (setE v, setN v)
def ordN (T : Nat → Int32) (F : Nat → Nat) (k : Nat) : Nat := spg (nmL F k) (nmW T F k)
abbrev Arn : Type := (Nat → Int32) × (Nat → Int32) × (Nat → Int32) × (Nat → Int32) × (Nat → Int32) × (Nat → Int64)
abbrev Gho : Type := (Nat → Int32 × Int64) × (Nat → Nat × Nat × Nat) × (Nat → Option (Nat × (Nat → Int32)))
def ar_V (LU : Nat → (Nat → Int32) → Option Int64) (T : Nat → Int32) (F : Nat → Nat) (ns : Nat) (Va : Nat → Int32) (vb : Nat) (A : Arn) (W : Gho) (x : Nat) : Prop :=
  A.1 x = 0 ∧ A.2.2.2.1 x = 0 ∧ (W.2.1 x).1 = 0 ∧ ∃ v, v < vb ∧ A.2.1 x = nI v ∧ ((Va v = -1 ∧ W.1 x = (1, 0) ∧ W.2.2 x = none) ∨ ∃ k l g, k < ns ∧ Va v = nI k ∧ nmQ T F k l g ∧ W.2.2 x = some (l, g) ∧ W.1 x = lvW (LU l g))
def ar_I (A : Arn) (W : Gho) (x : Nat) : Prop := A.1 x = 1 ∧ A.2.2.2.1 x = 0 ∧ (W.2.1 x).1 = 0 ∧ W.1 x = (0, A.2.2.2.2.2 x) ∧ W.2.2 x = none ∧ inR (A.2.2.2.2.2 x)
def ar_P (o c b pt : Nat) (A : Arn) (W : Gho) (x : Nat) : Prop := c ≤ 8 ∧ A.2.2.2.1 x = nI c ∧ (¬ c = 0 → A.2.2.1 x = nI b) ∧ b + c ≤ pt ∧ (∀ i, i < c → ∃ y, y < x ∧ A.2.2.2.2.1 (b + i) = nI y) ∧
  (c = 1 → ∃ y, y < x ∧ A.2.2.2.2.1 b = nI y ∧ W.1 x = rk1 o (W.1 y).1 (W.1 y).2) ∧
  (c = 2 → ∃ y z, y < x ∧ z < x ∧ A.2.2.2.2.1 b = nI y ∧ A.2.2.2.2.1 (b + 1) = nI z ∧ W.1 x = rk2 o (W.1 y).1 (W.1 y).2 (W.1 z).1 (W.1 z).2 ∧ W.2.1 x = (o, y, z)) ∧
  (¬ c = 1 → ¬ c = 2 → W.1 x = (2, 0)) ∧ (¬ c = 2 → (W.2.1 x).1 = 0)
def ar_C (T : Nat → Int32) (F : Nat → Nat) (ns pt : Nat) (A : Arn) (W : Gho) (x : Nat) : Prop :=
  A.1 x = 2 ∧ W.2.2 x = none ∧ ∃ k c b, k < ns ∧ A.2.1 x = nI k ∧ ar_P (ordN T F k) c b pt A W x
def ar_ok (LU : Nat → (Nat → Int32) → Option Int64) (T : Nat → Int32) (F : Nat → Nat) (ns : Nat) (Va : Nat → Int32) (vb pt : Nat) (A : Arn) (W : Gho) (x : Nat) : Prop := ar_V LU T F ns Va vb A W x ∨ ar_I A W x ∨ ar_C T F ns pt A W x
def gh_eq (sz : Nat) (W W' : Gho) : Prop := ∀ x, x < sz → W'.1 x = W.1 x ∧ W'.2.1 x = W.2.1 x ∧ W'.2.2 x = W.2.2 x
def ar_eq (sz pt : Nat) (A A' : Arn) : Prop := (∀ x, x < sz → A'.1 x = A.1 x ∧ A'.2.1 x = A.2.1 x ∧ A'.2.2.1 x = A.2.2.1 x ∧ A'.2.2.2.1 x = A.2.2.2.1 x ∧ A'.2.2.2.2.2 x = A.2.2.2.2.2 x) ∧ ∀ i, i < pt → A'.2.2.2.2.1 i = A.2.2.2.2.1 i
def nm_eq (T T' : Nat → Int32) (F F' : Nat → Nat) (ns tx : Nat) : Prop := (∀ j, j < tx → T' j = T j) ∧ ∀ k, k ≤ ns → F' k = F k
theorem gh_refl (sz : Nat) (W : Gho) : gh_eq sz W W := fun _ _ => ⟨rfl, rfl, rfl⟩
theorem ar_refl (sz pt : Nat) (A : Arn) : ar_eq sz pt A A := ⟨fun _ _ => ⟨rfl, rfl, rfl, rfl, rfl⟩, fun _ _ => rfl⟩
theorem nm_refl (T : Nat → Int32) (F : Nat → Nat) (ns tx : Nat) : nm_eq T T F F ns tx := ⟨fun _ _ => rfl, fun _ _ => rfl⟩
theorem gh_trans {a b : Nat} {W W1 W2 : Gho} (h1 : gh_eq a W W1) (h2 : gh_eq b W1 W2) (h : a ≤ b) : gh_eq a W W2 := fun x hx =>
  have u := h1 x hx
  have v := h2 x (Nat.lt_of_lt_of_le hx h)
  ⟨v.1.trans u.1, v.2.1.trans u.2.1, v.2.2.trans u.2.2⟩
theorem nmQ_ext {T T' : Nat → Int32} {F F' : Nat → Nat} {ns tx k l : Nat} {g : Nat → Int32} (hO : nmO F ns tx) (hN : nm_eq T T' F F' ns tx) (hk : k < ns) (h : nmQ T F k l g) : nmQ T' F' k l g := by
  obtain ⟨e1, e2, _⟩ := nm_old hO hN.1 hN.2 hk
  refine ⟨e1.trans h.1, fun i hi => ?_⟩
  have := e2 i (by rw [h.1]; exact hi)
  exact this.trans (h.2 i hi)
theorem ordN_ext {T T' : Nat → Int32} {F F' : Nat → Nat} {ns tx k : Nat} (hO : nmO F ns tx) (hN : nm_eq T T' F F' ns tx) (hk : k < ns) : ordN T' F' k = ordN T F k := by
  obtain ⟨e1, e2, _⟩ := nm_old hO hN.1 hN.2 hk
  rw [ordN, ordN, e1]
  exact spg_cg e2
theorem ar_P_ext {o c b pt pt' sz : Nat} {A A' : Arn} {W W' : Gho} {x : Nat} (hx : x < sz) (hA : ar_eq sz pt A A') (hW : gh_eq sz W W') (hp : pt ≤ pt') (h : ar_P o c b pt A W x) : ar_P o c b pt' A' W' x := by
  obtain ⟨h1, h2, h3, h4, h5, h6, h7, h8, h9⟩ := h
  obtain ⟨a1, a2, a3, a4, a5⟩ := hA.1 x hx
  obtain ⟨w1, w2, w3⟩ := hW x hx
  refine ⟨h1, a4.trans h2, fun z => a3.trans (h3 z), by omega, fun i hi => ?_, fun hc => ?_, fun hc => ?_, fun u v => w1.trans (h8 u v), fun u => by rw [w2]; exact h9 u⟩
  · obtain ⟨y, y1, y2⟩ := h5 i hi
    exact ⟨y, y1, (hA.2 _ (by omega)).trans y2⟩
  · obtain ⟨y, y1, y2, y3⟩ := h6 hc
    refine ⟨y, y1, (hA.2 _ (by omega)).trans y2, ?_⟩
    rw [w1, (hW y (by omega)).1]
    exact y3
  · obtain ⟨y, z, y1, z1, y2, z2, y3, y4⟩ := h7 hc
    refine ⟨y, z, y1, z1, (hA.2 _ (by omega)).trans y2, (hA.2 _ (by omega)).trans z2, ?_, w2.trans y4⟩
    rw [w1, (hW y (by omega)).1, (hW z (by omega)).1]
    exact y3
theorem ar_ext {LU : Nat → (Nat → Int32) → Option Int64} {T T' : Nat → Int32} {F F' : Nat → Nat} {ns ns' tx vb vb' pt pt' sz : Nat} {Va Va' : Nat → Int32} {A A' : Arn} {W W' : Gho} {x : Nat} (hx : x < sz) (hO : nmO F ns tx) (hN : nm_eq T T' F F' ns tx) (hn : ns ≤ ns') (hVa : ∀ v, v < vb → Va' v = Va v) (hv : vb ≤ vb') (hA : ar_eq sz pt A A') (hp : pt ≤ pt') (hW : gh_eq sz W W') (h : ar_ok LU T F ns Va vb pt A W x) : ar_ok LU T' F' ns' Va' vb' pt' A' W' x := by
  obtain ⟨a1, a2, a3, a4, a5⟩ := hA.1 x hx
  obtain ⟨w1, w2, w3⟩ := hW x hx
  rcases h with ⟨h1, h2, h3, v, h4, h5, h6⟩ | ⟨h1, h2, h3, h4, h5, h6⟩ | ⟨h1, h2, k, c, b, h3, h4, h5⟩
  · refine Or.inl ⟨a1.trans h1, a4.trans h2, by rw [w2]; exact h3, v, by omega, a2.trans h5, ?_⟩
    rcases h6 with ⟨g1, g2, g3⟩ | ⟨k, l, g, g1, g2, g3, g4, g5⟩
    · exact Or.inl ⟨(hVa v h4).trans g1, w1.trans g2, w3.trans g3⟩
    · exact Or.inr ⟨k, l, g, by omega, (hVa v h4).trans g2, nmQ_ext hO hN g1 g3, w3.trans g4, w1.trans g5⟩
  · exact Or.inr (Or.inl ⟨a1.trans h1, a4.trans h2, by rw [w2]; exact h3, by rw [w1, a5]; exact h4, w3.trans h5, by rw [a5]; exact h6⟩)
  · refine Or.inr (Or.inr ⟨a1.trans h1, w3.trans h2, k, c, b, by omega, a2.trans h4, ?_⟩)
    rw [ordN_ext hO hN h3]
    exact ar_P_ext hx hA hW hp h5
theorem setN_R (v : Int64) : inR (setN v) := by
  rw [setN]
  split
  · rename_i h
    have h := of_decide_eq_true h
    rw [Int64.le_iff_toInt_le, Int64.le_iff_toInt_le] at h
    exact ⟨h.2, h.1⟩
  · exact ⟨by decide, by decide⟩
theorem inR_0 : inR 0 := ⟨by decide, by decide⟩
theorem rk1_R (k : Nat) (e : Int32) (v : Int64) : inR (rk1 k e v).2 := by
  by_cases h1 : oneK k = true
  · by_cases h2 : e = 0
    · by_cases h3 : k = 18
      · rw [rk1, if_pos h1, if_pos h2, if_pos h3]
        exact setN_R (-v)
      · rw [rk1, if_pos h1, if_pos h2, if_neg h3]
        exact setN_R (jabs v)
    · rw [rk1, if_pos h1, if_neg h2]
      exact inR_0
  · rw [rk1, if_neg h1]
    exact inR_0
theorem rk2_R (k : Nat) (e1 : Int32) (v1 : Int64) (e : Int32) (v : Int64) : inR (rk2 k e1 v1 e v).2 := by
  by_cases h1 : twoK k = true
  · by_cases h2 : e1 = 0
    · by_cases h3 : e = 0
      · by_cases h4 : dvsK k = true ∧ v = 0
        · rw [rk2, if_pos h1, if_pos h2, if_pos h3, if_pos h4]
          exact inR_0
        · by_cases h5 : k = 19 ∧ ptg v1 v = true
          · rw [rk2, if_pos h1, if_pos h2, if_pos h3, if_neg h4, if_pos h5]
            exact inR_0
          · rw [rk2, if_pos h1, if_pos h2, if_pos h3, if_neg h4, if_neg h5]
            exact setN_R (resK k v1 v)
      · rw [rk2, if_pos h1, if_pos h2, if_neg h3]
        exact inR_0
    · rw [rk2, if_pos h1, if_neg h2]
      exact inR_0
  · rw [rk2, if_neg h1]
    exact inR_0
theorem lvW_R (o : Option Int64) : inR (lvW o).2 := by
  cases o with
  | none => exact inR_0
  | some v => exact setN_R v
theorem ar_R {LU : Nat → (Nat → Int32) → Option Int64} {T : Nat → Int32} {F : Nat → Nat} {ns vb pt : Nat} {Va : Nat → Int32} {A : Arn} {W : Gho} {x : Nat} (h : ar_ok LU T F ns Va vb pt A W x) : inR (W.1 x).2 := by
  rcases h with ⟨h1, h2, h3, v, h4, h5, h6⟩ | ⟨h1, h2, h3, h4, h5, h6⟩ | ⟨h1, h2, k, c, b, h3, h4, h5⟩
  · rcases h6 with ⟨g1, g2, g3⟩ | ⟨k, l, g, g1, g2, g3, g4, g5⟩
    · rw [g2]; exact inR_0
    · rw [g5]
      exact lvW_R _
  · rw [h4]; exact h6
  · obtain ⟨_, _, _, _, _, g6, g7, g8, _⟩ := h5
    by_cases c1 : c = 1
    · obtain ⟨y, _, _, e⟩ := g6 c1
      rw [e]; exact rk1_R _ _ _
    · by_cases c2 : c = 2
      · obtain ⟨y, z, _, _, _, _, e, _⟩ := g7 c2
        rw [e]; exact rk2_R _ _ _ _ _
      · rw [g8 c1 c2]; exact inR_0
