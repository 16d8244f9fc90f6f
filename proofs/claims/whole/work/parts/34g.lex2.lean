/-! DIGITS AND QUOTED NAMES (mine): what both lexers keep, pure -/
def dgI (u v : Int64) : Prop := (0 ≤ u.toInt ∧ u.toInt < 9007199254740992 ∧ v = u) ∨ (9007199254740992 ≤ u.toInt ∧ v = 9007199254740992)
theorem dg_val {u : Int64} {c : Int32} (h0 : 0 ≤ u.toInt) (h1 : u.toInt < 9007199254740993) (hc : 48 ≤ c.toInt ∧ c.toInt ≤ 57) : (10 * u + c.toInt64 - 48).toInt = 10 * u.toInt + c.toInt - 48 := by
  rw [Int64.toInt_sub, Int64.toInt_add, Int64.toInt_mul, Int32.toInt_toInt64, show (10 : Int64).toInt = 10 from by decide, show (48 : Int64).toInt = 48 from by decide]
  rw [bm_id (x := 10 * u.toInt) (by omega) (by omega), bm_id (x := 10 * u.toInt + c.toInt) (by omega) (by omega)]
  exact bm_id (by omega) (by omega)
theorem dg_step {u v : Int64} {c : Int32} (hc : 48 ≤ c.toInt ∧ c.toInt ≤ 57) (h : dgI u v) : dgI (if u < 9007199254740992 then 10 * u + c.toInt64 - 48 else u) (jmin (v * 10 + c.toInt64 - 48) 9007199254740992) := by
  have hk : (9007199254740992 : Int64).toInt = 9007199254740992 := by decide
  rw [Int64.mul_comm v 10]
  rcases h with ⟨h0, h1, rfl⟩ | ⟨h0, rfl⟩
  · rw [if_pos (Int64.lt_iff_toInt_lt.mpr (by omega))]
    have e := dg_val h0 (by omega) hc
    by_cases h9 : 10 * v.toInt + c.toInt - 48 < 9007199254740992
    · refine Or.inl ⟨by omega, by omega, ?_⟩
      rw [jmin, if_pos (Int64.le_iff_toInt_le.mpr (by omega))]
    · refine Or.inr ⟨by omega, ?_⟩
      rw [jmin]
      split
      · rename_i h8
        have h8 := Int64.le_iff_toInt_le.mp h8
        exact Int64.toInt_inj.mp (by omega)
      · rfl
  · rw [if_neg (fun z => by have := Int64.lt_iff_toInt_lt.mp z; omega)]
    have e := dg_val (u := 9007199254740992) (by omega) (by omega) hc
    refine Or.inr ⟨h0, ?_⟩
    rw [jmin, if_neg (fun z => by have := Int64.le_iff_toInt_le.mp z; omega)]
theorem dgI_lt {u v : Int64} (h : dgI u v) : (u < 9007199254740992 ↔ ¬ 9007199254740991 < v) ∧ (u < 9007199254740992 → v = u) := by
  have hk : (9007199254740992 : Int64).toInt = 9007199254740992 := by decide
  have hk1 : (9007199254740991 : Int64).toInt = 9007199254740991 := by decide
  rw [Int64.lt_iff_toInt_lt, Int64.lt_iff_toInt_lt, hk, hk1]
  rcases h with ⟨h0, h1, rfl⟩ | ⟨h0, rfl⟩
  · exact ⟨by omega, fun _ => rfl⟩
  · rw [hk]
    exact ⟨by omega, fun z => absurd z (by omega)⟩
/-- a quoted word as far as it is read -/
def wqI (f : Nat → Int32) (n p i l : Nat) (g : Nat → Int32) : Prop := l + (p + 1) ≤ i ∧ ((l + (p + 1) = i ∧ ∀ j, j < l → g j = tb f n (p + 1 + j)) ∨ ((∃ j, j < l ∧ g j = 39) ∧ ∃ j, p + 1 ≤ j ∧ j < i ∧ tb f n j = 39))
theorem upd_old {g : Nat → Int32} {l j : Nat} {x : Int32} (h : j < l) : upd g l x j = g j := by rw [upd, if_neg (by omega)]
theorem upd_new {g : Nat → Int32} {l : Nat} {x : Int32} : upd g l x l = x := by rw [upd, if_pos rfl]
theorem wqI_1 {f g : Nat → Int32} {n p i l : Nat} {c : Int32} (h : wqI f n p i l g) (hc : tb f n i = c) : wqI f n p (i + 1) (l + 1) (upd g l c) := by
  obtain ⟨h1, h2⟩ := h
  refine ⟨by omega, ?_⟩
  rcases h2 with ⟨a, b⟩ | ⟨⟨j, a1, a2⟩, j', b1, b2, b3⟩
  · refine Or.inl ⟨by omega, fun j hj => ?_⟩
    rcases Nat.lt_or_eq_of_le (Nat.le_of_lt_succ hj) with e | e
    · rw [upd_old e]
      exact b j e
    · subst e
      rw [upd_new, ← hc]
      congr 1
      omega
  · exact Or.inr ⟨⟨j, by omega, by rw [upd_old a1]; exact a2⟩, j', b1, by omega, b3⟩
theorem wqI_2 {f g : Nat → Int32} {n p i l : Nat} (h : wqI f n p i l g) (hc : tb f n i = 39) : wqI f n p (i + 2) (l + 1) (upd g l 39) := by
  obtain ⟨h1, h2⟩ := h
  exact ⟨by omega, Or.inr ⟨⟨l, by omega, upd_new⟩, i, by omega, by omega, hc⟩⟩
theorem wqI_e {f g : Nat → Int32} {n p i l : Nat} (h : wqI f n p i l g) : spg l g = spl f n (p + 1) i := by
  obtain ⟨h1, h2⟩ := h
  rcases h2 with ⟨a, b⟩ | ⟨⟨j, a1, a2⟩, j', b1, b2, b3⟩
  · exact spg_spl (by omega) b
  · rw [spg_39 a1 a2, spl_39 ⟨b1, b2⟩ b3]
/-- a plain word as far as it is read -/
def wpI (f : Nat → Int32) (n p i l : Nat) (g : Nat → Int32) : Prop := l + p = i ∧ ∀ j, j < l → g j = f (p + j) ∧ tb f n (p + j) = f (p + j)
theorem wpI_0 (f : Nat → Int32) (n p : Nat) (g : Nat → Int32) : wpI f n p p 0 g := ⟨by omega, fun j hj => absurd hj (by omega)⟩
theorem wpI_1 {f g : Nat → Int32} {n p i l : Nat} (h : wpI f n p i l g) (hc : tb f n i = f i) : wpI f n p (i + 1) (l + 1) (upd g l (f i)) := by
  obtain ⟨h1, h2⟩ := h
  refine ⟨by omega, fun j hj => ?_⟩
  rcases Nat.lt_or_eq_of_le (Nat.le_of_lt_succ hj) with e | e
  · rw [upd_old e]
    exact h2 j e
  · subst e
    rw [upd_new, show p + j = i from by omega]
    exact ⟨rfl, hc⟩
theorem wpI_e {f g : Nat → Int32} {n p i l : Nat} (h : wpI f n p i l g) : spg l g = spl f n p i := spg_spl (by have := h.1; omega) (fun j hj => by rw [(h.2 j hj).2]; exact (h.2 j hj).1)
theorem pbF_nl {g : Nat → Int32} {n m i : Nat} (h : g i = 10) : pbF g n (m + 1) i true = pbF g n (m + 1) i false := by
  rw [pbF, pbF, if_pos rfl, if_neg (by decide), if_neg (by rw [h]; decide), if_pos (by rw [h]; decide), h]
  rfl
/-- the reference's number of a sign -/
def tkT (k : Nat) : Int32 := [1, 2, 3, 4, 5, 6, 7, 10, 11, 0, 13].getD k 12
def tkR (k : Nat) (t : Int32) : Prop := (k < 11 → t = tkT k) ∧ (¬ k < 11 → t = 8 ∨ t = 9 ∨ t = 12)
def scT (f : Nat → Int32) (t : Nat × Nat × Nat × Int64 × Nat) (tk : Int32) (nu : Int64) (l : Nat) (g : Nat → Int32) : Prop :=
  tkR t.1 tk ∧ (t.1 = 1 → nu = t.2.2.2.1) ∧ l ≤ 4096 ∧ (t.1 = 0 → l + t.2.1 = t.2.2.1 ∧ ∀ i, i < l → g i = f (t.2.1 + i)) ∧ (t.1 = 2 → l ≤ t.2.2.1 - t.2.1 ∧ spg l g = t.2.2.2.2)
def sc (f : Nat → Int32) (n a : Nat) (tk : Int32) (nu : Int64) (l : Nat) (g : Nat → Int32) : Prop := scT f (tok f n a) tk nu l g
theorem scT_x {f : Nat → Int32} {k p e nm : Nat} {v nu : Int64} {tk : Int32} {l : Nat} {g : Nat → Int32} (h : k < 11 ∧ tk = tkT k ∨ k = 11 ∧ (tk = 8 ∨ tk = 9 ∨ tk = 12)) (h0 : ¬ k = 0) (h1 : ¬ k = 1) (h2 : ¬ k = 2) (hl : l ≤ 4096) : scT f (k, p, e, v, nm) tk nu l g := by
  refine ⟨⟨fun z => ?_, fun z => ?_⟩, fun z => absurd z h1, hl, fun z => absurd z h0, fun z => absurd z h2⟩
  · exact h.elim (fun y => y.2) (fun y => absurd (show k < 11 from z) (by omega))
  · exact h.elim (fun y => absurd y.1 z) (fun y => y.2)
