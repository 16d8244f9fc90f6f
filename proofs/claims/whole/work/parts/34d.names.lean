/-! NAMES HELD ONCE (mine): the reference's table of names, its chains by a digest, pure -/
def hsF (g : Nat → Int32) : Nat → Nat → Int32 → Int32
  | 0, _, h => h
  | m + 1, i, h => hsF g m (i + 1) (31 * h + g i)
def hsI (h : Int32) : Int32 := (h ^^^ (h.toUInt32 >>> ((11 : Int32).toUInt32 &&& Int32.toUInt32 31)).toInt32) &&& 1023
def hsh (l : Nat) (g : Nat → Int32) : Nat := (hsI (hsF g l 0 (nI l))).toNatClampNeg
theorem hs_and (x : Int32) : 0 ≤ (x &&& 1023).toInt ∧ (x &&& 1023).toInt < 1024 := by
  have e : (x &&& 1023).toBitVec = x.toBitVec &&& 1023#32 := by rw [Int32.toBitVec_and]; rfl
  have h1 : (x &&& 1023).toBitVec.toNat ≤ 1023 := by
    rw [e, BitVec.toNat_and]
    exact Nat.and_le_right
  rw [← Int32.toInt_toBitVec, BitVec.toInt_eq_toNat_cond]
  rw [if_pos (by omega)]
  omega
theorem hs_nI (l : Nat) (g : Nat → Int32) : hsI (hsF g l 0 (nI l)) = nI (hsh l g) ∧ hsh l g < 1024 := by
  rw [hsh]
  generalize hsF g l 0 (nI l) = x
  have h := hs_and (x ^^^ (x.toUInt32 >>> ((11 : Int32).toUInt32 &&& Int32.toUInt32 31)).toInt32)
  rw [show (x ^^^ (x.toUInt32 >>> ((11 : Int32).toUInt32 &&& Int32.toUInt32 31)).toInt32) &&& 1023 = hsI x from rfl] at h
  have h2 : (hsI x).toNatClampNeg = (hsI x).toInt.toNat := rfl
  refine ⟨Int32.toInt_inj.mp ?_, by omega⟩
  rw [nI_toInt (by omega)]
  omega
theorem hsF_cg {g g' : Nat → Int32} : ∀ m i h, (∀ j, i ≤ j → j < i + m → g j = g' j) → hsF g m i h = hsF g' m i h
  | 0, _, _, _ => rfl
  | m + 1, i, h, hg => by rw [hsF, hsF, hg i (by omega) (by omega), hsF_cg m (i + 1) _ (fun j h1 h2 => hg j (by omega) (by omega))]
theorem hsh_cg {g g' : Nat → Int32} {l : Nat} (h : ∀ j, j < l → g j = g' j) : hsh l g = hsh l g' := by
  rw [hsh, hsh, hsF_cg l 0 (nI l) (fun j _ h2 => h j (by omega))]
def nmL (F : Nat → Nat) (k : Nat) : Nat := F (k + 1) - F k
def nmW (T : Nat → Int32) (F : Nat → Nat) (k : Nat) : Nat → Int32 := fun i => T (F k + i)
def nmH (T : Nat → Int32) (F : Nat → Nat) (k : Nat) : Nat := hsh (nmL F k) (nmW T F k)
def nmQ (T : Nat → Int32) (F : Nat → Nat) (k l : Nat) (g : Nat → Int32) : Prop := nmL F k = l ∧ ∀ i, i < l → T (F k + i) = g i
theorem nmQ_H {T : Nat → Int32} {F : Nat → Nat} {k l : Nat} {g : Nat → Int32} (h : nmQ T F k l g) : nmH T F k = hsh l g := by
  rw [nmH, h.1]
  exact hsh_cg (fun j hj => h.2 j hj)
def gr (H : Nat → Nat) (h : Nat) : Nat → Int32
  | 0 => -1
  | j + 1 => if H j = h then nI j else gr H h j
theorem gr_cg {H H' : Nat → Nat} {h : Nat} : ∀ J, (∀ i, i < J → H i = H' i) → gr H h J = gr H' h J
  | 0, _ => rfl
  | j + 1, e => by rw [gr, gr, e j (by omega), gr_cg j (fun i hi => e i (by omega))]
theorem gr_cs (H : Nat → Nat) (h : Nat) : ∀ J, (gr H h J = -1 ∧ ∀ i, i < J → ¬ H i = h) ∨ ∃ j, j < J ∧ gr H h J = nI j ∧ H j = h ∧ ∀ i, j < i → i < J → ¬ H i = h
  | 0 => Or.inl ⟨rfl, fun i hi => absurd hi (by omega)⟩
  | j + 1 => by
    rw [gr]
    by_cases hj : H j = h
    · rw [if_pos hj]
      exact Or.inr ⟨j, by omega, rfl, hj, fun i h1 h2 => absurd h1 (by omega)⟩
    · rw [if_neg hj]
      rcases gr_cs H h j with ⟨a, b⟩ | ⟨x, a, b, c, d⟩
      · refine Or.inl ⟨a, fun i hi => ?_⟩
        rcases Nat.lt_or_eq_of_le (Nat.le_of_lt_succ hi) with e | e
        · exact b i e
        · rw [e]
          exact hj
      · refine Or.inr ⟨x, by omega, b, c, fun i h1 h2 => ?_⟩
        rcases Nat.lt_or_eq_of_le (Nat.le_of_lt_succ h2) with e | e
        · exact d i h1 e
        · rw [e]
          exact hj
/-- the table with one name more -/
def nmT (T : Nat → Int32) (tx l : Nat) (g : Nat → Int32) : Nat → Int32 := fun j => if tx ≤ j ∧ j < tx + l then g (j - tx) else T j
def nmF (F : Nat → Nat) (ns e : Nat) : Nat → Nat := fun k => if k = ns + 1 then e else F k
def nmO (F : Nat → Nat) (ns tx : Nat) : Prop := F 0 = 0 ∧ F ns = tx ∧ ∀ k, k < ns → F k ≤ F (k + 1)
theorem nmO_le {F : Nat → Nat} {ns tx : Nat} (h : nmO F ns tx) : ∀ k, k ≤ ns → F k ≤ tx := by
  intro k hk
  obtain ⟨m, hm⟩ : ∃ m, k + m = ns := ⟨ns - k, by omega⟩
  induction m generalizing k with
  | zero => rw [show k = ns from by omega, h.2.1]; exact Nat.le_refl _
  | succ m ih => exact Nat.le_trans (h.2.2 k (by omega)) (ih (k + 1) (by omega) (by omega))
theorem nm_old {T T' : Nat → Int32} {F F' : Nat → Nat} {ns tx : Nat} (h : nmO F ns tx) (hT : ∀ j, j < tx → T' j = T j) (hF : ∀ k, k ≤ ns → F' k = F k) {k : Nat} (hk : k < ns) : nmL F' k = nmL F k ∧ (∀ i, i < nmL F k → nmW T' F' k i = nmW T F k i) ∧ nmH T' F' k = nmH T F k := by
  have e1 : nmL F' k = nmL F k := by rw [nmL, nmL, hF _ (by omega), hF _ (by omega)]
  have e2 : ∀ i, i < nmL F k → nmW T' F' k i = nmW T F k i := by
    intro i hi
    rw [nmW, nmW, hF _ (by omega)]
    have := nmO_le h (k + 1) (by omega)
    rw [nmL] at hi
    exact hT _ (by omega)
  refine ⟨e1, e2, ?_⟩
  rw [nmH, nmH, e1]
  exact hsh_cg e2
theorem nmO_new {F : Nat → Nat} {ns tx l : Nat} (h : nmO F ns tx) : nmO (nmF F ns (tx + l)) (ns + 1) (tx + l) := by
  refine ⟨by rw [nmF, if_neg (by omega)]; exact h.1, by rw [nmF, if_pos rfl], fun k hk => ?_⟩
  rw [nmF, nmF, if_neg (by omega)]
  split
  · have := nmO_le h k (by omega)
    omega
  · exact h.2.2 k (by omega)
theorem nm_new {T : Nat → Int32} {F : Nat → Nat} {ns tx l : Nat} {g : Nat → Int32} (h : nmO F ns tx) : nmQ (nmT T tx l g) (nmF F ns (tx + l)) ns l g := by
  have e0 : nmF F ns (tx + l) ns = tx := by rw [nmF, if_neg (by omega), h.2.1]
  have e1 : nmF F ns (tx + l) (ns + 1) = tx + l := by rw [nmF, if_pos rfl]
  refine ⟨by rw [nmL, e0, e1]; omega, fun i hi => ?_⟩
  rw [e0, nmT, if_pos (by omega)]
  congr 1
  omega
theorem nm_newH {T : Nat → Int32} {F : Nat → Nat} {ns tx l : Nat} {g : Nat → Int32} (h : nmO F ns tx) : (∀ k, k < ns → nmH (nmT T tx l g) (nmF F ns (tx + l)) k = nmH T F k) ∧ nmH (nmT T tx l g) (nmF F ns (tx + l)) ns = hsh l g :=
  ⟨fun k hk => (nm_old h (fun j hj => by rw [nmT, if_neg (by omega)]) (fun k hk => by rw [nmF, if_neg (by omega)]) hk).2.2, nmQ_H (nm_new h)⟩
