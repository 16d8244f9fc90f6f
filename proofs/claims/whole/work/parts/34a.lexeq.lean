/-! SIGNS: WHAT BOTH LEXERS SEE (mine): pure facts of tok, bytes looked at with and without their sign, words spelled -/
theorem pltF_ge (g : Nat → Int32) (n : Nat) : ∀ m i, i + m = n → i ≤ pltF g n m i := fun m i h => (plt_rng g n m i h).1
theorem plt_pos {g : Nat → Int32} {n p : Nat} (hp : p < n) (h : cpB (g p) = true ∨ smB (g p) = true) : p < plt g n p := by
  rw [plt, show n - p = (n - p - 1) + 1 from by omega, pltF]
  have h1 := pltF_ge g n (n - p - 1) (p + 1) (by omega)
  by_cases hc : cpB (g p) = true
  · rw [if_pos hc]
    omega
  · rw [if_neg hc, if_pos (h.resolve_left hc)]
    omega
theorem dv_pos {g : Nat → Int32} {n p : Nat} (hp : p < n) (h : dgB (g p) = true) : p < (dv g n p).1 := by
  rw [dv, show n - p = (n - p - 1) + 1 from by omega, dvF, if_pos h]
  have h1 := (dv_rng g n (n - p - 1) (p + 1) (jmin (0 * 10 + (g p).toInt64 - 48) 9007199254740992) (by omega)).1
  omega
theorem tok_pos (f : Nat → Int32) {n a : Nat} (ha : a ≤ n) (h : ¬ (tok f n a).1 = 10) : (tok f n a).2.1 < (tok f n a).2.2.1 := by
  obtain ⟨p, hp⟩ : ∃ p, pb (tb f n) n a = p := ⟨_, rfl⟩
  have hpn : a ≤ p ∧ p ≤ n := by rw [← hp]; exact pb_rng (tb f n) n (n - a) a false (by omega)
  have hcl := @cls_in f n p
  revert h
  rw [tok, hp, tokAt]
  split
  · rename_i h9
    exact fun _ => plt_pos (hcl.1 h9) (Or.inl h9)
  split
  · rename_i h9
    split <;> exact fun _ => dv_pos (hcl.2.1 h9) h9
  split
  · rename_i h9
    exact fun _ => plt_pos (hcl.2.2.1 h9) (Or.inr h9)
  split
  · split
    · have h5 : p + 1 ≤ qd (tb f n) n (p + 1) := qd_rng (tb f n) n (n - (p + 1)) (p + 1)
      exact fun _ => by dsimp only; omega
    · exact fun _ => by dsimp only; omega
  split
  · rename_i h9
    have h8 : p < n := hcl.2.2.2 h9
    have h7 : p + 1 ≤ py (tb f n) n (p + 1) := (py_rng (tb f n) n (n - (p + 1)) (p + 1) (by omega)).1
    split <;> exact fun _ => by dsimp only; omega
  split
  · exact fun _ => by dsimp only; omega
  split
  · exact fun _ => by dsimp only; omega
  split
  · exact fun z => absurd rfl z
  · exact fun _ => by dsimp only; omega
theorem mkK_7 (x : Int32) (h : ¬ mkK x - 26 = 7) : ¬ mkK x = 33 := by omega
theorem tok_nm (f : Nat → Int32) {n a : Nat} (h1 : ¬ (tok f n a).1 = 2) (h2 : ¬ (tok f n a).1 = 7) : (tok f n a).2.2.2.2 = 0 := by
  revert h1 h2
  rw [tok, tokAt]
  repeat' split
  all_goals first
    | exact fun z _ => absurd rfl z
    | exact fun _ _ => rfl
    | (intro z1 z2; dsimp only at z1 z2 ⊢; omega)
theorem tok_nm7 (f : Nat → Int32) {n a : Nat} (h : (tok f n a).1 = 7) : (tok f n a).2.2.2.2 = 1 := by
  revert h
  rw [tok, tokAt]
  repeat' split
  all_goals first
    | (intro z; dsimp only at z; omega)
    | (intro z; dsimp only at z ⊢)
def tbB (f : Nat → Int32) : Prop := ∀ i, -128 ≤ (f i).toInt ∧ (f i).toInt ≤ 127
theorem and255 : ∀ k : Nat, k < 256 → ((Int32.ofInt ((k : Int) - 128) &&& 255).toInt = if 128 ≤ k then (k : Int) - 128 else (k : Int) + 128) := by decide +kernel
theorem and255' {x : Int32} (h : -128 ≤ x.toInt ∧ x.toInt ≤ 127) : (0 ≤ x.toInt ∧ x &&& 255 = x) ∨ (x.toInt < 0 ∧ 128 ≤ (x &&& 255).toInt) := by
  have hk := and255 (x.toInt + 128).toNat (by omega)
  have e : ((x.toInt + 128).toNat : Int) - 128 = x.toInt := by omega
  rw [e, Int32.ofInt_toInt] at hk
  by_cases h0 : 0 ≤ x.toInt
  · rw [if_pos (by omega)] at hk
    exact Or.inl ⟨h0, Int32.toInt_inj.mp (by omega)⟩
  · rw [if_neg (by omega)] at hk
    exact Or.inr ⟨by omega, by omega⟩
theorem lk_tb {f : Nat → Int32} (hb : tbB f) (n i : Nat) : lk f n i = tb f n i ∧ (i < n → 0 ≤ (tb f n i).toInt ∧ (tb f n i).toInt ≤ 127) ∨ ((lk f n i).toInt < 0 ∧ 128 ≤ (tb f n i).toInt ∧ i < n) := by
  by_cases h : i < n
  · rw [lk, tb, if_pos h, if_pos h]
    rcases and255' (hb i) with ⟨h0, h1⟩ | ⟨h0, h1⟩
    · rw [h1]
      exact Or.inl ⟨rfl, fun _ => ⟨h0, (hb i).2⟩⟩
    · exact Or.inr ⟨h0, h1, h⟩
  · rw [lk, tb, if_neg h, if_neg h]
    exact Or.inl ⟨rfl, fun z => absurd z h⟩
theorem lk_dg {f : Nat → Int32} (hb : tbB f) (n i : Nat) : dgB (lk f n i) = dgB (tb f n i) := by
  rcases lk_tb hb n i with ⟨h, _⟩ | ⟨h1, h2, _⟩
  · rw [h]
  · rw [dgB, dgB, decide_eq_false (by omega), decide_eq_false (by omega)]
theorem lk_sm {f : Nat → Int32} (hb : tbB f) (n i : Nat) : smB (lk f n i) = smB (tb f n i) := by
  rcases lk_tb hb n i with ⟨h, _⟩ | ⟨h1, h2, _⟩
  · rw [h]
  · rw [smB, smB, decide_eq_false (by omega), decide_eq_false (by omega)]
theorem lk_cp {f : Nat → Int32} (hb : tbB f) (n i : Nat) : cpB (lk f n i) = cpB (tb f n i) := by
  rcases lk_tb hb n i with ⟨h, _⟩ | ⟨h1, h2, _⟩
  · rw [h]
  · rw [cpB, cpB, decide_eq_false (by omega), decide_eq_false (by omega)]
theorem lk_bl {f : Nat → Int32} (hb : tbB f) (n i : Nat) : blB (lk f n i) = blB (tb f n i) := by
  rcases lk_tb hb n i with ⟨h, _⟩ | ⟨h1, h2, _⟩
  · rw [h]
  · rw [blB, blB, decide_eq_false (by omega), decide_eq_false (by omega)]
theorem lk_sy {f : Nat → Int32} (hb : tbB f) (n i : Nat) : syB (lk f n i) = syB (tb f n i) := by
  rcases lk_tb hb n i with ⟨h, _⟩ | ⟨h1, h2, _⟩
  · rw [h]
  · rw [syB, syB, decide_eq_false (by omega), decide_eq_false (by omega)]
theorem lk_c {f : Nat → Int32} (hb : tbB f) (n i : Nat) {c : Int32} (hc : 0 ≤ c.toInt ∧ c.toInt ≤ 127) : lk f n i = c ↔ tb f n i = c := by
  rcases lk_tb hb n i with ⟨h, _⟩ | ⟨h1, h2, _⟩
  · rw [h]
  · constructor
    · intro e
      rw [e] at h1
      omega
    · intro e
      rw [e] at h2
      omega
/-- a byte that is some sign's is the same looked at either way -/
theorem lk_f {f : Nat → Int32} (hb : tbB f) {n i : Nat} (hi : i < n) (h : (tb f n i).toInt ≤ 127) : f i = tb f n i := by
  rcases lk_tb hb n i with ⟨h1, _⟩ | ⟨h1, h2, _⟩
  · rw [← h1, lk, if_pos hi]
  · omega
/-- a word spelled -/
def spv (w : List Nat) (l : Nat) (g : Nat → Int32) : Bool := decide (w.length = l ∧ ∀ i, i < w.length → nI (w.getD i 0) = g i)
def spgF (l : Nat) (g : Nat → Int32) : Nat → Nat → Nat
  | 0, _ => 0
  | m + 1, i => if spv (kn_w i) l g then i else spgF l g m (i + 1)
def spg (l : Nat) (g : Nat → Int32) : Nat := spgF l g 26 0
theorem spv_cg {w : List Nat} {l : Nat} {g g' : Nat → Int32} (h : ∀ i, i < l → g i = g' i) : spv w l g = spv w l g' := by
  rw [spv, spv]
  congr 1
  apply propext
  constructor
  · exact fun ⟨a, b⟩ => ⟨a, fun i hi => (b i hi).trans (h i (by omega))⟩
  · exact fun ⟨a, b⟩ => ⟨a, fun i hi => (b i hi).trans (h i (by omega)).symm⟩
theorem spgF_cg {l : Nat} {g g' : Nat → Int32} (h : ∀ i, i < l → g i = g' i) : ∀ m i, spgF l g m i = spgF l g' m i
  | 0, _ => rfl
  | m + 1, i => by rw [spgF, spgF, spv_cg h, spgF_cg h m (i + 1)]
theorem spg_cg {l : Nat} {g g' : Nat → Int32} (h : ∀ i, i < l → g i = g' i) : spg l g = spg l g' := spgF_cg h 26 0
theorem spg_spl {f g : Nat → Int32} {n x y l : Nat} (hl : l = y - x) (h : ∀ i, i < l → g i = tb f n (x + i)) : spg l g = spl f n x y := by
  have hv : ∀ w, spv w l g = spw f n w x y := by
    intro w
    rw [spv, spw, hl]
    congr 1
    apply propext
    constructor
    · exact fun ⟨a, b⟩ => ⟨a, fun i hi => (b i hi).trans (h i (by omega))⟩
    · exact fun ⟨a, b⟩ => ⟨a, fun i hi => (b i hi).trans (h i (by omega)).symm⟩
  have : ∀ m i, spgF l g m i = splF f n x y m i := by
    intro m
    induction m with
    | zero => intro i; rfl
    | succ m ih => intro i; rw [spgF, splF, hv, ih]
  exact this 26 0
theorem kn_no39 : ∀ k, k < 26 → ∀ i, i < (kn_w k).length → ¬ (kn_w k).getD i 0 = 39 := by decide +kernel
theorem kn_lt128 : ∀ k, k < 26 → ∀ i, i < (kn_w k).length → (kn_w k).getD i 0 < 128 := by decide +kernel
theorem spg_39 {l : Nat} {g : Nat → Int32} {j : Nat} (hj : j < l) (h : g j = 39) : spg l g = 0 := by
  have : ∀ m i, i + m ≤ 26 → spgF l g m i = 0 := by
    intro m
    induction m with
    | zero => intro i _; rfl
    | succ m ih =>
      intro i hi
      rw [spgF, if_neg, ih _ (by omega)]
      intro z
      have z := of_decide_eq_true z
      have e := (z.2 j (by omega)).trans h
      have h1 := kn_lt128 i (by omega) j (by omega)
      exact kn_no39 i (by omega) j (by omega) ((nI_eq (b := 39) (by omega) (by omega)).mp e)
  exact this 26 0 (by omega)
theorem spl_39 {f : Nat → Int32} {n x y j : Nat} (hj : x ≤ j ∧ j < y) (h : tb f n j = 39) : spl f n x y = 0 := by
  have e := spg_spl (f := f) (n := n) (x := x) (y := y) (l := y - x) (g := fun i => tb f n (x + i)) rfl (fun _ _ => rfl)
  rw [← e]
  exact spg_39 (j := j - x) (by omega) (by show tb f n (x + (j - x)) = 39; rw [show x + (j - x) = j from by omega]; exact h)
/-- right behind a sign -/
theorem pb_self {g : Nat → Int32} {n p : Nat} (hp : p < n) (h1 : ¬ g p = 37) (h2 : ¬ blB (g p) = true) : pb g n p = p := by
  rw [pb, show n - p = (n - p - 1) + 1 from by omega, pbF, if_neg (by decide), if_neg h1, if_neg h2]
theorem mkK_29 {x : Int32} (h : mkK x - 26 = 3) : x = 40 := by
  by_cases h9 : x.toInt = 40
  · exact Int32.toInt_inj.mp h9
  · exfalso
    revert h
    unfold mkK
    rw [if_neg h9]
    repeat' split
    all_goals decide
theorem tokA_op {f : Nat → Int32} {n p : Nat} : (tokAt f n p).1 = 3 ↔ tb f n p = 40 := by
  constructor
  · rw [tokAt]
    repeat' split
    all_goals first
      | (intro z; dsimp only at z; omega)
      | exact fun z => mkK_29 z
  · intro h
    rw [tokAt, h, if_neg (by decide), if_neg (by decide), if_neg (by decide), if_neg (by decide), if_neg (by decide), if_neg (fun z => absurd z.1 (by decide)), if_neg (by decide), if_neg (by decide)]
    exact (by decide : mkK 40 - 26 = 3)
theorem tokA_dg {f : Nat → Int32} {n p : Nat} : ((tokAt f n p).1 = 1 → dgB (tb f n p) = true) ∧ (dgB (tb f n p) = true → (tokAt f n p).1 = 1 ∨ (tokAt f n p).1 = 11) := by
  constructor
  · rw [tokAt]
    have h9 := mkK_ne (tb f n p)
    repeat' split
    all_goals first
      | (intro z; dsimp only at z; omega)
      | (intro _; assumption)
  · intro h
    have hc : ¬ cpB (tb f n p) = true := by
      have := of_decide_eq_true h
      rw [cpB, decide_eq_true_iff]
      omega
    rw [tokAt, if_neg hc, if_pos h]
    split
    · exact Or.inr rfl
    · exact Or.inl rfl
theorem tok_pl (f : Nat → Int32) (n a : Nat) : tok f n a = tokAt f n (pb (tb f n) n a) ∧ (tok f n a).2.1 = pb (tb f n) n a := by
  refine ⟨rfl, ?_⟩
  rw [tok, tokAt]
  repeat' split
  all_goals rfl
theorem tok_op {f : Nat → Int32} {n e : Nat} : ((tok f n e).2.1 = e ∧ (tok f n e).1 = 3) ↔ tb f n e = 40 := by
  constructor
  · intro ⟨h1, h2⟩
    rw [(tok_pl f n e).2] at h1
    rw [(tok_pl f n e).1, h1] at h2
    exact tokA_op.mp h2
  · intro h
    have he : e < n := tb_in h (by decide)
    have h1 : pb (tb f n) n e = e := pb_self he (by rw [h]; decide) (by rw [h]; decide)
    refine ⟨by rw [(tok_pl f n e).2, h1], ?_⟩
    rw [(tok_pl f n e).1, h1]
    exact tokA_op.mpr h
theorem tok_dg {f : Nat → Int32} {n e : Nat} (h : dgB (tb f n e) = true) : (tok f n e).2.1 = e ∧ ((tok f n e).1 = 1 ∨ (tok f n e).1 = 11) := by
  have he : e < n := (@cls_in f n e).2.1 h
  have h9 := of_decide_eq_true h
  have h1 : pb (tb f n) n e = e := pb_self he (fun z => by rw [z] at h; exact absurd h (by decide)) (by rw [blB, decide_eq_true_iff]; omega)
  refine ⟨by rw [(tok_pl f n e).2, h1], ?_⟩
  rw [(tok_pl f n e).1, h1]
  exact tokA_dg.2 h
theorem tok_dg1 {f : Nat → Int32} {n e : Nat} (h : (tok f n e).2.1 = e ∧ (tok f n e).1 = 1) : dgB (tb f n e) = true := by
  obtain ⟨h1, h2⟩ := h
  rw [(tok_pl f n e).2] at h1
  rw [(tok_pl f n e).1, h1] at h2
  exact tokA_dg.1 h2
