/-! THE NAMES' TABLES; THE CLASS'S READING STATE (mine) -/
def kn_inf (k : Nat) : Int32 := [0, 1000, 1200, 1100, 1050, 0, 700, 700, 700, 700, 700, 700, 700, 700, 700, 700, 700, 500, 500, 400, 400, 400, 400, 0, 0, 0].getD k 0
theorem kn_inf_0 : (0, "ValueReckoner$Name", "infix", "I", Value.int (kn_inf 0)) ∈ am_kf := by decide +kernel
theorem kn_inf_1 : (1, "ValueReckoner$Name", "infix", "I", Value.int (kn_inf 1)) ∈ am_kf := by decide +kernel
theorem kn_inf_2 : (2, "ValueReckoner$Name", "infix", "I", Value.int (kn_inf 2)) ∈ am_kf := by decide +kernel
theorem kn_inf_3 : (3, "ValueReckoner$Name", "infix", "I", Value.int (kn_inf 3)) ∈ am_kf := by decide +kernel
theorem kn_inf_4 : (4, "ValueReckoner$Name", "infix", "I", Value.int (kn_inf 4)) ∈ am_kf := by decide +kernel
theorem kn_inf_5 : (5, "ValueReckoner$Name", "infix", "I", Value.int (kn_inf 5)) ∈ am_kf := by decide +kernel
theorem kn_inf_6 : (6, "ValueReckoner$Name", "infix", "I", Value.int (kn_inf 6)) ∈ am_kf := by decide +kernel
theorem kn_inf_7 : (7, "ValueReckoner$Name", "infix", "I", Value.int (kn_inf 7)) ∈ am_kf := by decide +kernel
theorem kn_inf_8 : (8, "ValueReckoner$Name", "infix", "I", Value.int (kn_inf 8)) ∈ am_kf := by decide +kernel
theorem kn_inf_9 : (9, "ValueReckoner$Name", "infix", "I", Value.int (kn_inf 9)) ∈ am_kf := by decide +kernel
theorem kn_inf_10 : (10, "ValueReckoner$Name", "infix", "I", Value.int (kn_inf 10)) ∈ am_kf := by decide +kernel
theorem kn_inf_11 : (11, "ValueReckoner$Name", "infix", "I", Value.int (kn_inf 11)) ∈ am_kf := by decide +kernel
theorem kn_inf_12 : (12, "ValueReckoner$Name", "infix", "I", Value.int (kn_inf 12)) ∈ am_kf := by decide +kernel
theorem kn_inf_13 : (13, "ValueReckoner$Name", "infix", "I", Value.int (kn_inf 13)) ∈ am_kf := by decide +kernel
theorem kn_inf_14 : (14, "ValueReckoner$Name", "infix", "I", Value.int (kn_inf 14)) ∈ am_kf := by decide +kernel
theorem kn_inf_15 : (15, "ValueReckoner$Name", "infix", "I", Value.int (kn_inf 15)) ∈ am_kf := by decide +kernel
theorem kn_inf_16 : (16, "ValueReckoner$Name", "infix", "I", Value.int (kn_inf 16)) ∈ am_kf := by decide +kernel
theorem kn_inf_17 : (17, "ValueReckoner$Name", "infix", "I", Value.int (kn_inf 17)) ∈ am_kf := by decide +kernel
theorem kn_inf_18 : (18, "ValueReckoner$Name", "infix", "I", Value.int (kn_inf 18)) ∈ am_kf := by decide +kernel
theorem kn_inf_19 : (19, "ValueReckoner$Name", "infix", "I", Value.int (kn_inf 19)) ∈ am_kf := by decide +kernel
theorem kn_inf_20 : (20, "ValueReckoner$Name", "infix", "I", Value.int (kn_inf 20)) ∈ am_kf := by decide +kernel
theorem kn_inf_21 : (21, "ValueReckoner$Name", "infix", "I", Value.int (kn_inf 21)) ∈ am_kf := by decide +kernel
theorem kn_inf_22 : (22, "ValueReckoner$Name", "infix", "I", Value.int (kn_inf 22)) ∈ am_kf := by decide +kernel
theorem kn_inf_23 : (23, "ValueReckoner$Name", "infix", "I", Value.int (kn_inf 23)) ∈ am_kf := by decide +kernel
theorem kn_inf_24 : (24, "ValueReckoner$Name", "infix", "I", Value.int (kn_inf 24)) ∈ am_kf := by decide +kernel
theorem kn_inf_25 : (25, "ValueReckoner$Name", "infix", "I", Value.int (kn_inf 25)) ∈ am_kf := by decide +kernel
theorem kn_inf_k : ∀ k, k < 26 → (k, "ValueReckoner$Name", "infix", "I", Value.int (kn_inf k)) ∈ am_kf
  | 0, _ => kn_inf_0
  | 1, _ => kn_inf_1
  | 2, _ => kn_inf_2
  | 3, _ => kn_inf_3
  | 4, _ => kn_inf_4
  | 5, _ => kn_inf_5
  | 6, _ => kn_inf_6
  | 7, _ => kn_inf_7
  | 8, _ => kn_inf_8
  | 9, _ => kn_inf_9
  | 10, _ => kn_inf_10
  | 11, _ => kn_inf_11
  | 12, _ => kn_inf_12
  | 13, _ => kn_inf_13
  | 14, _ => kn_inf_14
  | 15, _ => kn_inf_15
  | 16, _ => kn_inf_16
  | 17, _ => kn_inf_17
  | 18, _ => kn_inf_18
  | 19, _ => kn_inf_19
  | 20, _ => kn_inf_20
  | 21, _ => kn_inf_21
  | 22, _ => kn_inf_22
  | 23, _ => kn_inf_23
  | 24, _ => kn_inf_24
  | 25, _ => kn_inf_25
  | k + 26, h => absurd h (by omega)
def kn_ml (k : Nat) : Int32 := [0, 999, 1199, 1099, 1049, 0, 699, 699, 699, 699, 699, 699, 699, 699, 699, 699, 699, 500, 500, 400, 400, 400, 400, 0, 0, 0].getD k 0
theorem kn_ml_0 : (0, "ValueReckoner$Name", "mostLeft", "I", Value.int (kn_ml 0)) ∈ am_kf := by decide +kernel
theorem kn_ml_1 : (1, "ValueReckoner$Name", "mostLeft", "I", Value.int (kn_ml 1)) ∈ am_kf := by decide +kernel
theorem kn_ml_2 : (2, "ValueReckoner$Name", "mostLeft", "I", Value.int (kn_ml 2)) ∈ am_kf := by decide +kernel
theorem kn_ml_3 : (3, "ValueReckoner$Name", "mostLeft", "I", Value.int (kn_ml 3)) ∈ am_kf := by decide +kernel
theorem kn_ml_4 : (4, "ValueReckoner$Name", "mostLeft", "I", Value.int (kn_ml 4)) ∈ am_kf := by decide +kernel
theorem kn_ml_5 : (5, "ValueReckoner$Name", "mostLeft", "I", Value.int (kn_ml 5)) ∈ am_kf := by decide +kernel
theorem kn_ml_6 : (6, "ValueReckoner$Name", "mostLeft", "I", Value.int (kn_ml 6)) ∈ am_kf := by decide +kernel
theorem kn_ml_7 : (7, "ValueReckoner$Name", "mostLeft", "I", Value.int (kn_ml 7)) ∈ am_kf := by decide +kernel
theorem kn_ml_8 : (8, "ValueReckoner$Name", "mostLeft", "I", Value.int (kn_ml 8)) ∈ am_kf := by decide +kernel
theorem kn_ml_9 : (9, "ValueReckoner$Name", "mostLeft", "I", Value.int (kn_ml 9)) ∈ am_kf := by decide +kernel
theorem kn_ml_10 : (10, "ValueReckoner$Name", "mostLeft", "I", Value.int (kn_ml 10)) ∈ am_kf := by decide +kernel
theorem kn_ml_11 : (11, "ValueReckoner$Name", "mostLeft", "I", Value.int (kn_ml 11)) ∈ am_kf := by decide +kernel
theorem kn_ml_12 : (12, "ValueReckoner$Name", "mostLeft", "I", Value.int (kn_ml 12)) ∈ am_kf := by decide +kernel
theorem kn_ml_13 : (13, "ValueReckoner$Name", "mostLeft", "I", Value.int (kn_ml 13)) ∈ am_kf := by decide +kernel
theorem kn_ml_14 : (14, "ValueReckoner$Name", "mostLeft", "I", Value.int (kn_ml 14)) ∈ am_kf := by decide +kernel
theorem kn_ml_15 : (15, "ValueReckoner$Name", "mostLeft", "I", Value.int (kn_ml 15)) ∈ am_kf := by decide +kernel
theorem kn_ml_16 : (16, "ValueReckoner$Name", "mostLeft", "I", Value.int (kn_ml 16)) ∈ am_kf := by decide +kernel
theorem kn_ml_17 : (17, "ValueReckoner$Name", "mostLeft", "I", Value.int (kn_ml 17)) ∈ am_kf := by decide +kernel
theorem kn_ml_18 : (18, "ValueReckoner$Name", "mostLeft", "I", Value.int (kn_ml 18)) ∈ am_kf := by decide +kernel
theorem kn_ml_19 : (19, "ValueReckoner$Name", "mostLeft", "I", Value.int (kn_ml 19)) ∈ am_kf := by decide +kernel
theorem kn_ml_20 : (20, "ValueReckoner$Name", "mostLeft", "I", Value.int (kn_ml 20)) ∈ am_kf := by decide +kernel
theorem kn_ml_21 : (21, "ValueReckoner$Name", "mostLeft", "I", Value.int (kn_ml 21)) ∈ am_kf := by decide +kernel
theorem kn_ml_22 : (22, "ValueReckoner$Name", "mostLeft", "I", Value.int (kn_ml 22)) ∈ am_kf := by decide +kernel
theorem kn_ml_23 : (23, "ValueReckoner$Name", "mostLeft", "I", Value.int (kn_ml 23)) ∈ am_kf := by decide +kernel
theorem kn_ml_24 : (24, "ValueReckoner$Name", "mostLeft", "I", Value.int (kn_ml 24)) ∈ am_kf := by decide +kernel
theorem kn_ml_25 : (25, "ValueReckoner$Name", "mostLeft", "I", Value.int (kn_ml 25)) ∈ am_kf := by decide +kernel
theorem kn_ml_k : ∀ k, k < 26 → (k, "ValueReckoner$Name", "mostLeft", "I", Value.int (kn_ml k)) ∈ am_kf
  | 0, _ => kn_ml_0
  | 1, _ => kn_ml_1
  | 2, _ => kn_ml_2
  | 3, _ => kn_ml_3
  | 4, _ => kn_ml_4
  | 5, _ => kn_ml_5
  | 6, _ => kn_ml_6
  | 7, _ => kn_ml_7
  | 8, _ => kn_ml_8
  | 9, _ => kn_ml_9
  | 10, _ => kn_ml_10
  | 11, _ => kn_ml_11
  | 12, _ => kn_ml_12
  | 13, _ => kn_ml_13
  | 14, _ => kn_ml_14
  | 15, _ => kn_ml_15
  | 16, _ => kn_ml_16
  | 17, _ => kn_ml_17
  | 18, _ => kn_ml_18
  | 19, _ => kn_ml_19
  | 20, _ => kn_ml_20
  | 21, _ => kn_ml_21
  | 22, _ => kn_ml_22
  | 23, _ => kn_ml_23
  | 24, _ => kn_ml_24
  | 25, _ => kn_ml_25
  | k + 26, h => absurd h (by omega)
def kn_mr (k : Nat) : Int32 := [0, 1000, 1199, 1100, 1050, 0, 699, 699, 699, 699, 699, 699, 699, 699, 699, 699, 699, 499, 499, 399, 399, 399, 399, 0, 0, 0].getD k 0
theorem kn_mr_0 : (0, "ValueReckoner$Name", "mostRight", "I", Value.int (kn_mr 0)) ∈ am_kf := by decide +kernel
theorem kn_mr_1 : (1, "ValueReckoner$Name", "mostRight", "I", Value.int (kn_mr 1)) ∈ am_kf := by decide +kernel
theorem kn_mr_2 : (2, "ValueReckoner$Name", "mostRight", "I", Value.int (kn_mr 2)) ∈ am_kf := by decide +kernel
theorem kn_mr_3 : (3, "ValueReckoner$Name", "mostRight", "I", Value.int (kn_mr 3)) ∈ am_kf := by decide +kernel
theorem kn_mr_4 : (4, "ValueReckoner$Name", "mostRight", "I", Value.int (kn_mr 4)) ∈ am_kf := by decide +kernel
theorem kn_mr_5 : (5, "ValueReckoner$Name", "mostRight", "I", Value.int (kn_mr 5)) ∈ am_kf := by decide +kernel
theorem kn_mr_6 : (6, "ValueReckoner$Name", "mostRight", "I", Value.int (kn_mr 6)) ∈ am_kf := by decide +kernel
theorem kn_mr_7 : (7, "ValueReckoner$Name", "mostRight", "I", Value.int (kn_mr 7)) ∈ am_kf := by decide +kernel
theorem kn_mr_8 : (8, "ValueReckoner$Name", "mostRight", "I", Value.int (kn_mr 8)) ∈ am_kf := by decide +kernel
theorem kn_mr_9 : (9, "ValueReckoner$Name", "mostRight", "I", Value.int (kn_mr 9)) ∈ am_kf := by decide +kernel
theorem kn_mr_10 : (10, "ValueReckoner$Name", "mostRight", "I", Value.int (kn_mr 10)) ∈ am_kf := by decide +kernel
theorem kn_mr_11 : (11, "ValueReckoner$Name", "mostRight", "I", Value.int (kn_mr 11)) ∈ am_kf := by decide +kernel
theorem kn_mr_12 : (12, "ValueReckoner$Name", "mostRight", "I", Value.int (kn_mr 12)) ∈ am_kf := by decide +kernel
theorem kn_mr_13 : (13, "ValueReckoner$Name", "mostRight", "I", Value.int (kn_mr 13)) ∈ am_kf := by decide +kernel
theorem kn_mr_14 : (14, "ValueReckoner$Name", "mostRight", "I", Value.int (kn_mr 14)) ∈ am_kf := by decide +kernel
theorem kn_mr_15 : (15, "ValueReckoner$Name", "mostRight", "I", Value.int (kn_mr 15)) ∈ am_kf := by decide +kernel
theorem kn_mr_16 : (16, "ValueReckoner$Name", "mostRight", "I", Value.int (kn_mr 16)) ∈ am_kf := by decide +kernel
theorem kn_mr_17 : (17, "ValueReckoner$Name", "mostRight", "I", Value.int (kn_mr 17)) ∈ am_kf := by decide +kernel
theorem kn_mr_18 : (18, "ValueReckoner$Name", "mostRight", "I", Value.int (kn_mr 18)) ∈ am_kf := by decide +kernel
theorem kn_mr_19 : (19, "ValueReckoner$Name", "mostRight", "I", Value.int (kn_mr 19)) ∈ am_kf := by decide +kernel
theorem kn_mr_20 : (20, "ValueReckoner$Name", "mostRight", "I", Value.int (kn_mr 20)) ∈ am_kf := by decide +kernel
theorem kn_mr_21 : (21, "ValueReckoner$Name", "mostRight", "I", Value.int (kn_mr 21)) ∈ am_kf := by decide +kernel
theorem kn_mr_22 : (22, "ValueReckoner$Name", "mostRight", "I", Value.int (kn_mr 22)) ∈ am_kf := by decide +kernel
theorem kn_mr_23 : (23, "ValueReckoner$Name", "mostRight", "I", Value.int (kn_mr 23)) ∈ am_kf := by decide +kernel
theorem kn_mr_24 : (24, "ValueReckoner$Name", "mostRight", "I", Value.int (kn_mr 24)) ∈ am_kf := by decide +kernel
theorem kn_mr_25 : (25, "ValueReckoner$Name", "mostRight", "I", Value.int (kn_mr 25)) ∈ am_kf := by decide +kernel
theorem kn_mr_k : ∀ k, k < 26 → (k, "ValueReckoner$Name", "mostRight", "I", Value.int (kn_mr k)) ∈ am_kf
  | 0, _ => kn_mr_0
  | 1, _ => kn_mr_1
  | 2, _ => kn_mr_2
  | 3, _ => kn_mr_3
  | 4, _ => kn_mr_4
  | 5, _ => kn_mr_5
  | 6, _ => kn_mr_6
  | 7, _ => kn_mr_7
  | 8, _ => kn_mr_8
  | 9, _ => kn_mr_9
  | 10, _ => kn_mr_10
  | 11, _ => kn_mr_11
  | 12, _ => kn_mr_12
  | 13, _ => kn_mr_13
  | 14, _ => kn_mr_14
  | 15, _ => kn_mr_15
  | 16, _ => kn_mr_16
  | 17, _ => kn_mr_17
  | 18, _ => kn_mr_18
  | 19, _ => kn_mr_19
  | 20, _ => kn_mr_20
  | 21, _ => kn_mr_21
  | 22, _ => kn_mr_22
  | 23, _ => kn_mr_23
  | 24, _ => kn_mr_24
  | 25, _ => kn_mr_25
  | k + 26, h => absurd h (by omega)
def kn_pf (k : Nat) : Int32 := [0, 0, 0, 0, 0, 900, 0, 0, 0, 0, 0, 0, 0, 0, 0, 0, 0, 0, 200, 0, 0, 0, 0, 0, 0, 0].getD k 0
theorem kn_pf_0 : (0, "ValueReckoner$Name", "prefix", "I", Value.int (kn_pf 0)) ∈ am_kf := by decide +kernel
theorem kn_pf_1 : (1, "ValueReckoner$Name", "prefix", "I", Value.int (kn_pf 1)) ∈ am_kf := by decide +kernel
theorem kn_pf_2 : (2, "ValueReckoner$Name", "prefix", "I", Value.int (kn_pf 2)) ∈ am_kf := by decide +kernel
theorem kn_pf_3 : (3, "ValueReckoner$Name", "prefix", "I", Value.int (kn_pf 3)) ∈ am_kf := by decide +kernel
theorem kn_pf_4 : (4, "ValueReckoner$Name", "prefix", "I", Value.int (kn_pf 4)) ∈ am_kf := by decide +kernel
theorem kn_pf_5 : (5, "ValueReckoner$Name", "prefix", "I", Value.int (kn_pf 5)) ∈ am_kf := by decide +kernel
theorem kn_pf_6 : (6, "ValueReckoner$Name", "prefix", "I", Value.int (kn_pf 6)) ∈ am_kf := by decide +kernel
theorem kn_pf_7 : (7, "ValueReckoner$Name", "prefix", "I", Value.int (kn_pf 7)) ∈ am_kf := by decide +kernel
theorem kn_pf_8 : (8, "ValueReckoner$Name", "prefix", "I", Value.int (kn_pf 8)) ∈ am_kf := by decide +kernel
theorem kn_pf_9 : (9, "ValueReckoner$Name", "prefix", "I", Value.int (kn_pf 9)) ∈ am_kf := by decide +kernel
theorem kn_pf_10 : (10, "ValueReckoner$Name", "prefix", "I", Value.int (kn_pf 10)) ∈ am_kf := by decide +kernel
theorem kn_pf_11 : (11, "ValueReckoner$Name", "prefix", "I", Value.int (kn_pf 11)) ∈ am_kf := by decide +kernel
theorem kn_pf_12 : (12, "ValueReckoner$Name", "prefix", "I", Value.int (kn_pf 12)) ∈ am_kf := by decide +kernel
theorem kn_pf_13 : (13, "ValueReckoner$Name", "prefix", "I", Value.int (kn_pf 13)) ∈ am_kf := by decide +kernel
theorem kn_pf_14 : (14, "ValueReckoner$Name", "prefix", "I", Value.int (kn_pf 14)) ∈ am_kf := by decide +kernel
theorem kn_pf_15 : (15, "ValueReckoner$Name", "prefix", "I", Value.int (kn_pf 15)) ∈ am_kf := by decide +kernel
theorem kn_pf_16 : (16, "ValueReckoner$Name", "prefix", "I", Value.int (kn_pf 16)) ∈ am_kf := by decide +kernel
theorem kn_pf_17 : (17, "ValueReckoner$Name", "prefix", "I", Value.int (kn_pf 17)) ∈ am_kf := by decide +kernel
theorem kn_pf_18 : (18, "ValueReckoner$Name", "prefix", "I", Value.int (kn_pf 18)) ∈ am_kf := by decide +kernel
theorem kn_pf_19 : (19, "ValueReckoner$Name", "prefix", "I", Value.int (kn_pf 19)) ∈ am_kf := by decide +kernel
theorem kn_pf_20 : (20, "ValueReckoner$Name", "prefix", "I", Value.int (kn_pf 20)) ∈ am_kf := by decide +kernel
theorem kn_pf_21 : (21, "ValueReckoner$Name", "prefix", "I", Value.int (kn_pf 21)) ∈ am_kf := by decide +kernel
theorem kn_pf_22 : (22, "ValueReckoner$Name", "prefix", "I", Value.int (kn_pf 22)) ∈ am_kf := by decide +kernel
theorem kn_pf_23 : (23, "ValueReckoner$Name", "prefix", "I", Value.int (kn_pf 23)) ∈ am_kf := by decide +kernel
theorem kn_pf_24 : (24, "ValueReckoner$Name", "prefix", "I", Value.int (kn_pf 24)) ∈ am_kf := by decide +kernel
theorem kn_pf_25 : (25, "ValueReckoner$Name", "prefix", "I", Value.int (kn_pf 25)) ∈ am_kf := by decide +kernel
theorem kn_pf_k : ∀ k, k < 26 → (k, "ValueReckoner$Name", "prefix", "I", Value.int (kn_pf k)) ∈ am_kf
  | 0, _ => kn_pf_0
  | 1, _ => kn_pf_1
  | 2, _ => kn_pf_2
  | 3, _ => kn_pf_3
  | 4, _ => kn_pf_4
  | 5, _ => kn_pf_5
  | 6, _ => kn_pf_6
  | 7, _ => kn_pf_7
  | 8, _ => kn_pf_8
  | 9, _ => kn_pf_9
  | 10, _ => kn_pf_10
  | 11, _ => kn_pf_11
  | 12, _ => kn_pf_12
  | 13, _ => kn_pf_13
  | 14, _ => kn_pf_14
  | 15, _ => kn_pf_15
  | 16, _ => kn_pf_16
  | 17, _ => kn_pf_17
  | 18, _ => kn_pf_18
  | 19, _ => kn_pf_19
  | 20, _ => kn_pf_20
  | 21, _ => kn_pf_21
  | 22, _ => kn_pf_22
  | 23, _ => kn_pf_23
  | 24, _ => kn_pf_24
  | 25, _ => kn_pf_25
  | k + 26, h => absurd h (by omega)
theorem splF_lt (f : Nat → Int32) (n x y : Nat) : ∀ m i, i + m ≤ 26 → splF f n x y m i < 26
  | 0, _, _ => by rw [splF]; omega
  | m + 1, i, h => by
    have h1 := splF_lt f n x y m (i + 1) (by omega)
    rw [splF]
    split <;> omega
theorem spl_lt (f : Nat → Int32) (n x y : Nat) : spl f n x y < 26 := splF_lt f n x y 26 0 (by omega)
theorem mkK_le (x : Int32) : mkK x - 26 < 12 := by have := (mkK_rng x).1; omega
theorem tok_ok (f : Nat → Int32) {n a : Nat} (ha : a ≤ n) : (tok f n a).1 < 12 ∧ a ≤ (tok f n a).2.1 ∧ (tok f n a).2.1 ≤ (tok f n a).2.2.1 ∧ (tok f n a).2.2.1 ≤ n ∧ (tok f n a).2.2.2.2 < 26 := by
  obtain ⟨p, hp⟩ : ∃ p, pb (tb f n) n a = p := ⟨_, rfl⟩
  have hpn : a ≤ p ∧ p ≤ n := by rw [← hp]; exact pb_rng (tb f n) n (n - a) a false (by omega)
  have hcl := @cls_in f n p
  rw [tok, hp, tokAt]
  split
  · have h1 : p ≤ plt (tb f n) n p ∧ plt (tb f n) n p ≤ n := plt_rng (tb f n) n (n - p) p (by omega)
    exact ⟨by dsimp only; decide, hpn.1, h1.1, h1.2, by dsimp only; decide⟩
  split
  · have h1 : p ≤ (dv (tb f n) n p).1 ∧ (dv (tb f n) n p).1 ≤ n := dv_rng (tb f n) n (n - p) p 0 (by omega)
    split <;> exact ⟨by dsimp only; decide, hpn.1, h1.1, h1.2, by dsimp only; decide⟩
  split
  · have h1 : p ≤ plt (tb f n) n p ∧ plt (tb f n) n p ≤ n := plt_rng (tb f n) n (n - p) p (by omega)
    exact ⟨by dsimp only; decide, hpn.1, h1.1, h1.2, spl_lt _ _ _ _⟩
  split
  · rename_i h9
    have h8 : p < n := tb_in h9 (by decide)
    split
    · rename_i h7
      have h6 := tb_in h7 (by decide)
      have h5 : p + 1 ≤ qd (tb f n) n (p + 1) := qd_rng (tb f n) n (n - (p + 1)) (p + 1)
      exact ⟨by dsimp only; decide, hpn.1, by dsimp only; omega, by dsimp only; omega, spl_lt _ _ _ _⟩
    · exact ⟨by dsimp only; decide, hpn.1, by dsimp only; omega, by dsimp only; omega, by dsimp only; decide⟩
  split
  · rename_i h9
    have h8 : p < n := hcl.2.2.2 h9
    have h7 : p + 1 ≤ py (tb f n) n (p + 1) ∧ py (tb f n) n (p + 1) ≤ n := py_rng (tb f n) n (n - (p + 1)) (p + 1) (by omega)
    split
    · exact ⟨by dsimp only; decide, hpn.1, by dsimp only; omega, h7.2, by dsimp only; decide⟩
    · exact ⟨by dsimp only; decide, hpn.1, by dsimp only; omega, h7.2, spl_lt _ _ _ _⟩
  split
  · rename_i h9
    have h8 := tb_in h9.2 (by decide)
    exact ⟨by dsimp only; decide, hpn.1, by dsimp only; omega, by dsimp only; omega, spl_lt _ _ _ _⟩
  split
  · rename_i h9
    have h8 : p < n := h9.elim (fun z => tb_in z (by decide)) (fun z => tb_in z (by decide))
    exact ⟨by dsimp only; decide, hpn.1, by dsimp only; omega, by dsimp only; omega, spl_lt _ _ _ _⟩
  split
  · exact ⟨by dsimp only; decide, hpn.1, Nat.le_refl _, hpn.2, by dsimp only; decide⟩
  · rename_i h9
    have h8 : p < n := by
      by_cases h : p < n
      · exact h
      · exact absurd (by rw [tb, if_neg h]) h9
    exact ⟨mkK_le _, hpn.1, by dsimp only; omega, by dsimp only; omega, by dsimp only; split <;> decide⟩
