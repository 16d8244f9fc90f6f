/-! THE START, CLOSED (mine, by a text program): a G with am_Ok -/
section ST2
variable {A : Array Value} {s : State} {b mi ft : Nat}
theorem st_kfe : am_kf = am_kf_0 ++ am_kf_1 ++ am_kf_2 ++ am_kf_3 ++ am_kf_4 := by decide +kernel
theorem st_KF (hn : ∀ c ∈ flatC (Cond.and given_1 narrow_1), c.before A s = true) : ∀ q ∈ am_kf, va_OF q.2.1 q.2.2.1 q.2.2.2.1 (st_v (st_ak A s b mi ft) q.2.2.2.2) (st_ak A s b mi ft q.1) (fun z => s.heap.size ≤ z) s s.heap := by
  rw [st_kfe]
  exact List.forall_mem_append.mpr ⟨List.forall_mem_append.mpr ⟨List.forall_mem_append.mpr ⟨List.forall_mem_append.mpr ⟨st_KF0 hn, st_KF1 hn⟩, st_KF2 hn⟩, st_KF3 hn⟩, st_KF4 hn⟩
end ST2
def st_ok (v : Value) : Bool := match v with
  | .ref i => decide (i < 1000)
  | _ => true
theorem am_ad_lt {G : am_G} {i : Nat} (h : i < 1000) : am_ad G i = G.2.2.2.2.1 i := by simp [am_ad, h]
theorem am_v_st {G : am_G} {v : Value} (h : st_ok v = true) : am_v G v = st_v G.2.2.2.2.1 v := by
  cases v with
  | ref i =>
    have h1 : i < 1000 := by simpa [st_ok] using h
    show Value.ref (am_ad G i) = Value.ref (G.2.2.2.2.1 i)
    rw [am_ad_lt h1]
  | _ => rfl
theorem st_a1 : am_ko.all (fun q => decide (q.1 < 1000)) = true := by decide +kernel
theorem st_a2 : am_kf.all (fun q => decide (q.1 < 1000) && st_ok q.2.2.2.2) = true := by decide +kernel
theorem st_a3 : am_kt.all (fun q => decide (q.1 < 1000) && q.2.2.all st_ok) = true := by decide +kernel
theorem st_a4 : am_ks.all (fun q => st_ok q.2.2.2) = true := by decide +kernel
theorem st_a5 : am_kl.all (fun q => decide (q.2.2.2 < 1000)) = true := by decide +kernel
theorem st_a6 : am_km.all (fun q => decide (q.1 < 1000)) = true := by decide +kernel
theorem am_start {p : Program} {s : State} {m : MethodId} {meth : Method} {c : Code} {b L : Nat} {xs : Nat → Int32} (l : Launch) (hfl : l.flags = flags0) (C0 : lw_At p s m meth c b L xs) : ∃ G : am_G, G.1 = l ∧ G.2.1 = s ∧ G.2.2.2.2.2.1 = L ∧ G.2.2.2.2.2.2 = xs ∧ am_ad G 999 = b ∧ am_Ok G := by
  obtain ⟨hx, hb, hr, hml, hown, hts, hX, hbl, hlocks, hgv⟩ := C0
  have hn := flat_of_before _ hgv
  obtain ⟨c0, i0, k0⟩ := u_known (C := "ValueReckoner") (T := cq_T0) (N := 5) (n := 5) hts (fun w hw => (cq_w0 w hw).1) (hts _ (List.mem_append_right _ (List.mem_of_getElem? (i := 40) (by decide +kernel))))
  obtain ⟨c1, i1, k1⟩ := u_known (C := "ValueReckoner$Tape") (T := cq_T1) (N := 2) (n := 2) hts (fun w hw => (cq_w1 w hw).1) (hts _ (List.mem_append_right _ (List.mem_of_getElem? (i := 48) (by decide +kernel))))
  obtain ⟨c2, i2, k2⟩ := u_known (C := "ValueReckoner$Variables") (T := cq_T2) (N := 1) (n := 1) hts (fun w hw => (cq_w2 w hw).1) (hts _ (List.mem_append_right _ (List.mem_of_getElem? (i := 66) (by decide +kernel))))
  obtain ⟨c3, i3, k3⟩ := u_known (C := "java/util/ArrayList") (T := cq_T3) (N := 3) (n := 3) hts (fun w hw => (cq_w3 w hw).1) (hts _ (List.mem_append_right _ (List.mem_of_getElem? (i := 72) (by decide +kernel))))
  obtain ⟨c4, i4, k4⟩ := u_known (C := "ValueReckoner$Variable") (T := cq_T4) (N := 2) (n := 2) hts (fun w hw => (cq_w4 w hw).1) (hts _ (List.mem_append_right _ (List.mem_of_getElem? (i := 827) (by decide +kernel))))
  obtain ⟨c5, i5, k5⟩ := u_known (C := "ValueReckoner$Reader") (T := cq_T5) (N := 13) (n := 13) hts (fun w hw => (cq_w5 w hw).1) (hts _ (List.mem_append_right _ (List.mem_of_getElem? (i := 103) (by decide +kernel))))
  obtain ⟨c6, i6, k6⟩ := u_known (C := "ValueReckoner$Sign") (T := cq_T6) (N := 8) (n := 8) hts (fun w hw => (cq_w6 w hw).1) (hts _ (List.mem_append_right _ (List.mem_of_getElem? (i := 109) (by decide +kernel))))
  obtain ⟨c7, i7, k7⟩ := u_known (C := "ValueReckoner$OpenTerm") (T := cq_T7) (N := 6) (n := 6) hts (fun w hw => (cq_w7 w hw).1) (hts _ (List.mem_append_right _ (List.mem_of_getElem? (i := 150) (by decide +kernel))))
  obtain ⟨c8, i8, k8⟩ := u_known (C := "ValueReckoner$Operand") (T := cq_T8) (N := 4) (n := 4) hts (fun w hw => (cq_w8 w hw).1) (hts _ (List.mem_append_right _ (List.mem_of_getElem? (i := 156) (by decide +kernel))))
  obtain ⟨c9, i9, k9⟩ := u_known (C := "ValueReckonerModel") (T := cq_T9) (N := 16) (n := 16) hts (fun w hw => (cq_w9 w hw).1) (hts _ (List.mem_append_right _ (List.mem_of_getElem? (i := 942) (by decide +kernel))))
  obtain ⟨c10, i10, k10⟩ := u_known (C := "ValueReckonerModel$Terms") (T := cq_T10) (N := 8) (n := 8) hts (fun w hw => (cq_w10 w hw).1) (hts _ (List.mem_append_right _ (List.mem_of_getElem? (i := 948) (by decide +kernel))))
  obtain ⟨c11, i11, k11⟩ := u_known (C := "ValueReckonerModel$Names") (T := cq_T11) (N := 6) (n := 6) hts (fun w hw => (cq_w11 w hw).1) (hts _ (List.mem_append_right _ (List.mem_of_getElem? (i := 988) (by decide +kernel))))
  obtain ⟨c12, i12, k12⟩ := u_known (C := "ValueReckonerModel$Reader") (T := cq_T12) (N := 22) (n := 22) hts (fun w hw => (cq_w12 w hw).1) (hts _ (List.mem_append_right _ (List.mem_of_getElem? (i := 1014) (by decide +kernel))))
  obtain ⟨c13, i13, k13⟩ := u_known (C := "java/lang/IndexOutOfBoundsException") (T := cq_T13) (N := 0) (n := 6) hts (fun w hw => (cq_w13 w hw).1) (hts _ (List.mem_append_right _ (List.mem_of_getElem? (i := 288) (by decide +kernel))))
  obtain ⟨c14, i14, k14⟩ := u_known (C := "java/lang/IllegalArgumentException") (T := cq_T14) (N := 0) (n := 6) hts (fun w hw => (cq_w14 w hw).1) (hts _ (List.mem_append_right _ (List.mem_of_getElem? (i := 365) (by decide +kernel))))
  obtain ⟨c15, i15, k15⟩ := u_known (C := "java/lang/ArithmeticException") (T := cq_T15) (N := 0) (n := 6) hts (fun w hw => (cq_w15 w hw).1) (hts _ (List.mem_append_right _ (List.mem_of_getElem? (i := 784) (by decide +kernel))))
  obtain ⟨c16, i16, k16⟩ := u_known (C := "java/lang/UnsupportedOperationException") (T := cq_T16) (N := 0) (n := 6) hts (fun w hw => (cq_w16 w hw).1) (hts _ (List.mem_append_right _ (List.mem_of_getElem? (i := 765) (by decide +kernel))))
  obtain ⟨c17, i17, k17⟩ := u_known (C := "java/lang/IllegalStateException") (T := cq_T17) (N := 0) (n := 6) hts (fun w hw => (cq_w17 w hw).1) (hts _ (List.mem_append_right _ (List.mem_of_getElem? (i := 1042) (by decide +kernel))))
  obtain ⟨a0, ka0, cm0, f0, g0, h0⟩ := Cond.arrayClass_spec (type := .byte) (hts _ (List.mem_append_right _ (List.mem_of_getElem? (i := 64) (by decide +kernel))))
  obtain ⟨a1, ka1, cm1, f1, g1, h1⟩ := Cond.arrayClass_spec (type := .int) (hts _ (List.mem_append_right _ (List.mem_of_getElem? (i := 985) (by decide +kernel))))
  obtain ⟨a2, ka2, cm2, f2, g2, h2⟩ := Cond.arrayClass_spec (type := .long) (hts _ (List.mem_append_right _ (List.mem_of_getElem? (i := 986) (by decide +kernel))))
  obtain ⟨cm3, a3, ka3, e3, -, g3, h3, f3⟩ := Cond.arrayOver_spec (n := "java/lang/Object") (hts _ (List.mem_append_right _ (List.mem_of_getElem? (i := 899) (by decide +kernel))))
  obtain ⟨cm4, a4, ka4, e4, -, g4, h4, f4⟩ := Cond.arrayOver_spec (n := "ValueReckoner$OpenTerm") (hts _ (List.mem_append_right _ (List.mem_of_getElem? (i := 149) (by decide +kernel))))
  obtain ⟨cm5, a5, ka5, e5, -, g5, h5, f5⟩ := Cond.arrayOver_spec (n := "java/lang/String") (hts _ (List.mem_append_right _ (List.mem_of_getElem? (i := 1020) (by decide +kernel))))
  obtain ⟨mi, hmi⟩ := va_Mi.of (C := "[Ljava/lang/Object;") (hn _ (List.mem_of_getElem? (i := 446) (by decide +kernel)))
  have z1 := va_Zqof (C := "java/lang/Throwable") (n := "UNASSIGNED_STACK") (d := "[Ljava/lang/StackTraceElement;") (A := fun z => s.heap.size ≤ z) (hts _ (List.mem_append_right _ (List.mem_of_getElem? (i := 314) (by decide +kernel)))) (hts _ (List.mem_append_right _ (List.mem_of_getElem? (i := 19) (by decide +kernel)))) (hn _ (List.mem_of_getElem? (i := 20) (by decide +kernel))) st_A
  have z2 := va_Zqof (C := "java/lang/Throwable") (n := "SUPPRESSED_SENTINEL") (d := "Ljava/util/List;") (A := fun z => s.heap.size ≤ z) (hts _ (List.mem_append_right _ (List.mem_of_getElem? (i := 316) (by decide +kernel)))) (hts _ (List.mem_append_right _ (List.mem_of_getElem? (i := 19) (by decide +kernel)))) (hn _ (List.mem_of_getElem? (i := 21) (by decide +kernel))) st_A
  have z3 := va_Zqof (C := "jdk/internal/util/Preconditions") (n := "SIOOBE_FORMATTER") (d := "Ljava/util/function/BiFunction;") (A := fun z => s.heap.size ≤ z) (hts _ (List.mem_append_right _ (List.mem_of_getElem? (i := 522) (by decide +kernel)))) (hts _ (List.mem_append_right _ (List.mem_of_getElem? (i := 28) (by decide +kernel)))) (hn _ (List.mem_of_getElem? (i := 78) (by decide +kernel))) st_A
  obtain ⟨ft, hft⟩ : ∃ ft, va_Z "jdk/internal/util/Preconditions" "SIOOBE_FORMATTER" "Ljava/util/function/BiFunction;" .null (fun z => s.heap.size ≤ z) s s.heap ∨ va_Z "jdk/internal/util/Preconditions" "SIOOBE_FORMATTER" "Ljava/util/function/BiFunction;" (.ref ft) (fun z => s.heap.size ≤ z) s s.heap := by
    rcases z3 with h | ⟨t, h⟩
    · exact ⟨0, Or.inl h⟩
    · exact ⟨t, Or.inr h⟩
  let G : am_G := (l, s, (fun k => if k = 0 then c0 else if k = 1 then c1 else if k = 2 then c2 else if k = 3 then c3 else if k = 4 then c4 else if k = 5 then c5 else if k = 6 then c6 else if k = 7 then c7 else if k = 8 then c8 else if k = 9 then c9 else if k = 10 then c10 else if k = 11 then c11 else if k = 12 then c12 else if k = 13 then c13 else if k = 14 then c14 else if k = 15 then c15 else if k = 16 then c16 else c17, fun k => if k = 0 then i0 else if k = 1 then i1 else if k = 2 then i2 else if k = 3 then i3 else if k = 4 then i4 else if k = 5 then i5 else if k = 6 then i6 else if k = 7 then i7 else if k = 8 then i8 else if k = 9 then i9 else if k = 10 then i10 else if k = 11 then i11 else if k = 12 then i12 else if k = 13 then i13 else if k = 14 then i14 else if k = 15 then i15 else if k = 16 then i16 else i17), fun k => if k = 0 then a0 else if k = 1 then a1 else if k = 2 then a2 else if k = 3 then a3 else if k = 4 then a4 else a5, st_ak #[Value.ref b] s b mi ft, L, xs)
  have hG : ∀ i, i < 1000 → am_ad G i = st_ak #[Value.ref b] s b mi ft i := fun i h => am_ad_lt h
  refine ⟨G, rfl, rfl, rfl, rfl, ?_, hfl, ⟨_, hts⟩, ⟨?_, ?_⟩, ?_, ?_, ?_, ?_, ?_, ?_, ?_, ?_, z1, z2, ⟨_, hgv⟩, ?_⟩
  · rw [hG 999 (by decide)]
    simp [st_ak]
  · intro k q hq
    match k, hq with
    | 0, hq => cases hq; exact k0
    | 1, hq => cases hq; exact k1
    | 2, hq => cases hq; exact k2
    | 3, hq => cases hq; exact k3
    | 4, hq => cases hq; exact k4
    | 5, hq => cases hq; exact k5
    | 6, hq => cases hq; exact k6
    | 7, hq => cases hq; exact k7
    | 8, hq => cases hq; exact k8
    | 9, hq => cases hq; exact k9
    | 10, hq => cases hq; exact k10
    | 11, hq => cases hq; exact k11
    | 12, hq => cases hq; exact k12
    | 13, hq => cases hq; exact k13
    | 14, hq => cases hq; exact k14
    | 15, hq => cases hq; exact k15
    | 16, hq => cases hq; exact k16
    | 17, hq => cases hq; exact k17
    | k + 18, hq => simp [am_cl] at hq
  · intro k q hq
    match k, hq with
    | 0, hq => cases hq; exact ⟨fun n z => ⟨fun k h => (by cases h), ka0, g0, cm0, h0⟩, f0⟩
    | 1, hq => cases hq; exact ⟨fun n z => ⟨fun k h => (by cases h), ka1, g1, cm1, h1⟩, f1⟩
    | 2, hq => cases hq; exact ⟨fun n z => ⟨fun k h => (by cases h), ka2, g2, cm2, h2⟩, f2⟩
    | 3, hq => cases hq; exact ⟨fun n z => ⟨fun k h => (by cases h), ka3, g3, cm3, h3⟩, ka3, cm3, g3, h3, e3, f3⟩
    | 4, hq => cases hq; exact ⟨fun n z => ⟨fun k h => (by cases h), ka4, g4, cm4, h4⟩, ka4, cm4, g4, h4, e4, f4⟩
    | 5, hq => cases hq; exact ⟨fun n z => ⟨fun k h => (by cases h), ka5, g5, cm5, h5⟩, ka5, cm5, g5, h5, e5, f5⟩
    | k + 6, hq => simp [am_tys, am_tyl] at hq
  · rw [hG 999 (by decide)]
    show st_ak #[Value.ref b] s b mi ft 999 < s.heap.size
    simpa [st_ak] using hbl
  · intro q hq
    rw [hG _ (by simpa using List.all_eq_true.mp st_a1 q hq)]
    exact st_KO hn q hq
  · intro q hq
    have h9 := List.all_eq_true.mp st_a2 q hq
    simp only [Bool.and_eq_true, decide_eq_true_eq] at h9
    rw [hG _ h9.1, am_v_st h9.2]
    exact st_KF hn q hq
  · intro q hq
    have h9 := List.all_eq_true.mp st_a3 q hq
    simp only [Bool.and_eq_true, decide_eq_true_eq] at h9
    rw [hG _ h9.1]
    have e9 : (fun j => am_v G (q.2.2.getD j .null)) = fun j => st_v (st_ak #[Value.ref b] s b mi ft) (q.2.2.getD j .null) := by
      funext j
      by_cases hj : j < q.2.2.length
      · refine am_v_st ?_
        have : q.2.2.getD j .null = q.2.2[j] := by simp [List.getD, hj]
        rw [this]
        exact List.all_eq_true.mp h9.2 _ (List.getElem_mem hj)
      · have : q.2.2.getD j .null = .null := by simp [List.getD, hj]
        rw [this]
        rfl
    rw [e9]
    exact st_KT hn q hq
  · intro q hq
    rw [am_v_st (List.all_eq_true.mp st_a4 q hq)]
    exact st_KS hn hts q hq
  · intro q hq
    rw [hG _ (by simpa using List.all_eq_true.mp st_a5 q hq)]
    exact st_KL hn hts q hq
  · rw [hG 56 (by decide)]
    exact hft
  · rw [hG 55 (by decide)]
    exact hmi
  · rw [hG 999 (by decide)]
    exact hX
