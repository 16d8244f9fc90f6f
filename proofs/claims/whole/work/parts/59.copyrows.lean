/-! ROWS OF THE LIBRARY'S NATIVES (mine): System.arraycopy of bytes and of references with the heap's exact size, getClass of an Object[] -/
theorem am_cpS : am_has (.static arraycopyName) := am_at (k := 825) (by decide +kernel) (by decide +kernel)
theorem am_cpN : am_has (.native arraycopyName) := am_at (k := 826) (by decide +kernel) (by decide +kernel)
theorem am_cpI : am_has (.initialized "java/lang/System") := am_at (k := 35) (by decide +kernel) (by decide +kernel)
theorem am_cpV : am_has (.methodLink "ValueReckoner$Variables" 32 arraycopyName) := am_at (k := 824) (by decide +kernel) (by decide +kernel)
theorem am_cpA : am_has (.methodLink "java/util/Arrays" 150 arraycopyName) := am_at (k := 904) (by decide +kernel) (by decide +kernel)
theorem by_fits {x : Int32} (h : -128 ≤ x.toInt ∧ x.toInt ≤ 127) : fits .byte (.int x) = true := by
  have e := (pk_vb x).symm.trans (lt_nar h)
  rw [← e]
  exact pk_fb x
theorem am_catS (G : am_G) {st : List Value} (hr : (st.map fun v => v.category).sum ≤ 20) : ((st.map (am_v G)).map fun v => v.category).sum ≤ 20 := by
  rw [List.map_map]
  have : ((fun v : Value => v.category) ∘ am_v G) = fun v => v.category := funext (am_cat G)
  rw [this]
  exact hr
section VC9
variable {G : am_G} {Y : am_Y} {d mc ms : Nat} {Q : am_Qt} {pc : Nat} {L : List (Nat × Value)} {st : List Value} {M : am_M} {nx cn sn : Nat}
theorem v_copyb {index a0 a n0 n1 sp n : Nat} {f g : Nat → Int32} (hd : decode Y.2.1 pc = .ok (.invokestatic index, 3)) (hl : am_has (.methodLink Y.1.cls index arraycopyName)) (h0 : M a0 = some (.inl (0, n0, .inl f))) (h1 : M a = some (.inl (0, n1, .inl g))) (hf : tbB f) (hs : sp + n ≤ n0) (hn : n ≤ n1) (hn0 : n0 < 2 ^ 31) (hd1 : 1 ≤ d) (hr : (st.map fun v => v.category).sum ≤ 20) (k : am_V G Y d mc ms Q (pc + 3) L st (am_up M a (.inl (0, n1, .inl (va_cpy f g sp 0 n)))) nx cn sn) : am_V G Y d mc ms Q pc L (.int (nI n) :: .int 0 :: .ref a :: .int (nI sp) :: .ref a0 :: st) M nx cn sn := by
  intro p e R s m args below meth c H locs ls hC hH hq hL
  have hR := am_cxR hC
  have hK := am_cxK hC
  obtain ⟨-, -, hc0⟩ := hH.2.2.2 a0 _ h0
  obtain ⟨ha1, -, hc1⟩ := hH.2.2.2 a _ h1
  replace hc0 : H[am_ad G a0]? = some (vp_cell (G.2.2.2.1 0) (n0, .inl f)) := hc0
  replace hc1 : H[am_ad G a]? = some (vp_cell (G.2.2.2.1 0) (n1, .inl g)) := hc1
  have hty : (am_tys G)[0]? = some (G.2.2.2.1 0, .byte) := am_tyAt rfl
  obtain ⟨-, k0, hk0, cm0, hkk0⟩ := (hK.2 0 _ hty).1 n0 (fun j => .int (f j))
  obtain ⟨-, k1, hk1, cm1, hkk1⟩ := (hK.2 0 _ hty).1 n1 (fun j => .int (g j))
  have es : (nI sp).toNatClampNeg = sp := nI_clamp (by omega)
  have en : (nI n).toNatClampNeg = n := nI_clamp (by omega)
  have hsum := am_catS G hr
  intro T hT X
  obtain ⟨vm', X', step⟩ := X.arraycopy hC.1 (am_cxO hC) (am_wdc hC hl args) (am_wdc hC am_cpN args) (am_wdc hC am_cpS args) (am_wdc hC am_cpI args) (src := am_ad G a0) (dst := am_ad G a) (cs := vp_cell (G.2.2.2.1 0) (n0, .inl f)) (cd := vp_cell (G.2.2.2.1 0) (n1, .inl g)) (srcPos := nI sp) (destPos := 0) (n := nI n) (by rw [hT]; exact hc0) (by rw [hT]; exact hc1)
    (fun _ h => by cases h) (fun _ h => by cases h) (fun h => by cases h) (fun h => by cases h) hk0 hk1 hkk0 hkk1 (by simp [refKind]) (nI_pos (by omega)) (by decide) (nI_pos (by omega))
    (by rw [nI_toInt (by omega), nI_toInt (by omega)]; show ¬ _ > ((arrV _ n0 (fun j => .int (f j))).slots.size : Int); rw [arrV_size]; omega)
    (by rw [nI_toInt (n := n) (by omega)]; show ¬ (0 : Int) + _ > ((arrV _ n1 (fun j => .int (g j))).slots.size : Int); rw [arrV_size]; omega)
    (fun vm₁ _ i hi => by
      rw [es]
      have e9 : (vp_cell (G.2.2.2.1 0) (n0, .inl f)).slots.getD (sp + i) .null = .int (f (sp + i)) := by
        show (arrV _ n0 (fun j => .int (f j))).slots.getD _ _ = _
        rw [Array.getD_eq_getD_getElem?, arrV_read _ _ (by rw [en] at hi; omega)]
        rfl
      refine ⟨?_, ?_⟩
      · rw [e9]
        exact by_fits (hf _)
      · rw [e9]
        exact trivial)
    (g := F0 m pc ls (.int (nI n) :: .int 0 :: .ref (am_ad G a) :: .int (nI sp) :: .ref (am_ad G a0) :: st.map (am_v G))) rfl (hL.1.trans hC.2.2.1.symm) (rest := st.map (am_v G)) rfl (by rw [hC.2.1]; exact hd) (by omega) (by show 2 * 0 + _ + _ ≤ _; have hw : nativeFrameWords "java/lang/System" "arraycopy" 5 ≤ 20 := (by decide); omega)
  have e1 : copied (vp_cell (G.2.2.2.1 0) (n0, .inl f)) (vp_cell (G.2.2.2.1 0) (n1, .inl g)) (nI sp) 0 (nI n) = vp_cell (G.2.2.2.1 0) (n1, .inl (va_cpy f g sp 0 n)) := by
    have h9 := va_copied (n1 := n1) (dp := 0) (fun z => .int z) (G.2.2.2.1 0) (G.2.2.2.1 0) f g hs
    rw [← es, ← en] at h9
    rw [es, en] at h9
    show Cell.storeRun _ _ (Cell.stretch _ (nI sp).toNatClampNeg (nI n).toNatClampNeg) = _
    rw [es, en]
    exact h9
  rw [e1] at X' step
  have hlz : am_ad G a < H.size := (Array.getElem?_eq_some_iff.mp hc1).1
  have hheap : ((T.setVm vm').setCell (am_ad G a) (vp_cell (G.2.2.2.1 0) (n1, .inl (va_cpy f g sp 0 n)))).heap = H.setIfInBounds (am_ad G a) (vp_cell (G.2.2.2.1 0) (n1, .inl (va_cpy f g sp 0 n))) := by rw [← hT]; rfl
  have oq : ∀ q : Nat, q ≠ am_ad G a → (H.setIfInBounds (am_ad G a) (vp_cell (G.2.2.2.1 0) (n1, .inl (va_cpy f g sp 0 n))))[q]? = H[q]? := fun q hq => by simp [Array.getElem?_setIfInBounds, Ne.symm hq]
  obtain ⟨t, a1, b1⟩ := k p e R s m args below meth c _ _ ls hC (am_H_up (o := .inl (0, n1, .inl (va_cpy f g sp 0 n))) hH h1 (by simp) oq (show (H.setIfInBounds (am_ad G a) _)[am_ad G a]? = some _ by simp [Array.getElem?_setIfInBounds, hlz]; rfl)) (fun q hq9 => by
      rcases List.mem_append.mp hq9 with h | h
      · exact hq q h
      · obtain ⟨z, -, hz⟩ := List.mem_map.mp h
        rw [← hz]
        exact am_adA ha1) hL _ hheap X'
  exact ⟨t, step t a1, b1⟩
theorem v_copyq {index a0 a n0 n1 n ci N : Nat} {f g : Nat → Option Nat} {C : String} {T9 : u_T} {ty : Nat → FieldType} (hd : decode Y.2.1 pc = .ok (.invokestatic index, 3)) (hl : am_has (.methodLink Y.1.cls index arraycopyName)) (h0 : M a0 = some (.inl (3, n0, .inr (.inr (.inr (.inr f)))))) (h1 : M a = some (.inl (3, n1, .inr (.inr (.inr (.inr g)))))) (hP : am_clP ci C T9 N ty) (hcast : am_has (.castable C "java/lang/Object")) (hel : ∀ i, i < n → ∀ y, f i = some y → ∃ fs, M y = some (.inr (ci, fs))) (hs : n ≤ n0) (hn : n ≤ n1) (hn0 : n0 < 2 ^ 31) (hd1 : 1 ≤ d) (hr : (st.map fun v => v.category).sum ≤ 20) (k : am_V G Y d mc ms Q (pc + 3) L st (am_up M a (.inl (3, n1, .inr (.inr (.inr (.inr (va_cpy f g 0 0 n))))))) nx cn sn) : am_V G Y d mc ms Q pc L (.int (nI n) :: .int 0 :: .ref a :: .int 0 :: .ref a0 :: st) M nx cn sn := by
  intro p e R s m args below meth c H locs ls hC hH hq hL
  have hR := am_cxR hC
  have hK := am_cxK hC
  obtain ⟨-, -, hc0⟩ := hH.2.2.2 a0 _ h0
  obtain ⟨ha1, -, hc1⟩ := hH.2.2.2 a _ h1
  replace hc0 : H[am_ad G a0]? = some (vp_cell (G.2.2.2.1 3) (n0, .inr (.inr (.inr (.inr (fun j => (f j).map (am_ad G))))))) := hc0
  replace hc1 : H[am_ad G a]? = some (vp_cell (G.2.2.2.1 3) (n1, .inr (.inr (.inr (.inr (fun j => (g j).map (am_ad G))))))) := hc1
  have hty : (am_tys G)[3]? = some (G.2.2.2.1 3, .object "java/lang/Object") := am_tyAt rfl
  obtain ⟨-, k0, hk0, cm0, hkk0⟩ := (hK.2 3 _ hty).1 n0 (fun j => va_rf ((f j).map (am_ad G)))
  obtain ⟨-, k1, hk1, cm1, hkk1⟩ := (hK.2 3 _ hty).1 n1 (fun j => va_rf ((g j).map (am_ad G)))
  have en : (nI n).toNatClampNeg = n := nI_clamp (by omega)
  have hsum := am_catS G hr
  have hcls := ((am_cxK hC).1 ci _ hP.1).2
  obtain ⟨kC, hkC, -⟩ := hcls.2
  obtain ⟨c3, c4, e3, e4, hh⟩ := Cond.castable_spec (am_wdc hC hcast args)
  cases hcls.1.symm.trans e3
  intro T hT X
  obtain ⟨vm', X', step⟩ := X.arraycopy hC.1 (am_cxO hC) (am_wdc hC hl args) (am_wdc hC am_cpN args) (am_wdc hC am_cpS args) (am_wdc hC am_cpI args) (src := am_ad G a0) (dst := am_ad G a) (cs := vp_cell (G.2.2.2.1 3) (n0, .inr (.inr (.inr (.inr (fun j => (f j).map (am_ad G))))))) (cd := vp_cell (G.2.2.2.1 3) (n1, .inr (.inr (.inr (.inr (fun j => (g j).map (am_ad G))))))) (srcPos := 0) (destPos := 0) (n := nI n) (by rw [hT]; exact hc0) (by rw [hT]; exact hc1)
    (fun _ h => by cases h) (fun _ h => by cases h) (fun h => by cases h) (fun h => by cases h) hk0 hk1 hkk0 hkk1 rfl (by decide) (by decide) (nI_pos (by omega))
    (by rw [nI_toInt (n := n) (by omega)]; show ¬ (0 : Int) + _ > ((arrV _ n0 (fun j => va_rf ((f j).map (am_ad G)))).slots.size : Int); rw [arrV_size]; omega)
    (by rw [nI_toInt (n := n) (by omega)]; show ¬ (0 : Int) + _ > ((arrV _ n1 (fun j => va_rf ((g j).map (am_ad G)))).slots.size : Int); rw [arrV_size]; omega)
    (fun vm₁ hal i hi => by
      rw [en] at hi
      have e9 : (vp_cell (G.2.2.2.1 3) (n0, .inr (.inr (.inr (.inr (fun j => (f j).map (am_ad G))))))).slots.getD ((0 : Int32).toNatClampNeg + i) .null = va_rf ((f i).map (am_ad G)) := by
        rw [show (0 : Int32).toNatClampNeg + i = i from by rw [show (0 : Int32).toNatClampNeg = 0 from by decide]; omega]
        show (arrV _ n0 (fun j => va_rf ((f j).map (am_ad G)))).slots.getD _ _ = _
        rw [Array.getD_eq_getD_getElem?, arrV_read _ _ (by omega)]
        rfl
      rw [e9]
      cases hy : f i with
      | none => exact ⟨rfl, trivial⟩
      | some y =>
        obtain ⟨fs, hfs⟩ := hel i hi y hy
        obtain ⟨-, -, r, hr9, cellV, g1, g2, g3, -⟩ := hH.2.2.2 y _ hfs
        have hr9 : r = (C, T9, N) := Option.some.inj (hr9.symm.trans hP.1)
        subst hr9
        obtain ⟨kA, comp, r1, r2, r3, -⟩ := (hK.2 3 _ hty).2
        cases hk1.symm.trans r1
        cases hkk1.symm.trans r2
        cases e4.symm.trans r3
        obtain ⟨kE, hkE, -⟩ := Vm.findClass_spec r3
        obtain ⟨kC', hkC', -⟩ := hal.2.2 _ _ hkC
        obtain ⟨kE', hkE', -⟩ := hal.2.2 _ _ hkE
        refine ⟨rfl, cellV, (show T.heap[am_ad G y]? = some cellV by rw [hT]; exact g1), (fun q h => by rw [g3] at h; cases h), ⟨kC', by rw [g2]; exact hkC'⟩, ?_, ?_⟩
        · exact ⟨kE', hkE'⟩
        · show vm₁.assignable _ _ = true
          rw [hal.assignable, g2]
          exact hh)
    (g := F0 m pc ls (.int (nI n) :: .int 0 :: .ref (am_ad G a) :: .int 0 :: .ref (am_ad G a0) :: st.map (am_v G))) rfl (hL.1.trans hC.2.2.1.symm) (rest := st.map (am_v G)) rfl (by rw [hC.2.1]; exact hd) (by omega) (by show 2 * 0 + _ + _ ≤ _; have hw : nativeFrameWords "java/lang/System" "arraycopy" 5 ≤ 20 := (by decide); omega)
  have e1 : copied (vp_cell (G.2.2.2.1 3) (n0, .inr (.inr (.inr (.inr (fun j => (f j).map (am_ad G))))))) (vp_cell (G.2.2.2.1 3) (n1, .inr (.inr (.inr (.inr (fun j => (g j).map (am_ad G))))))) 0 0 (nI n) = vp_cell (G.2.2.2.1 3) (n1, .inr (.inr (.inr (.inr (fun j => (va_cpy f g 0 0 n j).map (am_ad G)))))) := by
    rw [vp_cell_q, vp_cell_q, vp_cell_q]
    have h9 := va_copied (n1 := n1) (sp := 0) (dp := 0) (n := n) (fun z => va_rf z) (G.2.2.2.1 3) (G.2.2.2.1 3) (fun j => (f j).map (am_ad G)) (fun j => (g j).map (am_ad G)) (show 0 + n ≤ n0 by omega)
    show Cell.storeRun _ _ (Cell.stretch _ _ (nI n).toNatClampNeg) = _
    rw [en]
    refine h9.trans ?_
    congr 1
    funext j
    show va_rf (va_cpy (fun j => (f j).map (am_ad G)) (fun j => (g j).map (am_ad G)) 0 0 n j) = va_rf ((va_cpy f g 0 0 n j).map (am_ad G))
    rw [va_cpy, va_cpy]
    split <;> rfl
  rw [e1] at X' step
  have hlz : am_ad G a < H.size := (Array.getElem?_eq_some_iff.mp hc1).1
  generalize hcell : vp_cell (G.2.2.2.1 3) (n1, .inr (.inr (.inr (.inr (fun j => (va_cpy f g 0 0 n j).map (am_ad G)))))) = cell9 at X' step
  have hheap : ((T.setVm vm').setCell (am_ad G a) cell9).heap = H.setIfInBounds (am_ad G a) cell9 := by rw [← hT]; rfl
  have oq : ∀ q : Nat, q ≠ am_ad G a → (H.setIfInBounds (am_ad G a) cell9)[q]? = H[q]? := fun q hq => by simp [Array.getElem?_setIfInBounds, Ne.symm hq]
  obtain ⟨t, a1, b1⟩ := k p e R s m args below meth c _ _ ls hC (am_H_up (o := .inl (3, n1, .inr (.inr (.inr (.inr (va_cpy f g 0 0 n)))))) hH h1 (by simp) oq (show (H.setIfInBounds (am_ad G a) cell9)[am_ad G a]? = some (vp_cell (G.2.2.2.1 3) (n1, .inr (.inr (.inr (.inr (fun j => (va_cpy f g 0 0 n j).map (am_ad G))))))) by rw [hcell]; simp [Array.getElem?_setIfInBounds, hlz])) (fun q hq9 => by
      rcases List.mem_append.mp hq9 with h | h
      · exact hq q h
      · obtain ⟨z, -, hz⟩ := List.mem_map.mp h
        rw [← hz]
        exact am_adA ha1) hL _ hheap X'
  exact ⟨t, step t a1, b1⟩
theorem v_getC {a n0 : Nat} {f : Nat → Option Nat} {index : Nat} (hd : decode Y.2.1 pc = .ok (.invokevirtual index, 3)) (hl : am_has (.methodLink Y.1.cls index ⟨"java/lang/Object", "getClass", "()Ljava/lang/Class;"⟩)) (h0 : M a = some (.inl (3, n0, .inr (.inr (.inr (.inr f)))))) (hd1 : 1 ≤ d) (hr : (st.map fun v => v.category).sum ≤ 20) (k : am_V G Y d mc ms Q (pc + 3) L (.ref 55 :: st) M nx cn sn) : am_V G Y d mc ms Q pc L (.ref a :: st) M nx cn sn := by
  intro p e R s m args below meth c H locs ls hC hH hq hL
  have hR := am_cxR hC
  have hsum := am_catS G hr
  obtain ⟨-, -, hc0⟩ := hH.2.2.2 a _ h0
  replace hc0 : H[am_ad G a]? = some (vp_cell (G.2.2.2.1 3) (n0, .inr (.inr (.inr (.inr (fun j => (f j).map (am_ad G))))))) := hc0
  have hty : (am_tys G)[3]? = some (G.2.2.2.1 3, .object "java/lang/Object") := am_tyAt rfl
  obtain ⟨kA, comp, r1, r2, r3, r4⟩ := ((am_cxK hC).2 3 _ hty).2
  have hdc : (Cond.declares ⟨"java/lang/Object", "getClass", "()Ljava/lang/Class;"⟩).before args s = true := by
    obtain ⟨A, hA⟩ := (am_cxOk hC).2.1
    exact va_Dc.use (va_Dc.moved (am_cxW hC).alike (va_Dc.of (hA _ (List.mem_append_right _ (List.mem_of_getElem? (i := 1475) (by decide +kernel))))))
  refine va_getC hC.1 hC.2.1 (hC.2.2.1.trans hL.1.symm) (am_cxO hC) (am_wdc hC hl args) hdc (am_wdc hC (am_at (k := 1474) (by decide +kernel) (by decide +kernel)) args) (am_wdc hC (am_at (k := 871) (by decide +kernel) (by decide +kernel)) args) (am_wdc hC (am_at (k := 894) (by decide +kernel) (by decide +kernel)) args) (va_Mi.moved (am_cxW hC).alike (am_kcs hC).2.2.2.2.2.2.1) ⟨_, hc0, rfl, r4⟩ (by omega) (by omega) hd ?_
  exact k p e R s m args below meth c H locs ls hC hH hq hL
end VC9
