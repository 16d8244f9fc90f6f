/-! FEED, END, COUNT AND THEIR LIKES (mine; rows laid by the walker) -/
def bk (w k : Int32) : Int32 := vp_nar .byte (Int8.toInt32 (Int32.toInt8 ((w.toUInt32 >>> (k.toUInt32 &&& Int32.toUInt32 31)).toInt32)))
def bs (w k : Int32) : Int32 := vp_nar .byte (Int8.toInt32 (Int32.toInt8 (w >>> (k &&& 31))))
def ap4 (f : Nat → Int32) (n : Nat) (w : Int32) : Nat → Int32 := upd (upd (upd (upd f n (bk w 24)) (n + 1) (bk w 16)) (n + 2) (bk w 8)) (n + 3) (bk w 0)
def as4 (f : Nat → Int32) (n : Nat) (w : Int32) : Nat → Int32 := upd (upd (upd (upd f n (bs w 24)) (n + 1) (bs w 16)) (n + 2) (bs w 8)) (n + 3) (bs w 0)
theorem vp_in4 {n : Nat} (h : n < 4096) : vp_in (nI n) 4096 := vp_in_nI h (by decide)
set_option maxRecDepth 20000 in
theorem t_Tape_append (G : am_G) {d nx : Nat} (hd : 0 ≤ d) {M : am_M} {f : Nat → Int32} {n : Nat} {w : Int32} (h1 : M 1001 = some (.inr (1, [.ref 1002, .int (nI n)]))) (h2 : M 1002 = some (.inl (0, 4096, .inl f))) (hn : n + 4 ≤ 4096) : am_Tr G m_Tape_append d 0 0 [.ref 1001, .int w] M nx (fun r M1 nx1 => r = .inl none ∧ M1 = am_up (am_up M 1002 (.inl (0, 4096, .inl (ap4 f n w)))) 1001 (.inr (1, [.ref 1002, .int (nI (n + 4))])) ∧ nx1 = nx) := by
  refine am_TrOf (by decide) (Nat.le_of_ble_eq_true rfl) ?_
  show am_V G _ _ _ _ _ 0 [(0, .ref 1001), (1, .int w)] [] M nx 0 0
  refine v_bipush (v := 24) (am_Dk d_Tape_append (k := 0) rfl) (by decide) ?_
  refine v_istore_n (L1 := [(2, .int 24), (0, .ref 1001), (1, .int w)]) (am_Dk d_Tape_append (k := 1) rfl) (by decide) rfl ?_
  refine v_iload_n (am_Dk d_Tape_append (k := 2) rfl) rfl ?_
  refine v_if_lt (tgt := 46) (am_Dk d_Tape_append (k := 3) rfl) (by decide) (fun c1 => ?_) (fun c1 => ?_)
  · exact absurd c1 (by decide)
  · refine v_aload_n (am_Dk d_Tape_append (k := 4) rfl) rfl ?_
    refine v_get (am_Dk d_Tape_append (k := 5) rfl) f_Tape_15 h1 rfl ?_
    refine v_sipush (v := 4096) (am_Dk d_Tape_append (k := 6) rfl) (by decide) ?_
    refine v_icmp_ge (tgt := 46) (am_Dk d_Tape_append (k := 7) rfl) (by decide) (fun c2 => ?_) (fun c2 => ?_)
    · exact absurd c2 (nI_ge (a := n) (b := 4096) (by omega) (by decide))
    · refine v_aload_n (am_Dk d_Tape_append (k := 8) rfl) rfl ?_
      refine v_get (am_Dk d_Tape_append (k := 9) rfl) f_Tape_9 h1 rfl ?_
      refine v_aload_n (am_Dk d_Tape_append (k := 10) rfl) rfl ?_
      refine v_get (am_Dk d_Tape_append (k := 11) rfl) f_Tape_15 h1 rfl ?_
      refine v_iload_n (am_Dk d_Tape_append (k := 12) rfl) rfl ?_
      refine v_iload_n (am_Dk d_Tape_append (k := 13) rfl) rfl ?_
      refine v_iushr (am_Dk d_Tape_append (k := 14) rfl) rfl ?_
      refine v_i2b (am_Dk d_Tape_append (k := 15) rfl) rfl ?_
      refine v_bast (am_Dk d_Tape_append (k := 16) rfl) h2 rfl (vp_in4 (by omega)) ?_
      rw [nI_clamp (n := n) (by omega)]
      refine v_aload_n (am_Dk d_Tape_append (k := 17) rfl) rfl ?_
      refine v_dup (am_Dk d_Tape_append (k := 18) rfl) rfl ?_
      have m3 : (am_up M 1002 (.inl (0, 4096, .inl (upd f (n) (vp_nar .byte (Int8.toInt32 (Int32.toInt8 (((w).toUInt32 >>> ((24 : Int32).toUInt32 &&& Int32.toUInt32 31)).toInt32)))))))) 1001 = some (.inr (1, [.ref 1002, .int (nI n)])) := (am_up_ne (show 1001 ≠ 1002 from by decide)).trans (h1)
      refine v_get (am_Dk d_Tape_append (k := 19) rfl) f_Tape_15 m3 rfl ?_
      refine v_iconst (v := 1) (am_Dk d_Tape_append (k := 20) rfl) (by decide) ?_
      refine v_iadd (am_Dk d_Tape_append (k := 21) rfl) ?_
      rw [nI_1]
      refine v_put (am_Dk d_Tape_append (k := 22) rfl) f_Tape_15 m3 (Nat.le_of_ble_eq_true rfl) rfl rfl ?_
      refine v_iinc (v := 16) (L1 := [(2, .int 16), (0, .ref 1001), (1, .int w)]) (am_Dk d_Tape_append (k := 23) rfl) rfl (by decide) (by decide) rfl ?_
      refine v_goto (tgt := 3) (am_Dk d_Tape_append (k := 24) rfl) (by decide) ?_
      refine v_iload_n (am_Dk d_Tape_append (k := 2) rfl) rfl ?_
      refine v_if_lt (tgt := 46) (am_Dk d_Tape_append (k := 3) rfl) (by decide) (fun c4 => ?_) (fun c4 => ?_)
      · exact absurd c4 (by decide)
      · refine v_aload_n (am_Dk d_Tape_append (k := 4) rfl) rfl ?_
        have m5 : (am_up (am_up M 1002 (.inl (0, 4096, .inl (upd f (n) (vp_nar .byte (Int8.toInt32 (Int32.toInt8 (((w).toUInt32 >>> ((24 : Int32).toUInt32 &&& Int32.toUInt32 31)).toInt32)))))))) 1001 (.inr (1, [.ref 1002, .int (nI (n + 1))]))) 1001 = some (.inr (1, [.ref 1002, .int (nI (n + 1))])) := am_up_eq _ _ _
        refine v_get (am_Dk d_Tape_append (k := 5) rfl) f_Tape_15 m5 rfl ?_
        refine v_sipush (v := 4096) (am_Dk d_Tape_append (k := 6) rfl) (by decide) ?_
        refine v_icmp_ge (tgt := 46) (am_Dk d_Tape_append (k := 7) rfl) (by decide) (fun c6 => ?_) (fun c6 => ?_)
        · exact absurd c6 (nI_ge (a := n + 1) (b := 4096) (by omega) (by decide))
        · refine v_aload_n (am_Dk d_Tape_append (k := 8) rfl) rfl ?_
          refine v_get (am_Dk d_Tape_append (k := 9) rfl) f_Tape_9 m5 rfl ?_
          refine v_aload_n (am_Dk d_Tape_append (k := 10) rfl) rfl ?_
          refine v_get (am_Dk d_Tape_append (k := 11) rfl) f_Tape_15 m5 rfl ?_
          refine v_iload_n (am_Dk d_Tape_append (k := 12) rfl) rfl ?_
          refine v_iload_n (am_Dk d_Tape_append (k := 13) rfl) rfl ?_
          refine v_iushr (am_Dk d_Tape_append (k := 14) rfl) rfl ?_
          refine v_i2b (am_Dk d_Tape_append (k := 15) rfl) rfl ?_
          have m7 : (am_up (am_up M 1002 (.inl (0, 4096, .inl (upd f (n) (vp_nar .byte (Int8.toInt32 (Int32.toInt8 (((w).toUInt32 >>> ((24 : Int32).toUInt32 &&& Int32.toUInt32 31)).toInt32)))))))) 1001 (.inr (1, [.ref 1002, .int (nI (n + 1))]))) 1002 = some (.inl (0, 4096, .inl (upd f (n) (vp_nar .byte (Int8.toInt32 (Int32.toInt8 (((w).toUInt32 >>> ((24 : Int32).toUInt32 &&& Int32.toUInt32 31)).toInt32))))))) := (am_up_ne (show 1002 ≠ 1001 from by decide)).trans (am_up_eq _ _ _)
          refine v_bast (am_Dk d_Tape_append (k := 16) rfl) m7 rfl (vp_in4 (by omega)) ?_
          rw [nI_clamp (n := n + 1) (by omega)]
          rw [am_uu1 (a := 1002)]
          refine v_aload_n (am_Dk d_Tape_append (k := 17) rfl) rfl ?_
          refine v_dup (am_Dk d_Tape_append (k := 18) rfl) rfl ?_
          have m8 : (am_up (am_up M 1001 (.inr (1, [.ref 1002, .int (nI (n + 1))]))) 1002 (.inl (0, 4096, .inl (upd (upd f (n) (vp_nar .byte (Int8.toInt32 (Int32.toInt8 (((w).toUInt32 >>> ((24 : Int32).toUInt32 &&& Int32.toUInt32 31)).toInt32))))) (n + 1) (vp_nar .byte (Int8.toInt32 (Int32.toInt8 (((w).toUInt32 >>> ((16 : Int32).toUInt32 &&& Int32.toUInt32 31)).toInt32)))))))) 1001 = some (.inr (1, [.ref 1002, .int (nI (n + 1))])) := (am_up_ne (show 1001 ≠ 1002 from by decide)).trans (am_up_eq _ _ _)
          refine v_get (am_Dk d_Tape_append (k := 19) rfl) f_Tape_15 m8 rfl ?_
          refine v_iconst (v := 1) (am_Dk d_Tape_append (k := 20) rfl) (by decide) ?_
          refine v_iadd (am_Dk d_Tape_append (k := 21) rfl) ?_
          rw [nI_1]
          refine v_put (am_Dk d_Tape_append (k := 22) rfl) f_Tape_15 m8 (Nat.le_of_ble_eq_true rfl) rfl rfl ?_
          rw [am_uu1 (a := 1001)]
          refine v_iinc (v := 8) (L1 := [(2, .int 8), (0, .ref 1001), (1, .int w)]) (am_Dk d_Tape_append (k := 23) rfl) rfl (by decide) (by decide) rfl ?_
          refine v_goto (tgt := 3) (am_Dk d_Tape_append (k := 24) rfl) (by decide) ?_
          refine v_iload_n (am_Dk d_Tape_append (k := 2) rfl) rfl ?_
          refine v_if_lt (tgt := 46) (am_Dk d_Tape_append (k := 3) rfl) (by decide) (fun c9 => ?_) (fun c9 => ?_)
          · exact absurd c9 (by decide)
          · refine v_aload_n (am_Dk d_Tape_append (k := 4) rfl) rfl ?_
            have m10 : (am_up (am_up M 1002 (.inl (0, 4096, .inl (upd (upd f (n) (vp_nar .byte (Int8.toInt32 (Int32.toInt8 (((w).toUInt32 >>> ((24 : Int32).toUInt32 &&& Int32.toUInt32 31)).toInt32))))) (n + 1) (vp_nar .byte (Int8.toInt32 (Int32.toInt8 (((w).toUInt32 >>> ((16 : Int32).toUInt32 &&& Int32.toUInt32 31)).toInt32)))))))) 1001 (.inr (1, [.ref 1002, .int (nI (n + 2))]))) 1001 = some (.inr (1, [.ref 1002, .int (nI (n + 2))])) := am_up_eq _ _ _
            refine v_get (am_Dk d_Tape_append (k := 5) rfl) f_Tape_15 m10 rfl ?_
            refine v_sipush (v := 4096) (am_Dk d_Tape_append (k := 6) rfl) (by decide) ?_
            refine v_icmp_ge (tgt := 46) (am_Dk d_Tape_append (k := 7) rfl) (by decide) (fun c11 => ?_) (fun c11 => ?_)
            · exact absurd c11 (nI_ge (a := n + 2) (b := 4096) (by omega) (by decide))
            · refine v_aload_n (am_Dk d_Tape_append (k := 8) rfl) rfl ?_
              refine v_get (am_Dk d_Tape_append (k := 9) rfl) f_Tape_9 m10 rfl ?_
              refine v_aload_n (am_Dk d_Tape_append (k := 10) rfl) rfl ?_
              refine v_get (am_Dk d_Tape_append (k := 11) rfl) f_Tape_15 m10 rfl ?_
              refine v_iload_n (am_Dk d_Tape_append (k := 12) rfl) rfl ?_
              refine v_iload_n (am_Dk d_Tape_append (k := 13) rfl) rfl ?_
              refine v_iushr (am_Dk d_Tape_append (k := 14) rfl) rfl ?_
              refine v_i2b (am_Dk d_Tape_append (k := 15) rfl) rfl ?_
              have m12 : (am_up (am_up M 1002 (.inl (0, 4096, .inl (upd (upd f (n) (vp_nar .byte (Int8.toInt32 (Int32.toInt8 (((w).toUInt32 >>> ((24 : Int32).toUInt32 &&& Int32.toUInt32 31)).toInt32))))) (n + 1) (vp_nar .byte (Int8.toInt32 (Int32.toInt8 (((w).toUInt32 >>> ((16 : Int32).toUInt32 &&& Int32.toUInt32 31)).toInt32)))))))) 1001 (.inr (1, [.ref 1002, .int (nI (n + 2))]))) 1002 = some (.inl (0, 4096, .inl (upd (upd f (n) (vp_nar .byte (Int8.toInt32 (Int32.toInt8 (((w).toUInt32 >>> ((24 : Int32).toUInt32 &&& Int32.toUInt32 31)).toInt32))))) (n + 1) (vp_nar .byte (Int8.toInt32 (Int32.toInt8 (((w).toUInt32 >>> ((16 : Int32).toUInt32 &&& Int32.toUInt32 31)).toInt32))))))) := (am_up_ne (show 1002 ≠ 1001 from by decide)).trans (am_up_eq _ _ _)
              refine v_bast (am_Dk d_Tape_append (k := 16) rfl) m12 rfl (vp_in4 (by omega)) ?_
              rw [nI_clamp (n := n + 2) (by omega)]
              rw [am_uu1 (a := 1002)]
              refine v_aload_n (am_Dk d_Tape_append (k := 17) rfl) rfl ?_
              refine v_dup (am_Dk d_Tape_append (k := 18) rfl) rfl ?_
              have m13 : (am_up (am_up M 1001 (.inr (1, [.ref 1002, .int (nI (n + 2))]))) 1002 (.inl (0, 4096, .inl (upd (upd (upd f (n) (vp_nar .byte (Int8.toInt32 (Int32.toInt8 (((w).toUInt32 >>> ((24 : Int32).toUInt32 &&& Int32.toUInt32 31)).toInt32))))) (n + 1) (vp_nar .byte (Int8.toInt32 (Int32.toInt8 (((w).toUInt32 >>> ((16 : Int32).toUInt32 &&& Int32.toUInt32 31)).toInt32))))) (n + 2) (vp_nar .byte (Int8.toInt32 (Int32.toInt8 (((w).toUInt32 >>> ((8 : Int32).toUInt32 &&& Int32.toUInt32 31)).toInt32)))))))) 1001 = some (.inr (1, [.ref 1002, .int (nI (n + 2))])) := (am_up_ne (show 1001 ≠ 1002 from by decide)).trans (am_up_eq _ _ _)
              refine v_get (am_Dk d_Tape_append (k := 19) rfl) f_Tape_15 m13 rfl ?_
              refine v_iconst (v := 1) (am_Dk d_Tape_append (k := 20) rfl) (by decide) ?_
              refine v_iadd (am_Dk d_Tape_append (k := 21) rfl) ?_
              rw [nI_1]
              refine v_put (am_Dk d_Tape_append (k := 22) rfl) f_Tape_15 m13 (Nat.le_of_ble_eq_true rfl) rfl rfl ?_
              rw [am_uu1 (a := 1001)]
              refine v_iinc (v := 0) (L1 := [(2, .int 0), (0, .ref 1001), (1, .int w)]) (am_Dk d_Tape_append (k := 23) rfl) rfl (by decide) (by decide) rfl ?_
              refine v_goto (tgt := 3) (am_Dk d_Tape_append (k := 24) rfl) (by decide) ?_
              refine v_iload_n (am_Dk d_Tape_append (k := 2) rfl) rfl ?_
              refine v_if_lt (tgt := 46) (am_Dk d_Tape_append (k := 3) rfl) (by decide) (fun c14 => ?_) (fun c14 => ?_)
              · exact absurd c14 (by decide)
              · refine v_aload_n (am_Dk d_Tape_append (k := 4) rfl) rfl ?_
                have m15 : (am_up (am_up M 1002 (.inl (0, 4096, .inl (upd (upd (upd f (n) (vp_nar .byte (Int8.toInt32 (Int32.toInt8 (((w).toUInt32 >>> ((24 : Int32).toUInt32 &&& Int32.toUInt32 31)).toInt32))))) (n + 1) (vp_nar .byte (Int8.toInt32 (Int32.toInt8 (((w).toUInt32 >>> ((16 : Int32).toUInt32 &&& Int32.toUInt32 31)).toInt32))))) (n + 2) (vp_nar .byte (Int8.toInt32 (Int32.toInt8 (((w).toUInt32 >>> ((8 : Int32).toUInt32 &&& Int32.toUInt32 31)).toInt32)))))))) 1001 (.inr (1, [.ref 1002, .int (nI (n + 3))]))) 1001 = some (.inr (1, [.ref 1002, .int (nI (n + 3))])) := am_up_eq _ _ _
                refine v_get (am_Dk d_Tape_append (k := 5) rfl) f_Tape_15 m15 rfl ?_
                refine v_sipush (v := 4096) (am_Dk d_Tape_append (k := 6) rfl) (by decide) ?_
                refine v_icmp_ge (tgt := 46) (am_Dk d_Tape_append (k := 7) rfl) (by decide) (fun c16 => ?_) (fun c16 => ?_)
                · exact absurd c16 (nI_ge (a := n + 3) (b := 4096) (by omega) (by decide))
                · refine v_aload_n (am_Dk d_Tape_append (k := 8) rfl) rfl ?_
                  refine v_get (am_Dk d_Tape_append (k := 9) rfl) f_Tape_9 m15 rfl ?_
                  refine v_aload_n (am_Dk d_Tape_append (k := 10) rfl) rfl ?_
                  refine v_get (am_Dk d_Tape_append (k := 11) rfl) f_Tape_15 m15 rfl ?_
                  refine v_iload_n (am_Dk d_Tape_append (k := 12) rfl) rfl ?_
                  refine v_iload_n (am_Dk d_Tape_append (k := 13) rfl) rfl ?_
                  refine v_iushr (am_Dk d_Tape_append (k := 14) rfl) rfl ?_
                  refine v_i2b (am_Dk d_Tape_append (k := 15) rfl) rfl ?_
                  have m17 : (am_up (am_up M 1002 (.inl (0, 4096, .inl (upd (upd (upd f (n) (vp_nar .byte (Int8.toInt32 (Int32.toInt8 (((w).toUInt32 >>> ((24 : Int32).toUInt32 &&& Int32.toUInt32 31)).toInt32))))) (n + 1) (vp_nar .byte (Int8.toInt32 (Int32.toInt8 (((w).toUInt32 >>> ((16 : Int32).toUInt32 &&& Int32.toUInt32 31)).toInt32))))) (n + 2) (vp_nar .byte (Int8.toInt32 (Int32.toInt8 (((w).toUInt32 >>> ((8 : Int32).toUInt32 &&& Int32.toUInt32 31)).toInt32)))))))) 1001 (.inr (1, [.ref 1002, .int (nI (n + 3))]))) 1002 = some (.inl (0, 4096, .inl (upd (upd (upd f (n) (vp_nar .byte (Int8.toInt32 (Int32.toInt8 (((w).toUInt32 >>> ((24 : Int32).toUInt32 &&& Int32.toUInt32 31)).toInt32))))) (n + 1) (vp_nar .byte (Int8.toInt32 (Int32.toInt8 (((w).toUInt32 >>> ((16 : Int32).toUInt32 &&& Int32.toUInt32 31)).toInt32))))) (n + 2) (vp_nar .byte (Int8.toInt32 (Int32.toInt8 (((w).toUInt32 >>> ((8 : Int32).toUInt32 &&& Int32.toUInt32 31)).toInt32))))))) := (am_up_ne (show 1002 ≠ 1001 from by decide)).trans (am_up_eq _ _ _)
                  refine v_bast (am_Dk d_Tape_append (k := 16) rfl) m17 rfl (vp_in4 (by omega)) ?_
                  rw [nI_clamp (n := n + 3) (by omega)]
                  rw [am_uu1 (a := 1002)]
                  refine v_aload_n (am_Dk d_Tape_append (k := 17) rfl) rfl ?_
                  refine v_dup (am_Dk d_Tape_append (k := 18) rfl) rfl ?_
                  have m18 : (am_up (am_up M 1001 (.inr (1, [.ref 1002, .int (nI (n + 3))]))) 1002 (.inl (0, 4096, .inl (upd (upd (upd (upd f (n) (vp_nar .byte (Int8.toInt32 (Int32.toInt8 (((w).toUInt32 >>> ((24 : Int32).toUInt32 &&& Int32.toUInt32 31)).toInt32))))) (n + 1) (vp_nar .byte (Int8.toInt32 (Int32.toInt8 (((w).toUInt32 >>> ((16 : Int32).toUInt32 &&& Int32.toUInt32 31)).toInt32))))) (n + 2) (vp_nar .byte (Int8.toInt32 (Int32.toInt8 (((w).toUInt32 >>> ((8 : Int32).toUInt32 &&& Int32.toUInt32 31)).toInt32))))) (n + 3) (vp_nar .byte (Int8.toInt32 (Int32.toInt8 (((w).toUInt32 >>> ((0 : Int32).toUInt32 &&& Int32.toUInt32 31)).toInt32)))))))) 1001 = some (.inr (1, [.ref 1002, .int (nI (n + 3))])) := (am_up_ne (show 1001 ≠ 1002 from by decide)).trans (am_up_eq _ _ _)
                  refine v_get (am_Dk d_Tape_append (k := 19) rfl) f_Tape_15 m18 rfl ?_
                  refine v_iconst (v := 1) (am_Dk d_Tape_append (k := 20) rfl) (by decide) ?_
                  refine v_iadd (am_Dk d_Tape_append (k := 21) rfl) ?_
                  rw [nI_1]
                  refine v_put (am_Dk d_Tape_append (k := 22) rfl) f_Tape_15 m18 (Nat.le_of_ble_eq_true rfl) rfl rfl ?_
                  rw [am_uu1 (a := 1001)]
                  refine v_iinc (v := (-8)) (L1 := [(2, .int (-8)), (0, .ref 1001), (1, .int w)]) (am_Dk d_Tape_append (k := 23) rfl) rfl (by decide) (by decide) rfl ?_
                  refine v_goto (tgt := 3) (am_Dk d_Tape_append (k := 24) rfl) (by decide) ?_
                  refine v_iload_n (am_Dk d_Tape_append (k := 2) rfl) rfl ?_
                  refine v_if_lt (tgt := 46) (am_Dk d_Tape_append (k := 3) rfl) (by decide) (fun c19 => ?_) (fun c19 => ?_)
                  · exact v_return (am_Dk d_Tape_append (k := 25) rfl) rfl (by omega) (by omega) ⟨rfl, rfl, rfl⟩
                  · exact absurd (by decide) c19
set_option maxRecDepth 20000 in
theorem t_VR_feed (G : am_G) {d nx : Nat} (hd : 6 ≤ d) {M : am_M} {f : Nat → Int32} {n : Nat} {pl er p0 p1 p2 p3 p4 : Int32} (h0 : M 1000 = some (.inr (0, [.ref 1001, .ref 1003, .ref 1005, .int pl, .int er]))) (h1 : M 1001 = some (.inr (1, [.ref 1002, .int (nI n)]))) (h2 : M 1002 = some (.inl (0, 4096, .inl f))) (hn : n ≤ 4096) (hx : 1240 ≤ nx) : am_Tr G m_VR_feed d 1 6 [.ref 1000, .int p0, .int p1, .int p2, .int p3, .int p4] M nx (fun r M1 nx1 => (n + 20 ≤ 4096 ∧ r = .inl (some (.int (nI (n + 20)))) ∧ M1 = am_up (am_up M 1002 (.inl (0, 4096, .inl (ap4 (ap4 (ap4 (ap4 (ap4 f n p0) (n + 4) p1) (n + 8) p2) (n + 12) p3) (n + 16) p4)))) 1001 (.inr (1, [.ref 1002, .int (nI (n + 20))])) ∧ nx1 = nx) ∨ (4096 < n + 20 ∧ r = .inr nx ∧ M1 = am_up M nx (.inr (13, [])) ∧ nx1 = nx + 1)) := by
  refine am_TrOf (by decide) (Nat.le_of_ble_eq_true rfl) ?_
  show am_V G _ _ _ _ _ 0 [(0, .ref 1000), (1, .int p0), (2, .int p1), (3, .int p2), (4, .int p3), (5, .int p4)] [] M nx 0 0
  refine v_aload_n (am_Dk d_VR_feed (k := 0) rfl) rfl ?_
  refine v_get (am_Dk d_VR_feed (k := 1) rfl) f_VR_10 h0 rfl ?_
  refine v_get (am_Dk d_VR_feed (k := 2) rfl) f_VR_39 h1 rfl ?_
  refine v_bipush (v := 20) (am_Dk d_VR_feed (k := 3) rfl) (by decide) ?_
  refine v_iadd (am_Dk d_VR_feed (k := 4) rfl) ?_
  rw [show (nI n + 20 : Int32) = nI (n + 20) from nI_add n 20]
  refine v_sipush (v := 4096) (am_Dk d_VR_feed (k := 5) rfl) (by decide) ?_
  refine v_icmp_le (tgt := 24) (am_Dk d_VR_feed (k := 6) rfl) (by decide) (fun c1 => ?_) (fun c1 => ?_)
  · have hc : n + 20 ≤ 4096 := (nI_leI (by omega) (by decide)).mp c1
    refine v_aload_n (am_Dk d_VR_feed (k := 11) rfl) rfl ?_
    refine v_get (am_Dk d_VR_feed (k := 12) rfl) f_VR_10 h0 rfl ?_
    refine v_iload_n (am_Dk d_VR_feed (k := 13) rfl) rfl ?_
    refine v_callV (rest := []) (As := [.int p0]) (mc' := 0) (ms' := 0) (am_Dk d_VR_feed (k := 14) rfl) c_VR_45 (Or.inl ⟨_, _, _, _, _, h1, cq_ok1⟩) (t_Tape_append G (d := 0) (by omega) h1 h2 (by omega)) (by omega) (by omega) (by omega) (by simp [Value.category]) rfl (fun v2 M3 n4 h5 => ?_) (fun _ _ _ h5 => ?_)
    rotate_left
    · exact absurd h5.1 (by simp)
    obtain ⟨h5, e6, e7⟩ := h5
    replace e6 := e6.symm
    replace e7 := e7.symm
    subst e6
    subst e7
    cases h5
    show am_V G _ _ _ _ _ 32 [(0, .ref 1000), (1, .int p0), (2, .int p1), (3, .int p2), (4, .int p3), (5, .int p4)] [] (am_up (am_up M 1002 (.inl (0, 4096, .inl (ap4 f n p0)))) 1001 (.inr (1, [.ref 1002, .int (nI (n + 4))]))) nx 0 0
    refine v_aload_n (am_Dk d_VR_feed (k := 15) rfl) rfl ?_
    have m8 : (am_up (am_up M 1002 (.inl (0, 4096, .inl (ap4 f n p0)))) 1001 (.inr (1, [.ref 1002, .int (nI (n + 4))]))) 1000 = some (.inr (0, [.ref 1001, .ref 1003, .ref 1005, .int pl, .int er])) := (am_up_ne (show 1000 ≠ 1001 from by decide)).trans ((am_up_ne (show 1000 ≠ 1002 from by decide)).trans (h0))
    refine v_get (am_Dk d_VR_feed (k := 16) rfl) f_VR_10 m8 rfl ?_
    refine v_iload_n (am_Dk d_VR_feed (k := 17) rfl) rfl ?_
    have m9 : (am_up (am_up M 1002 (.inl (0, 4096, .inl (ap4 f n p0)))) 1001 (.inr (1, [.ref 1002, .int (nI (n + 4))]))) 1001 = some (.inr (1, [.ref 1002, .int (nI (n + 4))])) := am_up_eq _ _ _
    have m10 : (am_up (am_up M 1002 (.inl (0, 4096, .inl (ap4 f n p0)))) 1001 (.inr (1, [.ref 1002, .int (nI (n + 4))]))) 1002 = some (.inl (0, 4096, .inl (ap4 f n p0))) := (am_up_ne (show 1002 ≠ 1001 from by decide)).trans (am_up_eq _ _ _)
    refine v_callV (rest := []) (As := [.int p1]) (mc' := 0) (ms' := 0) (am_Dk d_VR_feed (k := 18) rfl) c_VR_45 (Or.inl ⟨_, _, _, _, _, m9, cq_ok1⟩) (t_Tape_append G (d := 0) (by omega) m9 m10 (by omega)) (by omega) (by omega) (by omega) (by simp [Value.category]) rfl (fun v11 M12 n13 h14 => ?_) (fun _ _ _ h14 => ?_)
    rotate_left
    · exact absurd h14.1 (by simp)
    obtain ⟨h14, e15, e16⟩ := h14
    replace e15 := e15.symm
    replace e16 := e16.symm
    subst e15
    subst e16
    cases h14
    rw [am_uu1 (a := 1002)]
    rw [am_uu1 (a := 1001)]
    show am_V G _ _ _ _ _ 40 [(0, .ref 1000), (1, .int p0), (2, .int p1), (3, .int p2), (4, .int p3), (5, .int p4)] [] (am_up (am_up M 1002 (.inl (0, 4096, .inl (ap4 (ap4 f n p0) (n + 4) p1)))) 1001 (.inr (1, [.ref 1002, .int (nI (n + 8))]))) nx 0 0
    refine v_aload_n (am_Dk d_VR_feed (k := 19) rfl) rfl ?_
    have m17 : (am_up (am_up M 1002 (.inl (0, 4096, .inl (ap4 (ap4 f n p0) (n + 4) p1)))) 1001 (.inr (1, [.ref 1002, .int (nI (n + 8))]))) 1000 = some (.inr (0, [.ref 1001, .ref 1003, .ref 1005, .int pl, .int er])) := (am_up_ne (show 1000 ≠ 1001 from by decide)).trans ((am_up_ne (show 1000 ≠ 1002 from by decide)).trans (h0))
    refine v_get (am_Dk d_VR_feed (k := 20) rfl) f_VR_10 m17 rfl ?_
    refine v_iload_n (am_Dk d_VR_feed (k := 21) rfl) rfl ?_
    have m18 : (am_up (am_up M 1002 (.inl (0, 4096, .inl (ap4 (ap4 f n p0) (n + 4) p1)))) 1001 (.inr (1, [.ref 1002, .int (nI (n + 8))]))) 1001 = some (.inr (1, [.ref 1002, .int (nI (n + 8))])) := am_up_eq _ _ _
    have m19 : (am_up (am_up M 1002 (.inl (0, 4096, .inl (ap4 (ap4 f n p0) (n + 4) p1)))) 1001 (.inr (1, [.ref 1002, .int (nI (n + 8))]))) 1002 = some (.inl (0, 4096, .inl (ap4 (ap4 f n p0) (n + 4) p1))) := (am_up_ne (show 1002 ≠ 1001 from by decide)).trans (am_up_eq _ _ _)
    refine v_callV (rest := []) (As := [.int p2]) (mc' := 0) (ms' := 0) (am_Dk d_VR_feed (k := 22) rfl) c_VR_45 (Or.inl ⟨_, _, _, _, _, m18, cq_ok1⟩) (t_Tape_append G (d := 0) (by omega) m18 m19 (by omega)) (by omega) (by omega) (by omega) (by simp [Value.category]) rfl (fun v20 M21 n22 h23 => ?_) (fun _ _ _ h23 => ?_)
    rotate_left
    · exact absurd h23.1 (by simp)
    obtain ⟨h23, e24, e25⟩ := h23
    replace e24 := e24.symm
    replace e25 := e25.symm
    subst e24
    subst e25
    cases h23
    rw [am_uu1 (a := 1002)]
    rw [am_uu1 (a := 1001)]
    show am_V G _ _ _ _ _ 48 [(0, .ref 1000), (1, .int p0), (2, .int p1), (3, .int p2), (4, .int p3), (5, .int p4)] [] (am_up (am_up M 1002 (.inl (0, 4096, .inl (ap4 (ap4 (ap4 f n p0) (n + 4) p1) (n + 8) p2)))) 1001 (.inr (1, [.ref 1002, .int (nI (n + 12))]))) nx 0 0
    refine v_aload_n (am_Dk d_VR_feed (k := 23) rfl) rfl ?_
    have m26 : (am_up (am_up M 1002 (.inl (0, 4096, .inl (ap4 (ap4 (ap4 f n p0) (n + 4) p1) (n + 8) p2)))) 1001 (.inr (1, [.ref 1002, .int (nI (n + 12))]))) 1000 = some (.inr (0, [.ref 1001, .ref 1003, .ref 1005, .int pl, .int er])) := (am_up_ne (show 1000 ≠ 1001 from by decide)).trans ((am_up_ne (show 1000 ≠ 1002 from by decide)).trans (h0))
    refine v_get (am_Dk d_VR_feed (k := 24) rfl) f_VR_10 m26 rfl ?_
    refine v_iload (am_Dk d_VR_feed (k := 25) rfl) rfl ?_
    have m27 : (am_up (am_up M 1002 (.inl (0, 4096, .inl (ap4 (ap4 (ap4 f n p0) (n + 4) p1) (n + 8) p2)))) 1001 (.inr (1, [.ref 1002, .int (nI (n + 12))]))) 1001 = some (.inr (1, [.ref 1002, .int (nI (n + 12))])) := am_up_eq _ _ _
    have m28 : (am_up (am_up M 1002 (.inl (0, 4096, .inl (ap4 (ap4 (ap4 f n p0) (n + 4) p1) (n + 8) p2)))) 1001 (.inr (1, [.ref 1002, .int (nI (n + 12))]))) 1002 = some (.inl (0, 4096, .inl (ap4 (ap4 (ap4 f n p0) (n + 4) p1) (n + 8) p2))) := (am_up_ne (show 1002 ≠ 1001 from by decide)).trans (am_up_eq _ _ _)
    refine v_callV (rest := []) (As := [.int p3]) (mc' := 0) (ms' := 0) (am_Dk d_VR_feed (k := 26) rfl) c_VR_45 (Or.inl ⟨_, _, _, _, _, m27, cq_ok1⟩) (t_Tape_append G (d := 0) (by omega) m27 m28 (by omega)) (by omega) (by omega) (by omega) (by simp [Value.category]) rfl (fun v29 M30 n31 h32 => ?_) (fun _ _ _ h32 => ?_)
    rotate_left
    · exact absurd h32.1 (by simp)
    obtain ⟨h32, e33, e34⟩ := h32
    replace e33 := e33.symm
    replace e34 := e34.symm
    subst e33
    subst e34
    cases h32
    rw [am_uu1 (a := 1002)]
    rw [am_uu1 (a := 1001)]
    show am_V G _ _ _ _ _ 57 [(0, .ref 1000), (1, .int p0), (2, .int p1), (3, .int p2), (4, .int p3), (5, .int p4)] [] (am_up (am_up M 1002 (.inl (0, 4096, .inl (ap4 (ap4 (ap4 (ap4 f n p0) (n + 4) p1) (n + 8) p2) (n + 12) p3)))) 1001 (.inr (1, [.ref 1002, .int (nI (n + 16))]))) nx 0 0
    refine v_aload_n (am_Dk d_VR_feed (k := 27) rfl) rfl ?_
    have m35 : (am_up (am_up M 1002 (.inl (0, 4096, .inl (ap4 (ap4 (ap4 (ap4 f n p0) (n + 4) p1) (n + 8) p2) (n + 12) p3)))) 1001 (.inr (1, [.ref 1002, .int (nI (n + 16))]))) 1000 = some (.inr (0, [.ref 1001, .ref 1003, .ref 1005, .int pl, .int er])) := (am_up_ne (show 1000 ≠ 1001 from by decide)).trans ((am_up_ne (show 1000 ≠ 1002 from by decide)).trans (h0))
    refine v_get (am_Dk d_VR_feed (k := 28) rfl) f_VR_10 m35 rfl ?_
    refine v_iload (am_Dk d_VR_feed (k := 29) rfl) rfl ?_
    have m36 : (am_up (am_up M 1002 (.inl (0, 4096, .inl (ap4 (ap4 (ap4 (ap4 f n p0) (n + 4) p1) (n + 8) p2) (n + 12) p3)))) 1001 (.inr (1, [.ref 1002, .int (nI (n + 16))]))) 1001 = some (.inr (1, [.ref 1002, .int (nI (n + 16))])) := am_up_eq _ _ _
    have m37 : (am_up (am_up M 1002 (.inl (0, 4096, .inl (ap4 (ap4 (ap4 (ap4 f n p0) (n + 4) p1) (n + 8) p2) (n + 12) p3)))) 1001 (.inr (1, [.ref 1002, .int (nI (n + 16))]))) 1002 = some (.inl (0, 4096, .inl (ap4 (ap4 (ap4 (ap4 f n p0) (n + 4) p1) (n + 8) p2) (n + 12) p3))) := (am_up_ne (show 1002 ≠ 1001 from by decide)).trans (am_up_eq _ _ _)
    refine v_callV (rest := []) (As := [.int p4]) (mc' := 0) (ms' := 0) (am_Dk d_VR_feed (k := 30) rfl) c_VR_45 (Or.inl ⟨_, _, _, _, _, m36, cq_ok1⟩) (t_Tape_append G (d := 0) (by omega) m36 m37 (by omega)) (by omega) (by omega) (by omega) (by simp [Value.category]) rfl (fun v38 M39 n40 h41 => ?_) (fun _ _ _ h41 => ?_)
    rotate_left
    · exact absurd h41.1 (by simp)
    obtain ⟨h41, e42, e43⟩ := h41
    replace e42 := e42.symm
    replace e43 := e43.symm
    subst e42
    subst e43
    cases h41
    rw [am_uu1 (a := 1002)]
    rw [am_uu1 (a := 1001)]
    show am_V G _ _ _ _ _ 66 [(0, .ref 1000), (1, .int p0), (2, .int p1), (3, .int p2), (4, .int p3), (5, .int p4)] [] (am_up (am_up M 1002 (.inl (0, 4096, .inl (ap4 (ap4 (ap4 (ap4 (ap4 f n p0) (n + 4) p1) (n + 8) p2) (n + 12) p3) (n + 16) p4)))) 1001 (.inr (1, [.ref 1002, .int (nI (n + 20))]))) nx 0 0
    refine v_aload_n (am_Dk d_VR_feed (k := 31) rfl) rfl ?_
    have m44 : (am_up (am_up M 1002 (.inl (0, 4096, .inl (ap4 (ap4 (ap4 (ap4 (ap4 f n p0) (n + 4) p1) (n + 8) p2) (n + 12) p3) (n + 16) p4)))) 1001 (.inr (1, [.ref 1002, .int (nI (n + 20))]))) 1000 = some (.inr (0, [.ref 1001, .ref 1003, .ref 1005, .int pl, .int er])) := (am_up_ne (show 1000 ≠ 1001 from by decide)).trans ((am_up_ne (show 1000 ≠ 1002 from by decide)).trans (h0))
    refine v_get (am_Dk d_VR_feed (k := 32) rfl) f_VR_10 m44 rfl ?_
    have m45 : (am_up (am_up M 1002 (.inl (0, 4096, .inl (ap4 (ap4 (ap4 (ap4 (ap4 f n p0) (n + 4) p1) (n + 8) p2) (n + 12) p3) (n + 16) p4)))) 1001 (.inr (1, [.ref 1002, .int (nI (n + 20))]))) 1001 = some (.inr (1, [.ref 1002, .int (nI (n + 20))])) := am_up_eq _ _ _
    refine v_get (am_Dk d_VR_feed (k := 33) rfl) f_VR_39 m45 rfl ?_
    exact v_ireturn (am_Dk d_VR_feed (k := 34) rfl) rfl rfl (by omega) (by omega) (Or.inl ⟨by omega, rfl, rfl, rfl⟩)
  · have hc : ¬ n + 20 ≤ 4096 := fun z => c1 ((nI_leI (by omega) (by decide)).mpr z)
    refine v_newX (am_Dk d_VR_feed (k := 7) rfl) (am_Dk d_VR_feed (k := 8) rfl) (am_Dk d_VR_feed (k := 9) rfl) x_VR_42 (by omega) (by omega) (by omega) (by simp [Value.category]) ?_
    refine v_athrow (am_Dk d_VR_feed (k := 10) rfl) ?_
    exact vt_leave (fun q hq => by cases hq) (by omega) (by omega) (Or.inr ⟨by omega, rfl, rfl, rfl⟩)
set_option maxRecDepth 20000 in
theorem t_VR_end (G : am_G) {d nx : Nat} (hd : 6 ≤ d) {M : am_M} {n : Nat} {pl er k : Int32} (h0 : M 1000 = some (.inr (0, [.ref 1001, .ref 1003, .ref 1005, .int pl, .int er]))) (h1 : M 1001 = some (.inr (1, [.ref 1002, .int (nI n)]))) (hn : n ≤ 4096) (hx : 1240 ≤ nx) : am_Tr G m_VR_end d 1 6 [.ref 1000, .int k] M nx (fun r M1 nx1 => (¬ k < 0 ∧ k ≤ nI n ∧ r = .inl (some (.int k)) ∧ M1 = am_up M 1001 (.inr (1, [.ref 1002, .int k])) ∧ nx1 = nx) ∨ ((k < 0 ∨ ¬ k ≤ nI n) ∧ r = .inr nx ∧ M1 = am_up M nx (.inr (14, [])) ∧ nx1 = nx + 1)) := by
  refine am_TrOf (by decide) (Nat.le_of_ble_eq_true rfl) ?_
  show am_V G _ _ _ _ _ 0 [(0, .ref 1000), (1, .int k)] [] M nx 0 0
  refine v_iload_n (am_Dk d_VR_end (k := 0) rfl) rfl ?_
  refine v_if_lt (tgt := 15) (am_Dk d_VR_end (k := 1) rfl) (by decide) (fun c1 => ?_) (fun c1 => ?_)
  · refine v_newX (am_Dk d_VR_end (k := 7) rfl) (am_Dk d_VR_end (k := 8) rfl) (am_Dk d_VR_end (k := 9) rfl) x_VR_49 (by omega) (by omega) (by omega) (by simp [Value.category]) ?_
    refine v_athrow (am_Dk d_VR_end (k := 10) rfl) ?_
    exact vt_leave (fun q hq => by cases hq) (by omega) (by omega) (Or.inr ⟨by first | exact Or.inl (by assumption) | exact Or.inr (by assumption), rfl, rfl, rfl⟩)
  · refine v_iload_n (am_Dk d_VR_end (k := 2) rfl) rfl ?_
    refine v_aload_n (am_Dk d_VR_end (k := 3) rfl) rfl ?_
    refine v_get (am_Dk d_VR_end (k := 4) rfl) f_VR_10 h0 rfl ?_
    refine v_get (am_Dk d_VR_end (k := 5) rfl) f_VR_39 h1 rfl ?_
    refine v_icmp_le (tgt := 23) (am_Dk d_VR_end (k := 6) rfl) (by decide) (fun c2 => ?_) (fun c2 => ?_)
    · refine v_aload_n (am_Dk d_VR_end (k := 11) rfl) rfl ?_
      refine v_get (am_Dk d_VR_end (k := 12) rfl) f_VR_10 h0 rfl ?_
      refine v_iload_n (am_Dk d_VR_end (k := 13) rfl) rfl ?_
      refine v_put (am_Dk d_VR_end (k := 14) rfl) f_VR_39 h1 (Nat.le_of_ble_eq_true rfl) rfl rfl ?_
      refine v_iload_n (am_Dk d_VR_end (k := 15) rfl) rfl ?_
      exact v_ireturn (am_Dk d_VR_end (k := 16) rfl) rfl rfl (by omega) (by omega) (Or.inl ⟨by assumption, by assumption, rfl, rfl, rfl⟩)
    · refine v_newX (am_Dk d_VR_end (k := 7) rfl) (am_Dk d_VR_end (k := 8) rfl) (am_Dk d_VR_end (k := 9) rfl) x_VR_49 (by omega) (by omega) (by omega) (by simp [Value.category]) ?_
      refine v_athrow (am_Dk d_VR_end (k := 10) rfl) ?_
      exact vt_leave (fun q hq => by cases hq) (by omega) (by omega) (Or.inr ⟨by first | exact Or.inl (by assumption) | exact Or.inr (by assumption), rfl, rfl, rfl⟩)
set_option maxRecDepth 20000 in
theorem t_MM_fail (G : am_G) {d nx : Nat} (hd : 0 ≤ d) {M : am_M} {th pl er va : Int32} {re : Int64} {n : Nat} (g0 : M 1211 = some (.inr (9, [.int th, .int (nI n), .int pl, .int er, .int va, .ref 1212, .ref 1213, .ref 1220, .ref 1225, .ref 1233, .ref 1234, .ref 1235, .ref 1236, .ref 1237, .ref 1238, .long re]))) {k : Int32} : am_Tr G m_MM_fail d 0 0 [.ref 1211, .int k] M nx (fun r M1 nx1 => r = .inl (some (.int 0)) ∧ M1 = am_up M 1211 (.inr (9, [.int k, .int (nI n), .int pl, .int er, .int va, .ref 1212, .ref 1213, .ref 1220, .ref 1225, .ref 1233, .ref 1234, .ref 1235, .ref 1236, .ref 1237, .ref 1238, .long re])) ∧ nx1 = nx) := by
  refine am_TrOf (by decide) (Nat.le_of_ble_eq_true rfl) ?_
  show am_V G _ _ _ _ _ 0 [(0, .ref 1211), (1, .int k)] [] M nx 0 0
  refine v_aload_n (am_Dk d_MM_fail (k := 0) rfl) rfl ?_
  refine v_iload_n (am_Dk d_MM_fail (k := 1) rfl) rfl ?_
  refine v_put (am_Dk d_MM_fail (k := 2) rfl) f_MM_64 g0 (Nat.le_of_ble_eq_true rfl) rfl rfl ?_
  refine v_iconst (v := 0) (am_Dk d_MM_fail (k := 3) rfl) (by decide) ?_
  exact v_ireturn (am_Dk d_MM_fail (k := 4) rfl) rfl rfl (by omega) (by omega) ⟨rfl, rfl, rfl⟩
set_option maxRecDepth 20000 in
theorem t_MM_thrown (G : am_G) {d nx : Nat} (hd : 0 ≤ d) {M : am_M} {th pl er va : Int32} {re : Int64} {n : Nat} (g0 : M 1211 = some (.inr (9, [.int th, .int (nI n), .int pl, .int er, .int va, .ref 1212, .ref 1213, .ref 1220, .ref 1225, .ref 1233, .ref 1234, .ref 1235, .ref 1236, .ref 1237, .ref 1238, .long re]))) : am_Tr G m_MM_thrown d 0 0 [.ref 1211] M nx (fun r M1 nx1 => r = .inl (some (.int th)) ∧ M1 = M ∧ nx1 = nx) := by
  refine am_TrOf (by decide) (Nat.le_of_ble_eq_true rfl) ?_
  show am_V G _ _ _ _ _ 0 [(0, .ref 1211)] [] M nx 0 0
  refine v_aload_n (am_Dk d_MM_thrown (k := 0) rfl) rfl ?_
  refine v_get (am_Dk d_MM_thrown (k := 1) rfl) f_MM_64 g0 rfl ?_
  exact v_ireturn (am_Dk d_MM_thrown (k := 2) rfl) rfl rfl (by omega) (by omega) ⟨rfl, rfl, rfl⟩
set_option maxRecDepth 20000 in
theorem t_MM_four (G : am_G) {d nx : Nat} (hd : 0 ≤ d) {M : am_M} {th pl er va : Int32} {re : Int64} {n : Nat} (g0 : M 1211 = some (.inr (9, [.int th, .int (nI n), .int pl, .int er, .int va, .ref 1212, .ref 1213, .ref 1220, .ref 1225, .ref 1233, .ref 1234, .ref 1235, .ref 1236, .ref 1237, .ref 1238, .long re]))) {f : Nat → Int32} {w : Int32} (g2 : M 1212 = some (.inl (0, 4096, .inl f))) (hn : n + 4 ≤ 4096) : am_Tr G m_MM_four d 0 0 [.ref 1211, .int w] M nx (fun r M1 nx1 => r = .inl none ∧ M1 = am_up (am_up M 1212 (.inl (0, 4096, .inl (as4 f n w)))) 1211 (.inr (9, [.int th, .int (nI (n + 4)), .int pl, .int er, .int va, .ref 1212, .ref 1213, .ref 1220, .ref 1225, .ref 1233, .ref 1234, .ref 1235, .ref 1236, .ref 1237, .ref 1238, .long re])) ∧ nx1 = nx) := by
  refine am_TrOf (by decide) (Nat.le_of_ble_eq_true rfl) ?_
  show am_V G _ _ _ _ _ 0 [(0, .ref 1211), (1, .int w)] [] M nx 0 0
  refine v_bipush (v := 24) (am_Dk d_MM_four (k := 0) rfl) (by decide) ?_
  refine v_istore_n (L1 := [(2, .int 24), (0, .ref 1211), (1, .int w)]) (am_Dk d_MM_four (k := 1) rfl) (by decide) rfl ?_
  refine v_iload_n (am_Dk d_MM_four (k := 2) rfl) rfl ?_
  refine v_if_lt (tgt := 36) (am_Dk d_MM_four (k := 3) rfl) (by decide) (fun c1 => ?_) (fun c1 => ?_)
  · exact absurd c1 (by decide)
  · refine v_aload_n (am_Dk d_MM_four (k := 4) rfl) rfl ?_
    refine v_get (am_Dk d_MM_four (k := 5) rfl) f_MM_13 g0 rfl ?_
    refine v_aload_n (am_Dk d_MM_four (k := 6) rfl) rfl ?_
    refine v_get (am_Dk d_MM_four (k := 7) rfl) f_MM_61 g0 rfl ?_
    refine v_iload_n (am_Dk d_MM_four (k := 8) rfl) rfl ?_
    refine v_iload_n (am_Dk d_MM_four (k := 9) rfl) rfl ?_
    refine v_ishr (am_Dk d_MM_four (k := 10) rfl) ?_
    refine v_i2b (am_Dk d_MM_four (k := 11) rfl) rfl ?_
    refine v_bast (am_Dk d_MM_four (k := 12) rfl) g2 rfl (vp_in4 (by omega)) ?_
    rw [nI_clamp (n := n) (by omega)]
    refine v_aload_n (am_Dk d_MM_four (k := 13) rfl) rfl ?_
    refine v_dup (am_Dk d_MM_four (k := 14) rfl) rfl ?_
    have m2 : (am_up M 1212 (.inl (0, 4096, .inl (upd f (n) (vp_nar .byte (Int8.toInt32 (Int32.toInt8 ((w) >>> ((24) &&& 31))))))))) 1211 = some (.inr (9, [.int th, .int (nI n), .int pl, .int er, .int va, .ref 1212, .ref 1213, .ref 1220, .ref 1225, .ref 1233, .ref 1234, .ref 1235, .ref 1236, .ref 1237, .ref 1238, .long re])) := (am_up_ne (show 1211 ≠ 1212 from by decide)).trans (g0)
    refine v_get (am_Dk d_MM_four (k := 15) rfl) f_MM_61 m2 rfl ?_
    refine v_iconst (v := 1) (am_Dk d_MM_four (k := 16) rfl) (by decide) ?_
    refine v_iadd (am_Dk d_MM_four (k := 17) rfl) ?_
    rw [nI_1]
    refine v_put (am_Dk d_MM_four (k := 18) rfl) f_MM_61 m2 (Nat.le_of_ble_eq_true rfl) rfl rfl ?_
    refine v_iinc (v := 16) (L1 := [(2, .int 16), (0, .ref 1211), (1, .int w)]) (am_Dk d_MM_four (k := 19) rfl) rfl (by decide) (by decide) rfl ?_
    refine v_goto (tgt := 3) (am_Dk d_MM_four (k := 20) rfl) (by decide) ?_
    refine v_iload_n (am_Dk d_MM_four (k := 2) rfl) rfl ?_
    refine v_if_lt (tgt := 36) (am_Dk d_MM_four (k := 3) rfl) (by decide) (fun c3 => ?_) (fun c3 => ?_)
    · exact absurd c3 (by decide)
    · refine v_aload_n (am_Dk d_MM_four (k := 4) rfl) rfl ?_
      have m4 : (am_up (am_up M 1212 (.inl (0, 4096, .inl (upd f (n) (vp_nar .byte (Int8.toInt32 (Int32.toInt8 ((w) >>> ((24) &&& 31))))))))) 1211 (.inr (9, [.int th, .int (nI (n + 1)), .int pl, .int er, .int va, .ref 1212, .ref 1213, .ref 1220, .ref 1225, .ref 1233, .ref 1234, .ref 1235, .ref 1236, .ref 1237, .ref 1238, .long re]))) 1211 = some (.inr (9, [.int th, .int (nI (n + 1)), .int pl, .int er, .int va, .ref 1212, .ref 1213, .ref 1220, .ref 1225, .ref 1233, .ref 1234, .ref 1235, .ref 1236, .ref 1237, .ref 1238, .long re])) := am_up_eq _ _ _
      refine v_get (am_Dk d_MM_four (k := 5) rfl) f_MM_13 m4 rfl ?_
      refine v_aload_n (am_Dk d_MM_four (k := 6) rfl) rfl ?_
      refine v_get (am_Dk d_MM_four (k := 7) rfl) f_MM_61 m4 rfl ?_
      refine v_iload_n (am_Dk d_MM_four (k := 8) rfl) rfl ?_
      refine v_iload_n (am_Dk d_MM_four (k := 9) rfl) rfl ?_
      refine v_ishr (am_Dk d_MM_four (k := 10) rfl) ?_
      refine v_i2b (am_Dk d_MM_four (k := 11) rfl) rfl ?_
      have m5 : (am_up (am_up M 1212 (.inl (0, 4096, .inl (upd f (n) (vp_nar .byte (Int8.toInt32 (Int32.toInt8 ((w) >>> ((24) &&& 31))))))))) 1211 (.inr (9, [.int th, .int (nI (n + 1)), .int pl, .int er, .int va, .ref 1212, .ref 1213, .ref 1220, .ref 1225, .ref 1233, .ref 1234, .ref 1235, .ref 1236, .ref 1237, .ref 1238, .long re]))) 1212 = some (.inl (0, 4096, .inl (upd f (n) (vp_nar .byte (Int8.toInt32 (Int32.toInt8 ((w) >>> ((24) &&& 31)))))))) := (am_up_ne (show 1212 ≠ 1211 from by decide)).trans (am_up_eq _ _ _)
      refine v_bast (am_Dk d_MM_four (k := 12) rfl) m5 rfl (vp_in4 (by omega)) ?_
      rw [nI_clamp (n := n + 1) (by omega)]
      rw [am_uu1 (a := 1212)]
      refine v_aload_n (am_Dk d_MM_four (k := 13) rfl) rfl ?_
      refine v_dup (am_Dk d_MM_four (k := 14) rfl) rfl ?_
      have m6 : (am_up (am_up M 1211 (.inr (9, [.int th, .int (nI (n + 1)), .int pl, .int er, .int va, .ref 1212, .ref 1213, .ref 1220, .ref 1225, .ref 1233, .ref 1234, .ref 1235, .ref 1236, .ref 1237, .ref 1238, .long re]))) 1212 (.inl (0, 4096, .inl (upd (upd f (n) (vp_nar .byte (Int8.toInt32 (Int32.toInt8 ((w) >>> ((24) &&& 31)))))) (n + 1) (vp_nar .byte (Int8.toInt32 (Int32.toInt8 ((w) >>> ((16) &&& 31))))))))) 1211 = some (.inr (9, [.int th, .int (nI (n + 1)), .int pl, .int er, .int va, .ref 1212, .ref 1213, .ref 1220, .ref 1225, .ref 1233, .ref 1234, .ref 1235, .ref 1236, .ref 1237, .ref 1238, .long re])) := (am_up_ne (show 1211 ≠ 1212 from by decide)).trans (am_up_eq _ _ _)
      refine v_get (am_Dk d_MM_four (k := 15) rfl) f_MM_61 m6 rfl ?_
      refine v_iconst (v := 1) (am_Dk d_MM_four (k := 16) rfl) (by decide) ?_
      refine v_iadd (am_Dk d_MM_four (k := 17) rfl) ?_
      rw [nI_1]
      refine v_put (am_Dk d_MM_four (k := 18) rfl) f_MM_61 m6 (Nat.le_of_ble_eq_true rfl) rfl rfl ?_
      rw [am_uu1 (a := 1211)]
      refine v_iinc (v := 8) (L1 := [(2, .int 8), (0, .ref 1211), (1, .int w)]) (am_Dk d_MM_four (k := 19) rfl) rfl (by decide) (by decide) rfl ?_
      refine v_goto (tgt := 3) (am_Dk d_MM_four (k := 20) rfl) (by decide) ?_
      refine v_iload_n (am_Dk d_MM_four (k := 2) rfl) rfl ?_
      refine v_if_lt (tgt := 36) (am_Dk d_MM_four (k := 3) rfl) (by decide) (fun c7 => ?_) (fun c7 => ?_)
      · exact absurd c7 (by decide)
      · refine v_aload_n (am_Dk d_MM_four (k := 4) rfl) rfl ?_
        have m8 : (am_up (am_up M 1212 (.inl (0, 4096, .inl (upd (upd f (n) (vp_nar .byte (Int8.toInt32 (Int32.toInt8 ((w) >>> ((24) &&& 31)))))) (n + 1) (vp_nar .byte (Int8.toInt32 (Int32.toInt8 ((w) >>> ((16) &&& 31))))))))) 1211 (.inr (9, [.int th, .int (nI (n + 2)), .int pl, .int er, .int va, .ref 1212, .ref 1213, .ref 1220, .ref 1225, .ref 1233, .ref 1234, .ref 1235, .ref 1236, .ref 1237, .ref 1238, .long re]))) 1211 = some (.inr (9, [.int th, .int (nI (n + 2)), .int pl, .int er, .int va, .ref 1212, .ref 1213, .ref 1220, .ref 1225, .ref 1233, .ref 1234, .ref 1235, .ref 1236, .ref 1237, .ref 1238, .long re])) := am_up_eq _ _ _
        refine v_get (am_Dk d_MM_four (k := 5) rfl) f_MM_13 m8 rfl ?_
        refine v_aload_n (am_Dk d_MM_four (k := 6) rfl) rfl ?_
        refine v_get (am_Dk d_MM_four (k := 7) rfl) f_MM_61 m8 rfl ?_
        refine v_iload_n (am_Dk d_MM_four (k := 8) rfl) rfl ?_
        refine v_iload_n (am_Dk d_MM_four (k := 9) rfl) rfl ?_
        refine v_ishr (am_Dk d_MM_four (k := 10) rfl) ?_
        refine v_i2b (am_Dk d_MM_four (k := 11) rfl) rfl ?_
        have m9 : (am_up (am_up M 1212 (.inl (0, 4096, .inl (upd (upd f (n) (vp_nar .byte (Int8.toInt32 (Int32.toInt8 ((w) >>> ((24) &&& 31)))))) (n + 1) (vp_nar .byte (Int8.toInt32 (Int32.toInt8 ((w) >>> ((16) &&& 31))))))))) 1211 (.inr (9, [.int th, .int (nI (n + 2)), .int pl, .int er, .int va, .ref 1212, .ref 1213, .ref 1220, .ref 1225, .ref 1233, .ref 1234, .ref 1235, .ref 1236, .ref 1237, .ref 1238, .long re]))) 1212 = some (.inl (0, 4096, .inl (upd (upd f (n) (vp_nar .byte (Int8.toInt32 (Int32.toInt8 ((w) >>> ((24) &&& 31)))))) (n + 1) (vp_nar .byte (Int8.toInt32 (Int32.toInt8 ((w) >>> ((16) &&& 31)))))))) := (am_up_ne (show 1212 ≠ 1211 from by decide)).trans (am_up_eq _ _ _)
        refine v_bast (am_Dk d_MM_four (k := 12) rfl) m9 rfl (vp_in4 (by omega)) ?_
        rw [nI_clamp (n := n + 2) (by omega)]
        rw [am_uu1 (a := 1212)]
        refine v_aload_n (am_Dk d_MM_four (k := 13) rfl) rfl ?_
        refine v_dup (am_Dk d_MM_four (k := 14) rfl) rfl ?_
        have m10 : (am_up (am_up M 1211 (.inr (9, [.int th, .int (nI (n + 2)), .int pl, .int er, .int va, .ref 1212, .ref 1213, .ref 1220, .ref 1225, .ref 1233, .ref 1234, .ref 1235, .ref 1236, .ref 1237, .ref 1238, .long re]))) 1212 (.inl (0, 4096, .inl (upd (upd (upd f (n) (vp_nar .byte (Int8.toInt32 (Int32.toInt8 ((w) >>> ((24) &&& 31)))))) (n + 1) (vp_nar .byte (Int8.toInt32 (Int32.toInt8 ((w) >>> ((16) &&& 31)))))) (n + 2) (vp_nar .byte (Int8.toInt32 (Int32.toInt8 ((w) >>> ((8) &&& 31))))))))) 1211 = some (.inr (9, [.int th, .int (nI (n + 2)), .int pl, .int er, .int va, .ref 1212, .ref 1213, .ref 1220, .ref 1225, .ref 1233, .ref 1234, .ref 1235, .ref 1236, .ref 1237, .ref 1238, .long re])) := (am_up_ne (show 1211 ≠ 1212 from by decide)).trans (am_up_eq _ _ _)
        refine v_get (am_Dk d_MM_four (k := 15) rfl) f_MM_61 m10 rfl ?_
        refine v_iconst (v := 1) (am_Dk d_MM_four (k := 16) rfl) (by decide) ?_
        refine v_iadd (am_Dk d_MM_four (k := 17) rfl) ?_
        rw [nI_1]
        refine v_put (am_Dk d_MM_four (k := 18) rfl) f_MM_61 m10 (Nat.le_of_ble_eq_true rfl) rfl rfl ?_
        rw [am_uu1 (a := 1211)]
        refine v_iinc (v := 0) (L1 := [(2, .int 0), (0, .ref 1211), (1, .int w)]) (am_Dk d_MM_four (k := 19) rfl) rfl (by decide) (by decide) rfl ?_
        refine v_goto (tgt := 3) (am_Dk d_MM_four (k := 20) rfl) (by decide) ?_
        refine v_iload_n (am_Dk d_MM_four (k := 2) rfl) rfl ?_
        refine v_if_lt (tgt := 36) (am_Dk d_MM_four (k := 3) rfl) (by decide) (fun c11 => ?_) (fun c11 => ?_)
        · exact absurd c11 (by decide)
        · refine v_aload_n (am_Dk d_MM_four (k := 4) rfl) rfl ?_
          have m12 : (am_up (am_up M 1212 (.inl (0, 4096, .inl (upd (upd (upd f (n) (vp_nar .byte (Int8.toInt32 (Int32.toInt8 ((w) >>> ((24) &&& 31)))))) (n + 1) (vp_nar .byte (Int8.toInt32 (Int32.toInt8 ((w) >>> ((16) &&& 31)))))) (n + 2) (vp_nar .byte (Int8.toInt32 (Int32.toInt8 ((w) >>> ((8) &&& 31))))))))) 1211 (.inr (9, [.int th, .int (nI (n + 3)), .int pl, .int er, .int va, .ref 1212, .ref 1213, .ref 1220, .ref 1225, .ref 1233, .ref 1234, .ref 1235, .ref 1236, .ref 1237, .ref 1238, .long re]))) 1211 = some (.inr (9, [.int th, .int (nI (n + 3)), .int pl, .int er, .int va, .ref 1212, .ref 1213, .ref 1220, .ref 1225, .ref 1233, .ref 1234, .ref 1235, .ref 1236, .ref 1237, .ref 1238, .long re])) := am_up_eq _ _ _
          refine v_get (am_Dk d_MM_four (k := 5) rfl) f_MM_13 m12 rfl ?_
          refine v_aload_n (am_Dk d_MM_four (k := 6) rfl) rfl ?_
          refine v_get (am_Dk d_MM_four (k := 7) rfl) f_MM_61 m12 rfl ?_
          refine v_iload_n (am_Dk d_MM_four (k := 8) rfl) rfl ?_
          refine v_iload_n (am_Dk d_MM_four (k := 9) rfl) rfl ?_
          refine v_ishr (am_Dk d_MM_four (k := 10) rfl) ?_
          refine v_i2b (am_Dk d_MM_four (k := 11) rfl) rfl ?_
          have m13 : (am_up (am_up M 1212 (.inl (0, 4096, .inl (upd (upd (upd f (n) (vp_nar .byte (Int8.toInt32 (Int32.toInt8 ((w) >>> ((24) &&& 31)))))) (n + 1) (vp_nar .byte (Int8.toInt32 (Int32.toInt8 ((w) >>> ((16) &&& 31)))))) (n + 2) (vp_nar .byte (Int8.toInt32 (Int32.toInt8 ((w) >>> ((8) &&& 31))))))))) 1211 (.inr (9, [.int th, .int (nI (n + 3)), .int pl, .int er, .int va, .ref 1212, .ref 1213, .ref 1220, .ref 1225, .ref 1233, .ref 1234, .ref 1235, .ref 1236, .ref 1237, .ref 1238, .long re]))) 1212 = some (.inl (0, 4096, .inl (upd (upd (upd f (n) (vp_nar .byte (Int8.toInt32 (Int32.toInt8 ((w) >>> ((24) &&& 31)))))) (n + 1) (vp_nar .byte (Int8.toInt32 (Int32.toInt8 ((w) >>> ((16) &&& 31)))))) (n + 2) (vp_nar .byte (Int8.toInt32 (Int32.toInt8 ((w) >>> ((8) &&& 31)))))))) := (am_up_ne (show 1212 ≠ 1211 from by decide)).trans (am_up_eq _ _ _)
          refine v_bast (am_Dk d_MM_four (k := 12) rfl) m13 rfl (vp_in4 (by omega)) ?_
          rw [nI_clamp (n := n + 3) (by omega)]
          rw [am_uu1 (a := 1212)]
          refine v_aload_n (am_Dk d_MM_four (k := 13) rfl) rfl ?_
          refine v_dup (am_Dk d_MM_four (k := 14) rfl) rfl ?_
          have m14 : (am_up (am_up M 1211 (.inr (9, [.int th, .int (nI (n + 3)), .int pl, .int er, .int va, .ref 1212, .ref 1213, .ref 1220, .ref 1225, .ref 1233, .ref 1234, .ref 1235, .ref 1236, .ref 1237, .ref 1238, .long re]))) 1212 (.inl (0, 4096, .inl (upd (upd (upd (upd f (n) (vp_nar .byte (Int8.toInt32 (Int32.toInt8 ((w) >>> ((24) &&& 31)))))) (n + 1) (vp_nar .byte (Int8.toInt32 (Int32.toInt8 ((w) >>> ((16) &&& 31)))))) (n + 2) (vp_nar .byte (Int8.toInt32 (Int32.toInt8 ((w) >>> ((8) &&& 31)))))) (n + 3) (vp_nar .byte (Int8.toInt32 (Int32.toInt8 ((w) >>> ((0) &&& 31))))))))) 1211 = some (.inr (9, [.int th, .int (nI (n + 3)), .int pl, .int er, .int va, .ref 1212, .ref 1213, .ref 1220, .ref 1225, .ref 1233, .ref 1234, .ref 1235, .ref 1236, .ref 1237, .ref 1238, .long re])) := (am_up_ne (show 1211 ≠ 1212 from by decide)).trans (am_up_eq _ _ _)
          refine v_get (am_Dk d_MM_four (k := 15) rfl) f_MM_61 m14 rfl ?_
          refine v_iconst (v := 1) (am_Dk d_MM_four (k := 16) rfl) (by decide) ?_
          refine v_iadd (am_Dk d_MM_four (k := 17) rfl) ?_
          rw [nI_1]
          refine v_put (am_Dk d_MM_four (k := 18) rfl) f_MM_61 m14 (Nat.le_of_ble_eq_true rfl) rfl rfl ?_
          rw [am_uu1 (a := 1211)]
          refine v_iinc (v := (-8)) (L1 := [(2, .int (-8)), (0, .ref 1211), (1, .int w)]) (am_Dk d_MM_four (k := 19) rfl) rfl (by decide) (by decide) rfl ?_
          refine v_goto (tgt := 3) (am_Dk d_MM_four (k := 20) rfl) (by decide) ?_
          refine v_iload_n (am_Dk d_MM_four (k := 2) rfl) rfl ?_
          refine v_if_lt (tgt := 36) (am_Dk d_MM_four (k := 3) rfl) (by decide) (fun c15 => ?_) (fun c15 => ?_)
          · exact v_return (am_Dk d_MM_four (k := 21) rfl) rfl (by omega) (by omega) ⟨rfl, rfl, rfl⟩
          · exact absurd (by decide) c15
set_option maxRecDepth 20000 in
theorem t_MM_feed (G : am_G) {d nx : Nat} (hd : 1 ≤ d) {M : am_M} {th pl er va : Int32} {re : Int64} {n : Nat} (g0 : M 1211 = some (.inr (9, [.int th, .int (nI n), .int pl, .int er, .int va, .ref 1212, .ref 1213, .ref 1220, .ref 1225, .ref 1233, .ref 1234, .ref 1235, .ref 1236, .ref 1237, .ref 1238, .long re]))) {f : Nat → Int32} {p0 p1 p2 p3 p4 : Int32} (g2 : M 1212 = some (.inl (0, 4096, .inl f))) (hn : n ≤ 4096) : am_Tr G m_MM_feed d 0 0 [.ref 1211, .int p0, .int p1, .int p2, .int p3, .int p4] M nx (fun r M1 nx1 => (n + 20 ≤ 4096 ∧ r = .inl (some (.int (nI (n + 20)))) ∧ M1 = am_up (am_up M 1212 (.inl (0, 4096, .inl (as4 (as4 (as4 (as4 (as4 f n p0) (n + 4) p1) (n + 8) p2) (n + 12) p3) (n + 16) p4)))) 1211 (.inr (9, [.int 0, .int (nI (n + 20)), .int pl, .int er, .int va, .ref 1212, .ref 1213, .ref 1220, .ref 1225, .ref 1233, .ref 1234, .ref 1235, .ref 1236, .ref 1237, .ref 1238, .long re])) ∧ nx1 = nx) ∨ (4096 < n + 20 ∧ r = .inl (some (.int 0)) ∧ M1 = am_up M 1211 (.inr (9, [.int 1, .int (nI n), .int pl, .int er, .int va, .ref 1212, .ref 1213, .ref 1220, .ref 1225, .ref 1233, .ref 1234, .ref 1235, .ref 1236, .ref 1237, .ref 1238, .long re])) ∧ nx1 = nx)) := by
  refine am_TrOf (by decide) (Nat.le_of_ble_eq_true rfl) ?_
  show am_V G _ _ _ _ _ 0 [(0, .ref 1211), (1, .int p0), (2, .int p1), (3, .int p2), (4, .int p3), (5, .int p4)] [] M nx 0 0
  refine v_aload_n (am_Dk d_MM_feed (k := 0) rfl) rfl ?_
  refine v_iconst (v := 0) (am_Dk d_MM_feed (k := 1) rfl) (by decide) ?_
  refine v_put (am_Dk d_MM_feed (k := 2) rfl) f_MM_64 g0 (Nat.le_of_ble_eq_true rfl) rfl rfl ?_
  refine v_aload_n (am_Dk d_MM_feed (k := 3) rfl) rfl ?_
  have m1 : (am_up M 1211 (.inr (9, [.int 0, .int (nI n), .int pl, .int er, .int va, .ref 1212, .ref 1213, .ref 1220, .ref 1225, .ref 1233, .ref 1234, .ref 1235, .ref 1236, .ref 1237, .ref 1238, .long re]))) 1211 = some (.inr (9, [.int 0, .int (nI n), .int pl, .int er, .int va, .ref 1212, .ref 1213, .ref 1220, .ref 1225, .ref 1233, .ref 1234, .ref 1235, .ref 1236, .ref 1237, .ref 1238, .long re])) := am_up_eq _ _ _
  refine v_get (am_Dk d_MM_feed (k := 4) rfl) f_MM_61 m1 rfl ?_
  refine v_bipush (v := 20) (am_Dk d_MM_feed (k := 5) rfl) (by decide) ?_
  refine v_iadd (am_Dk d_MM_feed (k := 6) rfl) ?_
  rw [show (nI n + 20 : Int32) = nI (n + 20) from nI_add n 20]
  refine v_sipush (v := 4096) (am_Dk d_MM_feed (k := 7) rfl) (by decide) ?_
  refine v_icmp_le (tgt := 24) (am_Dk d_MM_feed (k := 8) rfl) (by decide) (fun c2 => ?_) (fun c2 => ?_)
  · have hc : n + 20 ≤ 4096 := (nI_leI (by omega) (by decide)).mp c2
    refine v_aload_n (am_Dk d_MM_feed (k := 13) rfl) rfl ?_
    refine v_iload_n (am_Dk d_MM_feed (k := 14) rfl) rfl ?_
    have m3 : (am_up M 1211 (.inr (9, [.int 0, .int (nI n), .int pl, .int er, .int va, .ref 1212, .ref 1213, .ref 1220, .ref 1225, .ref 1233, .ref 1234, .ref 1235, .ref 1236, .ref 1237, .ref 1238, .long re]))) 1212 = some (.inl (0, 4096, .inl f)) := (am_up_ne (show 1212 ≠ 1211 from by decide)).trans (g2)
    refine v_callV (rest := []) (As := [.int p0]) (mc' := 0) (ms' := 0) (am_Dk d_MM_feed (k := 15) rfl) c_MM_71 (Or.inl ⟨_, _, _, _, _, m1, cq_ok9⟩) (t_MM_four G (d := 0) (by omega) m1 m3 (by omega)) (by omega) (by omega) (by omega) (by simp [Value.category]) rfl (fun v4 M5 n6 h7 => ?_) (fun _ _ _ h7 => ?_)
    rotate_left
    · exact absurd h7.1 (by simp)
    obtain ⟨h7, e8, e9⟩ := h7
    replace e8 := e8.symm
    replace e9 := e9.symm
    subst e8
    subst e9
    cases h7
    rw [am_uu1 (a := 1211)]
    show am_V G _ _ _ _ _ 29 [(0, .ref 1211), (1, .int p0), (2, .int p1), (3, .int p2), (4, .int p3), (5, .int p4)] [] (am_up (am_up M 1212 (.inl (0, 4096, .inl (as4 f n p0)))) 1211 (.inr (9, [.int 0, .int (nI (n + 4)), .int pl, .int er, .int va, .ref 1212, .ref 1213, .ref 1220, .ref 1225, .ref 1233, .ref 1234, .ref 1235, .ref 1236, .ref 1237, .ref 1238, .long re]))) nx 0 0
    refine v_aload_n (am_Dk d_MM_feed (k := 16) rfl) rfl ?_
    refine v_iload_n (am_Dk d_MM_feed (k := 17) rfl) rfl ?_
    have m10 : (am_up (am_up M 1212 (.inl (0, 4096, .inl (as4 f n p0)))) 1211 (.inr (9, [.int 0, .int (nI (n + 4)), .int pl, .int er, .int va, .ref 1212, .ref 1213, .ref 1220, .ref 1225, .ref 1233, .ref 1234, .ref 1235, .ref 1236, .ref 1237, .ref 1238, .long re]))) 1211 = some (.inr (9, [.int 0, .int (nI (n + 4)), .int pl, .int er, .int va, .ref 1212, .ref 1213, .ref 1220, .ref 1225, .ref 1233, .ref 1234, .ref 1235, .ref 1236, .ref 1237, .ref 1238, .long re])) := am_up_eq _ _ _
    have m11 : (am_up (am_up M 1212 (.inl (0, 4096, .inl (as4 f n p0)))) 1211 (.inr (9, [.int 0, .int (nI (n + 4)), .int pl, .int er, .int va, .ref 1212, .ref 1213, .ref 1220, .ref 1225, .ref 1233, .ref 1234, .ref 1235, .ref 1236, .ref 1237, .ref 1238, .long re]))) 1212 = some (.inl (0, 4096, .inl (as4 f n p0))) := (am_up_ne (show 1212 ≠ 1211 from by decide)).trans (am_up_eq _ _ _)
    refine v_callV (rest := []) (As := [.int p1]) (mc' := 0) (ms' := 0) (am_Dk d_MM_feed (k := 18) rfl) c_MM_71 (Or.inl ⟨_, _, _, _, _, m10, cq_ok9⟩) (t_MM_four G (d := 0) (by omega) m10 m11 (by omega)) (by omega) (by omega) (by omega) (by simp [Value.category]) rfl (fun v12 M13 n14 h15 => ?_) (fun _ _ _ h15 => ?_)
    rotate_left
    · exact absurd h15.1 (by simp)
    obtain ⟨h15, e16, e17⟩ := h15
    replace e16 := e16.symm
    replace e17 := e17.symm
    subst e16
    subst e17
    cases h15
    rw [am_uu1 (a := 1212)]
    rw [am_uu1 (a := 1211)]
    show am_V G _ _ _ _ _ 34 [(0, .ref 1211), (1, .int p0), (2, .int p1), (3, .int p2), (4, .int p3), (5, .int p4)] [] (am_up (am_up M 1212 (.inl (0, 4096, .inl (as4 (as4 f n p0) (n + 4) p1)))) 1211 (.inr (9, [.int 0, .int (nI (n + 8)), .int pl, .int er, .int va, .ref 1212, .ref 1213, .ref 1220, .ref 1225, .ref 1233, .ref 1234, .ref 1235, .ref 1236, .ref 1237, .ref 1238, .long re]))) nx 0 0
    refine v_aload_n (am_Dk d_MM_feed (k := 19) rfl) rfl ?_
    refine v_iload_n (am_Dk d_MM_feed (k := 20) rfl) rfl ?_
    have m18 : (am_up (am_up M 1212 (.inl (0, 4096, .inl (as4 (as4 f n p0) (n + 4) p1)))) 1211 (.inr (9, [.int 0, .int (nI (n + 8)), .int pl, .int er, .int va, .ref 1212, .ref 1213, .ref 1220, .ref 1225, .ref 1233, .ref 1234, .ref 1235, .ref 1236, .ref 1237, .ref 1238, .long re]))) 1211 = some (.inr (9, [.int 0, .int (nI (n + 8)), .int pl, .int er, .int va, .ref 1212, .ref 1213, .ref 1220, .ref 1225, .ref 1233, .ref 1234, .ref 1235, .ref 1236, .ref 1237, .ref 1238, .long re])) := am_up_eq _ _ _
    have m19 : (am_up (am_up M 1212 (.inl (0, 4096, .inl (as4 (as4 f n p0) (n + 4) p1)))) 1211 (.inr (9, [.int 0, .int (nI (n + 8)), .int pl, .int er, .int va, .ref 1212, .ref 1213, .ref 1220, .ref 1225, .ref 1233, .ref 1234, .ref 1235, .ref 1236, .ref 1237, .ref 1238, .long re]))) 1212 = some (.inl (0, 4096, .inl (as4 (as4 f n p0) (n + 4) p1))) := (am_up_ne (show 1212 ≠ 1211 from by decide)).trans (am_up_eq _ _ _)
    refine v_callV (rest := []) (As := [.int p2]) (mc' := 0) (ms' := 0) (am_Dk d_MM_feed (k := 21) rfl) c_MM_71 (Or.inl ⟨_, _, _, _, _, m18, cq_ok9⟩) (t_MM_four G (d := 0) (by omega) m18 m19 (by omega)) (by omega) (by omega) (by omega) (by simp [Value.category]) rfl (fun v20 M21 n22 h23 => ?_) (fun _ _ _ h23 => ?_)
    rotate_left
    · exact absurd h23.1 (by simp)
    obtain ⟨h23, e24, e25⟩ := h23
    replace e24 := e24.symm
    replace e25 := e25.symm
    subst e24
    subst e25
    cases h23
    rw [am_uu1 (a := 1212)]
    rw [am_uu1 (a := 1211)]
    show am_V G _ _ _ _ _ 39 [(0, .ref 1211), (1, .int p0), (2, .int p1), (3, .int p2), (4, .int p3), (5, .int p4)] [] (am_up (am_up M 1212 (.inl (0, 4096, .inl (as4 (as4 (as4 f n p0) (n + 4) p1) (n + 8) p2)))) 1211 (.inr (9, [.int 0, .int (nI (n + 12)), .int pl, .int er, .int va, .ref 1212, .ref 1213, .ref 1220, .ref 1225, .ref 1233, .ref 1234, .ref 1235, .ref 1236, .ref 1237, .ref 1238, .long re]))) nx 0 0
    refine v_aload_n (am_Dk d_MM_feed (k := 22) rfl) rfl ?_
    refine v_iload (am_Dk d_MM_feed (k := 23) rfl) rfl ?_
    have m26 : (am_up (am_up M 1212 (.inl (0, 4096, .inl (as4 (as4 (as4 f n p0) (n + 4) p1) (n + 8) p2)))) 1211 (.inr (9, [.int 0, .int (nI (n + 12)), .int pl, .int er, .int va, .ref 1212, .ref 1213, .ref 1220, .ref 1225, .ref 1233, .ref 1234, .ref 1235, .ref 1236, .ref 1237, .ref 1238, .long re]))) 1211 = some (.inr (9, [.int 0, .int (nI (n + 12)), .int pl, .int er, .int va, .ref 1212, .ref 1213, .ref 1220, .ref 1225, .ref 1233, .ref 1234, .ref 1235, .ref 1236, .ref 1237, .ref 1238, .long re])) := am_up_eq _ _ _
    have m27 : (am_up (am_up M 1212 (.inl (0, 4096, .inl (as4 (as4 (as4 f n p0) (n + 4) p1) (n + 8) p2)))) 1211 (.inr (9, [.int 0, .int (nI (n + 12)), .int pl, .int er, .int va, .ref 1212, .ref 1213, .ref 1220, .ref 1225, .ref 1233, .ref 1234, .ref 1235, .ref 1236, .ref 1237, .ref 1238, .long re]))) 1212 = some (.inl (0, 4096, .inl (as4 (as4 (as4 f n p0) (n + 4) p1) (n + 8) p2))) := (am_up_ne (show 1212 ≠ 1211 from by decide)).trans (am_up_eq _ _ _)
    refine v_callV (rest := []) (As := [.int p3]) (mc' := 0) (ms' := 0) (am_Dk d_MM_feed (k := 24) rfl) c_MM_71 (Or.inl ⟨_, _, _, _, _, m26, cq_ok9⟩) (t_MM_four G (d := 0) (by omega) m26 m27 (by omega)) (by omega) (by omega) (by omega) (by simp [Value.category]) rfl (fun v28 M29 n30 h31 => ?_) (fun _ _ _ h31 => ?_)
    rotate_left
    · exact absurd h31.1 (by simp)
    obtain ⟨h31, e32, e33⟩ := h31
    replace e32 := e32.symm
    replace e33 := e33.symm
    subst e32
    subst e33
    cases h31
    rw [am_uu1 (a := 1212)]
    rw [am_uu1 (a := 1211)]
    show am_V G _ _ _ _ _ 45 [(0, .ref 1211), (1, .int p0), (2, .int p1), (3, .int p2), (4, .int p3), (5, .int p4)] [] (am_up (am_up M 1212 (.inl (0, 4096, .inl (as4 (as4 (as4 (as4 f n p0) (n + 4) p1) (n + 8) p2) (n + 12) p3)))) 1211 (.inr (9, [.int 0, .int (nI (n + 16)), .int pl, .int er, .int va, .ref 1212, .ref 1213, .ref 1220, .ref 1225, .ref 1233, .ref 1234, .ref 1235, .ref 1236, .ref 1237, .ref 1238, .long re]))) nx 0 0
    refine v_aload_n (am_Dk d_MM_feed (k := 25) rfl) rfl ?_
    refine v_iload (am_Dk d_MM_feed (k := 26) rfl) rfl ?_
    have m34 : (am_up (am_up M 1212 (.inl (0, 4096, .inl (as4 (as4 (as4 (as4 f n p0) (n + 4) p1) (n + 8) p2) (n + 12) p3)))) 1211 (.inr (9, [.int 0, .int (nI (n + 16)), .int pl, .int er, .int va, .ref 1212, .ref 1213, .ref 1220, .ref 1225, .ref 1233, .ref 1234, .ref 1235, .ref 1236, .ref 1237, .ref 1238, .long re]))) 1211 = some (.inr (9, [.int 0, .int (nI (n + 16)), .int pl, .int er, .int va, .ref 1212, .ref 1213, .ref 1220, .ref 1225, .ref 1233, .ref 1234, .ref 1235, .ref 1236, .ref 1237, .ref 1238, .long re])) := am_up_eq _ _ _
    have m35 : (am_up (am_up M 1212 (.inl (0, 4096, .inl (as4 (as4 (as4 (as4 f n p0) (n + 4) p1) (n + 8) p2) (n + 12) p3)))) 1211 (.inr (9, [.int 0, .int (nI (n + 16)), .int pl, .int er, .int va, .ref 1212, .ref 1213, .ref 1220, .ref 1225, .ref 1233, .ref 1234, .ref 1235, .ref 1236, .ref 1237, .ref 1238, .long re]))) 1212 = some (.inl (0, 4096, .inl (as4 (as4 (as4 (as4 f n p0) (n + 4) p1) (n + 8) p2) (n + 12) p3))) := (am_up_ne (show 1212 ≠ 1211 from by decide)).trans (am_up_eq _ _ _)
    refine v_callV (rest := []) (As := [.int p4]) (mc' := 0) (ms' := 0) (am_Dk d_MM_feed (k := 27) rfl) c_MM_71 (Or.inl ⟨_, _, _, _, _, m34, cq_ok9⟩) (t_MM_four G (d := 0) (by omega) m34 m35 (by omega)) (by omega) (by omega) (by omega) (by simp [Value.category]) rfl (fun v36 M37 n38 h39 => ?_) (fun _ _ _ h39 => ?_)
    rotate_left
    · exact absurd h39.1 (by simp)
    obtain ⟨h39, e40, e41⟩ := h39
    replace e40 := e40.symm
    replace e41 := e41.symm
    subst e40
    subst e41
    cases h39
    rw [am_uu1 (a := 1212)]
    rw [am_uu1 (a := 1211)]
    show am_V G _ _ _ _ _ 51 [(0, .ref 1211), (1, .int p0), (2, .int p1), (3, .int p2), (4, .int p3), (5, .int p4)] [] (am_up (am_up M 1212 (.inl (0, 4096, .inl (as4 (as4 (as4 (as4 (as4 f n p0) (n + 4) p1) (n + 8) p2) (n + 12) p3) (n + 16) p4)))) 1211 (.inr (9, [.int 0, .int (nI (n + 20)), .int pl, .int er, .int va, .ref 1212, .ref 1213, .ref 1220, .ref 1225, .ref 1233, .ref 1234, .ref 1235, .ref 1236, .ref 1237, .ref 1238, .long re]))) nx 0 0
    refine v_aload_n (am_Dk d_MM_feed (k := 28) rfl) rfl ?_
    have m42 : (am_up (am_up M 1212 (.inl (0, 4096, .inl (as4 (as4 (as4 (as4 (as4 f n p0) (n + 4) p1) (n + 8) p2) (n + 12) p3) (n + 16) p4)))) 1211 (.inr (9, [.int 0, .int (nI (n + 20)), .int pl, .int er, .int va, .ref 1212, .ref 1213, .ref 1220, .ref 1225, .ref 1233, .ref 1234, .ref 1235, .ref 1236, .ref 1237, .ref 1238, .long re]))) 1211 = some (.inr (9, [.int 0, .int (nI (n + 20)), .int pl, .int er, .int va, .ref 1212, .ref 1213, .ref 1220, .ref 1225, .ref 1233, .ref 1234, .ref 1235, .ref 1236, .ref 1237, .ref 1238, .long re])) := am_up_eq _ _ _
    refine v_get (am_Dk d_MM_feed (k := 29) rfl) f_MM_61 m42 rfl ?_
    exact v_ireturn (am_Dk d_MM_feed (k := 30) rfl) rfl rfl (by omega) (by omega) (Or.inl ⟨by omega, rfl, rfl, rfl⟩)
  · have hc : ¬ n + 20 ≤ 4096 := fun z => c2 ((nI_leI (by omega) (by decide)).mpr z)
    refine v_aload_n (am_Dk d_MM_feed (k := 9) rfl) rfl ?_
    refine v_iconst (v := 1) (am_Dk d_MM_feed (k := 10) rfl) (by decide) ?_
    refine v_callV (rest := []) (As := [.int 1]) (mc' := 0) (ms' := 0) (am_Dk d_MM_feed (k := 11) rfl) c_MM_67 (Or.inl ⟨_, _, _, _, _, m1, cq_ok9⟩) (t_MM_fail G (d := 0) (by omega) m1) (by omega) (by omega) (by omega) (by simp [Value.category]) rfl (fun v43 M44 n45 h46 => ?_) (fun _ _ _ h46 => ?_)
    rotate_left
    · exact absurd h46.1 (by simp)
    obtain ⟨h46, e47, e48⟩ := h46
    replace e47 := e47.symm
    replace e48 := e48.symm
    subst e47
    subst e48
    cases h46
    rw [am_uu0 (a := 1211)]
    show am_V G _ _ _ _ _ 23 [(0, .ref 1211), (1, .int p0), (2, .int p1), (3, .int p2), (4, .int p3), (5, .int p4)] [.int 0] (am_up M 1211 (.inr (9, [.int 1, .int (nI n), .int pl, .int er, .int va, .ref 1212, .ref 1213, .ref 1220, .ref 1225, .ref 1233, .ref 1234, .ref 1235, .ref 1236, .ref 1237, .ref 1238, .long re]))) nx 0 0
    exact v_ireturn (am_Dk d_MM_feed (k := 12) rfl) rfl rfl (by omega) (by omega) (Or.inr ⟨by omega, rfl, rfl, rfl⟩)
set_option maxRecDepth 20000 in
theorem t_MM_end (G : am_G) {d nx : Nat} (hd : 1 ≤ d) {M : am_M} {th pl er va : Int32} {re : Int64} {n : Nat} (g0 : M 1211 = some (.inr (9, [.int th, .int (nI n), .int pl, .int er, .int va, .ref 1212, .ref 1213, .ref 1220, .ref 1225, .ref 1233, .ref 1234, .ref 1235, .ref 1236, .ref 1237, .ref 1238, .long re]))) {k : Int32} (hn : n ≤ 4096) : am_Tr G m_MM_end d 0 0 [.ref 1211, .int k] M nx (fun r M1 nx1 => (¬ k < 0 ∧ k ≤ nI n ∧ r = .inl (some (.int k)) ∧ M1 = am_up M 1211 (.inr (9, [.int 0, .int k, .int pl, .int er, .int va, .ref 1212, .ref 1213, .ref 1220, .ref 1225, .ref 1233, .ref 1234, .ref 1235, .ref 1236, .ref 1237, .ref 1238, .long re])) ∧ nx1 = nx) ∨ ((k < 0 ∨ ¬ k ≤ nI n) ∧ r = .inl (some (.int 0)) ∧ M1 = am_up M 1211 (.inr (9, [.int 1, .int (nI n), .int pl, .int er, .int va, .ref 1212, .ref 1213, .ref 1220, .ref 1225, .ref 1233, .ref 1234, .ref 1235, .ref 1236, .ref 1237, .ref 1238, .long re])) ∧ nx1 = nx)) := by
  refine am_TrOf (by decide) (Nat.le_of_ble_eq_true rfl) ?_
  show am_V G _ _ _ _ _ 0 [(0, .ref 1211), (1, .int k)] [] M nx 0 0
  refine v_aload_n (am_Dk d_MM_end (k := 0) rfl) rfl ?_
  refine v_iconst (v := 0) (am_Dk d_MM_end (k := 1) rfl) (by decide) ?_
  refine v_put (am_Dk d_MM_end (k := 2) rfl) f_MM_64 g0 (Nat.le_of_ble_eq_true rfl) rfl rfl ?_
  refine v_iload_n (am_Dk d_MM_end (k := 3) rfl) rfl ?_
  refine v_if_lt (tgt := 17) (am_Dk d_MM_end (k := 4) rfl) (by decide) (fun c1 => ?_) (fun c1 => ?_)
  · refine v_aload_n (am_Dk d_MM_end (k := 9) rfl) rfl ?_
    refine v_iconst (v := 1) (am_Dk d_MM_end (k := 10) rfl) (by decide) ?_
    have m2 : (am_up M 1211 (.inr (9, [.int 0, .int (nI n), .int pl, .int er, .int va, .ref 1212, .ref 1213, .ref 1220, .ref 1225, .ref 1233, .ref 1234, .ref 1235, .ref 1236, .ref 1237, .ref 1238, .long re]))) 1211 = some (.inr (9, [.int 0, .int (nI n), .int pl, .int er, .int va, .ref 1212, .ref 1213, .ref 1220, .ref 1225, .ref 1233, .ref 1234, .ref 1235, .ref 1236, .ref 1237, .ref 1238, .long re])) := am_up_eq _ _ _
    refine v_callV (rest := []) (As := [.int 1]) (mc' := 0) (ms' := 0) (am_Dk d_MM_end (k := 11) rfl) c_MM_67 (Or.inl ⟨_, _, _, _, _, m2, cq_ok9⟩) (t_MM_fail G (d := 0) (by omega) m2) (by omega) (by omega) (by omega) (by simp [Value.category]) rfl (fun v3 M4 n5 h6 => ?_) (fun _ _ _ h6 => ?_)
    rotate_left
    · exact absurd h6.1 (by simp)
    obtain ⟨h6, e7, e8⟩ := h6
    replace e7 := e7.symm
    replace e8 := e8.symm
    subst e7
    subst e8
    cases h6
    rw [am_uu0 (a := 1211)]
    show am_V G _ _ _ _ _ 22 [(0, .ref 1211), (1, .int k)] [.int 0] (am_up M 1211 (.inr (9, [.int 1, .int (nI n), .int pl, .int er, .int va, .ref 1212, .ref 1213, .ref 1220, .ref 1225, .ref 1233, .ref 1234, .ref 1235, .ref 1236, .ref 1237, .ref 1238, .long re]))) nx 0 0
    exact v_ireturn (am_Dk d_MM_end (k := 12) rfl) rfl rfl (by omega) (by omega) (Or.inr ⟨by first | exact Or.inl (by assumption) | exact Or.inr (by assumption), rfl, rfl, rfl⟩)
  · refine v_iload_n (am_Dk d_MM_end (k := 5) rfl) rfl ?_
    refine v_aload_n (am_Dk d_MM_end (k := 6) rfl) rfl ?_
    have m9 : (am_up M 1211 (.inr (9, [.int 0, .int (nI n), .int pl, .int er, .int va, .ref 1212, .ref 1213, .ref 1220, .ref 1225, .ref 1233, .ref 1234, .ref 1235, .ref 1236, .ref 1237, .ref 1238, .long re]))) 1211 = some (.inr (9, [.int 0, .int (nI n), .int pl, .int er, .int va, .ref 1212, .ref 1213, .ref 1220, .ref 1225, .ref 1233, .ref 1234, .ref 1235, .ref 1236, .ref 1237, .ref 1238, .long re])) := am_up_eq _ _ _
    refine v_get (am_Dk d_MM_end (k := 7) rfl) f_MM_61 m9 rfl ?_
    refine v_icmp_le (tgt := 23) (am_Dk d_MM_end (k := 8) rfl) (by decide) (fun c10 => ?_) (fun c10 => ?_)
    · refine v_aload_n (am_Dk d_MM_end (k := 13) rfl) rfl ?_
      refine v_iload_n (am_Dk d_MM_end (k := 14) rfl) rfl ?_
      refine v_put (am_Dk d_MM_end (k := 15) rfl) f_MM_61 m9 (Nat.le_of_ble_eq_true rfl) rfl rfl ?_
      rw [am_uu0 (a := 1211)]
      refine v_iload_n (am_Dk d_MM_end (k := 16) rfl) rfl ?_
      exact v_ireturn (am_Dk d_MM_end (k := 17) rfl) rfl rfl (by omega) (by omega) (Or.inl ⟨by assumption, by assumption, rfl, rfl, rfl⟩)
    · refine v_aload_n (am_Dk d_MM_end (k := 9) rfl) rfl ?_
      refine v_iconst (v := 1) (am_Dk d_MM_end (k := 10) rfl) (by decide) ?_
      refine v_callV (rest := []) (As := [.int 1]) (mc' := 0) (ms' := 0) (am_Dk d_MM_end (k := 11) rfl) c_MM_67 (Or.inl ⟨_, _, _, _, _, m9, cq_ok9⟩) (t_MM_fail G (d := 0) (by omega) m9) (by omega) (by omega) (by omega) (by simp [Value.category]) rfl (fun v11 M12 n13 h14 => ?_) (fun _ _ _ h14 => ?_)
      rotate_left
      · exact absurd h14.1 (by simp)
      obtain ⟨h14, e15, e16⟩ := h14
      replace e15 := e15.symm
      replace e16 := e16.symm
      subst e15
      subst e16
      cases h14
      rw [am_uu0 (a := 1211)]
      show am_V G _ _ _ _ _ 22 [(0, .ref 1211), (1, .int k)] [.int 0] (am_up M 1211 (.inr (9, [.int 1, .int (nI n), .int pl, .int er, .int va, .ref 1212, .ref 1213, .ref 1220, .ref 1225, .ref 1233, .ref 1234, .ref 1235, .ref 1236, .ref 1237, .ref 1238, .long re]))) nx 0 0
      exact v_ireturn (am_Dk d_MM_end (k := 12) rfl) rfl rfl (by omega) (by omega) (Or.inr ⟨by first | exact Or.inl (by assumption) | exact Or.inr (by assumption), rfl, rfl, rfl⟩)
set_option maxRecDepth 20000 in
theorem t_MM_clear (G : am_G) {d nx : Nat} (hd : 0 ≤ d) {M : am_M} {th pl er va : Int32} {re : Int64} {n : Nat} (g0 : M 1211 = some (.inr (9, [.int th, .int (nI n), .int pl, .int er, .int va, .ref 1212, .ref 1213, .ref 1220, .ref 1225, .ref 1233, .ref 1234, .ref 1235, .ref 1236, .ref 1237, .ref 1238, .long re]))) : am_Tr G m_MM_clear d 0 0 [.ref 1211] M nx (fun r M1 nx1 => r = .inl (some (.int va)) ∧ M1 = am_up M 1211 (.inr (9, [.int 0, .int (nI n), .int pl, .int er, .int 0, .ref 1212, .ref 1213, .ref 1220, .ref 1225, .ref 1233, .ref 1234, .ref 1235, .ref 1236, .ref 1237, .ref 1238, .long re])) ∧ nx1 = nx) := by
  refine am_TrOf (by decide) (Nat.le_of_ble_eq_true rfl) ?_
  show am_V G _ _ _ _ _ 0 [(0, .ref 1211)] [] M nx 0 0
  refine v_aload_n (am_Dk d_MM_clear (k := 0) rfl) rfl ?_
  refine v_iconst (v := 0) (am_Dk d_MM_clear (k := 1) rfl) (by decide) ?_
  refine v_put (am_Dk d_MM_clear (k := 2) rfl) f_MM_64 g0 (Nat.le_of_ble_eq_true rfl) rfl rfl ?_
  refine v_aload_n (am_Dk d_MM_clear (k := 3) rfl) rfl ?_
  have m1 : (am_up M 1211 (.inr (9, [.int 0, .int (nI n), .int pl, .int er, .int va, .ref 1212, .ref 1213, .ref 1220, .ref 1225, .ref 1233, .ref 1234, .ref 1235, .ref 1236, .ref 1237, .ref 1238, .long re]))) 1211 = some (.inr (9, [.int 0, .int (nI n), .int pl, .int er, .int va, .ref 1212, .ref 1213, .ref 1220, .ref 1225, .ref 1233, .ref 1234, .ref 1235, .ref 1236, .ref 1237, .ref 1238, .long re])) := am_up_eq _ _ _
  refine v_get (am_Dk d_MM_clear (k := 4) rfl) f_MM_78 m1 rfl ?_
  refine v_istore_n (L1 := [(1, .int va), (0, .ref 1211)]) (am_Dk d_MM_clear (k := 5) rfl) (by decide) rfl ?_
  refine v_aload_n (am_Dk d_MM_clear (k := 6) rfl) rfl ?_
  refine v_iconst (v := 0) (am_Dk d_MM_clear (k := 7) rfl) (by decide) ?_
  refine v_put (am_Dk d_MM_clear (k := 8) rfl) f_MM_78 m1 (Nat.le_of_ble_eq_true rfl) rfl rfl ?_
  rw [am_uu0 (a := 1211)]
  refine v_iload_n (am_Dk d_MM_clear (k := 9) rfl) rfl ?_
  exact v_ireturn (am_Dk d_MM_clear (k := 10) rfl) rfl rfl (by omega) (by omega) ⟨rfl, rfl, rfl⟩
set_option maxRecDepth 20000 in
theorem t_MM_count (G : am_G) {d nx : Nat} (hd : 1 ≤ d) {M : am_M} {th pl er va : Int32} {re : Int64} {n : Nat} (g0 : M 1211 = some (.inr (9, [.int th, .int (nI n), .int pl, .int er, .int va, .ref 1212, .ref 1213, .ref 1220, .ref 1225, .ref 1233, .ref 1234, .ref 1235, .ref 1236, .ref 1237, .ref 1238, .long re]))) {k : Int32} : am_Tr G m_MM_count d 0 0 [.ref 1211, .int k] M nx (fun r M1 nx1 => M1 = am_up M 1211 (.inr (9, [.int (if k = 0 then 0 else if k = 1 then 0 else if k = 2 then 0 else 1), .int (nI n), .int pl, .int er, .int va, .ref 1212, .ref 1213, .ref 1220, .ref 1225, .ref 1233, .ref 1234, .ref 1235, .ref 1236, .ref 1237, .ref 1238, .long re])) ∧ nx1 = nx ∧ ((k = 0 ∧ r = .inl (some (.int (nI n)))) ∨ (k = 1 ∧ r = .inl (some (.int pl))) ∨ (k = 2 ∧ r = .inl (some (.int er))) ∨ (¬ k = 0 ∧ ¬ k = 1 ∧ ¬ k = 2 ∧ r = .inl (some (.int 0))))) := by
  refine am_TrOf (by decide) (Nat.le_of_ble_eq_true rfl) ?_
  show am_V G _ _ _ _ _ 0 [(0, .ref 1211), (1, .int k)] [] M nx 0 0
  refine v_aload_n (am_Dk d_MM_count (k := 0) rfl) rfl ?_
  refine v_iconst (v := 0) (am_Dk d_MM_count (k := 1) rfl) (by decide) ?_
  refine v_put (am_Dk d_MM_count (k := 2) rfl) f_MM_64 g0 (Nat.le_of_ble_eq_true rfl) rfl rfl ?_
  refine v_iload_n (am_Dk d_MM_count (k := 3) rfl) rfl ?_
  refine v_if_ne (tgt := 16) (am_Dk d_MM_count (k := 4) rfl) (by decide) (fun c1 => ?_) (fun c1 => ?_)
  · refine v_iload_n (am_Dk d_MM_count (k := 8) rfl) rfl ?_
    refine v_iconst (v := 1) (am_Dk d_MM_count (k := 9) rfl) (by decide) ?_
    refine v_icmp_ne (tgt := 28) (am_Dk d_MM_count (k := 10) rfl) (by decide) (fun c2 => ?_) (fun c2 => ?_)
    · refine v_iload_n (am_Dk d_MM_count (k := 14) rfl) rfl ?_
      refine v_iconst (v := 2) (am_Dk d_MM_count (k := 15) rfl) (by decide) ?_
      refine v_icmp_ne (tgt := 40) (am_Dk d_MM_count (k := 16) rfl) (by decide) (fun c3 => ?_) (fun c3 => ?_)
      · refine v_aload_n (am_Dk d_MM_count (k := 20) rfl) rfl ?_
        refine v_iconst (v := 1) (am_Dk d_MM_count (k := 21) rfl) (by decide) ?_
        have m4 : (am_up M 1211 (.inr (9, [.int 0, .int (nI n), .int pl, .int er, .int va, .ref 1212, .ref 1213, .ref 1220, .ref 1225, .ref 1233, .ref 1234, .ref 1235, .ref 1236, .ref 1237, .ref 1238, .long re]))) 1211 = some (.inr (9, [.int 0, .int (nI n), .int pl, .int er, .int va, .ref 1212, .ref 1213, .ref 1220, .ref 1225, .ref 1233, .ref 1234, .ref 1235, .ref 1236, .ref 1237, .ref 1238, .long re])) := am_up_eq _ _ _
        refine v_callV (rest := []) (As := [.int 1]) (mc' := 0) (ms' := 0) (am_Dk d_MM_count (k := 22) rfl) c_MM_67 (Or.inl ⟨_, _, _, _, _, m4, cq_ok9⟩) (t_MM_fail G (d := 0) (by omega) m4) (by omega) (by omega) (by omega) (by simp [Value.category]) rfl (fun v5 M6 n7 h8 => ?_) (fun _ _ _ h8 => ?_)
        rotate_left
        · exact absurd h8.1 (by simp)
        obtain ⟨h8, e9, e10⟩ := h8
        replace e9 := e9.symm
        replace e10 := e10.symm
        subst e9
        subst e10
        cases h8
        rw [am_uu0 (a := 1211)]
        show am_V G _ _ _ _ _ 45 [(0, .ref 1211), (1, .int k)] [.int 0] (am_up M 1211 (.inr (9, [.int 1, .int (nI n), .int pl, .int er, .int va, .ref 1212, .ref 1213, .ref 1220, .ref 1225, .ref 1233, .ref 1234, .ref 1235, .ref 1236, .ref 1237, .ref 1238, .long re]))) nx 0 0
        exact v_ireturn (am_Dk d_MM_count (k := 23) rfl) rfl rfl (by omega) (by omega) ⟨by simp [*], rfl, by simp [*]⟩
      · refine v_aload_n (am_Dk d_MM_count (k := 17) rfl) rfl ?_
        have m11 : (am_up M 1211 (.inr (9, [.int 0, .int (nI n), .int pl, .int er, .int va, .ref 1212, .ref 1213, .ref 1220, .ref 1225, .ref 1233, .ref 1234, .ref 1235, .ref 1236, .ref 1237, .ref 1238, .long re]))) 1211 = some (.inr (9, [.int 0, .int (nI n), .int pl, .int er, .int va, .ref 1212, .ref 1213, .ref 1220, .ref 1225, .ref 1233, .ref 1234, .ref 1235, .ref 1236, .ref 1237, .ref 1238, .long re])) := am_up_eq _ _ _
        refine v_get (am_Dk d_MM_count (k := 18) rfl) f_MM_123 m11 rfl ?_
        refine v_goto (tgt := 45) (am_Dk d_MM_count (k := 19) rfl) (by decide) ?_
        exact v_ireturn (am_Dk d_MM_count (k := 23) rfl) rfl rfl (by omega) (by omega) ⟨by simp [*], rfl, by simp [*]⟩
    · refine v_aload_n (am_Dk d_MM_count (k := 11) rfl) rfl ?_
      have m12 : (am_up M 1211 (.inr (9, [.int 0, .int (nI n), .int pl, .int er, .int va, .ref 1212, .ref 1213, .ref 1220, .ref 1225, .ref 1233, .ref 1234, .ref 1235, .ref 1236, .ref 1237, .ref 1238, .long re]))) 1211 = some (.inr (9, [.int 0, .int (nI n), .int pl, .int er, .int va, .ref 1212, .ref 1213, .ref 1220, .ref 1225, .ref 1233, .ref 1234, .ref 1235, .ref 1236, .ref 1237, .ref 1238, .long re])) := am_up_eq _ _ _
      refine v_get (am_Dk d_MM_count (k := 12) rfl) f_MM_9 m12 rfl ?_
      refine v_goto (tgt := 45) (am_Dk d_MM_count (k := 13) rfl) (by decide) ?_
      exact v_ireturn (am_Dk d_MM_count (k := 23) rfl) rfl rfl (by omega) (by omega) ⟨by simp [*], rfl, by simp [*]⟩
  · refine v_aload_n (am_Dk d_MM_count (k := 5) rfl) rfl ?_
    have m13 : (am_up M 1211 (.inr (9, [.int 0, .int (nI n), .int pl, .int er, .int va, .ref 1212, .ref 1213, .ref 1220, .ref 1225, .ref 1233, .ref 1234, .ref 1235, .ref 1236, .ref 1237, .ref 1238, .long re]))) 1211 = some (.inr (9, [.int 0, .int (nI n), .int pl, .int er, .int va, .ref 1212, .ref 1213, .ref 1220, .ref 1225, .ref 1233, .ref 1234, .ref 1235, .ref 1236, .ref 1237, .ref 1238, .long re])) := am_up_eq _ _ _
    refine v_get (am_Dk d_MM_count (k := 6) rfl) f_MM_61 m13 rfl ?_
    refine v_goto (tgt := 45) (am_Dk d_MM_count (k := 7) rfl) (by decide) ?_
    exact v_ireturn (am_Dk d_MM_count (k := 23) rfl) rfl rfl (by omega) (by omega) ⟨by simp [*], rfl, by simp [*]⟩
