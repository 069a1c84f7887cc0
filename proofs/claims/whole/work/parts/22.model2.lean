def lz (f : Nat → Int32) (k : Nat) : Nat := (f k).toNatClampNeg
def zfL (La : Nat → Int32) : Nat → Nat → Int32
  | 0 => La
  | i + 1 => upd (zfL La i) i 0
def nbL (f : Nat → Int32) (k : Nat) : Nat → Nat → Int32
  | 0 => f
  | i + 1 => upd (nbL f k i) i ((nI k >>> (nI (24 - 8 * i) &&& 31)) &&& 255)
def ybL (f By : Nat → Int32) (k : Nat) : Nat → Nat → Int32
  | 0 => f
  | i + 1 => upd (ybL f By k i) (6 + i) (By (40 * k + i))
def smL (f : Nat → Int32) : Nat → Int32
  | 0 => -1756908916
  | i + 1 => mixI (smL f i) (f i)
def sbL (f : Nat → Int32) (s : Int32) (e : Nat) : Nat → Nat → Int32
  | 0 => f
  | i + 1 => upd (sbL f s e i) (e + i) ((s >>> (nI (24 - 8 * i) &&& 31)) &&& 255)
def l2L (K Ln La : Nat → Int32) (k : Nat) : Nat → Int32 := upd (upd (nbL (zfL La 64) k 4) 4 (K k)) 5 (Ln k)
def l3L (K Ln By La : Nat → Int32) (k : Nat) : Nat → Int32 := ybL (l2L K Ln La k) By k (lz Ln k)
def l4L (K Ln By La : Nat → Int32) (k : Nat) : Nat → Int32 := sbL (l3L K Ln By La k) (smL (l3L K Ln By La k) (6 + lz Ln k)) (6 + lz Ln k) 4
def smA (f : Nat → Int32) (a : Nat) : Nat → Int32
  | 0 => -1756908916
  | i + 1 => mixI (smA f a i) (f (a + i))
def ebL (By Co : Nat → Int32) (r : Nat) : Nat → Nat → Int32
  | 0 => By
  | i + 1 => upd (ebL By Co r i) (40 * r + i) (Co i)
def wdL (D La : Nat → Int32) (a : Nat) : Nat → Nat → Int32
  | 0 => D
  | i + 1 => upd (wdL D La a i) (a + i) (La i)
def fdL (By D : Nat → Int32) (k a : Nat) : Nat → Nat → Int32
  | 0 => By
  | i + 1 => upd (fdL By D k a i) (40 * k + i) (D (a + 6 + i))
def mdL (D : Nat → Int32) (a b : Nat) : Nat → Nat → Int32
  | 0 => D
  | i + 1 => upd (mdL D a b i) (a + i) (mdL D a b i (b + i))

set_option maxHeartbeats 4000000 in
set_option maxRecDepth 100000 in
theorem kX3_lay (l : Launch) (dC : Nat → ClassId) (dI : Nat → Nat → Nat) (sz : Nat) (qm qd qk ql qy qc qi : Nat) (n : Nat) (cAk cAl cAy cAi : ClassId) (th rw ak cb dn kp tr md wr sm : Int32) (K Ln By La : Nat → Int32) (k : Nat) (hk : k < 64) (hL : Ln k = nI (lz Ln k)) (hl40 : lz Ln k ≤ 40) : Mv_ l yX3_lay wsX3_lay 1 22 dC dI (fun _ => True) [.ref qm, .int (nI k)] [(qm, .inr (3, [.int th, .int (nI n), .ref qd, .int rw, .int ak, .ref qk, .ref ql, .ref qy, .int cb, .ref qc, .int dn, .int kp, .int tr, .int md, .int wr, .ref qi, .int sm])), (qk, .inl (cAk, 64, .inl K)), (ql, .inl (cAl, 64, .inl Ln)), (qy, .inl (cAy, 2560, .inl By)), (qi, .inl (cAi, 64, .inl La))] [(cAk, .int), (cAl, .int), (cAy, .int), (cAi, .int)] sz [(qm, .inr (3, [.int th, .int (nI n), .ref qd, .int rw, .int ak, .ref qk, .ref ql, .ref qy, .int cb, .ref qc, .int dn, .int kp, .int tr, .int md, .int wr, .ref qi, .int (smL (l3L K Ln By La k) (6 + lz Ln k))])), (qk, .inl (cAk, 64, .inl K)), (ql, .inl (cAl, 64, .inl Ln)), (qy, .inl (cAy, 2560, .inl By)), (qi, .inl (cAi, 64, .inl (l4L K Ln By La k)))] := by
  refine hm_ (cc := cX3_lay) (maxL := 4) (ret := none) (Qc := fun A => va_Qv (fun (_ : Unit) => True) (fun _ t9 => qw_ dC dI A [(qm, .inr (3, [.int th, .int (nI n), .ref qd, .int rw, .int ak, .ref qk, .ref ql, .ref qy, .int cb, .ref qc, .int dn, .int kp, .int tr, .int md, .int wr, .ref qi, .int (smL (l3L K Ln By La k) (6 + lz Ln k))])), (qk, .inl (cAk, 64, .inl K)), (ql, .inl (cAl, 64, .inl Ln)), (qy, .inl (cAy, 2560, .inl By)), (qi, .inl (cAi, 64, .inl (l4L K Ln By La k)))] [(cAk, .int), (cAl, .int), (cAy, .int), (cAi, .int)] t9) A) (by decide) rfl (Nat.le_of_ble_eq_true rfl) ?_
  intro p e s m below meth c A H locs ls hx hb hr hml hts hown hlocks hsz hP hK hD hE hA hS hl
  have hl : lv_has ls 4 [(0, .ref qm), (1, .int (nI k))] := hl
  have hown : s.vm.findClass RX3 = some m.cls := hown
  refine lv_iconst (v := 0) hx hb dX3_lay_0 (by decide) ?_
  refine lv_istore_n (lv' := [(2, .int 0), (0, .ref qm), (1, .int (nI k))]) hx hb dX3_lay_1 rfl hl (by decide) rfl (fun ls hl => ?_)
  have loopA : ∀ (k0 i : Nat) (H : Heap) (locs : List Loc) (ls : Array Slot), (i + k0 = 64) → va_P (dC, dI) hlCl [(qm, .inr (3, [.int th, .int (nI n), .ref qd, .int rw, .int ak, .ref qk, .ref ql, .ref qy, .int cb, .ref qc, .int dn, .int kp, .int tr, .int md, .int wr, .ref qi, .int sm])), (qk, .inl (cAk, 64, .inl K)), (ql, .inl (cAl, 64, .inl Ln)), (qy, .inl (cAy, 2560, .inl By)), (qi, .inl (cAi, 64, .inl (zfL La i)))] H → va_D A [(qm, .inr (3, [.int th, .int (nI n), .ref qd, .int rw, .int ak, .ref qk, .ref ql, .ref qy, .int cb, .ref qc, .int dn, .int kp, .int tr, .int md, .int wr, .ref qi, .int sm])), (qk, .inl (cAk, 64, .inl K)), (ql, .inl (cAl, 64, .inl Ln)), (qy, .inl (cAy, 2560, .inl By)), (qi, .inl (cAi, 64, .inl (zfL La i)))] → va_S A s.heap H locs → lv_has ls 4 [(2, .int (nI i)), (0, .ref qm), (1, .int (nI k))] → W p l e (rm_ 1 22) s m [.ref qm, .int (nI k)].toArray below meth c H locs 0 0 (MQ below ((fun A => va_Qv (fun (_ : Unit) => True) (fun _ t9 => qw_ dC dI A [(qm, .inr (3, [.int th, .int (nI n), .ref qd, .int rw, .int ak, .ref qk, .ref ql, .ref qy, .int cb, .ref qc, .int dn, .int kp, .int tr, .int md, .int wr, .ref qi, .int (smL (l3L K Ln By La k) (6 + lz Ln k))])), (qk, .inl (cAk, 64, .inl K)), (ql, .inl (cAl, 64, .inl Ln)), (qy, .inl (cAy, 2560, .inl By)), (qi, .inl (cAi, 64, .inl (l4L K Ln By La k)))] [(cAk, .int), (cAl, .int), (cAy, .int), (cAi, .int)] t9) A) A) [.ref qm, .int (nI k)].toArray s 0 0 A) (F0 m 2 ls []) := by
    intro k0
    induction k0 with
    | zero =>
      intro i H locs ls hi hP hD hS hl
      obtain rfl : 64 = i := by omega
      refine lv_iload_n hx hb dX3_lay_2 rfl (lv_at hl 0 rfl) ?_
      refine lv_bipush (v := 64) hx hb dX3_lay_3 (by decide) ?_
      refine lv_icmp_ge (tgt := 21) hx hb dX3_lay_5 (by decide) (fun c_5 => ?_) (fun c_5 => ?_)
      · skip
        refine lv_iconst (v := 0) hx hb dX3_lay_21 (by decide) ?_
        refine lv_istore_n (lv' := [(2, .int 0), (0, .ref qm), (1, .int (nI k))]) hx hb dX3_lay_22 rfl hl (by decide) rfl (fun ls hl => ?_)
        have loopB : ∀ (k0 i : Nat) (H : Heap) (locs : List Loc) (ls : Array Slot), (i + k0 = 4) → va_P (dC, dI) hlCl [(qm, .inr (3, [.int th, .int (nI n), .ref qd, .int rw, .int ak, .ref qk, .ref ql, .ref qy, .int cb, .ref qc, .int dn, .int kp, .int tr, .int md, .int wr, .ref qi, .int sm])), (qk, .inl (cAk, 64, .inl K)), (ql, .inl (cAl, 64, .inl Ln)), (qy, .inl (cAy, 2560, .inl By)), (qi, .inl (cAi, 64, .inl (nbL (zfL La 64) k i)))] H → va_D A [(qm, .inr (3, [.int th, .int (nI n), .ref qd, .int rw, .int ak, .ref qk, .ref ql, .ref qy, .int cb, .ref qc, .int dn, .int kp, .int tr, .int md, .int wr, .ref qi, .int sm])), (qk, .inl (cAk, 64, .inl K)), (ql, .inl (cAl, 64, .inl Ln)), (qy, .inl (cAy, 2560, .inl By)), (qi, .inl (cAi, 64, .inl (nbL (zfL La 64) k i)))] → va_S A s.heap H locs → lv_has ls 4 [(2, .int (nI i)), (0, .ref qm), (1, .int (nI k))] → W p l e (rm_ 1 22) s m [.ref qm, .int (nI k)].toArray below meth c H locs 0 0 (MQ below ((fun A => va_Qv (fun (_ : Unit) => True) (fun _ t9 => qw_ dC dI A [(qm, .inr (3, [.int th, .int (nI n), .ref qd, .int rw, .int ak, .ref qk, .ref ql, .ref qy, .int cb, .ref qc, .int dn, .int kp, .int tr, .int md, .int wr, .ref qi, .int (smL (l3L K Ln By La k) (6 + lz Ln k))])), (qk, .inl (cAk, 64, .inl K)), (ql, .inl (cAl, 64, .inl Ln)), (qy, .inl (cAy, 2560, .inl By)), (qi, .inl (cAi, 64, .inl (l4L K Ln By La k)))] [(cAk, .int), (cAl, .int), (cAy, .int), (cAi, .int)] t9) A) A) [.ref qm, .int (nI k)].toArray s 0 0 A) (F0 m 23 ls []) := by
          intro k0
          induction k0 with
          | zero =>
            intro i H locs ls hi hP hD hS hl
            obtain rfl : 4 = i := by omega
            refine lv_iload_n hx hb dX3_lay_23 rfl (lv_at hl 0 rfl) ?_
            refine lv_iconst (v := 4) hx hb dX3_lay_24 (by decide) ?_
            refine lv_icmp_ge (tgt := 53) hx hb dX3_lay_25 (by decide) (fun c_25 => ?_) (fun c_25 => ?_)
            · skip
              refine lv_aload_n hx hb dX3_lay_53 rfl (lv_at hl 1 rfl) ?_
              refine va_get (D := (dC, dI)) (ci := 3) (v := .ref qi) (C := RX3) (T := TX3) (N := 17) hx hb hts (by decide +kernel) hown hK hP 0 rfl rfl 15 (by decide) (hts (.fieldLink RX3 29 "HouseLogModel" "laid" "[I") (by decide +kernel)) (fun _ h9 => h9) rfl dX3_lay_54 ?_
              refine lv_iconst (v := 4) hx hb dX3_lay_57 (by decide) ?_
              refine lv_aload_n hx hb dX3_lay_58 rfl (lv_at hl 1 rfl) ?_
              refine va_get (D := (dC, dI)) (ci := 3) (v := .ref qk) (C := RX3) (T := TX3) (N := 17) hx hb hts (by decide +kernel) hown hK hP 0 rfl rfl 5 (by decide) (hts (.fieldLink RX3 13 "HouseLogModel" "kinds" "[I") (by decide +kernel)) (fun _ h9 => h9) rfl dX3_lay_59 ?_
              refine lv_iload_n hx hb dX3_lay_62 rfl (lv_at hl 2 rfl) ?_
              refine va_iald hx hb hK hP 1 0 rfl rfl (i := nI k) (vp_in_nI (n := k) (by omega) (by decide)) dX3_lay_63 ?_
              refine W.eq (g2 := F0 m 64 ls (.int (K k) :: .int 4 :: .ref qi :: [])) (by rw [show (nI k : Int32).toNatClampNeg = k from nI_clamp (by omega)]) ?_
              refine va_iast hx hb hK hP hD hS 4 3 rfl rfl (i := 4) (vp_in_nI (n := 4) (by decide) (by decide)) dX3_lay_64 (fun H locs hP hD hS => ?_)
              rw [show (4 : Int32).toNatClampNeg = 4 from by decide] at hP hD
              have hP : va_P (dC, dI) hlCl [(qm, .inr (3, [.int th, .int (nI n), .ref qd, .int rw, .int ak, .ref qk, .ref ql, .ref qy, .int cb, .ref qc, .int dn, .int kp, .int tr, .int md, .int wr, .ref qi, .int sm])), (qk, .inl (cAk, 64, .inl K)), (ql, .inl (cAl, 64, .inl Ln)), (qy, .inl (cAy, 2560, .inl By)), (qi, .inl (cAi, 64, .inl (upd (nbL (zfL La 64) k 4) 4 (K k))))] H := hP
              have hD : va_D A [(qm, .inr (3, [.int th, .int (nI n), .ref qd, .int rw, .int ak, .ref qk, .ref ql, .ref qy, .int cb, .ref qc, .int dn, .int kp, .int tr, .int md, .int wr, .ref qi, .int sm])), (qk, .inl (cAk, 64, .inl K)), (ql, .inl (cAl, 64, .inl Ln)), (qy, .inl (cAy, 2560, .inl By)), (qi, .inl (cAi, 64, .inl (upd (nbL (zfL La 64) k 4) 4 (K k))))] := hD
              refine lv_aload_n hx hb dX3_lay_65 rfl (lv_at hl 1 rfl) ?_
              refine va_get (D := (dC, dI)) (ci := 3) (v := .ref qi) (C := RX3) (T := TX3) (N := 17) hx hb hts (by decide +kernel) hown hK hP 0 rfl rfl 15 (by decide) (hts (.fieldLink RX3 29 "HouseLogModel" "laid" "[I") (by decide +kernel)) (fun _ h9 => h9) rfl dX3_lay_66 ?_
              refine lv_iconst (v := 5) hx hb dX3_lay_69 (by decide) ?_
              refine lv_aload_n hx hb dX3_lay_70 rfl (lv_at hl 1 rfl) ?_
              refine va_get (D := (dC, dI)) (ci := 3) (v := .ref ql) (C := RX3) (T := TX3) (N := 17) hx hb hts (by decide +kernel) hown hK hP 0 rfl rfl 6 (by decide) (hts (.fieldLink RX3 16 "HouseLogModel" "lengths" "[I") (by decide +kernel)) (fun _ h9 => h9) rfl dX3_lay_71 ?_
              refine lv_iload_n hx hb dX3_lay_74 rfl (lv_at hl 2 rfl) ?_
              refine va_iald hx hb hK hP 2 1 rfl rfl (i := nI k) (vp_in_nI (n := k) (by omega) (by decide)) dX3_lay_75 ?_
              refine W.eq (g2 := F0 m 76 ls (.int (Ln k) :: .int 5 :: .ref qi :: [])) (by rw [show (nI k : Int32).toNatClampNeg = k from nI_clamp (by omega)]) ?_
              refine va_iast hx hb hK hP hD hS 4 3 rfl rfl (i := 5) (vp_in_nI (n := 5) (by decide) (by decide)) dX3_lay_76 (fun H locs hP hD hS => ?_)
              rw [show (5 : Int32).toNatClampNeg = 5 from by decide] at hP hD
              have hP : va_P (dC, dI) hlCl [(qm, .inr (3, [.int th, .int (nI n), .ref qd, .int rw, .int ak, .ref qk, .ref ql, .ref qy, .int cb, .ref qc, .int dn, .int kp, .int tr, .int md, .int wr, .ref qi, .int sm])), (qk, .inl (cAk, 64, .inl K)), (ql, .inl (cAl, 64, .inl Ln)), (qy, .inl (cAy, 2560, .inl By)), (qi, .inl (cAi, 64, .inl (upd (upd (nbL (zfL La 64) k 4) 4 (K k)) 5 (Ln k))))] H := hP
              have hD : va_D A [(qm, .inr (3, [.int th, .int (nI n), .ref qd, .int rw, .int ak, .ref qk, .ref ql, .ref qy, .int cb, .ref qc, .int dn, .int kp, .int tr, .int md, .int wr, .ref qi, .int sm])), (qk, .inl (cAk, 64, .inl K)), (ql, .inl (cAl, 64, .inl Ln)), (qy, .inl (cAy, 2560, .inl By)), (qi, .inl (cAi, 64, .inl (upd (upd (nbL (zfL La 64) k 4) 4 (K k)) 5 (Ln k))))] := hD
              have hP : va_P (dC, dI) hlCl [(qm, .inr (3, [.int th, .int (nI n), .ref qd, .int rw, .int ak, .ref qk, .ref ql, .ref qy, .int cb, .ref qc, .int dn, .int kp, .int tr, .int md, .int wr, .ref qi, .int sm])), (qk, .inl (cAk, 64, .inl K)), (ql, .inl (cAl, 64, .inl Ln)), (qy, .inl (cAy, 2560, .inl By)), (qi, .inl (cAi, 64, .inl (l2L K Ln La k)))] H := hP
              have hD : va_D A [(qm, .inr (3, [.int th, .int (nI n), .ref qd, .int rw, .int ak, .ref qk, .ref ql, .ref qy, .int cb, .ref qc, .int dn, .int kp, .int tr, .int md, .int wr, .ref qi, .int sm])), (qk, .inl (cAk, 64, .inl K)), (ql, .inl (cAl, 64, .inl Ln)), (qy, .inl (cAy, 2560, .inl By)), (qi, .inl (cAi, 64, .inl (l2L K Ln La k)))] := hD
              refine lv_iconst (v := 0) hx hb dX3_lay_77 (by decide) ?_
              refine lv_istore_n (lv' := [(2, .int 0), (0, .ref qm), (1, .int (nI k))]) hx hb dX3_lay_78 rfl hl (by decide) rfl (fun ls hl => ?_)
              have loopC : ∀ (k0 i : Nat) (H : Heap) (locs : List Loc) (ls : Array Slot), (i + k0 = lz Ln k) → va_P (dC, dI) hlCl [(qm, .inr (3, [.int th, .int (nI n), .ref qd, .int rw, .int ak, .ref qk, .ref ql, .ref qy, .int cb, .ref qc, .int dn, .int kp, .int tr, .int md, .int wr, .ref qi, .int sm])), (qk, .inl (cAk, 64, .inl K)), (ql, .inl (cAl, 64, .inl Ln)), (qy, .inl (cAy, 2560, .inl By)), (qi, .inl (cAi, 64, .inl (ybL (l2L K Ln La k) By k i)))] H → va_D A [(qm, .inr (3, [.int th, .int (nI n), .ref qd, .int rw, .int ak, .ref qk, .ref ql, .ref qy, .int cb, .ref qc, .int dn, .int kp, .int tr, .int md, .int wr, .ref qi, .int sm])), (qk, .inl (cAk, 64, .inl K)), (ql, .inl (cAl, 64, .inl Ln)), (qy, .inl (cAy, 2560, .inl By)), (qi, .inl (cAi, 64, .inl (ybL (l2L K Ln La k) By k i)))] → va_S A s.heap H locs → lv_has ls 4 [(2, .int (nI i)), (0, .ref qm), (1, .int (nI k))] → W p l e (rm_ 1 22) s m [.ref qm, .int (nI k)].toArray below meth c H locs 0 0 (MQ below ((fun A => va_Qv (fun (_ : Unit) => True) (fun _ t9 => qw_ dC dI A [(qm, .inr (3, [.int th, .int (nI n), .ref qd, .int rw, .int ak, .ref qk, .ref ql, .ref qy, .int cb, .ref qc, .int dn, .int kp, .int tr, .int md, .int wr, .ref qi, .int (smL (l3L K Ln By La k) (6 + lz Ln k))])), (qk, .inl (cAk, 64, .inl K)), (ql, .inl (cAl, 64, .inl Ln)), (qy, .inl (cAy, 2560, .inl By)), (qi, .inl (cAi, 64, .inl (l4L K Ln By La k)))] [(cAk, .int), (cAl, .int), (cAy, .int), (cAi, .int)] t9) A) A) [.ref qm, .int (nI k)].toArray s 0 0 A) (F0 m 79 ls []) := by
                intro k0
                induction k0 with
                | zero =>
                  intro i H locs ls hi hP hD hS hl
                  obtain rfl : lz Ln k = i := by omega
                  refine lv_iload_n hx hb dX3_lay_79 rfl (lv_at hl 0 rfl) ?_
                  refine lv_aload_n hx hb dX3_lay_80 rfl (lv_at hl 1 rfl) ?_
                  refine va_get (D := (dC, dI)) (ci := 3) (v := .ref ql) (C := RX3) (T := TX3) (N := 17) hx hb hts (by decide +kernel) hown hK hP 0 rfl rfl 6 (by decide) (hts (.fieldLink RX3 16 "HouseLogModel" "lengths" "[I") (by decide +kernel)) (fun _ h9 => h9) rfl dX3_lay_81 ?_
                  refine lv_iload_n hx hb dX3_lay_84 rfl (lv_at hl 2 rfl) ?_
                  refine va_iald hx hb hK hP 2 1 rfl rfl (i := nI k) (vp_in_nI (n := k) (by omega) (by decide)) dX3_lay_85 ?_
                  refine W.eq (g2 := F0 m 86 ls (.int (Ln k) :: .int (nI (lz Ln k)) :: [])) (by rw [show (nI k : Int32).toNatClampNeg = k from nI_clamp (by omega)]) ?_
                  rw [hL]
                  refine lv_icmp_ge (tgt := 115) hx hb dX3_lay_86 (by decide) (fun c_86 => ?_) (fun c_86 => ?_)
                  · skip
                    have hP : va_P (dC, dI) hlCl [(qm, .inr (3, [.int th, .int (nI n), .ref qd, .int rw, .int ak, .ref qk, .ref ql, .ref qy, .int cb, .ref qc, .int dn, .int kp, .int tr, .int md, .int wr, .ref qi, .int sm])), (qk, .inl (cAk, 64, .inl K)), (ql, .inl (cAl, 64, .inl Ln)), (qy, .inl (cAy, 2560, .inl By)), (qi, .inl (cAi, 64, .inl (l3L K Ln By La k)))] H := hP
                    have hD : va_D A [(qm, .inr (3, [.int th, .int (nI n), .ref qd, .int rw, .int ak, .ref qk, .ref ql, .ref qy, .int cb, .ref qc, .int dn, .int kp, .int tr, .int md, .int wr, .ref qi, .int sm])), (qk, .inl (cAk, 64, .inl K)), (ql, .inl (cAl, 64, .inl Ln)), (qy, .inl (cAy, 2560, .inl By)), (qi, .inl (cAi, 64, .inl (l3L K Ln By La k)))] := hD
                    refine lv_bipush (v := 6) hx hb dX3_lay_115 (by decide) ?_
                    refine lv_aload_n hx hb dX3_lay_117 rfl (lv_at hl 1 rfl) ?_
                    refine va_get (D := (dC, dI)) (ci := 3) (v := .ref ql) (C := RX3) (T := TX3) (N := 17) hx hb hts (by decide +kernel) hown hK hP 0 rfl rfl 6 (by decide) (hts (.fieldLink RX3 16 "HouseLogModel" "lengths" "[I") (by decide +kernel)) (fun _ h9 => h9) rfl dX3_lay_118 ?_
                    refine lv_iload_n hx hb dX3_lay_121 rfl (lv_at hl 2 rfl) ?_
                    refine va_iald hx hb hK hP 2 1 rfl rfl (i := nI k) (vp_in_nI (n := k) (by omega) (by decide)) dX3_lay_122 ?_
                    refine W.eq (g2 := F0 m 123 ls (.int (Ln k) :: .int 6 :: [])) (by rw [show (nI k : Int32).toNatClampNeg = k from nI_clamp (by omega)]) ?_
                    rw [hL]
                    refine lv_iadd hx hb dX3_lay_123 ?_
                    rw [show (6 + (nI (lz Ln k)) : Int32) = nI (6 + (lz Ln k)) from nI_add 6 (lz Ln k)]
                    refine lv_istore_n (lv' := [(2, .int (nI (6 + (lz Ln k)))), (0, .ref qm), (1, .int (nI k))]) hx hb dX3_lay_124 rfl hl (by decide) rfl (fun ls hl => ?_)
                    refine lv_aload_n hx hb dX3_lay_125 rfl (lv_at hl 1 rfl) ?_
                    refine hc_vV (As := []) (rest := []) (wr := [(qk, .inl (cAk, 64, .inl K)), (ql, .inl (cAl, 64, .inl Ln)), (qy, .inl (cAy, 2560, .inl By)), (qi, .inl (cAi, 64, .inl (l3L K Ln By La k)))]) ⟨hx, hb, hml, hown, hts⟩ sx_T trivial (kX3_begin l dC dI H.size qm qd qk ql qy qc qi n th rw ak cb dn kp tr md wr sm ) (cwV 0 hts gX3_lay_X3_begin rfl rfl rfl (by decide +kernel) ⟨Nat.le_of_ble_eq_true rfl, Nat.le_of_ble_eq_true rfl⟩) hK hP hD hS hA [0] [1, 2, 3, 4] [] rfl rfl rfl rfl rfl (by decide) (ci := 3) rfl rfl rfl rfl hl.1 rfl (Nat.le_of_ble_eq_true rfl) dX3_lay_126 ⟨Nat.zero_le _, Nat.zero_le _⟩ (fun H locs hP hD hS => ?_)
                    have hP : va_P (dC, dI) hlCl [(qm, .inr (3, [.int th, .int (nI n), .ref qd, .int rw, .int ak, .ref qk, .ref ql, .ref qy, .int cb, .ref qc, .int dn, .int kp, .int tr, .int md, .int wr, .ref qi, .int (-1756908916)])), (qk, .inl (cAk, 64, .inl K)), (ql, .inl (cAl, 64, .inl Ln)), (qy, .inl (cAy, 2560, .inl By)), (qi, .inl (cAi, 64, .inl (l3L K Ln By La k)))] H := hP.sub [4, 0, 1, 2, 3] rfl
                    have hD : va_D A [(qm, .inr (3, [.int th, .int (nI n), .ref qd, .int rw, .int ak, .ref qk, .ref ql, .ref qy, .int cb, .ref qc, .int dn, .int kp, .int tr, .int md, .int wr, .ref qi, .int (-1756908916)])), (qk, .inl (cAk, 64, .inl K)), (ql, .inl (cAl, 64, .inl Ln)), (qy, .inl (cAy, 2560, .inl By)), (qi, .inl (cAi, 64, .inl (l3L K Ln By La k)))] := hD.sub [4, 0, 1, 2, 3] (by decide) rfl
                    refine lv_iconst (v := 0) hx hb dX3_lay_129 (by decide) ?_
                    refine lv_istore_n (lv' := [(3, .int 0), (2, .int (nI (6 + (lz Ln k)))), (0, .ref qm), (1, .int (nI k))]) hx hb dX3_lay_130 rfl hl (by decide) rfl (fun ls hl => ?_)
                    have loopD : ∀ (k0 i : Nat) (H : Heap) (locs : List Loc) (ls : Array Slot), (i + k0 = 6 + lz Ln k) → va_P (dC, dI) hlCl [(qm, .inr (3, [.int th, .int (nI n), .ref qd, .int rw, .int ak, .ref qk, .ref ql, .ref qy, .int cb, .ref qc, .int dn, .int kp, .int tr, .int md, .int wr, .ref qi, .int (smL (l3L K Ln By La k) i)])), (qk, .inl (cAk, 64, .inl K)), (ql, .inl (cAl, 64, .inl Ln)), (qy, .inl (cAy, 2560, .inl By)), (qi, .inl (cAi, 64, .inl (l3L K Ln By La k)))] H → va_D A [(qm, .inr (3, [.int th, .int (nI n), .ref qd, .int rw, .int ak, .ref qk, .ref ql, .ref qy, .int cb, .ref qc, .int dn, .int kp, .int tr, .int md, .int wr, .ref qi, .int (smL (l3L K Ln By La k) i)])), (qk, .inl (cAk, 64, .inl K)), (ql, .inl (cAl, 64, .inl Ln)), (qy, .inl (cAy, 2560, .inl By)), (qi, .inl (cAi, 64, .inl (l3L K Ln By La k)))] → va_S A s.heap H locs → lv_has ls 4 [(3, .int (nI i)), (2, .int (nI (6 + (lz Ln k)))), (0, .ref qm), (1, .int (nI k))] → W p l e (rm_ 1 22) s m [.ref qm, .int (nI k)].toArray below meth c H locs 0 0 (MQ below ((fun A => va_Qv (fun (_ : Unit) => True) (fun _ t9 => qw_ dC dI A [(qm, .inr (3, [.int th, .int (nI n), .ref qd, .int rw, .int ak, .ref qk, .ref ql, .ref qy, .int cb, .ref qc, .int dn, .int kp, .int tr, .int md, .int wr, .ref qi, .int (smL (l3L K Ln By La k) (6 + lz Ln k))])), (qk, .inl (cAk, 64, .inl K)), (ql, .inl (cAl, 64, .inl Ln)), (qy, .inl (cAy, 2560, .inl By)), (qi, .inl (cAi, 64, .inl (l4L K Ln By La k)))] [(cAk, .int), (cAl, .int), (cAy, .int), (cAi, .int)] t9) A) A) [.ref qm, .int (nI k)].toArray s 0 0 A) (F0 m 131 ls []) := by
                      intro k0
                      induction k0 with
                      | zero =>
                        intro i H locs ls hi hP hD hS hl
                        obtain rfl : 6 + lz Ln k = i := by omega
                        refine lv_iload_n hx hb dX3_lay_131 rfl (lv_at hl 0 rfl) ?_
                        refine lv_iload_n hx hb dX3_lay_132 rfl (lv_at hl 1 rfl) ?_
                        refine lv_icmp_ge (tgt := 152) hx hb dX3_lay_133 (by decide) (fun c_133 => ?_) (fun c_133 => ?_)
                        · skip
                          refine lv_iconst (v := 0) hx hb dX3_lay_152 (by decide) ?_
                          refine lv_istore_n (lv' := [(3, .int 0), (2, .int (nI (6 + (lz Ln k)))), (0, .ref qm), (1, .int (nI k))]) hx hb dX3_lay_153 rfl hl (by decide) rfl (fun ls hl => ?_)
                          have loopE : ∀ (k0 i : Nat) (H : Heap) (locs : List Loc) (ls : Array Slot), (i + k0 = 4) → va_P (dC, dI) hlCl [(qm, .inr (3, [.int th, .int (nI n), .ref qd, .int rw, .int ak, .ref qk, .ref ql, .ref qy, .int cb, .ref qc, .int dn, .int kp, .int tr, .int md, .int wr, .ref qi, .int (smL (l3L K Ln By La k) (6 + lz Ln k))])), (qk, .inl (cAk, 64, .inl K)), (ql, .inl (cAl, 64, .inl Ln)), (qy, .inl (cAy, 2560, .inl By)), (qi, .inl (cAi, 64, .inl (sbL (l3L K Ln By La k) (smL (l3L K Ln By La k) (6 + lz Ln k)) (6 + lz Ln k) i)))] H → va_D A [(qm, .inr (3, [.int th, .int (nI n), .ref qd, .int rw, .int ak, .ref qk, .ref ql, .ref qy, .int cb, .ref qc, .int dn, .int kp, .int tr, .int md, .int wr, .ref qi, .int (smL (l3L K Ln By La k) (6 + lz Ln k))])), (qk, .inl (cAk, 64, .inl K)), (ql, .inl (cAl, 64, .inl Ln)), (qy, .inl (cAy, 2560, .inl By)), (qi, .inl (cAi, 64, .inl (sbL (l3L K Ln By La k) (smL (l3L K Ln By La k) (6 + lz Ln k)) (6 + lz Ln k) i)))] → va_S A s.heap H locs → lv_has ls 4 [(3, .int (nI i)), (2, .int (nI (6 + (lz Ln k)))), (0, .ref qm), (1, .int (nI k))] → W p l e (rm_ 1 22) s m [.ref qm, .int (nI k)].toArray below meth c H locs 0 0 (MQ below ((fun A => va_Qv (fun (_ : Unit) => True) (fun _ t9 => qw_ dC dI A [(qm, .inr (3, [.int th, .int (nI n), .ref qd, .int rw, .int ak, .ref qk, .ref ql, .ref qy, .int cb, .ref qc, .int dn, .int kp, .int tr, .int md, .int wr, .ref qi, .int (smL (l3L K Ln By La k) (6 + lz Ln k))])), (qk, .inl (cAk, 64, .inl K)), (ql, .inl (cAl, 64, .inl Ln)), (qy, .inl (cAy, 2560, .inl By)), (qi, .inl (cAi, 64, .inl (l4L K Ln By La k)))] [(cAk, .int), (cAl, .int), (cAy, .int), (cAi, .int)] t9) A) A) [.ref qm, .int (nI k)].toArray s 0 0 A) (F0 m 154 ls []) := by
                            intro k0
                            induction k0 with
                            | zero =>
                              intro i H locs ls hi hP hD hS hl
                              obtain rfl : 4 = i := by omega
                              refine lv_iload_n hx hb dX3_lay_154 rfl (lv_at hl 0 rfl) ?_
                              refine lv_iconst (v := 4) hx hb dX3_lay_155 (by decide) ?_
                              refine lv_icmp_ge (tgt := 189) hx hb dX3_lay_156 (by decide) (fun c_156 => ?_) (fun c_156 => ?_)
                              · skip
                                have hP : va_P (dC, dI) hlCl [(qm, .inr (3, [.int th, .int (nI n), .ref qd, .int rw, .int ak, .ref qk, .ref ql, .ref qy, .int cb, .ref qc, .int dn, .int kp, .int tr, .int md, .int wr, .ref qi, .int (smL (l3L K Ln By La k) (6 + lz Ln k))])), (qk, .inl (cAk, 64, .inl K)), (ql, .inl (cAl, 64, .inl Ln)), (qy, .inl (cAy, 2560, .inl By)), (qi, .inl (cAi, 64, .inl (l4L K Ln By La k)))] H := hP
                                have hD : va_D A [(qm, .inr (3, [.int th, .int (nI n), .ref qd, .int rw, .int ak, .ref qk, .ref ql, .ref qy, .int cb, .ref qc, .int dn, .int kp, .int tr, .int md, .int wr, .ref qi, .int (smL (l3L K Ln By La k) (6 + lz Ln k))])), (qk, .inl (cAk, 64, .inl K)), (ql, .inl (cAl, 64, .inl Ln)), (qy, .inl (cAy, 2560, .inl By)), (qi, .inl (cAi, 64, .inl (l4L K Ln By La k)))] := hD
                                exact hr_v hx hb hr hlocks (w1 := [(qm, .inr (3, [.int th, .int (nI n), .ref qd, .int rw, .int ak, .ref qk, .ref ql, .ref qy, .int cb, .ref qc, .int dn, .int kp, .int tr, .int md, .int wr, .ref qi, .int (smL (l3L K Ln By La k) (6 + lz Ln k))])), (qk, .inl (cAk, 64, .inl K)), (ql, .inl (cAl, 64, .inl Ln)), (qy, .inl (cAy, 2560, .inl By)), (qi, .inl (cAi, 64, .inl (l4L K Ln By La k)))]) hP hD hK hS [0, 1, 2, 3, 4] [0, 1, 2, 3] rfl rfl rfl (rfl) dX3_lay_189
                              · exact absurd (nI_le (a := 4) (b := 4) (Nat.le_refl _) (by omega)) c_156
                            | succ k0 ih =>
                              intro i H locs ls hi hP hD hS hl
                              refine lv_iload_n hx hb dX3_lay_154 rfl (lv_at hl 0 rfl) ?_
                              refine lv_iconst (v := 4) hx hb dX3_lay_155 (by decide) ?_
                              refine lv_icmp_ge (tgt := 189) hx hb dX3_lay_156 (by decide) (fun c_156 => ?_) (fun c_156 => ?_)
                              · exact absurd c_156 (nI_ge (a := i) (b := 4) (by omega) (by omega))
                              · skip
                                refine lv_aload_n hx hb dX3_lay_159 rfl (lv_at hl 2 rfl) ?_
                                refine va_get (D := (dC, dI)) (ci := 3) (v := .ref qi) (C := RX3) (T := TX3) (N := 17) hx hb hts (by decide +kernel) hown hK hP 0 rfl rfl 15 (by decide) (hts (.fieldLink RX3 29 "HouseLogModel" "laid" "[I") (by decide +kernel)) (fun _ h9 => h9) rfl dX3_lay_160 ?_
                                refine lv_iload_n hx hb dX3_lay_163 rfl (lv_at hl 1 rfl) ?_
                                refine lv_iload_n hx hb dX3_lay_164 rfl (lv_at hl 0 rfl) ?_
                                refine lv_iadd hx hb dX3_lay_165 ?_
                                rw [show ((nI (6 + (lz Ln k))) + (nI i) : Int32) = nI (6 + (lz Ln k) + i) from nI_add (6 + (lz Ln k)) i]
                                refine lv_aload_n hx hb dX3_lay_166 rfl (lv_at hl 2 rfl) ?_
                                refine va_get (D := (dC, dI)) (ci := 3) (v := .int (smL (l3L K Ln By La k) (6 + lz Ln k))) (C := RX3) (T := TX3) (N := 17) hx hb hts (by decide +kernel) hown hK hP 0 rfl rfl 16 (by decide) (hts (.fieldLink RX3 39 "HouseLogModel" "sum" "I") (by decide +kernel)) (fun _ h9 => h9) rfl dX3_lay_167 ?_
                                refine lv_bipush (v := 24) hx hb dX3_lay_170 (by decide) ?_
                                refine lv_bipush (v := 8) hx hb dX3_lay_172 (by decide) ?_
                                refine lv_iload_n hx hb dX3_lay_174 rfl (lv_at hl 0 rfl) ?_
                                refine lv_imul hx hb dX3_lay_175 ?_
                                rw [show (8 * (nI i) : Int32) = nI (8 * i) from pk_mul 8 i]
                                refine lv_isub hx hb dX3_lay_176 ?_
                                rw [show (24 - (nI (8 * i)) : Int32) = nI (24 - (8 * i)) from pk_sub (a := 24) (b := (8 * i)) (by omega)]
                                refine lv_ishr hx hb dX3_lay_177 ?_
                                refine lv_sipush (v := 255) hx hb dX3_lay_178 (by decide) ?_
                                refine lv_iand hx hb dX3_lay_181 ?_
                                refine va_iast hx hb hK hP hD hS 4 3 rfl rfl (i := nI (6 + (lz Ln k) + i)) (vp_in_nI (n := 6 + (lz Ln k) + i) (by omega) (by decide)) dX3_lay_182 (fun H locs hP hD hS => ?_)
                                rw [show (nI (6 + (lz Ln k) + i) : Int32).toNatClampNeg = 6 + (lz Ln k) + i from nI_clamp (by omega)] at hP hD
                                have hP : va_P (dC, dI) hlCl [(qm, .inr (3, [.int th, .int (nI n), .ref qd, .int rw, .int ak, .ref qk, .ref ql, .ref qy, .int cb, .ref qc, .int dn, .int kp, .int tr, .int md, .int wr, .ref qi, .int (smL (l3L K Ln By La k) (6 + lz Ln k))])), (qk, .inl (cAk, 64, .inl K)), (ql, .inl (cAl, 64, .inl Ln)), (qy, .inl (cAy, 2560, .inl By)), (qi, .inl (cAi, 64, .inl (upd (sbL (l3L K Ln By La k) (smL (l3L K Ln By La k) (6 + lz Ln k)) (6 + lz Ln k) i) (6 + (lz Ln k) + i) (((smL (l3L K Ln By La k) (6 + lz Ln k)) >>> ((nI (24 - (8 * i))) &&& 31)) &&& 255))))] H := hP
                                have hD : va_D A [(qm, .inr (3, [.int th, .int (nI n), .ref qd, .int rw, .int ak, .ref qk, .ref ql, .ref qy, .int cb, .ref qc, .int dn, .int kp, .int tr, .int md, .int wr, .ref qi, .int (smL (l3L K Ln By La k) (6 + lz Ln k))])), (qk, .inl (cAk, 64, .inl K)), (ql, .inl (cAl, 64, .inl Ln)), (qy, .inl (cAy, 2560, .inl By)), (qi, .inl (cAi, 64, .inl (upd (sbL (l3L K Ln By La k) (smL (l3L K Ln By La k) (6 + lz Ln k)) (6 + lz Ln k) i) (6 + (lz Ln k) + i) (((smL (l3L K Ln By La k) (6 + lz Ln k)) >>> ((nI (24 - (8 * i))) &&& 31)) &&& 255))))] := hD
                                refine lv_iinc (v := nI (i + 1)) (lv' := [(3, .int (nI (i + 1))), (2, .int (nI (6 + (lz Ln k)))), (0, .ref qm), (1, .int (nI k))]) hx hb dX3_lay_183 hl (k := 0) rfl (nI_add i 1) (by decide) rfl (fun ls hl => ?_)
                                refine lv_goto (tgt := 154) hx hb dX3_lay_186 (by decide) ?_
                                exact ih (i + 1) H locs ls (by omega)  hP hD hS (lv_sub hl [0, 1, 2, 3] rfl)
                          exact loopE 4 0 H locs ls (by omega)  hP hD hS (lv_sub hl [0, 1, 2, 3] rfl)
                        · exact absurd (nI_le (a := 6 + lz Ln k) (b := 6 + lz Ln k) (Nat.le_refl _) (by omega)) c_133
                      | succ k0 ih =>
                        intro i H locs ls hi hP hD hS hl
                        refine lv_iload_n hx hb dX3_lay_131 rfl (lv_at hl 0 rfl) ?_
                        refine lv_iload_n hx hb dX3_lay_132 rfl (lv_at hl 1 rfl) ?_
                        refine lv_icmp_ge (tgt := 152) hx hb dX3_lay_133 (by decide) (fun c_133 => ?_) (fun c_133 => ?_)
                        · exact absurd c_133 (nI_ge (a := i) (b := 6 + lz Ln k) (by omega) (by omega))
                        · skip
                          refine lv_aload_n hx hb dX3_lay_136 rfl (lv_at hl 2 rfl) ?_
                          refine lv_aload_n hx hb dX3_lay_137 rfl (lv_at hl 2 rfl) ?_
                          refine va_get (D := (dC, dI)) (ci := 3) (v := .ref qi) (C := RX3) (T := TX3) (N := 17) hx hb hts (by decide +kernel) hown hK hP 0 rfl rfl 15 (by decide) (hts (.fieldLink RX3 29 "HouseLogModel" "laid" "[I") (by decide +kernel)) (fun _ h9 => h9) rfl dX3_lay_138 ?_
                          refine lv_iload_n hx hb dX3_lay_141 rfl (lv_at hl 0 rfl) ?_
                          refine va_iald hx hb hK hP 4 3 rfl rfl (i := nI i) (vp_in_nI (n := i) (by omega) (by decide)) dX3_lay_142 ?_
                          refine W.eq (g2 := F0 m 143 ls (.int ((l3L K Ln By La k) i) :: .ref qm :: [])) (by rw [show (nI i : Int32).toNatClampNeg = i from nI_clamp (by omega)]) ?_
                          refine hc_vV (As := [.int ((l3L K Ln By La k) i)]) (rest := []) (wr := [(qk, .inl (cAk, 64, .inl K)), (ql, .inl (cAl, 64, .inl Ln)), (qy, .inl (cAy, 2560, .inl By)), (qi, .inl (cAi, 64, .inl (l3L K Ln By La k)))]) ⟨hx, hb, hml, hown, hts⟩ sx_T trivial (kX3_goOn l dC dI H.size qm qd qk ql qy qc qi n th rw ak cb dn kp tr md wr (smL (l3L K Ln By La k) i) ((l3L K Ln By La k) i) ) (cwV 1 hts gX3_lay_X3_goOn rfl rfl rfl (by decide +kernel) ⟨Nat.le_of_ble_eq_true rfl, Nat.le_of_ble_eq_true rfl⟩) hK hP hD hS hA [0] [1, 2, 3, 4] [] rfl rfl rfl rfl rfl (by decide) (ci := 3) rfl rfl rfl rfl hl.1 rfl (Nat.le_of_ble_eq_true rfl) dX3_lay_143 ⟨Nat.zero_le _, Nat.zero_le _⟩ (fun H locs hP hD hS => ?_)
                          have hP : va_P (dC, dI) hlCl [(qm, .inr (3, [.int th, .int (nI n), .ref qd, .int rw, .int ak, .ref qk, .ref ql, .ref qy, .int cb, .ref qc, .int dn, .int kp, .int tr, .int md, .int wr, .ref qi, .int (mixI (smL (l3L K Ln By La k) i) ((l3L K Ln By La k) i))])), (qk, .inl (cAk, 64, .inl K)), (ql, .inl (cAl, 64, .inl Ln)), (qy, .inl (cAy, 2560, .inl By)), (qi, .inl (cAi, 64, .inl (l3L K Ln By La k)))] H := hP.sub [4, 0, 1, 2, 3] rfl
                          have hD : va_D A [(qm, .inr (3, [.int th, .int (nI n), .ref qd, .int rw, .int ak, .ref qk, .ref ql, .ref qy, .int cb, .ref qc, .int dn, .int kp, .int tr, .int md, .int wr, .ref qi, .int (mixI (smL (l3L K Ln By La k) i) ((l3L K Ln By La k) i))])), (qk, .inl (cAk, 64, .inl K)), (ql, .inl (cAl, 64, .inl Ln)), (qy, .inl (cAy, 2560, .inl By)), (qi, .inl (cAi, 64, .inl (l3L K Ln By La k)))] := hD.sub [4, 0, 1, 2, 3] (by decide) rfl
                          refine lv_iinc (v := nI (i + 1)) (lv' := [(3, .int (nI (i + 1))), (2, .int (nI (6 + (lz Ln k)))), (0, .ref qm), (1, .int (nI k))]) hx hb dX3_lay_146 hl (k := 0) rfl (nI_add i 1) (by decide) rfl (fun ls hl => ?_)
                          refine lv_goto (tgt := 131) hx hb dX3_lay_149 (by decide) ?_
                          exact ih (i + 1) H locs ls (by omega)  hP hD hS (lv_sub hl [0, 1, 2, 3] rfl)
                    exact loopD (6 + lz Ln k) 0 H locs ls (by omega)  hP hD hS (lv_sub hl [0, 1, 2, 3] rfl)
                  · exact absurd (nI_le (a := lz Ln k) (b := lz Ln k) (Nat.le_refl _) (by omega)) c_86
                | succ k0 ih =>
                  intro i H locs ls hi hP hD hS hl
                  refine lv_iload_n hx hb dX3_lay_79 rfl (lv_at hl 0 rfl) ?_
                  refine lv_aload_n hx hb dX3_lay_80 rfl (lv_at hl 1 rfl) ?_
                  refine va_get (D := (dC, dI)) (ci := 3) (v := .ref ql) (C := RX3) (T := TX3) (N := 17) hx hb hts (by decide +kernel) hown hK hP 0 rfl rfl 6 (by decide) (hts (.fieldLink RX3 16 "HouseLogModel" "lengths" "[I") (by decide +kernel)) (fun _ h9 => h9) rfl dX3_lay_81 ?_
                  refine lv_iload_n hx hb dX3_lay_84 rfl (lv_at hl 2 rfl) ?_
                  refine va_iald hx hb hK hP 2 1 rfl rfl (i := nI k) (vp_in_nI (n := k) (by omega) (by decide)) dX3_lay_85 ?_
                  refine W.eq (g2 := F0 m 86 ls (.int (Ln k) :: .int (nI i) :: [])) (by rw [show (nI k : Int32).toNatClampNeg = k from nI_clamp (by omega)]) ?_
                  rw [hL]
                  refine lv_icmp_ge (tgt := 115) hx hb dX3_lay_86 (by decide) (fun c_86 => ?_) (fun c_86 => ?_)
                  · exact absurd c_86 (nI_ge (a := i) (b := lz Ln k) (by omega) (by omega))
                  · skip
                    refine lv_aload_n hx hb dX3_lay_89 rfl (lv_at hl 1 rfl) ?_
                    refine va_get (D := (dC, dI)) (ci := 3) (v := .ref qi) (C := RX3) (T := TX3) (N := 17) hx hb hts (by decide +kernel) hown hK hP 0 rfl rfl 15 (by decide) (hts (.fieldLink RX3 29 "HouseLogModel" "laid" "[I") (by decide +kernel)) (fun _ h9 => h9) rfl dX3_lay_90 ?_
                    refine lv_bipush (v := 6) hx hb dX3_lay_93 (by decide) ?_
                    refine lv_iload_n hx hb dX3_lay_95 rfl (lv_at hl 0 rfl) ?_
                    refine lv_iadd hx hb dX3_lay_96 ?_
                    rw [show (6 + (nI i) : Int32) = nI (6 + i) from nI_add 6 i]
                    refine lv_aload_n hx hb dX3_lay_97 rfl (lv_at hl 1 rfl) ?_
                    refine va_get (D := (dC, dI)) (ci := 3) (v := .ref qy) (C := RX3) (T := TX3) (N := 17) hx hb hts (by decide +kernel) hown hK hP 0 rfl rfl 7 (by decide) (hts (.fieldLink RX3 19 "HouseLogModel" "bytes" "[I") (by decide +kernel)) (fun _ h9 => h9) rfl dX3_lay_98 ?_
                    refine lv_bipush (v := 40) hx hb dX3_lay_101 (by decide) ?_
                    refine lv_iload_n hx hb dX3_lay_103 rfl (lv_at hl 2 rfl) ?_
                    refine lv_imul hx hb dX3_lay_104 ?_
                    rw [show (40 * (nI k) : Int32) = nI (40 * k) from pk_mul 40 k]
                    refine lv_iload_n hx hb dX3_lay_105 rfl (lv_at hl 0 rfl) ?_
                    refine lv_iadd hx hb dX3_lay_106 ?_
                    rw [show ((nI (40 * k)) + (nI i) : Int32) = nI (40 * k + i) from nI_add (40 * k) i]
                    refine va_iald hx hb hK hP 3 2 rfl rfl (i := nI (40 * k + i)) (vp_in_nI (n := 40 * k + i) (by omega) (by decide)) dX3_lay_107 ?_
                    refine W.eq (g2 := F0 m 108 ls (.int (By (40 * k + i)) :: .int (nI (6 + i)) :: .ref qi :: [])) (by rw [show (nI (40 * k + i) : Int32).toNatClampNeg = 40 * k + i from nI_clamp (by omega)]) ?_
                    refine va_iast hx hb hK hP hD hS 4 3 rfl rfl (i := nI (6 + i)) (vp_in_nI (n := 6 + i) (by omega) (by decide)) dX3_lay_108 (fun H locs hP hD hS => ?_)
                    rw [show (nI (6 + i) : Int32).toNatClampNeg = 6 + i from nI_clamp (by omega)] at hP hD
                    have hP : va_P (dC, dI) hlCl [(qm, .inr (3, [.int th, .int (nI n), .ref qd, .int rw, .int ak, .ref qk, .ref ql, .ref qy, .int cb, .ref qc, .int dn, .int kp, .int tr, .int md, .int wr, .ref qi, .int sm])), (qk, .inl (cAk, 64, .inl K)), (ql, .inl (cAl, 64, .inl Ln)), (qy, .inl (cAy, 2560, .inl By)), (qi, .inl (cAi, 64, .inl (upd (ybL (l2L K Ln La k) By k i) (6 + i) (By (40 * k + i)))))] H := hP
                    have hD : va_D A [(qm, .inr (3, [.int th, .int (nI n), .ref qd, .int rw, .int ak, .ref qk, .ref ql, .ref qy, .int cb, .ref qc, .int dn, .int kp, .int tr, .int md, .int wr, .ref qi, .int sm])), (qk, .inl (cAk, 64, .inl K)), (ql, .inl (cAl, 64, .inl Ln)), (qy, .inl (cAy, 2560, .inl By)), (qi, .inl (cAi, 64, .inl (upd (ybL (l2L K Ln La k) By k i) (6 + i) (By (40 * k + i)))))] := hD
                    refine lv_iinc (v := nI (i + 1)) (lv' := [(2, .int (nI (i + 1))), (0, .ref qm), (1, .int (nI k))]) hx hb dX3_lay_109 hl (k := 0) rfl (nI_add i 1) (by decide) rfl (fun ls hl => ?_)
                    refine lv_goto (tgt := 79) hx hb dX3_lay_112 (by decide) ?_
                    exact ih (i + 1) H locs ls (by omega)  hP hD hS (lv_sub hl [0, 1, 2] rfl)
              exact loopC (lz Ln k) 0 H locs ls (by omega)  hP hD hS (lv_sub hl [0, 1, 2] rfl)
            · exact absurd (nI_le (a := 4) (b := 4) (Nat.le_refl _) (by omega)) c_25
          | succ k0 ih =>
            intro i H locs ls hi hP hD hS hl
            refine lv_iload_n hx hb dX3_lay_23 rfl (lv_at hl 0 rfl) ?_
            refine lv_iconst (v := 4) hx hb dX3_lay_24 (by decide) ?_
            refine lv_icmp_ge (tgt := 53) hx hb dX3_lay_25 (by decide) (fun c_25 => ?_) (fun c_25 => ?_)
            · exact absurd c_25 (nI_ge (a := i) (b := 4) (by omega) (by omega))
            · skip
              refine lv_aload_n hx hb dX3_lay_28 rfl (lv_at hl 1 rfl) ?_
              refine va_get (D := (dC, dI)) (ci := 3) (v := .ref qi) (C := RX3) (T := TX3) (N := 17) hx hb hts (by decide +kernel) hown hK hP 0 rfl rfl 15 (by decide) (hts (.fieldLink RX3 29 "HouseLogModel" "laid" "[I") (by decide +kernel)) (fun _ h9 => h9) rfl dX3_lay_29 ?_
              refine lv_iload_n hx hb dX3_lay_32 rfl (lv_at hl 0 rfl) ?_
              refine lv_iload_n hx hb dX3_lay_33 rfl (lv_at hl 2 rfl) ?_
              refine lv_bipush (v := 24) hx hb dX3_lay_34 (by decide) ?_
              refine lv_bipush (v := 8) hx hb dX3_lay_36 (by decide) ?_
              refine lv_iload_n hx hb dX3_lay_38 rfl (lv_at hl 0 rfl) ?_
              refine lv_imul hx hb dX3_lay_39 ?_
              rw [show (8 * (nI i) : Int32) = nI (8 * i) from pk_mul 8 i]
              refine lv_isub hx hb dX3_lay_40 ?_
              rw [show (24 - (nI (8 * i)) : Int32) = nI (24 - (8 * i)) from pk_sub (a := 24) (b := (8 * i)) (by omega)]
              refine lv_ishr hx hb dX3_lay_41 ?_
              refine lv_sipush (v := 255) hx hb dX3_lay_42 (by decide) ?_
              refine lv_iand hx hb dX3_lay_45 ?_
              refine va_iast hx hb hK hP hD hS 4 3 rfl rfl (i := nI i) (vp_in_nI (n := i) (by omega) (by decide)) dX3_lay_46 (fun H locs hP hD hS => ?_)
              rw [show (nI i : Int32).toNatClampNeg = i from nI_clamp (by omega)] at hP hD
              have hP : va_P (dC, dI) hlCl [(qm, .inr (3, [.int th, .int (nI n), .ref qd, .int rw, .int ak, .ref qk, .ref ql, .ref qy, .int cb, .ref qc, .int dn, .int kp, .int tr, .int md, .int wr, .ref qi, .int sm])), (qk, .inl (cAk, 64, .inl K)), (ql, .inl (cAl, 64, .inl Ln)), (qy, .inl (cAy, 2560, .inl By)), (qi, .inl (cAi, 64, .inl (upd (nbL (zfL La 64) k i) i (((nI k) >>> ((nI (24 - (8 * i))) &&& 31)) &&& 255))))] H := hP
              have hD : va_D A [(qm, .inr (3, [.int th, .int (nI n), .ref qd, .int rw, .int ak, .ref qk, .ref ql, .ref qy, .int cb, .ref qc, .int dn, .int kp, .int tr, .int md, .int wr, .ref qi, .int sm])), (qk, .inl (cAk, 64, .inl K)), (ql, .inl (cAl, 64, .inl Ln)), (qy, .inl (cAy, 2560, .inl By)), (qi, .inl (cAi, 64, .inl (upd (nbL (zfL La 64) k i) i (((nI k) >>> ((nI (24 - (8 * i))) &&& 31)) &&& 255))))] := hD
              refine lv_iinc (v := nI (i + 1)) (lv' := [(2, .int (nI (i + 1))), (0, .ref qm), (1, .int (nI k))]) hx hb dX3_lay_47 hl (k := 0) rfl (nI_add i 1) (by decide) rfl (fun ls hl => ?_)
              refine lv_goto (tgt := 23) hx hb dX3_lay_50 (by decide) ?_
              exact ih (i + 1) H locs ls (by omega)  hP hD hS (lv_sub hl [0, 1, 2] rfl)
        exact loopB 4 0 H locs ls (by omega)  hP hD hS (lv_sub hl [0, 1, 2] rfl)
      · exact absurd (nI_le (a := 64) (b := 64) (Nat.le_refl _) (by omega)) c_5
    | succ k0 ih =>
      intro i H locs ls hi hP hD hS hl
      refine lv_iload_n hx hb dX3_lay_2 rfl (lv_at hl 0 rfl) ?_
      refine lv_bipush (v := 64) hx hb dX3_lay_3 (by decide) ?_
      refine lv_icmp_ge (tgt := 21) hx hb dX3_lay_5 (by decide) (fun c_5 => ?_) (fun c_5 => ?_)
      · exact absurd c_5 (nI_ge (a := i) (b := 64) (by omega) (by omega))
      · skip
        refine lv_aload_n hx hb dX3_lay_8 rfl (lv_at hl 1 rfl) ?_
        refine va_get (D := (dC, dI)) (ci := 3) (v := .ref qi) (C := RX3) (T := TX3) (N := 17) hx hb hts (by decide +kernel) hown hK hP 0 rfl rfl 15 (by decide) (hts (.fieldLink RX3 29 "HouseLogModel" "laid" "[I") (by decide +kernel)) (fun _ h9 => h9) rfl dX3_lay_9 ?_
        refine lv_iload_n hx hb dX3_lay_12 rfl (lv_at hl 0 rfl) ?_
        refine lv_iconst (v := 0) hx hb dX3_lay_13 (by decide) ?_
        refine va_iast hx hb hK hP hD hS 4 3 rfl rfl (i := nI i) (vp_in_nI (n := i) (by omega) (by decide)) dX3_lay_14 (fun H locs hP hD hS => ?_)
        rw [show (nI i : Int32).toNatClampNeg = i from nI_clamp (by omega)] at hP hD
        have hP : va_P (dC, dI) hlCl [(qm, .inr (3, [.int th, .int (nI n), .ref qd, .int rw, .int ak, .ref qk, .ref ql, .ref qy, .int cb, .ref qc, .int dn, .int kp, .int tr, .int md, .int wr, .ref qi, .int sm])), (qk, .inl (cAk, 64, .inl K)), (ql, .inl (cAl, 64, .inl Ln)), (qy, .inl (cAy, 2560, .inl By)), (qi, .inl (cAi, 64, .inl (upd (zfL La i) i 0)))] H := hP
        have hD : va_D A [(qm, .inr (3, [.int th, .int (nI n), .ref qd, .int rw, .int ak, .ref qk, .ref ql, .ref qy, .int cb, .ref qc, .int dn, .int kp, .int tr, .int md, .int wr, .ref qi, .int sm])), (qk, .inl (cAk, 64, .inl K)), (ql, .inl (cAl, 64, .inl Ln)), (qy, .inl (cAy, 2560, .inl By)), (qi, .inl (cAi, 64, .inl (upd (zfL La i) i 0)))] := hD
        refine lv_iinc (v := nI (i + 1)) (lv' := [(2, .int (nI (i + 1))), (0, .ref qm), (1, .int (nI k))]) hx hb dX3_lay_15 hl (k := 0) rfl (nI_add i 1) (by decide) rfl (fun ls hl => ?_)
        refine lv_goto (tgt := 2) hx hb dX3_lay_18 (by decide) ?_
        exact ih (i + 1) H locs ls (by omega)  hP hD hS (lv_sub hl [0, 1, 2] rfl)
  exact loopA 64 0 H locs ls (by omega)  hP hD hS (lv_sub hl [0, 1, 2] rfl)

def rtR (D : Nat → Int32) (u k : Nat) : Int32 := (if (foI D (4096 * u + 64 * k)) = (nI k) then (if (inI (D (4096 * u + 64 * k + 4)) 1 9) = 0 then 0 else (if (nI (lz D (4096 * u + 64 * k + 5))) ≤ 40 then (if (foI D (4096 * u + 64 * k + 6 + (lz D (4096 * u + 64 * k + 5)))) = (smA D (4096 * u + 64 * k) (6 + lz D (4096 * u + 64 * k + 5))) then 1 else 0) else 0)) else 0)
def srR (sm : Int32) (D : Nat → Int32) (u k : Nat) : Int32 := (if (foI D (4096 * u + 64 * k)) = (nI k) then (if (inI (D (4096 * u + 64 * k + 4)) 1 9) = 0 then sm else (if (nI (lz D (4096 * u + 64 * k + 5))) ≤ 40 then smA D (4096 * u + 64 * k) (6 + lz D (4096 * u + 64 * k + 5)) else sm)) else sm)
set_option maxHeartbeats 4000000 in
set_option maxRecDepth 100000 in
theorem kX3_isRight (l : Launch) (dC : Nat → ClassId) (dI : Nat → Nat → Nat) (sz : Nat) (qm qd qk ql qy qc qi : Nat) (n : Nat) (cAd : ClassId) (th rw ak cb dn kp tr md wr sm : Int32) (D : Nat → Int32) (u k : Nat) (hu : u ≤ 1) (hk : k < 64) (h5 : D (4096 * u + 64 * k + 5) = nI (lz D (4096 * u + 64 * k + 5))) (h52 : lz D (4096 * u + 64 * k + 5) < 256) : Mi_ l yX3_isRight wsX3_isRight 1 24 dC dI (fun _ => True) [.ref qm, .int (nI u), .int (nI k)] [(qm, .inr (3, [.int th, .int (nI n), .ref qd, .int rw, .int ak, .ref qk, .ref ql, .ref qy, .int cb, .ref qc, .int dn, .int kp, .int tr, .int md, .int wr, .ref qi, .int sm])), (qd, .inl (cAd, 8192, .inl D))] [(cAd, .int)] sz (rtR D u k) [(qm, .inr (3, [.int th, .int (nI n), .ref qd, .int rw, .int ak, .ref qk, .ref ql, .ref qy, .int cb, .ref qc, .int dn, .int kp, .int tr, .int md, .int wr, .ref qi, .int (srR sm D u k)])), (qd, .inl (cAd, 8192, .inl D))] := by
  refine hm_ (cc := cX3_isRight) (maxL := 6) (ret := (some .boolean)) (Qc := fun A => va_Qi (fun (r9 : Int32) (_ : Unit) => r9 = rtR D u k) (fun _ t9 => qw_ dC dI A [(qm, .inr (3, [.int th, .int (nI n), .ref qd, .int rw, .int ak, .ref qk, .ref ql, .ref qy, .int cb, .ref qc, .int dn, .int kp, .int tr, .int md, .int wr, .ref qi, .int (srR sm D u k)])), (qd, .inl (cAd, 8192, .inl D))] [(cAd, .int)] t9) A) (by decide) rfl (Nat.le_of_ble_eq_true rfl) ?_
  intro p e s m below meth c A H locs ls hx hb hr hml hts hown hlocks hsz hP hK hD hE hA hS hl
  have hl : lv_has ls 6 [(0, .ref qm), (1, .int (nI u)), (2, .int (nI k))] := hl
  have hown : s.vm.findClass RX3 = some m.cls := hown
  refine lv_aload_n hx hb dX3_isRight_0 rfl (lv_at hl 0 rfl) ?_
  refine lv_iload_n hx hb dX3_isRight_1 rfl (lv_at hl 1 rfl) ?_
  refine lv_iload_n hx hb dX3_isRight_2 rfl (lv_at hl 2 rfl) ?_
  refine hc_iV (As := [.int (nI u), .int (nI k)]) (rest := []) (wr := [(qd, .inl (cAd, 8192, .inl D))]) ⟨hx, hb, hml, hown, hts⟩ sx_T trivial (kX3_from l dC dI H.size qm qd qk ql qy qc qi n th rw ak cb dn kp tr md wr sm u k ) (cwV 2 hts gX3_isRight_X3_from rfl rfl rfl (by decide +kernel) ⟨Nat.le_of_ble_eq_true rfl, Nat.le_of_ble_eq_true rfl⟩) hK hP hD hS hA [0] [1] [] rfl rfl rfl rfl rfl (by decide) (ci := 3) rfl rfl rfl rfl hl.1 rfl (Nat.le_of_ble_eq_true rfl) dX3_isRight_3 ⟨Nat.zero_le _, Nat.zero_le _⟩ (fun H locs hP hD hS => ?_)
  have hP : va_P (dC, dI) hlCl [(qm, .inr (3, [.int th, .int (nI n), .ref qd, .int rw, .int ak, .ref qk, .ref ql, .ref qy, .int cb, .ref qc, .int dn, .int kp, .int tr, .int md, .int wr, .ref qi, .int sm])), (qd, .inl (cAd, 8192, .inl D))] H := hP.sub [1, 0] rfl
  have hD : va_D A [(qm, .inr (3, [.int th, .int (nI n), .ref qd, .int rw, .int ak, .ref qk, .ref ql, .ref qy, .int cb, .ref qc, .int dn, .int kp, .int tr, .int md, .int wr, .ref qi, .int sm])), (qd, .inl (cAd, 8192, .inl D))] := hD.sub [1, 0] (by decide) rfl
  refine lv_istore_n (lv' := [(3, .int (nI (4096 * u + 64 * k))), (0, .ref qm), (1, .int (nI u)), (2, .int (nI k))]) hx hb dX3_isRight_6 rfl hl (by decide) rfl (fun ls hl => ?_)
  refine lv_aload_n hx hb dX3_isRight_7 rfl (lv_at hl 1 rfl) ?_
  refine va_get (D := (dC, dI)) (ci := 3) (v := .ref qd) (C := RX3) (T := TX3) (N := 17) hx hb hts (by decide +kernel) hown hK hP 0 rfl rfl 2 (by decide) (hts (.fieldLink RX3 7 "HouseLogModel" "disk" "[I") (by decide +kernel)) (fun _ h9 => h9) rfl dX3_isRight_8 ?_
  refine lv_iload_n hx hb dX3_isRight_11 rfl (lv_at hl 0 rfl) ?_
  refine lv_iconst (v := 5) hx hb dX3_isRight_12 (by decide) ?_
  refine lv_iadd hx hb dX3_isRight_13 ?_
  rw [show ((nI (4096 * u + 64 * k)) + 5 : Int32) = nI (4096 * u + 64 * k + 5) from nI_add (4096 * u + 64 * k) 5]
  refine va_iald hx hb hK hP 1 0 rfl rfl (i := nI (4096 * u + 64 * k + 5)) (vp_in_nI (n := 4096 * u + 64 * k + 5) (by omega) (by decide)) dX3_isRight_14 ?_
  refine W.eq (g2 := F0 m 15 ls (.int (D (4096 * u + 64 * k + 5)) :: [])) (by rw [show (nI (4096 * u + 64 * k + 5) : Int32).toNatClampNeg = 4096 * u + 64 * k + 5 from nI_clamp (by omega)]) ?_
  rw [h5]
  refine lv_istore (lv' := [(4, .int (nI (lz D (4096 * u + 64 * k + 5)))), (3, .int (nI (4096 * u + 64 * k))), (0, .ref qm), (1, .int (nI u)), (2, .int (nI k))]) hx hb dX3_isRight_15 hl (by decide) rfl (fun ls hl => ?_)
  refine lv_aload_n hx hb dX3_isRight_17 rfl (lv_at hl 2 rfl) ?_
  refine lv_iload_n hx hb dX3_isRight_18 rfl (lv_at hl 1 rfl) ?_
  refine hc_iV (As := [.int (nI (4096 * u + 64 * k))]) (rest := []) (wr := []) ⟨hx, hb, hml, hown, hts⟩ sx_T trivial (kX3_four l dC dI H.size qm qd qk ql qy qc qi n cAd th rw ak cb dn kp tr md wr sm D (4096 * u + 64 * k) (by omega)) (cwV 1 hts gX3_isRight_X3_four rfl rfl rfl (by decide +kernel) ⟨Nat.le_of_ble_eq_true rfl, Nat.le_of_ble_eq_true rfl⟩) hK hP hD hS hA [0, 1] [] [0] rfl rfl rfl rfl rfl (by decide) (ci := 3) rfl rfl rfl rfl hl.1 rfl (Nat.le_of_ble_eq_true rfl) dX3_isRight_19 ⟨Nat.zero_le _, Nat.zero_le _⟩ (fun H locs hP hD hS => ?_)
  have hP : va_P (dC, dI) hlCl [(qm, .inr (3, [.int th, .int (nI n), .ref qd, .int rw, .int ak, .ref qk, .ref ql, .ref qy, .int cb, .ref qc, .int dn, .int kp, .int tr, .int md, .int wr, .ref qi, .int sm])), (qd, .inl (cAd, 8192, .inl D))] H := hP
  have hD : va_D A [(qm, .inr (3, [.int th, .int (nI n), .ref qd, .int rw, .int ak, .ref qk, .ref ql, .ref qy, .int cb, .ref qc, .int dn, .int kp, .int tr, .int md, .int wr, .ref qi, .int sm])), (qd, .inl (cAd, 8192, .inl D))] := hD
  refine lv_iload_n hx hb dX3_isRight_22 rfl (lv_at hl 4 rfl) ?_
  refine lv_icmp_ne (tgt := 50) hx hb dX3_isRight_23 (by decide) (fun c_23 => ?_) (fun c_23 => ?_)
  · skip
    refine lv_iconst (v := 0) hx hb dX3_isRight_50 (by decide) ?_
    exact hr_z (v := 0) hx hb hr hlocks (by decide) (w1 := [(qm, .inr (3, [.int th, .int (nI n), .ref qd, .int rw, .int ak, .ref qk, .ref ql, .ref qy, .int cb, .ref qc, .int dn, .int kp, .int tr, .int md, .int wr, .ref qi, .int sm])), (qd, .inl (cAd, 8192, .inl D))]) hP hD hK hS [0, 1] [0] rfl rfl rfl (by simp only [rtR, if_neg c_23] <;> rfl) (by simp only [rtR, srR, if_neg c_23] <;> rfl) dX3_isRight_51
  · skip
    refine lv_aload_n hx hb dX3_isRight_26 rfl (lv_at hl 2 rfl) ?_
    refine va_get (D := (dC, dI)) (ci := 3) (v := .ref qd) (C := RX3) (T := TX3) (N := 17) hx hb hts (by decide +kernel) hown hK hP 0 rfl rfl 2 (by decide) (hts (.fieldLink RX3 7 "HouseLogModel" "disk" "[I") (by decide +kernel)) (fun _ h9 => h9) rfl dX3_isRight_27 ?_
    refine lv_iload_n hx hb dX3_isRight_30 rfl (lv_at hl 1 rfl) ?_
    refine lv_iconst (v := 4) hx hb dX3_isRight_31 (by decide) ?_
    refine lv_iadd hx hb dX3_isRight_32 ?_
    rw [show ((nI (4096 * u + 64 * k)) + 4 : Int32) = nI (4096 * u + 64 * k + 4) from nI_add (4096 * u + 64 * k) 4]
    refine va_iald hx hb hK hP 1 0 rfl rfl (i := nI (4096 * u + 64 * k + 4)) (vp_in_nI (n := 4096 * u + 64 * k + 4) (by omega) (by decide)) dX3_isRight_33 ?_
    refine W.eq (g2 := F0 m 34 ls (.int (D (4096 * u + 64 * k + 4)) :: [])) (by rw [show (nI (4096 * u + 64 * k + 4) : Int32).toNatClampNeg = 4096 * u + 64 * k + 4 from nI_clamp (by omega)]) ?_
    refine lv_iconst (v := 1) hx hb dX3_isRight_34 (by decide) ?_
    refine lv_bipush (v := 9) hx hb dX3_isRight_35 (by decide) ?_
    refine hc_iS (As := [.int (D (4096 * u + 64 * k + 4)), .int 1, .int 9]) (rest := []) ⟨hx, hb, hml, hown, hts⟩ sx_T trivial (kX3_in l dC dI H.size (D (4096 * u + 64 * k + 4)) 1 9 ) (va_cwS 3 hts gX3_isRight_X3_in rfl rfl rfl (by decide +kernel) ⟨Nat.le_of_ble_eq_true rfl, Nat.le_of_ble_eq_true rfl⟩) hK hP hD hS hA [0, 1] rfl rfl rfl hl.1 rfl (Nat.le_of_ble_eq_true rfl) dX3_isRight_37 ⟨Nat.zero_le _, Nat.zero_le _⟩ (fun H locs hP hD hS => ?_)
    refine lv_if_eq (tgt := 50) hx hb dX3_isRight_40 (by decide) (fun c_40 => ?_) (fun c_40 => ?_)
    · skip
      refine lv_iconst (v := 0) hx hb dX3_isRight_50 (by decide) ?_
      exact hr_z (v := 0) hx hb hr hlocks (by decide) (w1 := [(qm, .inr (3, [.int th, .int (nI n), .ref qd, .int rw, .int ak, .ref qk, .ref ql, .ref qy, .int cb, .ref qc, .int dn, .int kp, .int tr, .int md, .int wr, .ref qi, .int sm])), (qd, .inl (cAd, 8192, .inl D))]) hP hD hK hS [0, 1] [0] rfl rfl rfl (by simp only [rtR, if_pos c_23, if_pos c_40] <;> rfl) (by simp only [rtR, srR, if_pos c_23, if_pos c_40] <;> rfl) dX3_isRight_51
    · skip
      refine lv_iload hx hb dX3_isRight_43 (lv_at hl 0 rfl) ?_
      refine lv_bipush (v := 40) hx hb dX3_isRight_45 (by decide) ?_
      refine lv_icmp_le (tgt := 52) hx hb dX3_isRight_47 (by decide) (fun c_47 => ?_) (fun c_47 => ?_)
      · skip
        have hl40 : lz D (4096 * u + 64 * k + 5) ≤ 40 := (nI_leI (b := 40) (by omega) (by decide)).mp c_47
        refine lv_aload_n hx hb dX3_isRight_52 rfl (lv_at hl 2 rfl) ?_
        refine hc_vV (As := []) (rest := []) (wr := [(qd, .inl (cAd, 8192, .inl D))]) ⟨hx, hb, hml, hown, hts⟩ sx_T trivial (kX3_begin l dC dI H.size qm qd qk ql qy qc qi n th rw ak cb dn kp tr md wr sm ) (cwV 0 hts gX3_isRight_X3_begin rfl rfl rfl (by decide +kernel) ⟨Nat.le_of_ble_eq_true rfl, Nat.le_of_ble_eq_true rfl⟩) hK hP hD hS hA [0] [1] [] rfl rfl rfl rfl rfl (by decide) (ci := 3) rfl rfl rfl rfl hl.1 rfl (Nat.le_of_ble_eq_true rfl) dX3_isRight_53 ⟨Nat.zero_le _, Nat.zero_le _⟩ (fun H locs hP hD hS => ?_)
        have hP : va_P (dC, dI) hlCl [(qm, .inr (3, [.int th, .int (nI n), .ref qd, .int rw, .int ak, .ref qk, .ref ql, .ref qy, .int cb, .ref qc, .int dn, .int kp, .int tr, .int md, .int wr, .ref qi, .int (-1756908916)])), (qd, .inl (cAd, 8192, .inl D))] H := hP.sub [1, 0] rfl
        have hD : va_D A [(qm, .inr (3, [.int th, .int (nI n), .ref qd, .int rw, .int ak, .ref qk, .ref ql, .ref qy, .int cb, .ref qc, .int dn, .int kp, .int tr, .int md, .int wr, .ref qi, .int (-1756908916)])), (qd, .inl (cAd, 8192, .inl D))] := hD.sub [1, 0] (by decide) rfl
        refine lv_iconst (v := 0) hx hb dX3_isRight_56 (by decide) ?_
        refine lv_istore (lv' := [(5, .int 0), (4, .int (nI (lz D (4096 * u + 64 * k + 5)))), (3, .int (nI (4096 * u + 64 * k))), (0, .ref qm), (1, .int (nI u)), (2, .int (nI k))]) hx hb dX3_isRight_57 hl (by decide) rfl (fun ls hl => ?_)
        have loop : ∀ (k0 i : Nat) (H : Heap) (locs : List Loc) (ls : Array Slot), (i + k0 = 6 + lz D (4096 * u + 64 * k + 5)) → va_P (dC, dI) hlCl [(qm, .inr (3, [.int th, .int (nI n), .ref qd, .int rw, .int ak, .ref qk, .ref ql, .ref qy, .int cb, .ref qc, .int dn, .int kp, .int tr, .int md, .int wr, .ref qi, .int (smA D (4096 * u + 64 * k) i)])), (qd, .inl (cAd, 8192, .inl D))] H → va_D A [(qm, .inr (3, [.int th, .int (nI n), .ref qd, .int rw, .int ak, .ref qk, .ref ql, .ref qy, .int cb, .ref qc, .int dn, .int kp, .int tr, .int md, .int wr, .ref qi, .int (smA D (4096 * u + 64 * k) i)])), (qd, .inl (cAd, 8192, .inl D))] → va_S A s.heap H locs → lv_has ls 6 [(5, .int (nI i)), (4, .int (nI (lz D (4096 * u + 64 * k + 5)))), (3, .int (nI (4096 * u + 64 * k))), (0, .ref qm), (1, .int (nI u)), (2, .int (nI k))] → W p l e (rm_ 1 24) s m [.ref qm, .int (nI u), .int (nI k)].toArray below meth c H locs 0 0 (MQ below ((fun A => va_Qi (fun (r9 : Int32) (_ : Unit) => r9 = rtR D u k) (fun _ t9 => qw_ dC dI A [(qm, .inr (3, [.int th, .int (nI n), .ref qd, .int rw, .int ak, .ref qk, .ref ql, .ref qy, .int cb, .ref qc, .int dn, .int kp, .int tr, .int md, .int wr, .ref qi, .int (srR sm D u k)])), (qd, .inl (cAd, 8192, .inl D))] [(cAd, .int)] t9) A) A) [.ref qm, .int (nI u), .int (nI k)].toArray s 0 0 A) (F0 m 59 ls []) := by
          intro k0
          induction k0 with
          | zero =>
            intro i H locs ls hi hP hD hS hl
            obtain rfl : 6 + lz D (4096 * u + 64 * k + 5) = i := by omega
            refine lv_iload hx hb dX3_isRight_59 (lv_at hl 0 rfl) ?_
            refine lv_bipush (v := 6) hx hb dX3_isRight_61 (by decide) ?_
            refine lv_iload hx hb dX3_isRight_63 (lv_at hl 1 rfl) ?_
            refine lv_iadd hx hb dX3_isRight_65 ?_
            rw [show (6 + (nI (lz D (4096 * u + 64 * k + 5))) : Int32) = nI (6 + (lz D (4096 * u + 64 * k + 5))) from nI_add 6 (lz D (4096 * u + 64 * k + 5))]
            refine lv_icmp_ge (tgt := 88) hx hb dX3_isRight_66 (by decide) (fun c_66 => ?_) (fun c_66 => ?_)
            · skip
              refine lv_aload_n hx hb dX3_isRight_88 rfl (lv_at hl 3 rfl) ?_
              refine lv_iload_n hx hb dX3_isRight_89 rfl (lv_at hl 2 rfl) ?_
              refine lv_bipush (v := 6) hx hb dX3_isRight_90 (by decide) ?_
              refine lv_iadd hx hb dX3_isRight_92 ?_
              rw [show ((nI (4096 * u + 64 * k)) + 6 : Int32) = nI (4096 * u + 64 * k + 6) from nI_add (4096 * u + 64 * k) 6]
              refine lv_iload hx hb dX3_isRight_93 (lv_at hl 1 rfl) ?_
              refine lv_iadd hx hb dX3_isRight_95 ?_
              rw [show ((nI (4096 * u + 64 * k + 6)) + (nI (lz D (4096 * u + 64 * k + 5))) : Int32) = nI (4096 * u + 64 * k + 6 + (lz D (4096 * u + 64 * k + 5))) from nI_add (4096 * u + 64 * k + 6) (lz D (4096 * u + 64 * k + 5))]
              refine hc_iV (As := [.int (nI (4096 * u + 64 * k + 6 + (lz D (4096 * u + 64 * k + 5))))]) (rest := []) (wr := []) ⟨hx, hb, hml, hown, hts⟩ sx_T trivial (kX3_four l dC dI H.size qm qd qk ql qy qc qi n cAd th rw ak cb dn kp tr md wr (smA D (4096 * u + 64 * k) (6 + lz D (4096 * u + 64 * k + 5))) D (4096 * u + 64 * k + 6 + (lz D (4096 * u + 64 * k + 5))) (by omega)) (cwV 1 hts gX3_isRight_X3_four rfl rfl rfl (by decide +kernel) ⟨Nat.le_of_ble_eq_true rfl, Nat.le_of_ble_eq_true rfl⟩) hK hP hD hS hA [0, 1] [] [0] rfl rfl rfl rfl rfl (by decide) (ci := 3) rfl rfl rfl rfl hl.1 rfl (Nat.le_of_ble_eq_true rfl) dX3_isRight_96 ⟨Nat.zero_le _, Nat.zero_le _⟩ (fun H locs hP hD hS => ?_)
              have hP : va_P (dC, dI) hlCl [(qm, .inr (3, [.int th, .int (nI n), .ref qd, .int rw, .int ak, .ref qk, .ref ql, .ref qy, .int cb, .ref qc, .int dn, .int kp, .int tr, .int md, .int wr, .ref qi, .int (smA D (4096 * u + 64 * k) (6 + lz D (4096 * u + 64 * k + 5)))])), (qd, .inl (cAd, 8192, .inl D))] H := hP
              have hD : va_D A [(qm, .inr (3, [.int th, .int (nI n), .ref qd, .int rw, .int ak, .ref qk, .ref ql, .ref qy, .int cb, .ref qc, .int dn, .int kp, .int tr, .int md, .int wr, .ref qi, .int (smA D (4096 * u + 64 * k) (6 + lz D (4096 * u + 64 * k + 5)))])), (qd, .inl (cAd, 8192, .inl D))] := hD
              refine lv_aload_n hx hb dX3_isRight_99 rfl (lv_at hl 3 rfl) ?_
              refine va_get (D := (dC, dI)) (ci := 3) (v := .int (smA D (4096 * u + 64 * k) (6 + lz D (4096 * u + 64 * k + 5)))) (C := RX3) (T := TX3) (N := 17) hx hb hts (by decide +kernel) hown hK hP 0 rfl rfl 16 (by decide) (hts (.fieldLink RX3 39 "HouseLogModel" "sum" "I") (by decide +kernel)) (fun _ h9 => h9) rfl dX3_isRight_100 ?_
              refine lv_icmp_ne (tgt := 110) hx hb dX3_isRight_103 (by decide) (fun c_103 => ?_) (fun c_103 => ?_)
              · skip
                refine lv_iconst (v := 0) hx hb dX3_isRight_110 (by decide) ?_
                exact hr_z (v := 0) hx hb hr hlocks (by decide) (w1 := [(qm, .inr (3, [.int th, .int (nI n), .ref qd, .int rw, .int ak, .ref qk, .ref ql, .ref qy, .int cb, .ref qc, .int dn, .int kp, .int tr, .int md, .int wr, .ref qi, .int (smA D (4096 * u + 64 * k) (6 + lz D (4096 * u + 64 * k + 5)))])), (qd, .inl (cAd, 8192, .inl D))]) hP hD hK hS [0, 1] [0] rfl rfl rfl (by simp only [rtR, if_pos c_23, if_neg c_40, if_pos c_47, if_neg c_103] <;> rfl) (by simp only [rtR, srR, if_pos c_23, if_neg c_40, if_pos c_47, if_neg c_103] <;> rfl) dX3_isRight_111
              · skip
                refine lv_iconst (v := 1) hx hb dX3_isRight_106 (by decide) ?_
                refine lv_goto (tgt := 111) hx hb dX3_isRight_107 (by decide) ?_
                exact hr_z (v := 1) hx hb hr hlocks (by decide) (w1 := [(qm, .inr (3, [.int th, .int (nI n), .ref qd, .int rw, .int ak, .ref qk, .ref ql, .ref qy, .int cb, .ref qc, .int dn, .int kp, .int tr, .int md, .int wr, .ref qi, .int (smA D (4096 * u + 64 * k) (6 + lz D (4096 * u + 64 * k + 5)))])), (qd, .inl (cAd, 8192, .inl D))]) hP hD hK hS [0, 1] [0] rfl rfl rfl (by simp only [rtR, if_pos c_23, if_neg c_40, if_pos c_47, if_pos c_103] <;> rfl) (by simp only [rtR, srR, if_pos c_23, if_neg c_40, if_pos c_47, if_pos c_103] <;> rfl) dX3_isRight_111
            · exact absurd (nI_le (a := 6 + lz D (4096 * u + 64 * k + 5)) (b := 6 + lz D (4096 * u + 64 * k + 5)) (Nat.le_refl _) (by omega)) c_66
          | succ k0 ih =>
            intro i H locs ls hi hP hD hS hl
            refine lv_iload hx hb dX3_isRight_59 (lv_at hl 0 rfl) ?_
            refine lv_bipush (v := 6) hx hb dX3_isRight_61 (by decide) ?_
            refine lv_iload hx hb dX3_isRight_63 (lv_at hl 1 rfl) ?_
            refine lv_iadd hx hb dX3_isRight_65 ?_
            rw [show (6 + (nI (lz D (4096 * u + 64 * k + 5))) : Int32) = nI (6 + (lz D (4096 * u + 64 * k + 5))) from nI_add 6 (lz D (4096 * u + 64 * k + 5))]
            refine lv_icmp_ge (tgt := 88) hx hb dX3_isRight_66 (by decide) (fun c_66 => ?_) (fun c_66 => ?_)
            · exact absurd c_66 (nI_ge (a := i) (b := 6 + lz D (4096 * u + 64 * k + 5)) (by omega) (by omega))
            · skip
              refine lv_aload_n hx hb dX3_isRight_69 rfl (lv_at hl 3 rfl) ?_
              refine lv_aload_n hx hb dX3_isRight_70 rfl (lv_at hl 3 rfl) ?_
              refine va_get (D := (dC, dI)) (ci := 3) (v := .ref qd) (C := RX3) (T := TX3) (N := 17) hx hb hts (by decide +kernel) hown hK hP 0 rfl rfl 2 (by decide) (hts (.fieldLink RX3 7 "HouseLogModel" "disk" "[I") (by decide +kernel)) (fun _ h9 => h9) rfl dX3_isRight_71 ?_
              refine lv_iload_n hx hb dX3_isRight_74 rfl (lv_at hl 2 rfl) ?_
              refine lv_iload hx hb dX3_isRight_75 (lv_at hl 0 rfl) ?_
              refine lv_iadd hx hb dX3_isRight_77 ?_
              rw [show ((nI (4096 * u + 64 * k)) + (nI i) : Int32) = nI (4096 * u + 64 * k + i) from nI_add (4096 * u + 64 * k) i]
              refine va_iald hx hb hK hP 1 0 rfl rfl (i := nI (4096 * u + 64 * k + i)) (vp_in_nI (n := 4096 * u + 64 * k + i) (by omega) (by decide)) dX3_isRight_78 ?_
              refine W.eq (g2 := F0 m 79 ls (.int (D (4096 * u + 64 * k + i)) :: .ref qm :: [])) (by rw [show (nI (4096 * u + 64 * k + i) : Int32).toNatClampNeg = 4096 * u + 64 * k + i from nI_clamp (by omega)]) ?_
              refine hc_vV (As := [.int (D (4096 * u + 64 * k + i))]) (rest := []) (wr := [(qd, .inl (cAd, 8192, .inl D))]) ⟨hx, hb, hml, hown, hts⟩ sx_T trivial (kX3_goOn l dC dI H.size qm qd qk ql qy qc qi n th rw ak cb dn kp tr md wr (smA D (4096 * u + 64 * k) i) (D (4096 * u + 64 * k + i)) ) (cwV 1 hts gX3_isRight_X3_goOn rfl rfl rfl (by decide +kernel) ⟨Nat.le_of_ble_eq_true rfl, Nat.le_of_ble_eq_true rfl⟩) hK hP hD hS hA [0] [1] [] rfl rfl rfl rfl rfl (by decide) (ci := 3) rfl rfl rfl rfl hl.1 rfl (Nat.le_of_ble_eq_true rfl) dX3_isRight_79 ⟨Nat.zero_le _, Nat.zero_le _⟩ (fun H locs hP hD hS => ?_)
              have hP : va_P (dC, dI) hlCl [(qm, .inr (3, [.int th, .int (nI n), .ref qd, .int rw, .int ak, .ref qk, .ref ql, .ref qy, .int cb, .ref qc, .int dn, .int kp, .int tr, .int md, .int wr, .ref qi, .int (mixI (smA D (4096 * u + 64 * k) i) (D (4096 * u + 64 * k + i)))])), (qd, .inl (cAd, 8192, .inl D))] H := hP.sub [1, 0] rfl
              have hD : va_D A [(qm, .inr (3, [.int th, .int (nI n), .ref qd, .int rw, .int ak, .ref qk, .ref ql, .ref qy, .int cb, .ref qc, .int dn, .int kp, .int tr, .int md, .int wr, .ref qi, .int (mixI (smA D (4096 * u + 64 * k) i) (D (4096 * u + 64 * k + i)))])), (qd, .inl (cAd, 8192, .inl D))] := hD.sub [1, 0] (by decide) rfl
              refine lv_iinc (v := nI (i + 1)) (lv' := [(5, .int (nI (i + 1))), (4, .int (nI (lz D (4096 * u + 64 * k + 5)))), (3, .int (nI (4096 * u + 64 * k))), (0, .ref qm), (1, .int (nI u)), (2, .int (nI k))]) hx hb dX3_isRight_82 hl (k := 0) rfl (nI_add i 1) (by decide) rfl (fun ls hl => ?_)
              refine lv_goto (tgt := 59) hx hb dX3_isRight_85 (by decide) ?_
              exact ih (i + 1) H locs ls (by omega)  hP hD hS (lv_sub hl [0, 1, 2, 3, 4, 5] rfl)
        exact loop (6 + lz D (4096 * u + 64 * k + 5)) 0 H locs ls (by omega)  hP hD hS (lv_sub hl [0, 1, 2, 3, 4, 5] rfl)
      · skip
        refine lv_iconst (v := 0) hx hb dX3_isRight_50 (by decide) ?_
        exact hr_z (v := 0) hx hb hr hlocks (by decide) (w1 := [(qm, .inr (3, [.int th, .int (nI n), .ref qd, .int rw, .int ak, .ref qk, .ref ql, .ref qy, .int cb, .ref qc, .int dn, .int kp, .int tr, .int md, .int wr, .ref qi, .int sm])), (qd, .inl (cAd, 8192, .inl D))]) hP hD hK hS [0, 1] [0] rfl rfl rfl (by simp only [rtR, if_pos c_23, if_neg c_40, if_neg c_47] <;> rfl) (by simp only [rtR, srR, if_pos c_23, if_neg c_40, if_neg c_47] <;> rfl) dX3_isRight_51

def enRI (n : Nat) (dn : Int32) (r : Nat) (kind rel : Int32) : Int32 := (if (inI kind 1 9) = 0 then 0 else (if (flR 0 dn 0) = 0 then (if rel = 0 then (if (nI r) < (nI (n - 2)) then nI ((r + 1) - 1) else (-1)) else (if (nI r) < (nI n) then nI ((r + 1) - 1) else (-1))) else 0))
def enRT (dn : Int32) (kind : Int32) : Int32 := (if (inI kind 1 9) = 0 then flI 1 dn 0 else flI 0 dn 0)
def enRR (n : Nat) (dn : Int32) (r : Nat) (kind rel : Int32) : Nat := (if (inI kind 1 9) = 0 then r else (if (flR 0 dn 0) = 0 then (if rel = 0 then (if (nI r) < (nI (n - 2)) then r + 1 else r) else (if (nI r) < (nI n) then r + 1 else r)) else r))
def enRC (n : Nat) (dn : Int32) (r cb : Nat) (kind rel : Int32) : Nat := (if (inI kind 1 9) = 0 then cb else (if (flR 0 dn 0) = 0 then (if rel = 0 then (if (nI r) < (nI (n - 2)) then 0 else cb) else (if (nI r) < (nI n) then 0 else cb)) else cb))
def enRK (n : Nat) (dn : Int32) (r : Nat) (K : Nat → Int32) (kind rel : Int32) : Nat → Int32 := (if (inI kind 1 9) = 0 then K else (if (flR 0 dn 0) = 0 then (if rel = 0 then (if (nI r) < (nI (n - 2)) then upd K r kind else K) else (if (nI r) < (nI n) then upd K r kind else K)) else K))
def enRL (n : Nat) (dn : Int32) (r cb : Nat) (Ln : Nat → Int32) (kind rel : Int32) : Nat → Int32 := (if (inI kind 1 9) = 0 then Ln else (if (flR 0 dn 0) = 0 then (if rel = 0 then (if (nI r) < (nI (n - 2)) then upd Ln r (nI cb) else Ln) else (if (nI r) < (nI n) then upd Ln r (nI cb) else Ln)) else Ln))
def enRB (n : Nat) (dn : Int32) (r cb : Nat) (By Co : Nat → Int32) (kind rel : Int32) : Nat → Int32 := (if (inI kind 1 9) = 0 then By else (if (flR 0 dn 0) = 0 then (if rel = 0 then (if (nI r) < (nI (n - 2)) then ebL By Co r cb else By) else (if (nI r) < (nI n) then ebL By Co r cb else By)) else By))
set_option maxHeartbeats 4000000 in
set_option maxRecDepth 100000 in
theorem kX3_end (l : Launch) (dC : Nat → ClassId) (dI : Nat → Nat → Nat) (sz : Nat) (qm qd qk ql qy qc qi : Nat) (n : Nat) (cAk cAl cAy cAc : ClassId) (th ak dn kp tr md wr sm : Int32) (r cb : Nat) (K Ln By Co : Nat → Int32) (kind rel : Int32) (hn4 : 4 ≤ n) (hn : n ≤ 64) (hr0 : r ≤ 64) (hcb : cb ≤ 40) : Mi_ l yX3_end wsX3_end 1 23 dC dI (fun _ => True) [.ref qm, .int kind, .int rel] [(qm, .inr (3, [.int th, .int (nI n), .ref qd, .int (nI r), .int ak, .ref qk, .ref ql, .ref qy, .int (nI cb), .ref qc, .int dn, .int kp, .int tr, .int md, .int wr, .ref qi, .int sm])), (qk, .inl (cAk, 64, .inl K)), (ql, .inl (cAl, 64, .inl Ln)), (qy, .inl (cAy, 2560, .inl By)), (qc, .inl (cAc, 40, .inl Co))] [(cAk, .int), (cAl, .int), (cAy, .int), (cAc, .int)] sz (enRI n dn r kind rel) [(qm, .inr (3, [.int (enRT dn kind), .int (nI n), .ref qd, .int (nI (enRR n dn r kind rel)), .int ak, .ref qk, .ref ql, .ref qy, .int (nI (enRC n dn r cb kind rel)), .ref qc, .int dn, .int kp, .int tr, .int md, .int wr, .ref qi, .int sm])), (qk, .inl (cAk, 64, .inl (enRK n dn r K kind rel))), (ql, .inl (cAl, 64, .inl (enRL n dn r cb Ln kind rel))), (qy, .inl (cAy, 2560, .inl (enRB n dn r cb By Co kind rel))), (qc, .inl (cAc, 40, .inl Co))] := by
  refine hm_ (cc := cX3_end) (maxL := 4) (ret := (some .int)) (Qc := fun A => va_Qi (fun (r9 : Int32) (_ : Unit) => r9 = enRI n dn r kind rel) (fun _ t9 => qw_ dC dI A [(qm, .inr (3, [.int (enRT dn kind), .int (nI n), .ref qd, .int (nI (enRR n dn r kind rel)), .int ak, .ref qk, .ref ql, .ref qy, .int (nI (enRC n dn r cb kind rel)), .ref qc, .int dn, .int kp, .int tr, .int md, .int wr, .ref qi, .int sm])), (qk, .inl (cAk, 64, .inl (enRK n dn r K kind rel))), (ql, .inl (cAl, 64, .inl (enRL n dn r cb Ln kind rel))), (qy, .inl (cAy, 2560, .inl (enRB n dn r cb By Co kind rel))), (qc, .inl (cAc, 40, .inl Co))] [(cAk, .int), (cAl, .int), (cAy, .int), (cAc, .int)] t9) A) (by decide) rfl (Nat.le_of_ble_eq_true rfl) ?_
  intro p e s m below meth c A H locs ls hx hb hr hml hts hown hlocks hsz hP hK hD hE hA hS hl
  have hl : lv_has ls 4 [(0, .ref qm), (1, .int kind), (2, .int rel)] := hl
  have hown : s.vm.findClass RX3 = some m.cls := hown
  refine lv_aload_n hx hb dX3_end_0 rfl (lv_at hl 0 rfl) ?_
  refine lv_iload_n hx hb dX3_end_1 rfl (lv_at hl 1 rfl) ?_
  refine lv_iconst (v := 1) hx hb dX3_end_2 (by decide) ?_
  refine lv_bipush (v := 9) hx hb dX3_end_3 (by decide) ?_
  refine hc_iS (As := [.int kind, .int 1, .int 9]) (rest := [.ref qm]) ⟨hx, hb, hml, hown, hts⟩ sx_T trivial (kX3_in l dC dI H.size kind 1 9 ) (va_cwS 3 hts gX3_end_X3_in rfl rfl rfl (by decide +kernel) ⟨Nat.le_of_ble_eq_true rfl, Nat.le_of_ble_eq_true rfl⟩) hK hP hD hS hA [0, 1, 2, 3, 4] rfl rfl rfl hl.1 rfl (Nat.le_of_ble_eq_true rfl) dX3_end_5 ⟨Nat.zero_le _, Nat.zero_le _⟩ (fun H locs hP hD hS => ?_)
  refine lv_if_ne (tgt := 15) hx hb dX3_end_8 (by decide) (fun c_8 => ?_) (fun c_8 => ?_)
  · skip
    refine lv_iconst (v := 0) hx hb dX3_end_15 (by decide) ?_
    refine lv_aload_n hx hb dX3_end_16 rfl (lv_at hl 0 rfl) ?_
    refine va_get (D := (dC, dI)) (ci := 3) (v := .int dn) (C := RX3) (T := TX3) (N := 17) hx hb hts (by decide +kernel) hown hK hP 0 rfl rfl 10 (by decide) (hts (.fieldLink RX3 62 "HouseLogModel" "down" "Z") (by decide +kernel)) (fun _ h9 => h9) rfl dX3_end_17 ?_
    refine lv_iconst (v := 0) hx hb dX3_end_20 (by decide) ?_
    refine hc_iV (As := [.int 0, .int dn, .int 0]) (rest := []) (wr := [(qk, .inl (cAk, 64, .inl K)), (ql, .inl (cAl, 64, .inl Ln)), (qy, .inl (cAy, 2560, .inl By)), (qc, .inl (cAc, 40, .inl Co))]) ⟨hx, hb, hml, hown, hts⟩ sx_T trivial (kX3_fails l dC dI H.size qm qd qk ql qy qc qi n th (nI r) ak (nI cb) dn kp tr md wr sm 0 dn 0 ) (cwV 3 hts gX3_end_X3_fails rfl rfl rfl (by decide +kernel) ⟨Nat.le_of_ble_eq_true rfl, Nat.le_of_ble_eq_true rfl⟩) hK hP hD hS hA [0] [1, 2, 3, 4] [] rfl rfl rfl rfl rfl (by decide) (ci := 3) rfl rfl rfl rfl hl.1 rfl (Nat.le_of_ble_eq_true rfl) dX3_end_21 ⟨Nat.zero_le _, Nat.zero_le _⟩ (fun H locs hP hD hS => ?_)
    have hP : va_P (dC, dI) hlCl [(qm, .inr (3, [.int (flI 0 dn 0), .int (nI n), .ref qd, .int (nI r), .int ak, .ref qk, .ref ql, .ref qy, .int (nI cb), .ref qc, .int dn, .int kp, .int tr, .int md, .int wr, .ref qi, .int sm])), (qk, .inl (cAk, 64, .inl K)), (ql, .inl (cAl, 64, .inl Ln)), (qy, .inl (cAy, 2560, .inl By)), (qc, .inl (cAc, 40, .inl Co))] H := hP.sub [4, 0, 1, 2, 3] rfl
    have hD : va_D A [(qm, .inr (3, [.int (flI 0 dn 0), .int (nI n), .ref qd, .int (nI r), .int ak, .ref qk, .ref ql, .ref qy, .int (nI cb), .ref qc, .int dn, .int kp, .int tr, .int md, .int wr, .ref qi, .int sm])), (qk, .inl (cAk, 64, .inl K)), (ql, .inl (cAl, 64, .inl Ln)), (qy, .inl (cAy, 2560, .inl By)), (qc, .inl (cAc, 40, .inl Co))] := hD.sub [4, 0, 1, 2, 3] (by decide) rfl
    refine lv_if_eq (tgt := 29) hx hb dX3_end_24 (by decide) (fun c_24 => ?_) (fun c_24 => ?_)
    · skip
      refine lv_aload_n hx hb dX3_end_29 rfl (lv_at hl 0 rfl) ?_
      refine va_get (D := (dC, dI)) (ci := 3) (v := .int (nI r)) (C := RX3) (T := TX3) (N := 17) hx hb hts (by decide +kernel) hown hK hP 0 rfl rfl 3 (by decide) (hts (.fieldLink RX3 73 "HouseLogModel" "rows" "I") (by decide +kernel)) (fun _ h9 => h9) rfl dX3_end_30 ?_
      refine lv_iload_n hx hb dX3_end_33 rfl (lv_at hl 2 rfl) ?_
      refine lv_if_eq (tgt := 44) hx hb dX3_end_34 (by decide) (fun c_34 => ?_) (fun c_34 => ?_)
      · skip
        refine lv_aload_n hx hb dX3_end_44 rfl (lv_at hl 0 rfl) ?_
        refine va_get (D := (dC, dI)) (ci := 3) (v := .int (nI n)) (C := RX3) (T := TX3) (N := 17) hx hb hts (by decide +kernel) hown hK hP 0 rfl rfl 1 (by decide) (hts (.fieldLink RX3 32 "HouseLogModel" "sectors" "I") (by decide +kernel)) (fun _ h9 => h9) rfl dX3_end_45 ?_
        refine lv_iconst (v := 2) hx hb dX3_end_48 (by decide) ?_
        refine lv_isub hx hb dX3_end_49 ?_
        rw [show ((nI n) - 2 : Int32) = nI (n - 2) from pk_sub (a := n) (b := 2) (by omega)]
        refine lv_icmp_lt (tgt := 55) hx hb dX3_end_50 (by decide) (fun c_50 => ?_) (fun c_50 => ?_)
        · skip
          have hr2 : r < 64 := by have h9 := (nI_ltI (a := r) (b := n - 2) (by omega) (by omega)).mp c_50; omega
          refine lv_aload_n hx hb dX3_end_55 rfl (lv_at hl 0 rfl) ?_
          refine va_get (D := (dC, dI)) (ci := 3) (v := .ref qk) (C := RX3) (T := TX3) (N := 17) hx hb hts (by decide +kernel) hown hK hP 0 rfl rfl 5 (by decide) (hts (.fieldLink RX3 13 "HouseLogModel" "kinds" "[I") (by decide +kernel)) (fun _ h9 => h9) rfl dX3_end_56 ?_
          refine lv_aload_n hx hb dX3_end_59 rfl (lv_at hl 0 rfl) ?_
          refine va_get (D := (dC, dI)) (ci := 3) (v := .int (nI r)) (C := RX3) (T := TX3) (N := 17) hx hb hts (by decide +kernel) hown hK hP 0 rfl rfl 3 (by decide) (hts (.fieldLink RX3 73 "HouseLogModel" "rows" "I") (by decide +kernel)) (fun _ h9 => h9) rfl dX3_end_60 ?_
          refine lv_iload_n hx hb dX3_end_63 rfl (lv_at hl 1 rfl) ?_
          refine va_iast hx hb hK hP hD hS 1 0 rfl rfl (i := nI r) (vp_in_nI (n := r) (by omega) (by decide)) dX3_end_64 (fun H locs hP hD hS => ?_)
          rw [show (nI r : Int32).toNatClampNeg = r from nI_clamp (by omega)] at hP hD
          have hP : va_P (dC, dI) hlCl [(qm, .inr (3, [.int (flI 0 dn 0), .int (nI n), .ref qd, .int (nI r), .int ak, .ref qk, .ref ql, .ref qy, .int (nI cb), .ref qc, .int dn, .int kp, .int tr, .int md, .int wr, .ref qi, .int sm])), (qk, .inl (cAk, 64, .inl (upd K r kind))), (ql, .inl (cAl, 64, .inl Ln)), (qy, .inl (cAy, 2560, .inl By)), (qc, .inl (cAc, 40, .inl Co))] H := hP
          have hD : va_D A [(qm, .inr (3, [.int (flI 0 dn 0), .int (nI n), .ref qd, .int (nI r), .int ak, .ref qk, .ref ql, .ref qy, .int (nI cb), .ref qc, .int dn, .int kp, .int tr, .int md, .int wr, .ref qi, .int sm])), (qk, .inl (cAk, 64, .inl (upd K r kind))), (ql, .inl (cAl, 64, .inl Ln)), (qy, .inl (cAy, 2560, .inl By)), (qc, .inl (cAc, 40, .inl Co))] := hD
          refine lv_aload_n hx hb dX3_end_65 rfl (lv_at hl 0 rfl) ?_
          refine va_get (D := (dC, dI)) (ci := 3) (v := .ref ql) (C := RX3) (T := TX3) (N := 17) hx hb hts (by decide +kernel) hown hK hP 0 rfl rfl 6 (by decide) (hts (.fieldLink RX3 16 "HouseLogModel" "lengths" "[I") (by decide +kernel)) (fun _ h9 => h9) rfl dX3_end_66 ?_
          refine lv_aload_n hx hb dX3_end_69 rfl (lv_at hl 0 rfl) ?_
          refine va_get (D := (dC, dI)) (ci := 3) (v := .int (nI r)) (C := RX3) (T := TX3) (N := 17) hx hb hts (by decide +kernel) hown hK hP 0 rfl rfl 3 (by decide) (hts (.fieldLink RX3 73 "HouseLogModel" "rows" "I") (by decide +kernel)) (fun _ h9 => h9) rfl dX3_end_70 ?_
          refine lv_aload_n hx hb dX3_end_73 rfl (lv_at hl 0 rfl) ?_
          refine va_get (D := (dC, dI)) (ci := 3) (v := .int (nI cb)) (C := RX3) (T := TX3) (N := 17) hx hb hts (by decide +kernel) hown hK hP 0 rfl rfl 8 (by decide) (hts (.fieldLink RX3 66 "HouseLogModel" "collected" "I") (by decide +kernel)) (fun _ h9 => h9) rfl dX3_end_74 ?_
          refine va_iast hx hb hK hP hD hS 2 1 rfl rfl (i := nI r) (vp_in_nI (n := r) (by omega) (by decide)) dX3_end_77 (fun H locs hP hD hS => ?_)
          rw [show (nI r : Int32).toNatClampNeg = r from nI_clamp (by omega)] at hP hD
          have hP : va_P (dC, dI) hlCl [(qm, .inr (3, [.int (flI 0 dn 0), .int (nI n), .ref qd, .int (nI r), .int ak, .ref qk, .ref ql, .ref qy, .int (nI cb), .ref qc, .int dn, .int kp, .int tr, .int md, .int wr, .ref qi, .int sm])), (qk, .inl (cAk, 64, .inl (upd K r kind))), (ql, .inl (cAl, 64, .inl (upd Ln r (nI cb)))), (qy, .inl (cAy, 2560, .inl By)), (qc, .inl (cAc, 40, .inl Co))] H := hP
          have hD : va_D A [(qm, .inr (3, [.int (flI 0 dn 0), .int (nI n), .ref qd, .int (nI r), .int ak, .ref qk, .ref ql, .ref qy, .int (nI cb), .ref qc, .int dn, .int kp, .int tr, .int md, .int wr, .ref qi, .int sm])), (qk, .inl (cAk, 64, .inl (upd K r kind))), (ql, .inl (cAl, 64, .inl (upd Ln r (nI cb)))), (qy, .inl (cAy, 2560, .inl By)), (qc, .inl (cAc, 40, .inl Co))] := hD
          refine lv_iconst (v := 0) hx hb dX3_end_78 (by decide) ?_
          refine lv_istore_n (lv' := [(3, .int 0), (0, .ref qm), (1, .int kind), (2, .int rel)]) hx hb dX3_end_79 rfl hl (by decide) rfl (fun ls hl => ?_)
          have loop : ∀ (k0 i : Nat) (H : Heap) (locs : List Loc) (ls : Array Slot), (i + k0 = cb) → va_P (dC, dI) hlCl [(qm, .inr (3, [.int (flI 0 dn 0), .int (nI n), .ref qd, .int (nI r), .int ak, .ref qk, .ref ql, .ref qy, .int (nI cb), .ref qc, .int dn, .int kp, .int tr, .int md, .int wr, .ref qi, .int sm])), (qk, .inl (cAk, 64, .inl (upd K r kind))), (ql, .inl (cAl, 64, .inl (upd Ln r (nI cb)))), (qy, .inl (cAy, 2560, .inl (ebL By Co r i))), (qc, .inl (cAc, 40, .inl Co))] H → va_D A [(qm, .inr (3, [.int (flI 0 dn 0), .int (nI n), .ref qd, .int (nI r), .int ak, .ref qk, .ref ql, .ref qy, .int (nI cb), .ref qc, .int dn, .int kp, .int tr, .int md, .int wr, .ref qi, .int sm])), (qk, .inl (cAk, 64, .inl (upd K r kind))), (ql, .inl (cAl, 64, .inl (upd Ln r (nI cb)))), (qy, .inl (cAy, 2560, .inl (ebL By Co r i))), (qc, .inl (cAc, 40, .inl Co))] → va_S A s.heap H locs → lv_has ls 4 [(3, .int (nI i)), (0, .ref qm), (1, .int kind), (2, .int rel)] → W p l e (rm_ 1 23) s m [.ref qm, .int kind, .int rel].toArray below meth c H locs 0 0 (MQ below ((fun A => va_Qi (fun (r9 : Int32) (_ : Unit) => r9 = enRI n dn r kind rel) (fun _ t9 => qw_ dC dI A [(qm, .inr (3, [.int (enRT dn kind), .int (nI n), .ref qd, .int (nI (enRR n dn r kind rel)), .int ak, .ref qk, .ref ql, .ref qy, .int (nI (enRC n dn r cb kind rel)), .ref qc, .int dn, .int kp, .int tr, .int md, .int wr, .ref qi, .int sm])), (qk, .inl (cAk, 64, .inl (enRK n dn r K kind rel))), (ql, .inl (cAl, 64, .inl (enRL n dn r cb Ln kind rel))), (qy, .inl (cAy, 2560, .inl (enRB n dn r cb By Co kind rel))), (qc, .inl (cAc, 40, .inl Co))] [(cAk, .int), (cAl, .int), (cAy, .int), (cAc, .int)] t9) A) A) [.ref qm, .int kind, .int rel].toArray s 0 0 A) (F0 m 80 ls []) := by
            intro k0
            induction k0 with
            | zero =>
              intro i H locs ls hi hP hD hS hl
              obtain rfl : cb = i := by omega
              refine lv_iload_n hx hb dX3_end_80 rfl (lv_at hl 0 rfl) ?_
              refine lv_aload_n hx hb dX3_end_81 rfl (lv_at hl 1 rfl) ?_
              refine va_get (D := (dC, dI)) (ci := 3) (v := .int (nI cb)) (C := RX3) (T := TX3) (N := 17) hx hb hts (by decide +kernel) hown hK hP 0 rfl rfl 8 (by decide) (hts (.fieldLink RX3 66 "HouseLogModel" "collected" "I") (by decide +kernel)) (fun _ h9 => h9) rfl dX3_end_82 ?_
              refine lv_icmp_ge (tgt := 114) hx hb dX3_end_85 (by decide) (fun c_85 => ?_) (fun c_85 => ?_)
              · skip
                refine lv_aload_n hx hb dX3_end_114 rfl (lv_at hl 1 rfl) ?_
                refine lv_iconst (v := 0) hx hb dX3_end_115 (by decide) ?_
                refine va_put (D := (dC, dI)) (ci := 3) (v := .int 0) (ty := .int) (C := RX3) (T := TX3) (N := 17) hx hb hts (by decide +kernel) tyX3 tyX3_ok nmX3 hown hK hP hD hS 0 rfl rfl 8 (by decide) (hts (.fieldLink RX3 66 "HouseLogModel" "collected" "I") (by decide +kernel)) (fun _ h9 => h9) rfl (by decide +kernel) rfl rfl (Nat.le_of_ble_eq_true rfl) dX3_end_116 (fun H locs hP hD hS => ?_)
                have hP : va_P (dC, dI) hlCl [(qm, .inr (3, [.int (flI 0 dn 0), .int (nI n), .ref qd, .int (nI r), .int ak, .ref qk, .ref ql, .ref qy, .int 0, .ref qc, .int dn, .int kp, .int tr, .int md, .int wr, .ref qi, .int sm])), (qk, .inl (cAk, 64, .inl (upd K r kind))), (ql, .inl (cAl, 64, .inl (upd Ln r (nI cb)))), (qy, .inl (cAy, 2560, .inl (ebL By Co r cb))), (qc, .inl (cAc, 40, .inl Co))] H := hP
                have hD : va_D A [(qm, .inr (3, [.int (flI 0 dn 0), .int (nI n), .ref qd, .int (nI r), .int ak, .ref qk, .ref ql, .ref qy, .int 0, .ref qc, .int dn, .int kp, .int tr, .int md, .int wr, .ref qi, .int sm])), (qk, .inl (cAk, 64, .inl (upd K r kind))), (ql, .inl (cAl, 64, .inl (upd Ln r (nI cb)))), (qy, .inl (cAy, 2560, .inl (ebL By Co r cb))), (qc, .inl (cAc, 40, .inl Co))] := hD
                refine lv_aload_n hx hb dX3_end_119 rfl (lv_at hl 1 rfl) ?_
                refine lv_dup hx hb dX3_end_120 rfl ?_
                refine va_get (D := (dC, dI)) (ci := 3) (v := .int (nI r)) (C := RX3) (T := TX3) (N := 17) hx hb hts (by decide +kernel) hown hK hP 0 rfl rfl 3 (by decide) (hts (.fieldLink RX3 73 "HouseLogModel" "rows" "I") (by decide +kernel)) (fun _ h9 => h9) rfl dX3_end_121 ?_
                refine lv_iconst (v := 1) hx hb dX3_end_124 (by decide) ?_
                refine lv_iadd hx hb dX3_end_125 ?_
                rw [show ((nI r) + 1 : Int32) = nI (r + 1) from nI_add r 1]
                refine va_put (D := (dC, dI)) (ci := 3) (v := .int (nI (r + 1))) (ty := .int) (C := RX3) (T := TX3) (N := 17) hx hb hts (by decide +kernel) tyX3 tyX3_ok nmX3 hown hK hP hD hS 0 rfl rfl 3 (by decide) (hts (.fieldLink RX3 73 "HouseLogModel" "rows" "I") (by decide +kernel)) (fun _ h9 => h9) rfl (by decide +kernel) rfl rfl (Nat.le_of_ble_eq_true rfl) dX3_end_126 (fun H locs hP hD hS => ?_)
                have hP : va_P (dC, dI) hlCl [(qm, .inr (3, [.int (flI 0 dn 0), .int (nI n), .ref qd, .int (nI (r + 1)), .int ak, .ref qk, .ref ql, .ref qy, .int 0, .ref qc, .int dn, .int kp, .int tr, .int md, .int wr, .ref qi, .int sm])), (qk, .inl (cAk, 64, .inl (upd K r kind))), (ql, .inl (cAl, 64, .inl (upd Ln r (nI cb)))), (qy, .inl (cAy, 2560, .inl (ebL By Co r cb))), (qc, .inl (cAc, 40, .inl Co))] H := hP
                have hD : va_D A [(qm, .inr (3, [.int (flI 0 dn 0), .int (nI n), .ref qd, .int (nI (r + 1)), .int ak, .ref qk, .ref ql, .ref qy, .int 0, .ref qc, .int dn, .int kp, .int tr, .int md, .int wr, .ref qi, .int sm])), (qk, .inl (cAk, 64, .inl (upd K r kind))), (ql, .inl (cAl, 64, .inl (upd Ln r (nI cb)))), (qy, .inl (cAy, 2560, .inl (ebL By Co r cb))), (qc, .inl (cAc, 40, .inl Co))] := hD
                refine lv_aload_n hx hb dX3_end_129 rfl (lv_at hl 1 rfl) ?_
                refine va_get (D := (dC, dI)) (ci := 3) (v := .int (nI (r + 1))) (C := RX3) (T := TX3) (N := 17) hx hb hts (by decide +kernel) hown hK hP 0 rfl rfl 3 (by decide) (hts (.fieldLink RX3 73 "HouseLogModel" "rows" "I") (by decide +kernel)) (fun _ h9 => h9) rfl dX3_end_130 ?_
                refine lv_iconst (v := 1) hx hb dX3_end_133 (by decide) ?_
                refine lv_isub hx hb dX3_end_134 ?_
                rw [show ((nI (r + 1)) - 1 : Int32) = nI ((r + 1) - 1) from pk_sub (a := (r + 1)) (b := 1) (by omega)]
                exact hr_i (v := nI ((r + 1) - 1)) hx hb hr hlocks (w1 := [(qm, .inr (3, [.int (flI 0 dn 0), .int (nI n), .ref qd, .int (nI (r + 1)), .int ak, .ref qk, .ref ql, .ref qy, .int 0, .ref qc, .int dn, .int kp, .int tr, .int md, .int wr, .ref qi, .int sm])), (qk, .inl (cAk, 64, .inl (upd K r kind))), (ql, .inl (cAl, 64, .inl (upd Ln r (nI cb)))), (qy, .inl (cAy, 2560, .inl (ebL By Co r cb))), (qc, .inl (cAc, 40, .inl Co))]) hP hD hK hS [0, 1, 2, 3, 4] [0, 1, 2, 3] rfl rfl rfl (by simp only [enRI, if_neg c_8, if_pos c_24, if_pos c_34, if_pos c_50] <;> rfl) (by simp only [enRI, enRT, enRR, enRC, enRK, enRL, enRB, if_neg c_8, if_pos c_24, if_pos c_34, if_pos c_50] <;> rfl) dX3_end_135
              · exact absurd (nI_le (a := cb) (b := cb) (Nat.le_refl _) (by omega)) c_85
            | succ k0 ih =>
              intro i H locs ls hi hP hD hS hl
              refine lv_iload_n hx hb dX3_end_80 rfl (lv_at hl 0 rfl) ?_
              refine lv_aload_n hx hb dX3_end_81 rfl (lv_at hl 1 rfl) ?_
              refine va_get (D := (dC, dI)) (ci := 3) (v := .int (nI cb)) (C := RX3) (T := TX3) (N := 17) hx hb hts (by decide +kernel) hown hK hP 0 rfl rfl 8 (by decide) (hts (.fieldLink RX3 66 "HouseLogModel" "collected" "I") (by decide +kernel)) (fun _ h9 => h9) rfl dX3_end_82 ?_
              refine lv_icmp_ge (tgt := 114) hx hb dX3_end_85 (by decide) (fun c_85 => ?_) (fun c_85 => ?_)
              · exact absurd c_85 (nI_ge (a := i) (b := cb) (by omega) (by omega))
              · skip
                refine lv_aload_n hx hb dX3_end_88 rfl (lv_at hl 1 rfl) ?_
                refine va_get (D := (dC, dI)) (ci := 3) (v := .ref qy) (C := RX3) (T := TX3) (N := 17) hx hb hts (by decide +kernel) hown hK hP 0 rfl rfl 7 (by decide) (hts (.fieldLink RX3 19 "HouseLogModel" "bytes" "[I") (by decide +kernel)) (fun _ h9 => h9) rfl dX3_end_89 ?_
                refine lv_bipush (v := 40) hx hb dX3_end_92 (by decide) ?_
                refine lv_aload_n hx hb dX3_end_94 rfl (lv_at hl 1 rfl) ?_
                refine va_get (D := (dC, dI)) (ci := 3) (v := .int (nI r)) (C := RX3) (T := TX3) (N := 17) hx hb hts (by decide +kernel) hown hK hP 0 rfl rfl 3 (by decide) (hts (.fieldLink RX3 73 "HouseLogModel" "rows" "I") (by decide +kernel)) (fun _ h9 => h9) rfl dX3_end_95 ?_
                refine lv_imul hx hb dX3_end_98 ?_
                rw [show (40 * (nI r) : Int32) = nI (40 * r) from pk_mul 40 r]
                refine lv_iload_n hx hb dX3_end_99 rfl (lv_at hl 0 rfl) ?_
                refine lv_iadd hx hb dX3_end_100 ?_
                rw [show ((nI (40 * r)) + (nI i) : Int32) = nI (40 * r + i) from nI_add (40 * r) i]
                refine lv_aload_n hx hb dX3_end_101 rfl (lv_at hl 1 rfl) ?_
                refine va_get (D := (dC, dI)) (ci := 3) (v := .ref qc) (C := RX3) (T := TX3) (N := 17) hx hb hts (by decide +kernel) hown hK hP 0 rfl rfl 9 (by decide) (hts (.fieldLink RX3 22 "HouseLogModel" "collects" "[I") (by decide +kernel)) (fun _ h9 => h9) rfl dX3_end_102 ?_
                refine lv_iload_n hx hb dX3_end_105 rfl (lv_at hl 0 rfl) ?_
                refine va_iald hx hb hK hP 4 3 rfl rfl (i := nI i) (vp_in_nI (n := i) (by omega) (by decide)) dX3_end_106 ?_
                refine W.eq (g2 := F0 m 107 ls (.int (Co i) :: .int (nI (40 * r + i)) :: .ref qy :: [])) (by rw [show (nI i : Int32).toNatClampNeg = i from nI_clamp (by omega)]) ?_
                refine va_iast hx hb hK hP hD hS 3 2 rfl rfl (i := nI (40 * r + i)) (vp_in_nI (n := 40 * r + i) (by omega) (by decide)) dX3_end_107 (fun H locs hP hD hS => ?_)
                rw [show (nI (40 * r + i) : Int32).toNatClampNeg = 40 * r + i from nI_clamp (by omega)] at hP hD
                have hP : va_P (dC, dI) hlCl [(qm, .inr (3, [.int (flI 0 dn 0), .int (nI n), .ref qd, .int (nI r), .int ak, .ref qk, .ref ql, .ref qy, .int (nI cb), .ref qc, .int dn, .int kp, .int tr, .int md, .int wr, .ref qi, .int sm])), (qk, .inl (cAk, 64, .inl (upd K r kind))), (ql, .inl (cAl, 64, .inl (upd Ln r (nI cb)))), (qy, .inl (cAy, 2560, .inl (upd (ebL By Co r i) (40 * r + i) (Co i)))), (qc, .inl (cAc, 40, .inl Co))] H := hP
                have hD : va_D A [(qm, .inr (3, [.int (flI 0 dn 0), .int (nI n), .ref qd, .int (nI r), .int ak, .ref qk, .ref ql, .ref qy, .int (nI cb), .ref qc, .int dn, .int kp, .int tr, .int md, .int wr, .ref qi, .int sm])), (qk, .inl (cAk, 64, .inl (upd K r kind))), (ql, .inl (cAl, 64, .inl (upd Ln r (nI cb)))), (qy, .inl (cAy, 2560, .inl (upd (ebL By Co r i) (40 * r + i) (Co i)))), (qc, .inl (cAc, 40, .inl Co))] := hD
                refine lv_iinc (v := nI (i + 1)) (lv' := [(3, .int (nI (i + 1))), (0, .ref qm), (1, .int kind), (2, .int rel)]) hx hb dX3_end_108 hl (k := 0) rfl (nI_add i 1) (by decide) rfl (fun ls hl => ?_)
                refine lv_goto (tgt := 80) hx hb dX3_end_111 (by decide) ?_
                exact ih (i + 1) H locs ls (by omega)  hP hD hS (lv_sub hl [0, 1, 2, 3] rfl)
          exact loop cb 0 H locs ls (by omega)  hP hD hS (lv_sub hl [0, 1, 2, 3] rfl)
        · skip
          refine lv_iconst (v := (-1)) hx hb dX3_end_53 (by decide) ?_
          exact hr_i (v := (-1)) hx hb hr hlocks (w1 := [(qm, .inr (3, [.int (flI 0 dn 0), .int (nI n), .ref qd, .int (nI r), .int ak, .ref qk, .ref ql, .ref qy, .int (nI cb), .ref qc, .int dn, .int kp, .int tr, .int md, .int wr, .ref qi, .int sm])), (qk, .inl (cAk, 64, .inl K)), (ql, .inl (cAl, 64, .inl Ln)), (qy, .inl (cAy, 2560, .inl By)), (qc, .inl (cAc, 40, .inl Co))]) hP hD hK hS [0, 1, 2, 3, 4] [0, 1, 2, 3] rfl rfl rfl (by simp only [enRI, if_neg c_8, if_pos c_24, if_pos c_34, if_neg c_50] <;> rfl) (by simp only [enRI, enRT, enRR, enRC, enRK, enRL, enRB, if_neg c_8, if_pos c_24, if_pos c_34, if_neg c_50] <;> rfl) dX3_end_54
      · skip
        refine lv_aload_n hx hb dX3_end_37 rfl (lv_at hl 0 rfl) ?_
        refine va_get (D := (dC, dI)) (ci := 3) (v := .int (nI n)) (C := RX3) (T := TX3) (N := 17) hx hb hts (by decide +kernel) hown hK hP 0 rfl rfl 1 (by decide) (hts (.fieldLink RX3 32 "HouseLogModel" "sectors" "I") (by decide +kernel)) (fun _ h9 => h9) rfl dX3_end_38 ?_
        refine lv_goto (tgt := 50) hx hb dX3_end_41 (by decide) ?_
        refine lv_icmp_lt (tgt := 55) hx hb dX3_end_50 (by decide) (fun c_50 => ?_) (fun c_50 => ?_)
        · skip
          have hr2 : r < 64 := by have h9 := (nI_ltI (a := r) (b := n) (by omega) (by omega)).mp c_50; omega
          refine lv_aload_n hx hb dX3_end_55 rfl (lv_at hl 0 rfl) ?_
          refine va_get (D := (dC, dI)) (ci := 3) (v := .ref qk) (C := RX3) (T := TX3) (N := 17) hx hb hts (by decide +kernel) hown hK hP 0 rfl rfl 5 (by decide) (hts (.fieldLink RX3 13 "HouseLogModel" "kinds" "[I") (by decide +kernel)) (fun _ h9 => h9) rfl dX3_end_56 ?_
          refine lv_aload_n hx hb dX3_end_59 rfl (lv_at hl 0 rfl) ?_
          refine va_get (D := (dC, dI)) (ci := 3) (v := .int (nI r)) (C := RX3) (T := TX3) (N := 17) hx hb hts (by decide +kernel) hown hK hP 0 rfl rfl 3 (by decide) (hts (.fieldLink RX3 73 "HouseLogModel" "rows" "I") (by decide +kernel)) (fun _ h9 => h9) rfl dX3_end_60 ?_
          refine lv_iload_n hx hb dX3_end_63 rfl (lv_at hl 1 rfl) ?_
          refine va_iast hx hb hK hP hD hS 1 0 rfl rfl (i := nI r) (vp_in_nI (n := r) (by omega) (by decide)) dX3_end_64 (fun H locs hP hD hS => ?_)
          rw [show (nI r : Int32).toNatClampNeg = r from nI_clamp (by omega)] at hP hD
          have hP : va_P (dC, dI) hlCl [(qm, .inr (3, [.int (flI 0 dn 0), .int (nI n), .ref qd, .int (nI r), .int ak, .ref qk, .ref ql, .ref qy, .int (nI cb), .ref qc, .int dn, .int kp, .int tr, .int md, .int wr, .ref qi, .int sm])), (qk, .inl (cAk, 64, .inl (upd K r kind))), (ql, .inl (cAl, 64, .inl Ln)), (qy, .inl (cAy, 2560, .inl By)), (qc, .inl (cAc, 40, .inl Co))] H := hP
          have hD : va_D A [(qm, .inr (3, [.int (flI 0 dn 0), .int (nI n), .ref qd, .int (nI r), .int ak, .ref qk, .ref ql, .ref qy, .int (nI cb), .ref qc, .int dn, .int kp, .int tr, .int md, .int wr, .ref qi, .int sm])), (qk, .inl (cAk, 64, .inl (upd K r kind))), (ql, .inl (cAl, 64, .inl Ln)), (qy, .inl (cAy, 2560, .inl By)), (qc, .inl (cAc, 40, .inl Co))] := hD
          refine lv_aload_n hx hb dX3_end_65 rfl (lv_at hl 0 rfl) ?_
          refine va_get (D := (dC, dI)) (ci := 3) (v := .ref ql) (C := RX3) (T := TX3) (N := 17) hx hb hts (by decide +kernel) hown hK hP 0 rfl rfl 6 (by decide) (hts (.fieldLink RX3 16 "HouseLogModel" "lengths" "[I") (by decide +kernel)) (fun _ h9 => h9) rfl dX3_end_66 ?_
          refine lv_aload_n hx hb dX3_end_69 rfl (lv_at hl 0 rfl) ?_
          refine va_get (D := (dC, dI)) (ci := 3) (v := .int (nI r)) (C := RX3) (T := TX3) (N := 17) hx hb hts (by decide +kernel) hown hK hP 0 rfl rfl 3 (by decide) (hts (.fieldLink RX3 73 "HouseLogModel" "rows" "I") (by decide +kernel)) (fun _ h9 => h9) rfl dX3_end_70 ?_
          refine lv_aload_n hx hb dX3_end_73 rfl (lv_at hl 0 rfl) ?_
          refine va_get (D := (dC, dI)) (ci := 3) (v := .int (nI cb)) (C := RX3) (T := TX3) (N := 17) hx hb hts (by decide +kernel) hown hK hP 0 rfl rfl 8 (by decide) (hts (.fieldLink RX3 66 "HouseLogModel" "collected" "I") (by decide +kernel)) (fun _ h9 => h9) rfl dX3_end_74 ?_
          refine va_iast hx hb hK hP hD hS 2 1 rfl rfl (i := nI r) (vp_in_nI (n := r) (by omega) (by decide)) dX3_end_77 (fun H locs hP hD hS => ?_)
          rw [show (nI r : Int32).toNatClampNeg = r from nI_clamp (by omega)] at hP hD
          have hP : va_P (dC, dI) hlCl [(qm, .inr (3, [.int (flI 0 dn 0), .int (nI n), .ref qd, .int (nI r), .int ak, .ref qk, .ref ql, .ref qy, .int (nI cb), .ref qc, .int dn, .int kp, .int tr, .int md, .int wr, .ref qi, .int sm])), (qk, .inl (cAk, 64, .inl (upd K r kind))), (ql, .inl (cAl, 64, .inl (upd Ln r (nI cb)))), (qy, .inl (cAy, 2560, .inl By)), (qc, .inl (cAc, 40, .inl Co))] H := hP
          have hD : va_D A [(qm, .inr (3, [.int (flI 0 dn 0), .int (nI n), .ref qd, .int (nI r), .int ak, .ref qk, .ref ql, .ref qy, .int (nI cb), .ref qc, .int dn, .int kp, .int tr, .int md, .int wr, .ref qi, .int sm])), (qk, .inl (cAk, 64, .inl (upd K r kind))), (ql, .inl (cAl, 64, .inl (upd Ln r (nI cb)))), (qy, .inl (cAy, 2560, .inl By)), (qc, .inl (cAc, 40, .inl Co))] := hD
          refine lv_iconst (v := 0) hx hb dX3_end_78 (by decide) ?_
          refine lv_istore_n (lv' := [(3, .int 0), (0, .ref qm), (1, .int kind), (2, .int rel)]) hx hb dX3_end_79 rfl hl (by decide) rfl (fun ls hl => ?_)
          have loop : ∀ (k0 i : Nat) (H : Heap) (locs : List Loc) (ls : Array Slot), (i + k0 = cb) → va_P (dC, dI) hlCl [(qm, .inr (3, [.int (flI 0 dn 0), .int (nI n), .ref qd, .int (nI r), .int ak, .ref qk, .ref ql, .ref qy, .int (nI cb), .ref qc, .int dn, .int kp, .int tr, .int md, .int wr, .ref qi, .int sm])), (qk, .inl (cAk, 64, .inl (upd K r kind))), (ql, .inl (cAl, 64, .inl (upd Ln r (nI cb)))), (qy, .inl (cAy, 2560, .inl (ebL By Co r i))), (qc, .inl (cAc, 40, .inl Co))] H → va_D A [(qm, .inr (3, [.int (flI 0 dn 0), .int (nI n), .ref qd, .int (nI r), .int ak, .ref qk, .ref ql, .ref qy, .int (nI cb), .ref qc, .int dn, .int kp, .int tr, .int md, .int wr, .ref qi, .int sm])), (qk, .inl (cAk, 64, .inl (upd K r kind))), (ql, .inl (cAl, 64, .inl (upd Ln r (nI cb)))), (qy, .inl (cAy, 2560, .inl (ebL By Co r i))), (qc, .inl (cAc, 40, .inl Co))] → va_S A s.heap H locs → lv_has ls 4 [(3, .int (nI i)), (0, .ref qm), (1, .int kind), (2, .int rel)] → W p l e (rm_ 1 23) s m [.ref qm, .int kind, .int rel].toArray below meth c H locs 0 0 (MQ below ((fun A => va_Qi (fun (r9 : Int32) (_ : Unit) => r9 = enRI n dn r kind rel) (fun _ t9 => qw_ dC dI A [(qm, .inr (3, [.int (enRT dn kind), .int (nI n), .ref qd, .int (nI (enRR n dn r kind rel)), .int ak, .ref qk, .ref ql, .ref qy, .int (nI (enRC n dn r cb kind rel)), .ref qc, .int dn, .int kp, .int tr, .int md, .int wr, .ref qi, .int sm])), (qk, .inl (cAk, 64, .inl (enRK n dn r K kind rel))), (ql, .inl (cAl, 64, .inl (enRL n dn r cb Ln kind rel))), (qy, .inl (cAy, 2560, .inl (enRB n dn r cb By Co kind rel))), (qc, .inl (cAc, 40, .inl Co))] [(cAk, .int), (cAl, .int), (cAy, .int), (cAc, .int)] t9) A) A) [.ref qm, .int kind, .int rel].toArray s 0 0 A) (F0 m 80 ls []) := by
            intro k0
            induction k0 with
            | zero =>
              intro i H locs ls hi hP hD hS hl
              obtain rfl : cb = i := by omega
              refine lv_iload_n hx hb dX3_end_80 rfl (lv_at hl 0 rfl) ?_
              refine lv_aload_n hx hb dX3_end_81 rfl (lv_at hl 1 rfl) ?_
              refine va_get (D := (dC, dI)) (ci := 3) (v := .int (nI cb)) (C := RX3) (T := TX3) (N := 17) hx hb hts (by decide +kernel) hown hK hP 0 rfl rfl 8 (by decide) (hts (.fieldLink RX3 66 "HouseLogModel" "collected" "I") (by decide +kernel)) (fun _ h9 => h9) rfl dX3_end_82 ?_
              refine lv_icmp_ge (tgt := 114) hx hb dX3_end_85 (by decide) (fun c_85 => ?_) (fun c_85 => ?_)
              · skip
                refine lv_aload_n hx hb dX3_end_114 rfl (lv_at hl 1 rfl) ?_
                refine lv_iconst (v := 0) hx hb dX3_end_115 (by decide) ?_
                refine va_put (D := (dC, dI)) (ci := 3) (v := .int 0) (ty := .int) (C := RX3) (T := TX3) (N := 17) hx hb hts (by decide +kernel) tyX3 tyX3_ok nmX3 hown hK hP hD hS 0 rfl rfl 8 (by decide) (hts (.fieldLink RX3 66 "HouseLogModel" "collected" "I") (by decide +kernel)) (fun _ h9 => h9) rfl (by decide +kernel) rfl rfl (Nat.le_of_ble_eq_true rfl) dX3_end_116 (fun H locs hP hD hS => ?_)
                have hP : va_P (dC, dI) hlCl [(qm, .inr (3, [.int (flI 0 dn 0), .int (nI n), .ref qd, .int (nI r), .int ak, .ref qk, .ref ql, .ref qy, .int 0, .ref qc, .int dn, .int kp, .int tr, .int md, .int wr, .ref qi, .int sm])), (qk, .inl (cAk, 64, .inl (upd K r kind))), (ql, .inl (cAl, 64, .inl (upd Ln r (nI cb)))), (qy, .inl (cAy, 2560, .inl (ebL By Co r cb))), (qc, .inl (cAc, 40, .inl Co))] H := hP
                have hD : va_D A [(qm, .inr (3, [.int (flI 0 dn 0), .int (nI n), .ref qd, .int (nI r), .int ak, .ref qk, .ref ql, .ref qy, .int 0, .ref qc, .int dn, .int kp, .int tr, .int md, .int wr, .ref qi, .int sm])), (qk, .inl (cAk, 64, .inl (upd K r kind))), (ql, .inl (cAl, 64, .inl (upd Ln r (nI cb)))), (qy, .inl (cAy, 2560, .inl (ebL By Co r cb))), (qc, .inl (cAc, 40, .inl Co))] := hD
                refine lv_aload_n hx hb dX3_end_119 rfl (lv_at hl 1 rfl) ?_
                refine lv_dup hx hb dX3_end_120 rfl ?_
                refine va_get (D := (dC, dI)) (ci := 3) (v := .int (nI r)) (C := RX3) (T := TX3) (N := 17) hx hb hts (by decide +kernel) hown hK hP 0 rfl rfl 3 (by decide) (hts (.fieldLink RX3 73 "HouseLogModel" "rows" "I") (by decide +kernel)) (fun _ h9 => h9) rfl dX3_end_121 ?_
                refine lv_iconst (v := 1) hx hb dX3_end_124 (by decide) ?_
                refine lv_iadd hx hb dX3_end_125 ?_
                rw [show ((nI r) + 1 : Int32) = nI (r + 1) from nI_add r 1]
                refine va_put (D := (dC, dI)) (ci := 3) (v := .int (nI (r + 1))) (ty := .int) (C := RX3) (T := TX3) (N := 17) hx hb hts (by decide +kernel) tyX3 tyX3_ok nmX3 hown hK hP hD hS 0 rfl rfl 3 (by decide) (hts (.fieldLink RX3 73 "HouseLogModel" "rows" "I") (by decide +kernel)) (fun _ h9 => h9) rfl (by decide +kernel) rfl rfl (Nat.le_of_ble_eq_true rfl) dX3_end_126 (fun H locs hP hD hS => ?_)
                have hP : va_P (dC, dI) hlCl [(qm, .inr (3, [.int (flI 0 dn 0), .int (nI n), .ref qd, .int (nI (r + 1)), .int ak, .ref qk, .ref ql, .ref qy, .int 0, .ref qc, .int dn, .int kp, .int tr, .int md, .int wr, .ref qi, .int sm])), (qk, .inl (cAk, 64, .inl (upd K r kind))), (ql, .inl (cAl, 64, .inl (upd Ln r (nI cb)))), (qy, .inl (cAy, 2560, .inl (ebL By Co r cb))), (qc, .inl (cAc, 40, .inl Co))] H := hP
                have hD : va_D A [(qm, .inr (3, [.int (flI 0 dn 0), .int (nI n), .ref qd, .int (nI (r + 1)), .int ak, .ref qk, .ref ql, .ref qy, .int 0, .ref qc, .int dn, .int kp, .int tr, .int md, .int wr, .ref qi, .int sm])), (qk, .inl (cAk, 64, .inl (upd K r kind))), (ql, .inl (cAl, 64, .inl (upd Ln r (nI cb)))), (qy, .inl (cAy, 2560, .inl (ebL By Co r cb))), (qc, .inl (cAc, 40, .inl Co))] := hD
                refine lv_aload_n hx hb dX3_end_129 rfl (lv_at hl 1 rfl) ?_
                refine va_get (D := (dC, dI)) (ci := 3) (v := .int (nI (r + 1))) (C := RX3) (T := TX3) (N := 17) hx hb hts (by decide +kernel) hown hK hP 0 rfl rfl 3 (by decide) (hts (.fieldLink RX3 73 "HouseLogModel" "rows" "I") (by decide +kernel)) (fun _ h9 => h9) rfl dX3_end_130 ?_
                refine lv_iconst (v := 1) hx hb dX3_end_133 (by decide) ?_
                refine lv_isub hx hb dX3_end_134 ?_
                rw [show ((nI (r + 1)) - 1 : Int32) = nI ((r + 1) - 1) from pk_sub (a := (r + 1)) (b := 1) (by omega)]
                exact hr_i (v := nI ((r + 1) - 1)) hx hb hr hlocks (w1 := [(qm, .inr (3, [.int (flI 0 dn 0), .int (nI n), .ref qd, .int (nI (r + 1)), .int ak, .ref qk, .ref ql, .ref qy, .int 0, .ref qc, .int dn, .int kp, .int tr, .int md, .int wr, .ref qi, .int sm])), (qk, .inl (cAk, 64, .inl (upd K r kind))), (ql, .inl (cAl, 64, .inl (upd Ln r (nI cb)))), (qy, .inl (cAy, 2560, .inl (ebL By Co r cb))), (qc, .inl (cAc, 40, .inl Co))]) hP hD hK hS [0, 1, 2, 3, 4] [0, 1, 2, 3] rfl rfl rfl (by simp only [enRI, if_neg c_8, if_pos c_24, if_neg c_34, if_pos c_50] <;> rfl) (by simp only [enRI, enRT, enRR, enRC, enRK, enRL, enRB, if_neg c_8, if_pos c_24, if_neg c_34, if_pos c_50] <;> rfl) dX3_end_135
              · exact absurd (nI_le (a := cb) (b := cb) (Nat.le_refl _) (by omega)) c_85
            | succ k0 ih =>
              intro i H locs ls hi hP hD hS hl
              refine lv_iload_n hx hb dX3_end_80 rfl (lv_at hl 0 rfl) ?_
              refine lv_aload_n hx hb dX3_end_81 rfl (lv_at hl 1 rfl) ?_
              refine va_get (D := (dC, dI)) (ci := 3) (v := .int (nI cb)) (C := RX3) (T := TX3) (N := 17) hx hb hts (by decide +kernel) hown hK hP 0 rfl rfl 8 (by decide) (hts (.fieldLink RX3 66 "HouseLogModel" "collected" "I") (by decide +kernel)) (fun _ h9 => h9) rfl dX3_end_82 ?_
              refine lv_icmp_ge (tgt := 114) hx hb dX3_end_85 (by decide) (fun c_85 => ?_) (fun c_85 => ?_)
              · exact absurd c_85 (nI_ge (a := i) (b := cb) (by omega) (by omega))
              · skip
                refine lv_aload_n hx hb dX3_end_88 rfl (lv_at hl 1 rfl) ?_
                refine va_get (D := (dC, dI)) (ci := 3) (v := .ref qy) (C := RX3) (T := TX3) (N := 17) hx hb hts (by decide +kernel) hown hK hP 0 rfl rfl 7 (by decide) (hts (.fieldLink RX3 19 "HouseLogModel" "bytes" "[I") (by decide +kernel)) (fun _ h9 => h9) rfl dX3_end_89 ?_
                refine lv_bipush (v := 40) hx hb dX3_end_92 (by decide) ?_
                refine lv_aload_n hx hb dX3_end_94 rfl (lv_at hl 1 rfl) ?_
                refine va_get (D := (dC, dI)) (ci := 3) (v := .int (nI r)) (C := RX3) (T := TX3) (N := 17) hx hb hts (by decide +kernel) hown hK hP 0 rfl rfl 3 (by decide) (hts (.fieldLink RX3 73 "HouseLogModel" "rows" "I") (by decide +kernel)) (fun _ h9 => h9) rfl dX3_end_95 ?_
                refine lv_imul hx hb dX3_end_98 ?_
                rw [show (40 * (nI r) : Int32) = nI (40 * r) from pk_mul 40 r]
                refine lv_iload_n hx hb dX3_end_99 rfl (lv_at hl 0 rfl) ?_
                refine lv_iadd hx hb dX3_end_100 ?_
                rw [show ((nI (40 * r)) + (nI i) : Int32) = nI (40 * r + i) from nI_add (40 * r) i]
                refine lv_aload_n hx hb dX3_end_101 rfl (lv_at hl 1 rfl) ?_
                refine va_get (D := (dC, dI)) (ci := 3) (v := .ref qc) (C := RX3) (T := TX3) (N := 17) hx hb hts (by decide +kernel) hown hK hP 0 rfl rfl 9 (by decide) (hts (.fieldLink RX3 22 "HouseLogModel" "collects" "[I") (by decide +kernel)) (fun _ h9 => h9) rfl dX3_end_102 ?_
                refine lv_iload_n hx hb dX3_end_105 rfl (lv_at hl 0 rfl) ?_
                refine va_iald hx hb hK hP 4 3 rfl rfl (i := nI i) (vp_in_nI (n := i) (by omega) (by decide)) dX3_end_106 ?_
                refine W.eq (g2 := F0 m 107 ls (.int (Co i) :: .int (nI (40 * r + i)) :: .ref qy :: [])) (by rw [show (nI i : Int32).toNatClampNeg = i from nI_clamp (by omega)]) ?_
                refine va_iast hx hb hK hP hD hS 3 2 rfl rfl (i := nI (40 * r + i)) (vp_in_nI (n := 40 * r + i) (by omega) (by decide)) dX3_end_107 (fun H locs hP hD hS => ?_)
                rw [show (nI (40 * r + i) : Int32).toNatClampNeg = 40 * r + i from nI_clamp (by omega)] at hP hD
                have hP : va_P (dC, dI) hlCl [(qm, .inr (3, [.int (flI 0 dn 0), .int (nI n), .ref qd, .int (nI r), .int ak, .ref qk, .ref ql, .ref qy, .int (nI cb), .ref qc, .int dn, .int kp, .int tr, .int md, .int wr, .ref qi, .int sm])), (qk, .inl (cAk, 64, .inl (upd K r kind))), (ql, .inl (cAl, 64, .inl (upd Ln r (nI cb)))), (qy, .inl (cAy, 2560, .inl (upd (ebL By Co r i) (40 * r + i) (Co i)))), (qc, .inl (cAc, 40, .inl Co))] H := hP
                have hD : va_D A [(qm, .inr (3, [.int (flI 0 dn 0), .int (nI n), .ref qd, .int (nI r), .int ak, .ref qk, .ref ql, .ref qy, .int (nI cb), .ref qc, .int dn, .int kp, .int tr, .int md, .int wr, .ref qi, .int sm])), (qk, .inl (cAk, 64, .inl (upd K r kind))), (ql, .inl (cAl, 64, .inl (upd Ln r (nI cb)))), (qy, .inl (cAy, 2560, .inl (upd (ebL By Co r i) (40 * r + i) (Co i)))), (qc, .inl (cAc, 40, .inl Co))] := hD
                refine lv_iinc (v := nI (i + 1)) (lv' := [(3, .int (nI (i + 1))), (0, .ref qm), (1, .int kind), (2, .int rel)]) hx hb dX3_end_108 hl (k := 0) rfl (nI_add i 1) (by decide) rfl (fun ls hl => ?_)
                refine lv_goto (tgt := 80) hx hb dX3_end_111 (by decide) ?_
                exact ih (i + 1) H locs ls (by omega)  hP hD hS (lv_sub hl [0, 1, 2, 3] rfl)
          exact loop cb 0 H locs ls (by omega)  hP hD hS (lv_sub hl [0, 1, 2, 3] rfl)
        · skip
          refine lv_iconst (v := (-1)) hx hb dX3_end_53 (by decide) ?_
          exact hr_i (v := (-1)) hx hb hr hlocks (w1 := [(qm, .inr (3, [.int (flI 0 dn 0), .int (nI n), .ref qd, .int (nI r), .int ak, .ref qk, .ref ql, .ref qy, .int (nI cb), .ref qc, .int dn, .int kp, .int tr, .int md, .int wr, .ref qi, .int sm])), (qk, .inl (cAk, 64, .inl K)), (ql, .inl (cAl, 64, .inl Ln)), (qy, .inl (cAy, 2560, .inl By)), (qc, .inl (cAc, 40, .inl Co))]) hP hD hK hS [0, 1, 2, 3, 4] [0, 1, 2, 3] rfl rfl rfl (by simp only [enRI, if_neg c_8, if_pos c_24, if_neg c_34, if_neg c_50] <;> rfl) (by simp only [enRI, enRT, enRR, enRC, enRK, enRL, enRB, if_neg c_8, if_pos c_24, if_neg c_34, if_neg c_50] <;> rfl) dX3_end_54
    · skip
      refine lv_iconst (v := 0) hx hb dX3_end_27 (by decide) ?_
      exact hr_i (v := 0) hx hb hr hlocks (w1 := [(qm, .inr (3, [.int (flI 0 dn 0), .int (nI n), .ref qd, .int (nI r), .int ak, .ref qk, .ref ql, .ref qy, .int (nI cb), .ref qc, .int dn, .int kp, .int tr, .int md, .int wr, .ref qi, .int sm])), (qk, .inl (cAk, 64, .inl K)), (ql, .inl (cAl, 64, .inl Ln)), (qy, .inl (cAy, 2560, .inl By)), (qc, .inl (cAc, 40, .inl Co))]) hP hD hK hS [0, 1, 2, 3, 4] [0, 1, 2, 3] rfl rfl rfl (by simp only [enRI, if_neg c_8, if_neg c_24] <;> rfl) (by simp only [enRI, enRT, enRR, enRC, enRK, enRL, enRB, if_neg c_8, if_neg c_24] <;> rfl) dX3_end_28
  · skip
    refine lv_iconst (v := 1) hx hb dX3_end_11 (by decide) ?_
    refine lv_goto (tgt := 16) hx hb dX3_end_12 (by decide) ?_
    refine lv_aload_n hx hb dX3_end_16 rfl (lv_at hl 0 rfl) ?_
    refine va_get (D := (dC, dI)) (ci := 3) (v := .int dn) (C := RX3) (T := TX3) (N := 17) hx hb hts (by decide +kernel) hown hK hP 0 rfl rfl 10 (by decide) (hts (.fieldLink RX3 62 "HouseLogModel" "down" "Z") (by decide +kernel)) (fun _ h9 => h9) rfl dX3_end_17 ?_
    refine lv_iconst (v := 0) hx hb dX3_end_20 (by decide) ?_
    refine hc_iV (As := [.int 1, .int dn, .int 0]) (rest := []) (wr := [(qk, .inl (cAk, 64, .inl K)), (ql, .inl (cAl, 64, .inl Ln)), (qy, .inl (cAy, 2560, .inl By)), (qc, .inl (cAc, 40, .inl Co))]) ⟨hx, hb, hml, hown, hts⟩ sx_T trivial (kX3_fails l dC dI H.size qm qd qk ql qy qc qi n th (nI r) ak (nI cb) dn kp tr md wr sm 1 dn 0 ) (cwV 3 hts gX3_end_X3_fails rfl rfl rfl (by decide +kernel) ⟨Nat.le_of_ble_eq_true rfl, Nat.le_of_ble_eq_true rfl⟩) hK hP hD hS hA [0] [1, 2, 3, 4] [] rfl rfl rfl rfl rfl (by decide) (ci := 3) rfl rfl rfl rfl hl.1 rfl (Nat.le_of_ble_eq_true rfl) dX3_end_21 ⟨Nat.zero_le _, Nat.zero_le _⟩ (fun H locs hP hD hS => ?_)
    have hP : va_P (dC, dI) hlCl [(qm, .inr (3, [.int (flI 1 dn 0), .int (nI n), .ref qd, .int (nI r), .int ak, .ref qk, .ref ql, .ref qy, .int (nI cb), .ref qc, .int dn, .int kp, .int tr, .int md, .int wr, .ref qi, .int sm])), (qk, .inl (cAk, 64, .inl K)), (ql, .inl (cAl, 64, .inl Ln)), (qy, .inl (cAy, 2560, .inl By)), (qc, .inl (cAc, 40, .inl Co))] H := hP.sub [4, 0, 1, 2, 3] rfl
    have hD : va_D A [(qm, .inr (3, [.int (flI 1 dn 0), .int (nI n), .ref qd, .int (nI r), .int ak, .ref qk, .ref ql, .ref qy, .int (nI cb), .ref qc, .int dn, .int kp, .int tr, .int md, .int wr, .ref qi, .int sm])), (qk, .inl (cAk, 64, .inl K)), (ql, .inl (cAl, 64, .inl Ln)), (qy, .inl (cAy, 2560, .inl By)), (qc, .inl (cAc, 40, .inl Co))] := hD.sub [4, 0, 1, 2, 3] (by decide) rfl
    refine lv_if_eq (tgt := 29) hx hb dX3_end_24 (by decide) (fun c_24 => ?_) (fun c_24 => ?_)
    · exact absurd (fl_iff.mp c_24).1 (by decide)
    · skip
      refine lv_iconst (v := 0) hx hb dX3_end_27 (by decide) ?_
      exact hr_i (v := 0) hx hb hr hlocks (w1 := [(qm, .inr (3, [.int (flI 1 dn 0), .int (nI n), .ref qd, .int (nI r), .int ak, .ref qk, .ref ql, .ref qy, .int (nI cb), .ref qc, .int dn, .int kp, .int tr, .int md, .int wr, .ref qi, .int sm])), (qk, .inl (cAk, 64, .inl K)), (ql, .inl (cAl, 64, .inl Ln)), (qy, .inl (cAy, 2560, .inl By)), (qc, .inl (cAc, 40, .inl Co))]) hP hD hK hS [0, 1, 2, 3, 4] [0, 1, 2, 3] rfl rfl rfl (by simp only [enRI, if_pos c_8] <;> rfl) (by simp only [enRI, enRT, enRR, enRC, enRK, enRL, enRB, if_pos c_8] <;> rfl) dX3_end_28

def wrRI (kp : Int32) : Int32 := (if kp = 0 then 0 else 1)
def wrRK (kp : Int32) : Int32 := (if kp = 0 then (if kp ≤ 0 then (-1) else kp - 1) else (if kp ≤ 0 then (-1) else kp - 1))
def wrRD (kp : Int32) (tt : Nat) (D La : Nat → Int32) (u k : Nat) : Nat → Int32 := (if kp = 0 then wdL D La (4096 * u + 64 * k) tt else wdL D La (4096 * u + 64 * k) 64)
set_option maxHeartbeats 4000000 in
set_option maxRecDepth 100000 in
theorem kX3_write (l : Launch) (dC : Nat → ClassId) (dI : Nat → Nat → Nat) (sz : Nat) (qm qd qk ql qy qc qi : Nat) (n : Nat) (cAd cAi : ClassId) (th rw ak cb dn kp md wr sm : Int32) (tt : Nat) (D La : Nat → Int32) (u k : Nat) (hu : u ≤ 1) (hk : k < 64) (htt : tt ≤ 63) : Mi_ l yX3_write wsX3_write 1 22 dC dI (fun _ => True) [.ref qm, .int (nI u), .int (nI k)] [(qm, .inr (3, [.int th, .int (nI n), .ref qd, .int rw, .int ak, .ref qk, .ref ql, .ref qy, .int cb, .ref qc, .int dn, .int kp, .int (nI tt), .int md, .int wr, .ref qi, .int sm])), (qd, .inl (cAd, 8192, .inl D)), (qi, .inl (cAi, 64, .inl La))] [(cAd, .int), (cAi, .int)] sz (wrRI kp) [(qm, .inr (3, [.int th, .int (nI n), .ref qd, .int rw, .int ak, .ref qk, .ref ql, .ref qy, .int cb, .ref qc, .int dn, .int (wrRK kp), .int (nI tt), .int md, .int (wr + 1), .ref qi, .int sm])), (qd, .inl (cAd, 8192, .inl (wrRD kp tt D La u k))), (qi, .inl (cAi, 64, .inl La))] := by
  refine hm_ (cc := cX3_write) (maxL := 6) (ret := (some .boolean)) (Qc := fun A => va_Qi (fun (r9 : Int32) (_ : Unit) => r9 = wrRI kp) (fun _ t9 => qw_ dC dI A [(qm, .inr (3, [.int th, .int (nI n), .ref qd, .int rw, .int ak, .ref qk, .ref ql, .ref qy, .int cb, .ref qc, .int dn, .int (wrRK kp), .int (nI tt), .int md, .int (wr + 1), .ref qi, .int sm])), (qd, .inl (cAd, 8192, .inl (wrRD kp tt D La u k))), (qi, .inl (cAi, 64, .inl La))] [(cAd, .int), (cAi, .int)] t9) A) (by decide) rfl (Nat.le_of_ble_eq_true rfl) ?_
  intro p e s m below meth c A H locs ls hx hb hr hml hts hown hlocks hsz hP hK hD hE hA hS hl
  have hl : lv_has ls 6 [(0, .ref qm), (1, .int (nI u)), (2, .int (nI k))] := hl
  have hown : s.vm.findClass RX3 = some m.cls := hown
  refine lv_aload_n hx hb dX3_write_0 rfl (lv_at hl 0 rfl) ?_
  refine va_get (D := (dC, dI)) (ci := 3) (v := .int kp) (C := RX3) (T := TX3) (N := 17) hx hb hts (by decide +kernel) hown hK hP 0 rfl rfl 11 (by decide) (hts (.fieldLink RX3 25 "HouseLogModel" "keep" "I") (by decide +kernel)) (fun _ h9 => h9) rfl dX3_write_1 ?_
  refine lv_if_ne (tgt := 11) hx hb dX3_write_4 (by decide) (fun c_4 => ?_) (fun c_4 => ?_)
  · skip
    refine lv_iconst (v := 0) hx hb dX3_write_11 (by decide) ?_
    refine lv_istore_n (lv' := [(3, .int 0), (0, .ref qm), (1, .int (nI u)), (2, .int (nI k))]) hx hb dX3_write_12 rfl hl (by decide) rfl (fun ls hl => ?_)
    refine lv_iload_n hx hb dX3_write_13 rfl (lv_at hl 0 rfl) ?_
    refine lv_if_eq (tgt := 24) hx hb dX3_write_14 (by decide) (fun c_14 => ?_) (fun c_14 => ?_)
    · skip
      refine lv_bipush (v := 64) hx hb dX3_write_24 (by decide) ?_
      refine lv_istore (lv' := [(4, .int 64), (3, .int 0), (0, .ref qm), (1, .int (nI u)), (2, .int (nI k))]) hx hb dX3_write_26 hl (by decide) rfl (fun ls hl => ?_)
      refine lv_iconst (v := 0) hx hb dX3_write_28 (by decide) ?_
      refine lv_istore (lv' := [(5, .int 0), (4, .int 64), (3, .int 0), (0, .ref qm), (1, .int (nI u)), (2, .int (nI k))]) hx hb dX3_write_29 hl (by decide) rfl (fun ls hl => ?_)
      have loop : ∀ (k0 i : Nat) (H : Heap) (locs : List Loc) (ls : Array Slot), (i + k0 = 64) → va_P (dC, dI) hlCl [(qm, .inr (3, [.int th, .int (nI n), .ref qd, .int rw, .int ak, .ref qk, .ref ql, .ref qy, .int cb, .ref qc, .int dn, .int kp, .int (nI tt), .int md, .int wr, .ref qi, .int sm])), (qd, .inl (cAd, 8192, .inl (wdL D La (4096 * u + 64 * k) i))), (qi, .inl (cAi, 64, .inl La))] H → va_D A [(qm, .inr (3, [.int th, .int (nI n), .ref qd, .int rw, .int ak, .ref qk, .ref ql, .ref qy, .int cb, .ref qc, .int dn, .int kp, .int (nI tt), .int md, .int wr, .ref qi, .int sm])), (qd, .inl (cAd, 8192, .inl (wdL D La (4096 * u + 64 * k) i))), (qi, .inl (cAi, 64, .inl La))] → va_S A s.heap H locs → lv_has ls 6 [(5, .int (nI i)), (4, .int 64), (3, .int 0), (0, .ref qm), (1, .int (nI u)), (2, .int (nI k))] → W p l e (rm_ 1 22) s m [.ref qm, .int (nI u), .int (nI k)].toArray below meth c H locs 0 0 (MQ below ((fun A => va_Qi (fun (r9 : Int32) (_ : Unit) => r9 = wrRI kp) (fun _ t9 => qw_ dC dI A [(qm, .inr (3, [.int th, .int (nI n), .ref qd, .int rw, .int ak, .ref qk, .ref ql, .ref qy, .int cb, .ref qc, .int dn, .int (wrRK kp), .int (nI tt), .int md, .int (wr + 1), .ref qi, .int sm])), (qd, .inl (cAd, 8192, .inl (wrRD kp tt D La u k))), (qi, .inl (cAi, 64, .inl La))] [(cAd, .int), (cAi, .int)] t9) A) A) [.ref qm, .int (nI u), .int (nI k)].toArray s 0 0 A) (F0 m 31 ls []) := by
        intro k0
        induction k0 with
        | zero =>
          intro i H locs ls hi hP hD hS hl
          obtain rfl : 64 = i := by omega
          refine lv_iload hx hb dX3_write_31 (lv_at hl 0 rfl) ?_
          refine lv_iload hx hb dX3_write_33 (lv_at hl 1 rfl) ?_
          refine lv_icmp_ge (tgt := 65) hx hb dX3_write_35 (by decide) (fun c_35 => ?_) (fun c_35 => ?_)
          · skip
            refine lv_aload_n hx hb dX3_write_65 rfl (lv_at hl 3 rfl) ?_
            refine lv_dup hx hb dX3_write_66 rfl ?_
            refine va_get (D := (dC, dI)) (ci := 3) (v := .int wr) (C := RX3) (T := TX3) (N := 17) hx hb hts (by decide +kernel) hown hK hP 0 rfl rfl 14 (by decide) (hts (.fieldLink RX3 79 "HouseLogModel" "writes" "I") (by decide +kernel)) (fun _ h9 => h9) rfl dX3_write_67 ?_
            refine lv_iconst (v := 1) hx hb dX3_write_70 (by decide) ?_
            refine lv_iadd hx hb dX3_write_71 ?_
            refine va_put (D := (dC, dI)) (ci := 3) (v := .int (wr + 1)) (ty := .int) (C := RX3) (T := TX3) (N := 17) hx hb hts (by decide +kernel) tyX3 tyX3_ok nmX3 hown hK hP hD hS 0 rfl rfl 14 (by decide) (hts (.fieldLink RX3 79 "HouseLogModel" "writes" "I") (by decide +kernel)) (fun _ h9 => h9) rfl (by decide +kernel) rfl rfl (Nat.le_of_ble_eq_true rfl) dX3_write_72 (fun H locs hP hD hS => ?_)
            have hP : va_P (dC, dI) hlCl [(qm, .inr (3, [.int th, .int (nI n), .ref qd, .int rw, .int ak, .ref qk, .ref ql, .ref qy, .int cb, .ref qc, .int dn, .int kp, .int (nI tt), .int md, .int (wr + 1), .ref qi, .int sm])), (qd, .inl (cAd, 8192, .inl (wdL D La (4096 * u + 64 * k) 64))), (qi, .inl (cAi, 64, .inl La))] H := hP
            have hD : va_D A [(qm, .inr (3, [.int th, .int (nI n), .ref qd, .int rw, .int ak, .ref qk, .ref ql, .ref qy, .int cb, .ref qc, .int dn, .int kp, .int (nI tt), .int md, .int (wr + 1), .ref qi, .int sm])), (qd, .inl (cAd, 8192, .inl (wdL D La (4096 * u + 64 * k) 64))), (qi, .inl (cAi, 64, .inl La))] := hD
            refine lv_aload_n hx hb dX3_write_75 rfl (lv_at hl 3 rfl) ?_
            refine lv_aload_n hx hb dX3_write_76 rfl (lv_at hl 3 rfl) ?_
            refine va_get (D := (dC, dI)) (ci := 3) (v := .int kp) (C := RX3) (T := TX3) (N := 17) hx hb hts (by decide +kernel) hown hK hP 0 rfl rfl 11 (by decide) (hts (.fieldLink RX3 25 "HouseLogModel" "keep" "I") (by decide +kernel)) (fun _ h9 => h9) rfl dX3_write_77 ?_
            refine lv_if_le (tgt := 92) hx hb dX3_write_80 (by decide) (fun c_80 => ?_) (fun c_80 => ?_)
            · skip
              refine lv_iconst (v := (-1)) hx hb dX3_write_92 (by decide) ?_
              refine va_put (D := (dC, dI)) (ci := 3) (v := .int (-1)) (ty := .int) (C := RX3) (T := TX3) (N := 17) hx hb hts (by decide +kernel) tyX3 tyX3_ok nmX3 hown hK hP hD hS 0 rfl rfl 11 (by decide) (hts (.fieldLink RX3 25 "HouseLogModel" "keep" "I") (by decide +kernel)) (fun _ h9 => h9) rfl (by decide +kernel) rfl rfl (Nat.le_of_ble_eq_true rfl) dX3_write_93 (fun H locs hP hD hS => ?_)
              have hP : va_P (dC, dI) hlCl [(qm, .inr (3, [.int th, .int (nI n), .ref qd, .int rw, .int ak, .ref qk, .ref ql, .ref qy, .int cb, .ref qc, .int dn, .int (-1), .int (nI tt), .int md, .int (wr + 1), .ref qi, .int sm])), (qd, .inl (cAd, 8192, .inl (wdL D La (4096 * u + 64 * k) 64))), (qi, .inl (cAi, 64, .inl La))] H := hP
              have hD : va_D A [(qm, .inr (3, [.int th, .int (nI n), .ref qd, .int rw, .int ak, .ref qk, .ref ql, .ref qy, .int cb, .ref qc, .int dn, .int (-1), .int (nI tt), .int md, .int (wr + 1), .ref qi, .int sm])), (qd, .inl (cAd, 8192, .inl (wdL D La (4096 * u + 64 * k) 64))), (qi, .inl (cAi, 64, .inl La))] := hD
              refine lv_iload_n hx hb dX3_write_96 rfl (lv_at hl 2 rfl) ?_
              refine lv_if_ne (tgt := 104) hx hb dX3_write_97 (by decide) (fun c_97 => ?_) (fun c_97 => ?_)
              · exact absurd (by decide) c_97
              · skip
                refine lv_iconst (v := 1) hx hb dX3_write_100 (by decide) ?_
                refine lv_goto (tgt := 105) hx hb dX3_write_101 (by decide) ?_
                exact hr_z (v := 1) hx hb hr hlocks (by decide) (w1 := [(qm, .inr (3, [.int th, .int (nI n), .ref qd, .int rw, .int ak, .ref qk, .ref ql, .ref qy, .int cb, .ref qc, .int dn, .int (-1), .int (nI tt), .int md, .int (wr + 1), .ref qi, .int sm])), (qd, .inl (cAd, 8192, .inl (wdL D La (4096 * u + 64 * k) 64))), (qi, .inl (cAi, 64, .inl La))]) hP hD hK hS [0, 1, 2] [0, 1] rfl rfl rfl (by simp only [wrRI, if_neg c_4, if_pos c_80] <;> rfl) (by simp only [wrRI, wrRK, wrRD, if_neg c_4, if_pos c_80] <;> rfl) dX3_write_105
            · skip
              refine lv_aload_n hx hb dX3_write_83 rfl (lv_at hl 3 rfl) ?_
              refine va_get (D := (dC, dI)) (ci := 3) (v := .int kp) (C := RX3) (T := TX3) (N := 17) hx hb hts (by decide +kernel) hown hK hP 0 rfl rfl 11 (by decide) (hts (.fieldLink RX3 25 "HouseLogModel" "keep" "I") (by decide +kernel)) (fun _ h9 => h9) rfl dX3_write_84 ?_
              refine lv_iconst (v := 1) hx hb dX3_write_87 (by decide) ?_
              refine lv_isub hx hb dX3_write_88 ?_
              refine lv_goto (tgt := 93) hx hb dX3_write_89 (by decide) ?_
              refine va_put (D := (dC, dI)) (ci := 3) (v := .int (kp - 1)) (ty := .int) (C := RX3) (T := TX3) (N := 17) hx hb hts (by decide +kernel) tyX3 tyX3_ok nmX3 hown hK hP hD hS 0 rfl rfl 11 (by decide) (hts (.fieldLink RX3 25 "HouseLogModel" "keep" "I") (by decide +kernel)) (fun _ h9 => h9) rfl (by decide +kernel) rfl rfl (Nat.le_of_ble_eq_true rfl) dX3_write_93 (fun H locs hP hD hS => ?_)
              have hP : va_P (dC, dI) hlCl [(qm, .inr (3, [.int th, .int (nI n), .ref qd, .int rw, .int ak, .ref qk, .ref ql, .ref qy, .int cb, .ref qc, .int dn, .int (kp - 1), .int (nI tt), .int md, .int (wr + 1), .ref qi, .int sm])), (qd, .inl (cAd, 8192, .inl (wdL D La (4096 * u + 64 * k) 64))), (qi, .inl (cAi, 64, .inl La))] H := hP
              have hD : va_D A [(qm, .inr (3, [.int th, .int (nI n), .ref qd, .int rw, .int ak, .ref qk, .ref ql, .ref qy, .int cb, .ref qc, .int dn, .int (kp - 1), .int (nI tt), .int md, .int (wr + 1), .ref qi, .int sm])), (qd, .inl (cAd, 8192, .inl (wdL D La (4096 * u + 64 * k) 64))), (qi, .inl (cAi, 64, .inl La))] := hD
              refine lv_iload_n hx hb dX3_write_96 rfl (lv_at hl 2 rfl) ?_
              refine lv_if_ne (tgt := 104) hx hb dX3_write_97 (by decide) (fun c_97 => ?_) (fun c_97 => ?_)
              · exact absurd (by decide) c_97
              · skip
                refine lv_iconst (v := 1) hx hb dX3_write_100 (by decide) ?_
                refine lv_goto (tgt := 105) hx hb dX3_write_101 (by decide) ?_
                exact hr_z (v := 1) hx hb hr hlocks (by decide) (w1 := [(qm, .inr (3, [.int th, .int (nI n), .ref qd, .int rw, .int ak, .ref qk, .ref ql, .ref qy, .int cb, .ref qc, .int dn, .int (kp - 1), .int (nI tt), .int md, .int (wr + 1), .ref qi, .int sm])), (qd, .inl (cAd, 8192, .inl (wdL D La (4096 * u + 64 * k) 64))), (qi, .inl (cAi, 64, .inl La))]) hP hD hK hS [0, 1, 2] [0, 1] rfl rfl rfl (by simp only [wrRI, if_neg c_4, if_neg c_80] <;> rfl) (by simp only [wrRI, wrRK, wrRD, if_neg c_4, if_neg c_80] <;> rfl) dX3_write_105
          · exact absurd (nI_le (a := 64) (b := 64) (Nat.le_refl _) (by omega)) c_35
        | succ k0 ih =>
          intro i H locs ls hi hP hD hS hl
          refine lv_iload hx hb dX3_write_31 (lv_at hl 0 rfl) ?_
          refine lv_iload hx hb dX3_write_33 (lv_at hl 1 rfl) ?_
          refine lv_icmp_ge (tgt := 65) hx hb dX3_write_35 (by decide) (fun c_35 => ?_) (fun c_35 => ?_)
          · exact absurd c_35 (nI_ge (a := i) (b := 64) (by omega) (by omega))
          · skip
            refine lv_aload_n hx hb dX3_write_38 rfl (lv_at hl 3 rfl) ?_
            refine va_get (D := (dC, dI)) (ci := 3) (v := .ref qd) (C := RX3) (T := TX3) (N := 17) hx hb hts (by decide +kernel) hown hK hP 0 rfl rfl 2 (by decide) (hts (.fieldLink RX3 7 "HouseLogModel" "disk" "[I") (by decide +kernel)) (fun _ h9 => h9) rfl dX3_write_39 ?_
            refine lv_aload_n hx hb dX3_write_42 rfl (lv_at hl 3 rfl) ?_
            refine lv_iload_n hx hb dX3_write_43 rfl (lv_at hl 4 rfl) ?_
            refine lv_iload_n hx hb dX3_write_44 rfl (lv_at hl 5 rfl) ?_
            refine hc_iV (As := [.int (nI u), .int (nI k)]) (rest := [.ref qd]) (wr := [(qd, .inl (cAd, 8192, .inl (wdL D La (4096 * u + 64 * k) i))), (qi, .inl (cAi, 64, .inl La))]) ⟨hx, hb, hml, hown, hts⟩ sx_T trivial (kX3_from l dC dI H.size qm qd qk ql qy qc qi n th rw ak cb dn kp (nI tt) md wr sm u k ) (cwV 2 hts gX3_write_X3_from rfl rfl rfl (by decide +kernel) ⟨Nat.le_of_ble_eq_true rfl, Nat.le_of_ble_eq_true rfl⟩) hK hP hD hS hA [0] [1, 2] [] rfl rfl rfl rfl rfl (by decide) (ci := 3) rfl rfl rfl rfl hl.1 rfl (Nat.le_of_ble_eq_true rfl) dX3_write_45 ⟨Nat.zero_le _, Nat.zero_le _⟩ (fun H locs hP hD hS => ?_)
            have hP : va_P (dC, dI) hlCl [(qm, .inr (3, [.int th, .int (nI n), .ref qd, .int rw, .int ak, .ref qk, .ref ql, .ref qy, .int cb, .ref qc, .int dn, .int kp, .int (nI tt), .int md, .int wr, .ref qi, .int sm])), (qd, .inl (cAd, 8192, .inl (wdL D La (4096 * u + 64 * k) i))), (qi, .inl (cAi, 64, .inl La))] H := hP.sub [2, 0, 1] rfl
            have hD : va_D A [(qm, .inr (3, [.int th, .int (nI n), .ref qd, .int rw, .int ak, .ref qk, .ref ql, .ref qy, .int cb, .ref qc, .int dn, .int kp, .int (nI tt), .int md, .int wr, .ref qi, .int sm])), (qd, .inl (cAd, 8192, .inl (wdL D La (4096 * u + 64 * k) i))), (qi, .inl (cAi, 64, .inl La))] := hD.sub [2, 0, 1] (by decide) rfl
            refine lv_iload hx hb dX3_write_48 (lv_at hl 0 rfl) ?_
            refine lv_iadd hx hb dX3_write_50 ?_
            rw [show ((nI (4096 * u + 64 * k)) + (nI i) : Int32) = nI (4096 * u + 64 * k + i) from nI_add (4096 * u + 64 * k) i]
            refine lv_aload_n hx hb dX3_write_51 rfl (lv_at hl 3 rfl) ?_
            refine va_get (D := (dC, dI)) (ci := 3) (v := .ref qi) (C := RX3) (T := TX3) (N := 17) hx hb hts (by decide +kernel) hown hK hP 0 rfl rfl 15 (by decide) (hts (.fieldLink RX3 29 "HouseLogModel" "laid" "[I") (by decide +kernel)) (fun _ h9 => h9) rfl dX3_write_52 ?_
            refine lv_iload hx hb dX3_write_55 (lv_at hl 0 rfl) ?_
            refine va_iald hx hb hK hP 2 1 rfl rfl (i := nI i) (vp_in_nI (n := i) (by omega) (by decide)) dX3_write_57 ?_
            refine W.eq (g2 := F0 m 58 ls (.int (La i) :: .int (nI (4096 * u + 64 * k + i)) :: .ref qd :: [])) (by rw [show (nI i : Int32).toNatClampNeg = i from nI_clamp (by omega)]) ?_
            refine va_iast hx hb hK hP hD hS 1 0 rfl rfl (i := nI (4096 * u + 64 * k + i)) (vp_in_nI (n := 4096 * u + 64 * k + i) (by omega) (by decide)) dX3_write_58 (fun H locs hP hD hS => ?_)
            rw [show (nI (4096 * u + 64 * k + i) : Int32).toNatClampNeg = 4096 * u + 64 * k + i from nI_clamp (by omega)] at hP hD
            have hP : va_P (dC, dI) hlCl [(qm, .inr (3, [.int th, .int (nI n), .ref qd, .int rw, .int ak, .ref qk, .ref ql, .ref qy, .int cb, .ref qc, .int dn, .int kp, .int (nI tt), .int md, .int wr, .ref qi, .int sm])), (qd, .inl (cAd, 8192, .inl (upd (wdL D La (4096 * u + 64 * k) i) (4096 * u + 64 * k + i) (La i)))), (qi, .inl (cAi, 64, .inl La))] H := hP
            have hD : va_D A [(qm, .inr (3, [.int th, .int (nI n), .ref qd, .int rw, .int ak, .ref qk, .ref ql, .ref qy, .int cb, .ref qc, .int dn, .int kp, .int (nI tt), .int md, .int wr, .ref qi, .int sm])), (qd, .inl (cAd, 8192, .inl (upd (wdL D La (4096 * u + 64 * k) i) (4096 * u + 64 * k + i) (La i)))), (qi, .inl (cAi, 64, .inl La))] := hD
            refine lv_iinc (v := nI (i + 1)) (lv' := [(5, .int (nI (i + 1))), (4, .int 64), (3, .int 0), (0, .ref qm), (1, .int (nI u)), (2, .int (nI k))]) hx hb dX3_write_59 hl (k := 0) rfl (nI_add i 1) (by decide) rfl (fun ls hl => ?_)
            refine lv_goto (tgt := 31) hx hb dX3_write_62 (by decide) ?_
            exact ih (i + 1) H locs ls (by omega)  hP hD hS (lv_sub hl [0, 1, 2, 3, 4, 5] rfl)
      exact loop 64 0 H locs ls (by omega)  hP hD hS (lv_sub hl [0, 1, 2, 3, 4, 5] rfl)
    · exact absurd (by decide) c_14
  · skip
    refine lv_iconst (v := 1) hx hb dX3_write_7 (by decide) ?_
    refine lv_goto (tgt := 12) hx hb dX3_write_8 (by decide) ?_
    refine lv_istore_n (lv' := [(3, .int 1), (0, .ref qm), (1, .int (nI u)), (2, .int (nI k))]) hx hb dX3_write_12 rfl hl (by decide) rfl (fun ls hl => ?_)
    refine lv_iload_n hx hb dX3_write_13 rfl (lv_at hl 0 rfl) ?_
    refine lv_if_eq (tgt := 24) hx hb dX3_write_14 (by decide) (fun c_14 => ?_) (fun c_14 => ?_)
    · exact absurd c_14 (by decide)
    · skip
      refine lv_aload_n hx hb dX3_write_17 rfl (lv_at hl 1 rfl) ?_
      refine va_get (D := (dC, dI)) (ci := 3) (v := .int (nI tt)) (C := RX3) (T := TX3) (N := 17) hx hb hts (by decide +kernel) hown hK hP 0 rfl rfl 12 (by decide) (hts (.fieldLink RX3 76 "HouseLogModel" "tear" "I") (by decide +kernel)) (fun _ h9 => h9) rfl dX3_write_18 ?_
      refine lv_goto (tgt := 26) hx hb dX3_write_21 (by decide) ?_
      refine lv_istore (lv' := [(4, .int (nI tt)), (3, .int 1), (0, .ref qm), (1, .int (nI u)), (2, .int (nI k))]) hx hb dX3_write_26 hl (by decide) rfl (fun ls hl => ?_)
      refine lv_iconst (v := 0) hx hb dX3_write_28 (by decide) ?_
      refine lv_istore (lv' := [(5, .int 0), (4, .int (nI tt)), (3, .int 1), (0, .ref qm), (1, .int (nI u)), (2, .int (nI k))]) hx hb dX3_write_29 hl (by decide) rfl (fun ls hl => ?_)
      have loop : ∀ (k0 i : Nat) (H : Heap) (locs : List Loc) (ls : Array Slot), (i + k0 = tt) → va_P (dC, dI) hlCl [(qm, .inr (3, [.int th, .int (nI n), .ref qd, .int rw, .int ak, .ref qk, .ref ql, .ref qy, .int cb, .ref qc, .int dn, .int kp, .int (nI tt), .int md, .int wr, .ref qi, .int sm])), (qd, .inl (cAd, 8192, .inl (wdL D La (4096 * u + 64 * k) i))), (qi, .inl (cAi, 64, .inl La))] H → va_D A [(qm, .inr (3, [.int th, .int (nI n), .ref qd, .int rw, .int ak, .ref qk, .ref ql, .ref qy, .int cb, .ref qc, .int dn, .int kp, .int (nI tt), .int md, .int wr, .ref qi, .int sm])), (qd, .inl (cAd, 8192, .inl (wdL D La (4096 * u + 64 * k) i))), (qi, .inl (cAi, 64, .inl La))] → va_S A s.heap H locs → lv_has ls 6 [(5, .int (nI i)), (4, .int (nI tt)), (3, .int 1), (0, .ref qm), (1, .int (nI u)), (2, .int (nI k))] → W p l e (rm_ 1 22) s m [.ref qm, .int (nI u), .int (nI k)].toArray below meth c H locs 0 0 (MQ below ((fun A => va_Qi (fun (r9 : Int32) (_ : Unit) => r9 = wrRI kp) (fun _ t9 => qw_ dC dI A [(qm, .inr (3, [.int th, .int (nI n), .ref qd, .int rw, .int ak, .ref qk, .ref ql, .ref qy, .int cb, .ref qc, .int dn, .int (wrRK kp), .int (nI tt), .int md, .int (wr + 1), .ref qi, .int sm])), (qd, .inl (cAd, 8192, .inl (wrRD kp tt D La u k))), (qi, .inl (cAi, 64, .inl La))] [(cAd, .int), (cAi, .int)] t9) A) A) [.ref qm, .int (nI u), .int (nI k)].toArray s 0 0 A) (F0 m 31 ls []) := by
        intro k0
        induction k0 with
        | zero =>
          intro i H locs ls hi hP hD hS hl
          obtain rfl : tt = i := by omega
          refine lv_iload hx hb dX3_write_31 (lv_at hl 0 rfl) ?_
          refine lv_iload hx hb dX3_write_33 (lv_at hl 1 rfl) ?_
          refine lv_icmp_ge (tgt := 65) hx hb dX3_write_35 (by decide) (fun c_35 => ?_) (fun c_35 => ?_)
          · skip
            refine lv_aload_n hx hb dX3_write_65 rfl (lv_at hl 3 rfl) ?_
            refine lv_dup hx hb dX3_write_66 rfl ?_
            refine va_get (D := (dC, dI)) (ci := 3) (v := .int wr) (C := RX3) (T := TX3) (N := 17) hx hb hts (by decide +kernel) hown hK hP 0 rfl rfl 14 (by decide) (hts (.fieldLink RX3 79 "HouseLogModel" "writes" "I") (by decide +kernel)) (fun _ h9 => h9) rfl dX3_write_67 ?_
            refine lv_iconst (v := 1) hx hb dX3_write_70 (by decide) ?_
            refine lv_iadd hx hb dX3_write_71 ?_
            refine va_put (D := (dC, dI)) (ci := 3) (v := .int (wr + 1)) (ty := .int) (C := RX3) (T := TX3) (N := 17) hx hb hts (by decide +kernel) tyX3 tyX3_ok nmX3 hown hK hP hD hS 0 rfl rfl 14 (by decide) (hts (.fieldLink RX3 79 "HouseLogModel" "writes" "I") (by decide +kernel)) (fun _ h9 => h9) rfl (by decide +kernel) rfl rfl (Nat.le_of_ble_eq_true rfl) dX3_write_72 (fun H locs hP hD hS => ?_)
            have hP : va_P (dC, dI) hlCl [(qm, .inr (3, [.int th, .int (nI n), .ref qd, .int rw, .int ak, .ref qk, .ref ql, .ref qy, .int cb, .ref qc, .int dn, .int kp, .int (nI tt), .int md, .int (wr + 1), .ref qi, .int sm])), (qd, .inl (cAd, 8192, .inl (wdL D La (4096 * u + 64 * k) tt))), (qi, .inl (cAi, 64, .inl La))] H := hP
            have hD : va_D A [(qm, .inr (3, [.int th, .int (nI n), .ref qd, .int rw, .int ak, .ref qk, .ref ql, .ref qy, .int cb, .ref qc, .int dn, .int kp, .int (nI tt), .int md, .int (wr + 1), .ref qi, .int sm])), (qd, .inl (cAd, 8192, .inl (wdL D La (4096 * u + 64 * k) tt))), (qi, .inl (cAi, 64, .inl La))] := hD
            refine lv_aload_n hx hb dX3_write_75 rfl (lv_at hl 3 rfl) ?_
            refine lv_aload_n hx hb dX3_write_76 rfl (lv_at hl 3 rfl) ?_
            refine va_get (D := (dC, dI)) (ci := 3) (v := .int kp) (C := RX3) (T := TX3) (N := 17) hx hb hts (by decide +kernel) hown hK hP 0 rfl rfl 11 (by decide) (hts (.fieldLink RX3 25 "HouseLogModel" "keep" "I") (by decide +kernel)) (fun _ h9 => h9) rfl dX3_write_77 ?_
            refine lv_if_le (tgt := 92) hx hb dX3_write_80 (by decide) (fun c_80 => ?_) (fun c_80 => ?_)
            · skip
              refine lv_iconst (v := (-1)) hx hb dX3_write_92 (by decide) ?_
              refine va_put (D := (dC, dI)) (ci := 3) (v := .int (-1)) (ty := .int) (C := RX3) (T := TX3) (N := 17) hx hb hts (by decide +kernel) tyX3 tyX3_ok nmX3 hown hK hP hD hS 0 rfl rfl 11 (by decide) (hts (.fieldLink RX3 25 "HouseLogModel" "keep" "I") (by decide +kernel)) (fun _ h9 => h9) rfl (by decide +kernel) rfl rfl (Nat.le_of_ble_eq_true rfl) dX3_write_93 (fun H locs hP hD hS => ?_)
              have hP : va_P (dC, dI) hlCl [(qm, .inr (3, [.int th, .int (nI n), .ref qd, .int rw, .int ak, .ref qk, .ref ql, .ref qy, .int cb, .ref qc, .int dn, .int (-1), .int (nI tt), .int md, .int (wr + 1), .ref qi, .int sm])), (qd, .inl (cAd, 8192, .inl (wdL D La (4096 * u + 64 * k) tt))), (qi, .inl (cAi, 64, .inl La))] H := hP
              have hD : va_D A [(qm, .inr (3, [.int th, .int (nI n), .ref qd, .int rw, .int ak, .ref qk, .ref ql, .ref qy, .int cb, .ref qc, .int dn, .int (-1), .int (nI tt), .int md, .int (wr + 1), .ref qi, .int sm])), (qd, .inl (cAd, 8192, .inl (wdL D La (4096 * u + 64 * k) tt))), (qi, .inl (cAi, 64, .inl La))] := hD
              refine lv_iload_n hx hb dX3_write_96 rfl (lv_at hl 2 rfl) ?_
              refine lv_if_ne (tgt := 104) hx hb dX3_write_97 (by decide) (fun c_97 => ?_) (fun c_97 => ?_)
              · skip
                refine lv_iconst (v := 0) hx hb dX3_write_104 (by decide) ?_
                exact hr_z (v := 0) hx hb hr hlocks (by decide) (w1 := [(qm, .inr (3, [.int th, .int (nI n), .ref qd, .int rw, .int ak, .ref qk, .ref ql, .ref qy, .int cb, .ref qc, .int dn, .int (-1), .int (nI tt), .int md, .int (wr + 1), .ref qi, .int sm])), (qd, .inl (cAd, 8192, .inl (wdL D La (4096 * u + 64 * k) tt))), (qi, .inl (cAi, 64, .inl La))]) hP hD hK hS [0, 1, 2] [0, 1] rfl rfl rfl (by simp only [wrRI, if_pos c_4, if_pos c_80] <;> rfl) (by simp only [wrRI, wrRK, wrRD, if_pos c_4, if_pos c_80] <;> rfl) dX3_write_105
              · exact absurd c_97 (by decide)
            · skip
              refine lv_aload_n hx hb dX3_write_83 rfl (lv_at hl 3 rfl) ?_
              refine va_get (D := (dC, dI)) (ci := 3) (v := .int kp) (C := RX3) (T := TX3) (N := 17) hx hb hts (by decide +kernel) hown hK hP 0 rfl rfl 11 (by decide) (hts (.fieldLink RX3 25 "HouseLogModel" "keep" "I") (by decide +kernel)) (fun _ h9 => h9) rfl dX3_write_84 ?_
              refine lv_iconst (v := 1) hx hb dX3_write_87 (by decide) ?_
              refine lv_isub hx hb dX3_write_88 ?_
              refine lv_goto (tgt := 93) hx hb dX3_write_89 (by decide) ?_
              refine va_put (D := (dC, dI)) (ci := 3) (v := .int (kp - 1)) (ty := .int) (C := RX3) (T := TX3) (N := 17) hx hb hts (by decide +kernel) tyX3 tyX3_ok nmX3 hown hK hP hD hS 0 rfl rfl 11 (by decide) (hts (.fieldLink RX3 25 "HouseLogModel" "keep" "I") (by decide +kernel)) (fun _ h9 => h9) rfl (by decide +kernel) rfl rfl (Nat.le_of_ble_eq_true rfl) dX3_write_93 (fun H locs hP hD hS => ?_)
              have hP : va_P (dC, dI) hlCl [(qm, .inr (3, [.int th, .int (nI n), .ref qd, .int rw, .int ak, .ref qk, .ref ql, .ref qy, .int cb, .ref qc, .int dn, .int (kp - 1), .int (nI tt), .int md, .int (wr + 1), .ref qi, .int sm])), (qd, .inl (cAd, 8192, .inl (wdL D La (4096 * u + 64 * k) tt))), (qi, .inl (cAi, 64, .inl La))] H := hP
              have hD : va_D A [(qm, .inr (3, [.int th, .int (nI n), .ref qd, .int rw, .int ak, .ref qk, .ref ql, .ref qy, .int cb, .ref qc, .int dn, .int (kp - 1), .int (nI tt), .int md, .int (wr + 1), .ref qi, .int sm])), (qd, .inl (cAd, 8192, .inl (wdL D La (4096 * u + 64 * k) tt))), (qi, .inl (cAi, 64, .inl La))] := hD
              refine lv_iload_n hx hb dX3_write_96 rfl (lv_at hl 2 rfl) ?_
              refine lv_if_ne (tgt := 104) hx hb dX3_write_97 (by decide) (fun c_97 => ?_) (fun c_97 => ?_)
              · skip
                refine lv_iconst (v := 0) hx hb dX3_write_104 (by decide) ?_
                exact hr_z (v := 0) hx hb hr hlocks (by decide) (w1 := [(qm, .inr (3, [.int th, .int (nI n), .ref qd, .int rw, .int ak, .ref qk, .ref ql, .ref qy, .int cb, .ref qc, .int dn, .int (kp - 1), .int (nI tt), .int md, .int (wr + 1), .ref qi, .int sm])), (qd, .inl (cAd, 8192, .inl (wdL D La (4096 * u + 64 * k) tt))), (qi, .inl (cAi, 64, .inl La))]) hP hD hK hS [0, 1, 2] [0, 1] rfl rfl rfl (by simp only [wrRI, if_pos c_4, if_neg c_80] <;> rfl) (by simp only [wrRI, wrRK, wrRD, if_pos c_4, if_neg c_80] <;> rfl) dX3_write_105
              · exact absurd c_97 (by decide)
          · exact absurd (nI_le (a := tt) (b := tt) (Nat.le_refl _) (by omega)) c_35
        | succ k0 ih =>
          intro i H locs ls hi hP hD hS hl
          refine lv_iload hx hb dX3_write_31 (lv_at hl 0 rfl) ?_
          refine lv_iload hx hb dX3_write_33 (lv_at hl 1 rfl) ?_
          refine lv_icmp_ge (tgt := 65) hx hb dX3_write_35 (by decide) (fun c_35 => ?_) (fun c_35 => ?_)
          · exact absurd c_35 (nI_ge (a := i) (b := tt) (by omega) (by omega))
          · skip
            refine lv_aload_n hx hb dX3_write_38 rfl (lv_at hl 3 rfl) ?_
            refine va_get (D := (dC, dI)) (ci := 3) (v := .ref qd) (C := RX3) (T := TX3) (N := 17) hx hb hts (by decide +kernel) hown hK hP 0 rfl rfl 2 (by decide) (hts (.fieldLink RX3 7 "HouseLogModel" "disk" "[I") (by decide +kernel)) (fun _ h9 => h9) rfl dX3_write_39 ?_
            refine lv_aload_n hx hb dX3_write_42 rfl (lv_at hl 3 rfl) ?_
            refine lv_iload_n hx hb dX3_write_43 rfl (lv_at hl 4 rfl) ?_
            refine lv_iload_n hx hb dX3_write_44 rfl (lv_at hl 5 rfl) ?_
            refine hc_iV (As := [.int (nI u), .int (nI k)]) (rest := [.ref qd]) (wr := [(qd, .inl (cAd, 8192, .inl (wdL D La (4096 * u + 64 * k) i))), (qi, .inl (cAi, 64, .inl La))]) ⟨hx, hb, hml, hown, hts⟩ sx_T trivial (kX3_from l dC dI H.size qm qd qk ql qy qc qi n th rw ak cb dn kp (nI tt) md wr sm u k ) (cwV 2 hts gX3_write_X3_from rfl rfl rfl (by decide +kernel) ⟨Nat.le_of_ble_eq_true rfl, Nat.le_of_ble_eq_true rfl⟩) hK hP hD hS hA [0] [1, 2] [] rfl rfl rfl rfl rfl (by decide) (ci := 3) rfl rfl rfl rfl hl.1 rfl (Nat.le_of_ble_eq_true rfl) dX3_write_45 ⟨Nat.zero_le _, Nat.zero_le _⟩ (fun H locs hP hD hS => ?_)
            have hP : va_P (dC, dI) hlCl [(qm, .inr (3, [.int th, .int (nI n), .ref qd, .int rw, .int ak, .ref qk, .ref ql, .ref qy, .int cb, .ref qc, .int dn, .int kp, .int (nI tt), .int md, .int wr, .ref qi, .int sm])), (qd, .inl (cAd, 8192, .inl (wdL D La (4096 * u + 64 * k) i))), (qi, .inl (cAi, 64, .inl La))] H := hP.sub [2, 0, 1] rfl
            have hD : va_D A [(qm, .inr (3, [.int th, .int (nI n), .ref qd, .int rw, .int ak, .ref qk, .ref ql, .ref qy, .int cb, .ref qc, .int dn, .int kp, .int (nI tt), .int md, .int wr, .ref qi, .int sm])), (qd, .inl (cAd, 8192, .inl (wdL D La (4096 * u + 64 * k) i))), (qi, .inl (cAi, 64, .inl La))] := hD.sub [2, 0, 1] (by decide) rfl
            refine lv_iload hx hb dX3_write_48 (lv_at hl 0 rfl) ?_
            refine lv_iadd hx hb dX3_write_50 ?_
            rw [show ((nI (4096 * u + 64 * k)) + (nI i) : Int32) = nI (4096 * u + 64 * k + i) from nI_add (4096 * u + 64 * k) i]
            refine lv_aload_n hx hb dX3_write_51 rfl (lv_at hl 3 rfl) ?_
            refine va_get (D := (dC, dI)) (ci := 3) (v := .ref qi) (C := RX3) (T := TX3) (N := 17) hx hb hts (by decide +kernel) hown hK hP 0 rfl rfl 15 (by decide) (hts (.fieldLink RX3 29 "HouseLogModel" "laid" "[I") (by decide +kernel)) (fun _ h9 => h9) rfl dX3_write_52 ?_
            refine lv_iload hx hb dX3_write_55 (lv_at hl 0 rfl) ?_
            refine va_iald hx hb hK hP 2 1 rfl rfl (i := nI i) (vp_in_nI (n := i) (by omega) (by decide)) dX3_write_57 ?_
            refine W.eq (g2 := F0 m 58 ls (.int (La i) :: .int (nI (4096 * u + 64 * k + i)) :: .ref qd :: [])) (by rw [show (nI i : Int32).toNatClampNeg = i from nI_clamp (by omega)]) ?_
            refine va_iast hx hb hK hP hD hS 1 0 rfl rfl (i := nI (4096 * u + 64 * k + i)) (vp_in_nI (n := 4096 * u + 64 * k + i) (by omega) (by decide)) dX3_write_58 (fun H locs hP hD hS => ?_)
            rw [show (nI (4096 * u + 64 * k + i) : Int32).toNatClampNeg = 4096 * u + 64 * k + i from nI_clamp (by omega)] at hP hD
            have hP : va_P (dC, dI) hlCl [(qm, .inr (3, [.int th, .int (nI n), .ref qd, .int rw, .int ak, .ref qk, .ref ql, .ref qy, .int cb, .ref qc, .int dn, .int kp, .int (nI tt), .int md, .int wr, .ref qi, .int sm])), (qd, .inl (cAd, 8192, .inl (upd (wdL D La (4096 * u + 64 * k) i) (4096 * u + 64 * k + i) (La i)))), (qi, .inl (cAi, 64, .inl La))] H := hP
            have hD : va_D A [(qm, .inr (3, [.int th, .int (nI n), .ref qd, .int rw, .int ak, .ref qk, .ref ql, .ref qy, .int cb, .ref qc, .int dn, .int kp, .int (nI tt), .int md, .int wr, .ref qi, .int sm])), (qd, .inl (cAd, 8192, .inl (upd (wdL D La (4096 * u + 64 * k) i) (4096 * u + 64 * k + i) (La i)))), (qi, .inl (cAi, 64, .inl La))] := hD
            refine lv_iinc (v := nI (i + 1)) (lv' := [(5, .int (nI (i + 1))), (4, .int (nI tt)), (3, .int 1), (0, .ref qm), (1, .int (nI u)), (2, .int (nI k))]) hx hb dX3_write_59 hl (k := 0) rfl (nI_add i 1) (by decide) rfl (fun ls hl => ?_)
            refine lv_goto (tgt := 31) hx hb dX3_write_62 (by decide) ?_
            exact ih (i + 1) H locs ls (by omega)  hP hD hS (lv_sub hl [0, 1, 2, 3, 4, 5] rfl)
      exact loop tt 0 H locs ls (by omega)  hP hD hS (lv_sub hl [0, 1, 2, 3, 4, 5] rfl)

set_option maxHeartbeats 4000000 in
set_option maxRecDepth 100000 in
theorem kX3_find (l : Launch) (dC : Nat → ClassId) (dI : Nat → Nat → Nat) (sz : Nat) (qm qd qk ql qy qc qi : Nat) (n : Nat) (cAd cAk cAl cAy : ClassId) (th rw ak cb dn kp tr md wr sm : Int32) (D K Ln By : Nat → Int32) (u k : Nat) (hu : u ≤ 1) (hk : k < 64) (h5 : D (4096 * u + 64 * k + 5) = nI (lz D (4096 * u + 64 * k + 5))) (h52 : lz D (4096 * u + 64 * k + 5) ≤ 40) : Mv_ l yX3_find wsX3_find 1 22 dC dI (fun _ => True) [.ref qm, .int (nI u), .int (nI k)] [(qm, .inr (3, [.int th, .int (nI n), .ref qd, .int rw, .int ak, .ref qk, .ref ql, .ref qy, .int cb, .ref qc, .int dn, .int kp, .int tr, .int md, .int wr, .ref qi, .int sm])), (qd, .inl (cAd, 8192, .inl D)), (qk, .inl (cAk, 64, .inl K)), (ql, .inl (cAl, 64, .inl Ln)), (qy, .inl (cAy, 2560, .inl By))] [(cAd, .int), (cAk, .int), (cAl, .int), (cAy, .int)] sz [(qm, .inr (3, [.int th, .int (nI n), .ref qd, .int rw, .int ak, .ref qk, .ref ql, .ref qy, .int cb, .ref qc, .int dn, .int kp, .int tr, .int md, .int wr, .ref qi, .int sm])), (qd, .inl (cAd, 8192, .inl D)), (qk, .inl (cAk, 64, .inl (upd K k (D (4096 * u + 64 * k + 4))))), (ql, .inl (cAl, 64, .inl (upd Ln k (D (4096 * u + 64 * k + 5))))), (qy, .inl (cAy, 2560, .inl (fdL By D k (4096 * u + 64 * k) (lz D (4096 * u + 64 * k + 5)))))] := by
  refine hm_ (cc := cX3_find) (maxL := 5) (ret := none) (Qc := fun A => va_Qv (fun (_ : Unit) => True) (fun _ t9 => qw_ dC dI A [(qm, .inr (3, [.int th, .int (nI n), .ref qd, .int rw, .int ak, .ref qk, .ref ql, .ref qy, .int cb, .ref qc, .int dn, .int kp, .int tr, .int md, .int wr, .ref qi, .int sm])), (qd, .inl (cAd, 8192, .inl D)), (qk, .inl (cAk, 64, .inl (upd K k (D (4096 * u + 64 * k + 4))))), (ql, .inl (cAl, 64, .inl (upd Ln k (D (4096 * u + 64 * k + 5))))), (qy, .inl (cAy, 2560, .inl (fdL By D k (4096 * u + 64 * k) (lz D (4096 * u + 64 * k + 5)))))] [(cAd, .int), (cAk, .int), (cAl, .int), (cAy, .int)] t9) A) (by decide) rfl (Nat.le_of_ble_eq_true rfl) ?_
  intro p e s m below meth c A H locs ls hx hb hr hml hts hown hlocks hsz hP hK hD hE hA hS hl
  have hl : lv_has ls 5 [(0, .ref qm), (1, .int (nI u)), (2, .int (nI k))] := hl
  have hown : s.vm.findClass RX3 = some m.cls := hown
  refine lv_aload_n hx hb dX3_find_0 rfl (lv_at hl 0 rfl) ?_
  refine lv_iload_n hx hb dX3_find_1 rfl (lv_at hl 1 rfl) ?_
  refine lv_iload_n hx hb dX3_find_2 rfl (lv_at hl 2 rfl) ?_
  refine hc_iV (As := [.int (nI u), .int (nI k)]) (rest := []) (wr := [(qd, .inl (cAd, 8192, .inl D)), (qk, .inl (cAk, 64, .inl K)), (ql, .inl (cAl, 64, .inl Ln)), (qy, .inl (cAy, 2560, .inl By))]) ⟨hx, hb, hml, hown, hts⟩ sx_T trivial (kX3_from l dC dI H.size qm qd qk ql qy qc qi n th rw ak cb dn kp tr md wr sm u k ) (cwV 2 hts gX3_find_X3_from rfl rfl rfl (by decide +kernel) ⟨Nat.le_of_ble_eq_true rfl, Nat.le_of_ble_eq_true rfl⟩) hK hP hD hS hA [0] [1, 2, 3, 4] [] rfl rfl rfl rfl rfl (by decide) (ci := 3) rfl rfl rfl rfl hl.1 rfl (Nat.le_of_ble_eq_true rfl) dX3_find_3 ⟨Nat.zero_le _, Nat.zero_le _⟩ (fun H locs hP hD hS => ?_)
  have hP : va_P (dC, dI) hlCl [(qm, .inr (3, [.int th, .int (nI n), .ref qd, .int rw, .int ak, .ref qk, .ref ql, .ref qy, .int cb, .ref qc, .int dn, .int kp, .int tr, .int md, .int wr, .ref qi, .int sm])), (qd, .inl (cAd, 8192, .inl D)), (qk, .inl (cAk, 64, .inl K)), (ql, .inl (cAl, 64, .inl Ln)), (qy, .inl (cAy, 2560, .inl By))] H := hP.sub [4, 0, 1, 2, 3] rfl
  have hD : va_D A [(qm, .inr (3, [.int th, .int (nI n), .ref qd, .int rw, .int ak, .ref qk, .ref ql, .ref qy, .int cb, .ref qc, .int dn, .int kp, .int tr, .int md, .int wr, .ref qi, .int sm])), (qd, .inl (cAd, 8192, .inl D)), (qk, .inl (cAk, 64, .inl K)), (ql, .inl (cAl, 64, .inl Ln)), (qy, .inl (cAy, 2560, .inl By))] := hD.sub [4, 0, 1, 2, 3] (by decide) rfl
  refine lv_istore_n (lv' := [(3, .int (nI (4096 * u + 64 * k))), (0, .ref qm), (1, .int (nI u)), (2, .int (nI k))]) hx hb dX3_find_6 rfl hl (by decide) rfl (fun ls hl => ?_)
  refine lv_aload_n hx hb dX3_find_7 rfl (lv_at hl 1 rfl) ?_
  refine va_get (D := (dC, dI)) (ci := 3) (v := .ref qk) (C := RX3) (T := TX3) (N := 17) hx hb hts (by decide +kernel) hown hK hP 0 rfl rfl 5 (by decide) (hts (.fieldLink RX3 13 "HouseLogModel" "kinds" "[I") (by decide +kernel)) (fun _ h9 => h9) rfl dX3_find_8 ?_
  refine lv_iload_n hx hb dX3_find_11 rfl (lv_at hl 3 rfl) ?_
  refine lv_aload_n hx hb dX3_find_12 rfl (lv_at hl 1 rfl) ?_
  refine va_get (D := (dC, dI)) (ci := 3) (v := .ref qd) (C := RX3) (T := TX3) (N := 17) hx hb hts (by decide +kernel) hown hK hP 0 rfl rfl 2 (by decide) (hts (.fieldLink RX3 7 "HouseLogModel" "disk" "[I") (by decide +kernel)) (fun _ h9 => h9) rfl dX3_find_13 ?_
  refine lv_iload_n hx hb dX3_find_16 rfl (lv_at hl 0 rfl) ?_
  refine lv_iconst (v := 4) hx hb dX3_find_17 (by decide) ?_
  refine lv_iadd hx hb dX3_find_18 ?_
  rw [show ((nI (4096 * u + 64 * k)) + 4 : Int32) = nI (4096 * u + 64 * k + 4) from nI_add (4096 * u + 64 * k) 4]
  refine va_iald hx hb hK hP 1 0 rfl rfl (i := nI (4096 * u + 64 * k + 4)) (vp_in_nI (n := 4096 * u + 64 * k + 4) (by omega) (by decide)) dX3_find_19 ?_
  refine W.eq (g2 := F0 m 20 ls (.int (D (4096 * u + 64 * k + 4)) :: .int (nI k) :: .ref qk :: [])) (by rw [show (nI (4096 * u + 64 * k + 4) : Int32).toNatClampNeg = 4096 * u + 64 * k + 4 from nI_clamp (by omega)]) ?_
  refine va_iast hx hb hK hP hD hS 2 1 rfl rfl (i := nI k) (vp_in_nI (n := k) (by omega) (by decide)) dX3_find_20 (fun H locs hP hD hS => ?_)
  rw [show (nI k : Int32).toNatClampNeg = k from nI_clamp (by omega)] at hP hD
  have hP : va_P (dC, dI) hlCl [(qm, .inr (3, [.int th, .int (nI n), .ref qd, .int rw, .int ak, .ref qk, .ref ql, .ref qy, .int cb, .ref qc, .int dn, .int kp, .int tr, .int md, .int wr, .ref qi, .int sm])), (qd, .inl (cAd, 8192, .inl D)), (qk, .inl (cAk, 64, .inl (upd K k (D (4096 * u + 64 * k + 4))))), (ql, .inl (cAl, 64, .inl Ln)), (qy, .inl (cAy, 2560, .inl By))] H := hP
  have hD : va_D A [(qm, .inr (3, [.int th, .int (nI n), .ref qd, .int rw, .int ak, .ref qk, .ref ql, .ref qy, .int cb, .ref qc, .int dn, .int kp, .int tr, .int md, .int wr, .ref qi, .int sm])), (qd, .inl (cAd, 8192, .inl D)), (qk, .inl (cAk, 64, .inl (upd K k (D (4096 * u + 64 * k + 4))))), (ql, .inl (cAl, 64, .inl Ln)), (qy, .inl (cAy, 2560, .inl By))] := hD
  refine lv_aload_n hx hb dX3_find_21 rfl (lv_at hl 1 rfl) ?_
  refine va_get (D := (dC, dI)) (ci := 3) (v := .ref ql) (C := RX3) (T := TX3) (N := 17) hx hb hts (by decide +kernel) hown hK hP 0 rfl rfl 6 (by decide) (hts (.fieldLink RX3 16 "HouseLogModel" "lengths" "[I") (by decide +kernel)) (fun _ h9 => h9) rfl dX3_find_22 ?_
  refine lv_iload_n hx hb dX3_find_25 rfl (lv_at hl 3 rfl) ?_
  refine lv_aload_n hx hb dX3_find_26 rfl (lv_at hl 1 rfl) ?_
  refine va_get (D := (dC, dI)) (ci := 3) (v := .ref qd) (C := RX3) (T := TX3) (N := 17) hx hb hts (by decide +kernel) hown hK hP 0 rfl rfl 2 (by decide) (hts (.fieldLink RX3 7 "HouseLogModel" "disk" "[I") (by decide +kernel)) (fun _ h9 => h9) rfl dX3_find_27 ?_
  refine lv_iload_n hx hb dX3_find_30 rfl (lv_at hl 0 rfl) ?_
  refine lv_iconst (v := 5) hx hb dX3_find_31 (by decide) ?_
  refine lv_iadd hx hb dX3_find_32 ?_
  rw [show ((nI (4096 * u + 64 * k)) + 5 : Int32) = nI (4096 * u + 64 * k + 5) from nI_add (4096 * u + 64 * k) 5]
  refine va_iald hx hb hK hP 1 0 rfl rfl (i := nI (4096 * u + 64 * k + 5)) (vp_in_nI (n := 4096 * u + 64 * k + 5) (by omega) (by decide)) dX3_find_33 ?_
  refine W.eq (g2 := F0 m 34 ls (.int (D (4096 * u + 64 * k + 5)) :: .int (nI k) :: .ref ql :: [])) (by rw [show (nI (4096 * u + 64 * k + 5) : Int32).toNatClampNeg = 4096 * u + 64 * k + 5 from nI_clamp (by omega)]) ?_
  refine va_iast hx hb hK hP hD hS 3 2 rfl rfl (i := nI k) (vp_in_nI (n := k) (by omega) (by decide)) dX3_find_34 (fun H locs hP hD hS => ?_)
  rw [show (nI k : Int32).toNatClampNeg = k from nI_clamp (by omega)] at hP hD
  have hP : va_P (dC, dI) hlCl [(qm, .inr (3, [.int th, .int (nI n), .ref qd, .int rw, .int ak, .ref qk, .ref ql, .ref qy, .int cb, .ref qc, .int dn, .int kp, .int tr, .int md, .int wr, .ref qi, .int sm])), (qd, .inl (cAd, 8192, .inl D)), (qk, .inl (cAk, 64, .inl (upd K k (D (4096 * u + 64 * k + 4))))), (ql, .inl (cAl, 64, .inl (upd Ln k (D (4096 * u + 64 * k + 5))))), (qy, .inl (cAy, 2560, .inl By))] H := hP
  have hD : va_D A [(qm, .inr (3, [.int th, .int (nI n), .ref qd, .int rw, .int ak, .ref qk, .ref ql, .ref qy, .int cb, .ref qc, .int dn, .int kp, .int tr, .int md, .int wr, .ref qi, .int sm])), (qd, .inl (cAd, 8192, .inl D)), (qk, .inl (cAk, 64, .inl (upd K k (D (4096 * u + 64 * k + 4))))), (ql, .inl (cAl, 64, .inl (upd Ln k (D (4096 * u + 64 * k + 5))))), (qy, .inl (cAy, 2560, .inl By))] := hD
  refine lv_iconst (v := 0) hx hb dX3_find_35 (by decide) ?_
  refine lv_istore (lv' := [(4, .int 0), (3, .int (nI (4096 * u + 64 * k))), (0, .ref qm), (1, .int (nI u)), (2, .int (nI k))]) hx hb dX3_find_36 hl (by decide) rfl (fun ls hl => ?_)
  have loop : ∀ (k0 i : Nat) (H : Heap) (locs : List Loc) (ls : Array Slot), (i + k0 = lz D (4096 * u + 64 * k + 5)) → va_P (dC, dI) hlCl [(qm, .inr (3, [.int th, .int (nI n), .ref qd, .int rw, .int ak, .ref qk, .ref ql, .ref qy, .int cb, .ref qc, .int dn, .int kp, .int tr, .int md, .int wr, .ref qi, .int sm])), (qd, .inl (cAd, 8192, .inl D)), (qk, .inl (cAk, 64, .inl (upd K k (D (4096 * u + 64 * k + 4))))), (ql, .inl (cAl, 64, .inl (upd Ln k (D (4096 * u + 64 * k + 5))))), (qy, .inl (cAy, 2560, .inl (fdL By D k (4096 * u + 64 * k) i)))] H → va_D A [(qm, .inr (3, [.int th, .int (nI n), .ref qd, .int rw, .int ak, .ref qk, .ref ql, .ref qy, .int cb, .ref qc, .int dn, .int kp, .int tr, .int md, .int wr, .ref qi, .int sm])), (qd, .inl (cAd, 8192, .inl D)), (qk, .inl (cAk, 64, .inl (upd K k (D (4096 * u + 64 * k + 4))))), (ql, .inl (cAl, 64, .inl (upd Ln k (D (4096 * u + 64 * k + 5))))), (qy, .inl (cAy, 2560, .inl (fdL By D k (4096 * u + 64 * k) i)))] → va_S A s.heap H locs → lv_has ls 5 [(4, .int (nI i)), (3, .int (nI (4096 * u + 64 * k))), (0, .ref qm), (1, .int (nI u)), (2, .int (nI k))] → W p l e (rm_ 1 22) s m [.ref qm, .int (nI u), .int (nI k)].toArray below meth c H locs 0 0 (MQ below ((fun A => va_Qv (fun (_ : Unit) => True) (fun _ t9 => qw_ dC dI A [(qm, .inr (3, [.int th, .int (nI n), .ref qd, .int rw, .int ak, .ref qk, .ref ql, .ref qy, .int cb, .ref qc, .int dn, .int kp, .int tr, .int md, .int wr, .ref qi, .int sm])), (qd, .inl (cAd, 8192, .inl D)), (qk, .inl (cAk, 64, .inl (upd K k (D (4096 * u + 64 * k + 4))))), (ql, .inl (cAl, 64, .inl (upd Ln k (D (4096 * u + 64 * k + 5))))), (qy, .inl (cAy, 2560, .inl (fdL By D k (4096 * u + 64 * k) (lz D (4096 * u + 64 * k + 5)))))] [(cAd, .int), (cAk, .int), (cAl, .int), (cAy, .int)] t9) A) A) [.ref qm, .int (nI u), .int (nI k)].toArray s 0 0 A) (F0 m 38 ls []) := by
    intro k0
    induction k0 with
    | zero =>
      intro i H locs ls hi hP hD hS hl
      obtain rfl : lz D (4096 * u + 64 * k + 5) = i := by omega
      refine lv_iload hx hb dX3_find_38 (lv_at hl 0 rfl) ?_
      refine lv_aload_n hx hb dX3_find_40 rfl (lv_at hl 2 rfl) ?_
      refine va_get (D := (dC, dI)) (ci := 3) (v := .ref ql) (C := RX3) (T := TX3) (N := 17) hx hb hts (by decide +kernel) hown hK hP 0 rfl rfl 6 (by decide) (hts (.fieldLink RX3 16 "HouseLogModel" "lengths" "[I") (by decide +kernel)) (fun _ h9 => h9) rfl dX3_find_41 ?_
      refine lv_iload_n hx hb dX3_find_44 rfl (lv_at hl 4 rfl) ?_
      refine va_iald hx hb hK hP 3 2 rfl rfl (i := nI k) (vp_in_nI (n := k) (by omega) (by decide)) dX3_find_45 ?_
      refine W.eq (g2 := F0 m 46 ls (.int ((upd Ln k (D (4096 * u + 64 * k + 5))) k) :: .int (nI (lz D (4096 * u + 64 * k + 5))) :: [])) (by rw [show (nI k : Int32).toNatClampNeg = k from nI_clamp (by omega)]) ?_
      refine W.eq (g2 := F0 m 46 ls (.int (nI (lz D (4096 * u + 64 * k + 5))) :: .int (nI (lz D (4096 * u + 64 * k + 5))) :: [])) (by rw [pk_us, h5]) ?_
      refine lv_icmp_ge (tgt := 79) hx hb dX3_find_46 (by decide) (fun c_46 => ?_) (fun c_46 => ?_)
      · skip
        exact hr_v hx hb hr hlocks (w1 := [(qm, .inr (3, [.int th, .int (nI n), .ref qd, .int rw, .int ak, .ref qk, .ref ql, .ref qy, .int cb, .ref qc, .int dn, .int kp, .int tr, .int md, .int wr, .ref qi, .int sm])), (qd, .inl (cAd, 8192, .inl D)), (qk, .inl (cAk, 64, .inl (upd K k (D (4096 * u + 64 * k + 4))))), (ql, .inl (cAl, 64, .inl (upd Ln k (D (4096 * u + 64 * k + 5))))), (qy, .inl (cAy, 2560, .inl (fdL By D k (4096 * u + 64 * k) (lz D (4096 * u + 64 * k + 5)))))]) hP hD hK hS [0, 1, 2, 3, 4] [0, 1, 2, 3] rfl rfl rfl (rfl) dX3_find_79
      · exact absurd (nI_le (a := lz D (4096 * u + 64 * k + 5)) (b := lz D (4096 * u + 64 * k + 5)) (Nat.le_refl _) (by omega)) c_46
    | succ k0 ih =>
      intro i H locs ls hi hP hD hS hl
      refine lv_iload hx hb dX3_find_38 (lv_at hl 0 rfl) ?_
      refine lv_aload_n hx hb dX3_find_40 rfl (lv_at hl 2 rfl) ?_
      refine va_get (D := (dC, dI)) (ci := 3) (v := .ref ql) (C := RX3) (T := TX3) (N := 17) hx hb hts (by decide +kernel) hown hK hP 0 rfl rfl 6 (by decide) (hts (.fieldLink RX3 16 "HouseLogModel" "lengths" "[I") (by decide +kernel)) (fun _ h9 => h9) rfl dX3_find_41 ?_
      refine lv_iload_n hx hb dX3_find_44 rfl (lv_at hl 4 rfl) ?_
      refine va_iald hx hb hK hP 3 2 rfl rfl (i := nI k) (vp_in_nI (n := k) (by omega) (by decide)) dX3_find_45 ?_
      refine W.eq (g2 := F0 m 46 ls (.int ((upd Ln k (D (4096 * u + 64 * k + 5))) k) :: .int (nI i) :: [])) (by rw [show (nI k : Int32).toNatClampNeg = k from nI_clamp (by omega)]) ?_
      refine W.eq (g2 := F0 m 46 ls (.int (nI (lz D (4096 * u + 64 * k + 5))) :: .int (nI i) :: [])) (by rw [pk_us, h5]) ?_
      refine lv_icmp_ge (tgt := 79) hx hb dX3_find_46 (by decide) (fun c_46 => ?_) (fun c_46 => ?_)
      · exact absurd c_46 (nI_ge (a := i) (b := lz D (4096 * u + 64 * k + 5)) (by omega) (by omega))
      · skip
        refine lv_aload_n hx hb dX3_find_49 rfl (lv_at hl 2 rfl) ?_
        refine va_get (D := (dC, dI)) (ci := 3) (v := .ref qy) (C := RX3) (T := TX3) (N := 17) hx hb hts (by decide +kernel) hown hK hP 0 rfl rfl 7 (by decide) (hts (.fieldLink RX3 19 "HouseLogModel" "bytes" "[I") (by decide +kernel)) (fun _ h9 => h9) rfl dX3_find_50 ?_
        refine lv_bipush (v := 40) hx hb dX3_find_53 (by decide) ?_
        refine lv_iload_n hx hb dX3_find_55 rfl (lv_at hl 4 rfl) ?_
        refine lv_imul hx hb dX3_find_56 ?_
        rw [show (40 * (nI k) : Int32) = nI (40 * k) from pk_mul 40 k]
        refine lv_iload hx hb dX3_find_57 (lv_at hl 0 rfl) ?_
        refine lv_iadd hx hb dX3_find_59 ?_
        rw [show ((nI (40 * k)) + (nI i) : Int32) = nI (40 * k + i) from nI_add (40 * k) i]
        refine lv_aload_n hx hb dX3_find_60 rfl (lv_at hl 2 rfl) ?_
        refine va_get (D := (dC, dI)) (ci := 3) (v := .ref qd) (C := RX3) (T := TX3) (N := 17) hx hb hts (by decide +kernel) hown hK hP 0 rfl rfl 2 (by decide) (hts (.fieldLink RX3 7 "HouseLogModel" "disk" "[I") (by decide +kernel)) (fun _ h9 => h9) rfl dX3_find_61 ?_
        refine lv_iload_n hx hb dX3_find_64 rfl (lv_at hl 1 rfl) ?_
        refine lv_bipush (v := 6) hx hb dX3_find_65 (by decide) ?_
        refine lv_iadd hx hb dX3_find_67 ?_
        rw [show ((nI (4096 * u + 64 * k)) + 6 : Int32) = nI (4096 * u + 64 * k + 6) from nI_add (4096 * u + 64 * k) 6]
        refine lv_iload hx hb dX3_find_68 (lv_at hl 0 rfl) ?_
        refine lv_iadd hx hb dX3_find_70 ?_
        rw [show ((nI (4096 * u + 64 * k + 6)) + (nI i) : Int32) = nI (4096 * u + 64 * k + 6 + i) from nI_add (4096 * u + 64 * k + 6) i]
        refine va_iald hx hb hK hP 1 0 rfl rfl (i := nI (4096 * u + 64 * k + 6 + i)) (vp_in_nI (n := 4096 * u + 64 * k + 6 + i) (by omega) (by decide)) dX3_find_71 ?_
        refine W.eq (g2 := F0 m 72 ls (.int (D (4096 * u + 64 * k + 6 + i)) :: .int (nI (40 * k + i)) :: .ref qy :: [])) (by rw [show (nI (4096 * u + 64 * k + 6 + i) : Int32).toNatClampNeg = 4096 * u + 64 * k + 6 + i from nI_clamp (by omega)]) ?_
        refine va_iast hx hb hK hP hD hS 4 3 rfl rfl (i := nI (40 * k + i)) (vp_in_nI (n := 40 * k + i) (by omega) (by decide)) dX3_find_72 (fun H locs hP hD hS => ?_)
        rw [show (nI (40 * k + i) : Int32).toNatClampNeg = 40 * k + i from nI_clamp (by omega)] at hP hD
        have hP : va_P (dC, dI) hlCl [(qm, .inr (3, [.int th, .int (nI n), .ref qd, .int rw, .int ak, .ref qk, .ref ql, .ref qy, .int cb, .ref qc, .int dn, .int kp, .int tr, .int md, .int wr, .ref qi, .int sm])), (qd, .inl (cAd, 8192, .inl D)), (qk, .inl (cAk, 64, .inl (upd K k (D (4096 * u + 64 * k + 4))))), (ql, .inl (cAl, 64, .inl (upd Ln k (D (4096 * u + 64 * k + 5))))), (qy, .inl (cAy, 2560, .inl (upd (fdL By D k (4096 * u + 64 * k) i) (40 * k + i) (D (4096 * u + 64 * k + 6 + i)))))] H := hP
        have hD : va_D A [(qm, .inr (3, [.int th, .int (nI n), .ref qd, .int rw, .int ak, .ref qk, .ref ql, .ref qy, .int cb, .ref qc, .int dn, .int kp, .int tr, .int md, .int wr, .ref qi, .int sm])), (qd, .inl (cAd, 8192, .inl D)), (qk, .inl (cAk, 64, .inl (upd K k (D (4096 * u + 64 * k + 4))))), (ql, .inl (cAl, 64, .inl (upd Ln k (D (4096 * u + 64 * k + 5))))), (qy, .inl (cAy, 2560, .inl (upd (fdL By D k (4096 * u + 64 * k) i) (40 * k + i) (D (4096 * u + 64 * k + 6 + i)))))] := hD
        refine lv_iinc (v := nI (i + 1)) (lv' := [(4, .int (nI (i + 1))), (3, .int (nI (4096 * u + 64 * k))), (0, .ref qm), (1, .int (nI u)), (2, .int (nI k))]) hx hb dX3_find_73 hl (k := 0) rfl (nI_add i 1) (by decide) rfl (fun ls hl => ?_)
        refine lv_goto (tgt := 38) hx hb dX3_find_76 (by decide) ?_
        exact ih (i + 1) H locs ls (by omega)  hP hD hS (lv_sub hl [0, 1, 2, 3, 4] rfl)
  exact loop (lz D (4096 * u + 64 * k + 5)) 0 H locs ls (by omega)  hP hD hS (lv_sub hl [0, 1, 2, 3, 4] rfl)

set_option maxHeartbeats 4000000 in
set_option maxRecDepth 100000 in
theorem kX3_mend (l : Launch) (dC : Nat → ClassId) (dI : Nat → Nat → Nat) (sz : Nat) (qm qd qk ql qy qc qi : Nat) (n : Nat) (cAd : ClassId) (th rw ak cb dn kp tr md wr sm : Int32) (D : Nat → Int32) (u k : Nat) (hu : u ≤ 1) (hk : k < 64) : Mv_ l yX3_mend wsX3_mend 1 22 dC dI (fun _ => True) [.ref qm, .int (nI u), .int (nI k)] [(qm, .inr (3, [.int th, .int (nI n), .ref qd, .int rw, .int ak, .ref qk, .ref ql, .ref qy, .int cb, .ref qc, .int dn, .int kp, .int tr, .int md, .int wr, .ref qi, .int sm])), (qd, .inl (cAd, 8192, .inl D))] [(cAd, .int)] sz [(qm, .inr (3, [.int th, .int (nI n), .ref qd, .int rw, .int ak, .ref qk, .ref ql, .ref qy, .int cb, .ref qc, .int dn, .int kp, .int tr, .int (md + 1), .int wr, .ref qi, .int sm])), (qd, .inl (cAd, 8192, .inl (mdL D (4096 * u + 64 * k) (4096 * (1 - u) + 64 * k) 64)))] := by
  refine hm_ (cc := cX3_mend) (maxL := 4) (ret := none) (Qc := fun A => va_Qv (fun (_ : Unit) => True) (fun _ t9 => qw_ dC dI A [(qm, .inr (3, [.int th, .int (nI n), .ref qd, .int rw, .int ak, .ref qk, .ref ql, .ref qy, .int cb, .ref qc, .int dn, .int kp, .int tr, .int (md + 1), .int wr, .ref qi, .int sm])), (qd, .inl (cAd, 8192, .inl (mdL D (4096 * u + 64 * k) (4096 * (1 - u) + 64 * k) 64)))] [(cAd, .int)] t9) A) (by decide) rfl (Nat.le_of_ble_eq_true rfl) ?_
  intro p e s m below meth c A H locs ls hx hb hr hml hts hown hlocks hsz hP hK hD hE hA hS hl
  have hl : lv_has ls 4 [(0, .ref qm), (1, .int (nI u)), (2, .int (nI k))] := hl
  have hown : s.vm.findClass RX3 = some m.cls := hown
  refine lv_iconst (v := 0) hx hb dX3_mend_0 (by decide) ?_
  refine lv_istore_n (lv' := [(3, .int 0), (0, .ref qm), (1, .int (nI u)), (2, .int (nI k))]) hx hb dX3_mend_1 rfl hl (by decide) rfl (fun ls hl => ?_)
  have loop : ∀ (k0 i : Nat) (H : Heap) (locs : List Loc) (ls : Array Slot), (i + k0 = 64) → va_P (dC, dI) hlCl [(qm, .inr (3, [.int th, .int (nI n), .ref qd, .int rw, .int ak, .ref qk, .ref ql, .ref qy, .int cb, .ref qc, .int dn, .int kp, .int tr, .int md, .int wr, .ref qi, .int sm])), (qd, .inl (cAd, 8192, .inl (mdL D (4096 * u + 64 * k) (4096 * (1 - u) + 64 * k) i)))] H → va_D A [(qm, .inr (3, [.int th, .int (nI n), .ref qd, .int rw, .int ak, .ref qk, .ref ql, .ref qy, .int cb, .ref qc, .int dn, .int kp, .int tr, .int md, .int wr, .ref qi, .int sm])), (qd, .inl (cAd, 8192, .inl (mdL D (4096 * u + 64 * k) (4096 * (1 - u) + 64 * k) i)))] → va_S A s.heap H locs → lv_has ls 4 [(3, .int (nI i)), (0, .ref qm), (1, .int (nI u)), (2, .int (nI k))] → W p l e (rm_ 1 22) s m [.ref qm, .int (nI u), .int (nI k)].toArray below meth c H locs 0 0 (MQ below ((fun A => va_Qv (fun (_ : Unit) => True) (fun _ t9 => qw_ dC dI A [(qm, .inr (3, [.int th, .int (nI n), .ref qd, .int rw, .int ak, .ref qk, .ref ql, .ref qy, .int cb, .ref qc, .int dn, .int kp, .int tr, .int (md + 1), .int wr, .ref qi, .int sm])), (qd, .inl (cAd, 8192, .inl (mdL D (4096 * u + 64 * k) (4096 * (1 - u) + 64 * k) 64)))] [(cAd, .int)] t9) A) A) [.ref qm, .int (nI u), .int (nI k)].toArray s 0 0 A) (F0 m 2 ls []) := by
    intro k0
    induction k0 with
    | zero =>
      intro i H locs ls hi hP hD hS hl
      obtain rfl : 64 = i := by omega
      refine lv_iload_n hx hb dX3_mend_2 rfl (lv_at hl 0 rfl) ?_
      refine lv_bipush (v := 64) hx hb dX3_mend_3 (by decide) ?_
      refine lv_icmp_ge (tgt := 42) hx hb dX3_mend_5 (by decide) (fun c_5 => ?_) (fun c_5 => ?_)
      · skip
        refine lv_aload_n hx hb dX3_mend_42 rfl (lv_at hl 1 rfl) ?_
        refine lv_dup hx hb dX3_mend_43 rfl ?_
        refine va_get (D := (dC, dI)) (ci := 3) (v := .int md) (C := RX3) (T := TX3) (N := 17) hx hb hts (by decide +kernel) hown hK hP 0 rfl rfl 13 (by decide) (hts (.fieldLink RX3 95 "HouseLogModel" "mended" "I") (by decide +kernel)) (fun _ h9 => h9) rfl dX3_mend_44 ?_
        refine lv_iconst (v := 1) hx hb dX3_mend_47 (by decide) ?_
        refine lv_iadd hx hb dX3_mend_48 ?_
        refine va_put (D := (dC, dI)) (ci := 3) (v := .int (md + 1)) (ty := .int) (C := RX3) (T := TX3) (N := 17) hx hb hts (by decide +kernel) tyX3 tyX3_ok nmX3 hown hK hP hD hS 0 rfl rfl 13 (by decide) (hts (.fieldLink RX3 95 "HouseLogModel" "mended" "I") (by decide +kernel)) (fun _ h9 => h9) rfl (by decide +kernel) rfl rfl (Nat.le_of_ble_eq_true rfl) dX3_mend_49 (fun H locs hP hD hS => ?_)
        have hP : va_P (dC, dI) hlCl [(qm, .inr (3, [.int th, .int (nI n), .ref qd, .int rw, .int ak, .ref qk, .ref ql, .ref qy, .int cb, .ref qc, .int dn, .int kp, .int tr, .int (md + 1), .int wr, .ref qi, .int sm])), (qd, .inl (cAd, 8192, .inl (mdL D (4096 * u + 64 * k) (4096 * (1 - u) + 64 * k) 64)))] H := hP
        have hD : va_D A [(qm, .inr (3, [.int th, .int (nI n), .ref qd, .int rw, .int ak, .ref qk, .ref ql, .ref qy, .int cb, .ref qc, .int dn, .int kp, .int tr, .int (md + 1), .int wr, .ref qi, .int sm])), (qd, .inl (cAd, 8192, .inl (mdL D (4096 * u + 64 * k) (4096 * (1 - u) + 64 * k) 64)))] := hD
        exact hr_v hx hb hr hlocks (w1 := [(qm, .inr (3, [.int th, .int (nI n), .ref qd, .int rw, .int ak, .ref qk, .ref ql, .ref qy, .int cb, .ref qc, .int dn, .int kp, .int tr, .int (md + 1), .int wr, .ref qi, .int sm])), (qd, .inl (cAd, 8192, .inl (mdL D (4096 * u + 64 * k) (4096 * (1 - u) + 64 * k) 64)))]) hP hD hK hS [0, 1] [0] rfl rfl rfl (rfl) dX3_mend_52
      · exact absurd (nI_le (a := 64) (b := 64) (Nat.le_refl _) (by omega)) c_5
    | succ k0 ih =>
      intro i H locs ls hi hP hD hS hl
      refine lv_iload_n hx hb dX3_mend_2 rfl (lv_at hl 0 rfl) ?_
      refine lv_bipush (v := 64) hx hb dX3_mend_3 (by decide) ?_
      refine lv_icmp_ge (tgt := 42) hx hb dX3_mend_5 (by decide) (fun c_5 => ?_) (fun c_5 => ?_)
      · exact absurd c_5 (nI_ge (a := i) (b := 64) (by omega) (by omega))
      · skip
        refine lv_aload_n hx hb dX3_mend_8 rfl (lv_at hl 1 rfl) ?_
        refine va_get (D := (dC, dI)) (ci := 3) (v := .ref qd) (C := RX3) (T := TX3) (N := 17) hx hb hts (by decide +kernel) hown hK hP 0 rfl rfl 2 (by decide) (hts (.fieldLink RX3 7 "HouseLogModel" "disk" "[I") (by decide +kernel)) (fun _ h9 => h9) rfl dX3_mend_9 ?_
        refine lv_aload_n hx hb dX3_mend_12 rfl (lv_at hl 1 rfl) ?_
        refine lv_iload_n hx hb dX3_mend_13 rfl (lv_at hl 2 rfl) ?_
        refine lv_iload_n hx hb dX3_mend_14 rfl (lv_at hl 3 rfl) ?_
        refine hc_iV (As := [.int (nI u), .int (nI k)]) (rest := [.ref qd]) (wr := [(qd, .inl (cAd, 8192, .inl (mdL D (4096 * u + 64 * k) (4096 * (1 - u) + 64 * k) i)))]) ⟨hx, hb, hml, hown, hts⟩ sx_T trivial (kX3_from l dC dI H.size qm qd qk ql qy qc qi n th rw ak cb dn kp tr md wr sm u k ) (cwV 2 hts gX3_mend_X3_from rfl rfl rfl (by decide +kernel) ⟨Nat.le_of_ble_eq_true rfl, Nat.le_of_ble_eq_true rfl⟩) hK hP hD hS hA [0] [1] [] rfl rfl rfl rfl rfl (by decide) (ci := 3) rfl rfl rfl rfl hl.1 rfl (Nat.le_of_ble_eq_true rfl) dX3_mend_15 ⟨Nat.zero_le _, Nat.zero_le _⟩ (fun H locs hP hD hS => ?_)
        have hP : va_P (dC, dI) hlCl [(qm, .inr (3, [.int th, .int (nI n), .ref qd, .int rw, .int ak, .ref qk, .ref ql, .ref qy, .int cb, .ref qc, .int dn, .int kp, .int tr, .int md, .int wr, .ref qi, .int sm])), (qd, .inl (cAd, 8192, .inl (mdL D (4096 * u + 64 * k) (4096 * (1 - u) + 64 * k) i)))] H := hP.sub [1, 0] rfl
        have hD : va_D A [(qm, .inr (3, [.int th, .int (nI n), .ref qd, .int rw, .int ak, .ref qk, .ref ql, .ref qy, .int cb, .ref qc, .int dn, .int kp, .int tr, .int md, .int wr, .ref qi, .int sm])), (qd, .inl (cAd, 8192, .inl (mdL D (4096 * u + 64 * k) (4096 * (1 - u) + 64 * k) i)))] := hD.sub [1, 0] (by decide) rfl
        refine lv_iload_n hx hb dX3_mend_18 rfl (lv_at hl 0 rfl) ?_
        refine lv_iadd hx hb dX3_mend_19 ?_
        rw [show ((nI (4096 * u + 64 * k)) + (nI i) : Int32) = nI (4096 * u + 64 * k + i) from nI_add (4096 * u + 64 * k) i]
        refine lv_aload_n hx hb dX3_mend_20 rfl (lv_at hl 1 rfl) ?_
        refine va_get (D := (dC, dI)) (ci := 3) (v := .ref qd) (C := RX3) (T := TX3) (N := 17) hx hb hts (by decide +kernel) hown hK hP 0 rfl rfl 2 (by decide) (hts (.fieldLink RX3 7 "HouseLogModel" "disk" "[I") (by decide +kernel)) (fun _ h9 => h9) rfl dX3_mend_21 ?_
        refine lv_aload_n hx hb dX3_mend_24 rfl (lv_at hl 1 rfl) ?_
        refine lv_iconst (v := 1) hx hb dX3_mend_25 (by decide) ?_
        refine lv_iload_n hx hb dX3_mend_26 rfl (lv_at hl 2 rfl) ?_
        refine lv_isub hx hb dX3_mend_27 ?_
        rw [show (1 - (nI u) : Int32) = nI (1 - u) from pk_sub (a := 1) (b := u) (by omega)]
        refine lv_iload_n hx hb dX3_mend_28 rfl (lv_at hl 3 rfl) ?_
        refine hc_iV (As := [.int (nI (1 - u)), .int (nI k)]) (rest := [.ref qd, .int (nI (4096 * u + 64 * k + i)), .ref qd]) (wr := [(qd, .inl (cAd, 8192, .inl (mdL D (4096 * u + 64 * k) (4096 * (1 - u) + 64 * k) i)))]) ⟨hx, hb, hml, hown, hts⟩ sx_T trivial (kX3_from l dC dI H.size qm qd qk ql qy qc qi n th rw ak cb dn kp tr md wr sm (1 - u) k ) (cwV 2 hts gX3_mend_X3_from rfl rfl rfl (by decide +kernel) ⟨Nat.le_of_ble_eq_true rfl, Nat.le_of_ble_eq_true rfl⟩) hK hP hD hS hA [0] [1] [] rfl rfl rfl rfl rfl (by decide) (ci := 3) rfl rfl rfl rfl hl.1 rfl (Nat.le_of_ble_eq_true rfl) dX3_mend_29 ⟨Nat.zero_le _, Nat.zero_le _⟩ (fun H locs hP hD hS => ?_)
        have hP : va_P (dC, dI) hlCl [(qm, .inr (3, [.int th, .int (nI n), .ref qd, .int rw, .int ak, .ref qk, .ref ql, .ref qy, .int cb, .ref qc, .int dn, .int kp, .int tr, .int md, .int wr, .ref qi, .int sm])), (qd, .inl (cAd, 8192, .inl (mdL D (4096 * u + 64 * k) (4096 * (1 - u) + 64 * k) i)))] H := hP.sub [1, 0] rfl
        have hD : va_D A [(qm, .inr (3, [.int th, .int (nI n), .ref qd, .int rw, .int ak, .ref qk, .ref ql, .ref qy, .int cb, .ref qc, .int dn, .int kp, .int tr, .int md, .int wr, .ref qi, .int sm])), (qd, .inl (cAd, 8192, .inl (mdL D (4096 * u + 64 * k) (4096 * (1 - u) + 64 * k) i)))] := hD.sub [1, 0] (by decide) rfl
        refine lv_iload_n hx hb dX3_mend_32 rfl (lv_at hl 0 rfl) ?_
        refine lv_iadd hx hb dX3_mend_33 ?_
        rw [show ((nI (4096 * (1 - u) + 64 * k)) + (nI i) : Int32) = nI (4096 * (1 - u) + 64 * k + i) from nI_add (4096 * (1 - u) + 64 * k) i]
        refine va_iald hx hb hK hP 1 0 rfl rfl (i := nI (4096 * (1 - u) + 64 * k + i)) (vp_in_nI (n := 4096 * (1 - u) + 64 * k + i) (by omega) (by decide)) dX3_mend_34 ?_
        refine W.eq (g2 := F0 m 35 ls (.int ((mdL D (4096 * u + 64 * k) (4096 * (1 - u) + 64 * k) i) (4096 * (1 - u) + 64 * k + i)) :: .int (nI (4096 * u + 64 * k + i)) :: .ref qd :: [])) (by rw [show (nI (4096 * (1 - u) + 64 * k + i) : Int32).toNatClampNeg = 4096 * (1 - u) + 64 * k + i from nI_clamp (by omega)]) ?_
        refine va_iast hx hb hK hP hD hS 1 0 rfl rfl (i := nI (4096 * u + 64 * k + i)) (vp_in_nI (n := 4096 * u + 64 * k + i) (by omega) (by decide)) dX3_mend_35 (fun H locs hP hD hS => ?_)
        rw [show (nI (4096 * u + 64 * k + i) : Int32).toNatClampNeg = 4096 * u + 64 * k + i from nI_clamp (by omega)] at hP hD
        have hP : va_P (dC, dI) hlCl [(qm, .inr (3, [.int th, .int (nI n), .ref qd, .int rw, .int ak, .ref qk, .ref ql, .ref qy, .int cb, .ref qc, .int dn, .int kp, .int tr, .int md, .int wr, .ref qi, .int sm])), (qd, .inl (cAd, 8192, .inl (upd (mdL D (4096 * u + 64 * k) (4096 * (1 - u) + 64 * k) i) (4096 * u + 64 * k + i) ((mdL D (4096 * u + 64 * k) (4096 * (1 - u) + 64 * k) i) (4096 * (1 - u) + 64 * k + i)))))] H := hP
        have hD : va_D A [(qm, .inr (3, [.int th, .int (nI n), .ref qd, .int rw, .int ak, .ref qk, .ref ql, .ref qy, .int cb, .ref qc, .int dn, .int kp, .int tr, .int md, .int wr, .ref qi, .int sm])), (qd, .inl (cAd, 8192, .inl (upd (mdL D (4096 * u + 64 * k) (4096 * (1 - u) + 64 * k) i) (4096 * u + 64 * k + i) ((mdL D (4096 * u + 64 * k) (4096 * (1 - u) + 64 * k) i) (4096 * (1 - u) + 64 * k + i)))))] := hD
        refine lv_iinc (v := nI (i + 1)) (lv' := [(3, .int (nI (i + 1))), (0, .ref qm), (1, .int (nI u)), (2, .int (nI k))]) hx hb dX3_mend_36 hl (k := 0) rfl (nI_add i 1) (by decide) rfl (fun ls hl => ?_)
        refine lv_goto (tgt := 2) hx hb dX3_mend_39 (by decide) ?_
        exact ih (i + 1) H locs ls (by omega)  hP hD hS (lv_sub hl [0, 1, 2, 3] rfl)
  exact loop 64 0 H locs ls (by omega)  hP hD hS (lv_sub hl [0, 1, 2, 3] rfl)
