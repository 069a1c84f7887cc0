set_option maxHeartbeats 4000000 in
set_option maxRecDepth 100000 in
theorem kX3_thrown (l : Launch) (dC : Nat → ClassId) (dI : Nat → Nat → Nat) (sz : Nat) (qm qd qk ql qy qc qi : Nat) (n : Nat) (th rw ak cb dn kp tr md wr sm : Int32)  : Mi_ l yX3_thrown wsX3_thrown 0 0 dC dI (fun _ => True) [.ref qm] [(qm, .inr (3, [.int th, .int (nI n), .ref qd, .int rw, .int ak, .ref qk, .ref ql, .ref qy, .int cb, .ref qc, .int dn, .int kp, .int tr, .int md, .int wr, .ref qi, .int sm]))] [] sz th [(qm, .inr (3, [.int th, .int (nI n), .ref qd, .int rw, .int ak, .ref qk, .ref ql, .ref qy, .int cb, .ref qc, .int dn, .int kp, .int tr, .int md, .int wr, .ref qi, .int sm]))] := by
  refine hm_ (cc := cX3_thrown) (maxL := 1) (ret := (some .int)) (Qc := fun A => va_Qi (fun (r9 : Int32) (_ : Unit) => r9 = th) (fun _ t9 => qw_ dC dI A [(qm, .inr (3, [.int th, .int (nI n), .ref qd, .int rw, .int ak, .ref qk, .ref ql, .ref qy, .int cb, .ref qc, .int dn, .int kp, .int tr, .int md, .int wr, .ref qi, .int sm]))] [] t9) A) (by decide) rfl (Nat.le_of_ble_eq_true rfl) ?_
  intro p e s m below meth c A H locs ls hx hb hr hml hts hown hlocks hsz hP hK hD hE hA hS hl
  have hl : lv_has ls 1 [(0, .ref qm)] := hl
  have hown : s.vm.findClass RX3 = some m.cls := hown
  refine lv_aload_n hx hb dX3_thrown_0 rfl (lv_at hl 0 rfl) ?_
  refine va_get (D := (dC, dI)) (ci := 3) (v := .int th) (C := RX3) (T := TX3) (N := 17) hx hb hts (by decide +kernel) hown hK hP 0 rfl rfl 0 (by decide) (hts (.fieldLink RX3 35 "HouseLogModel" "thrown" "I") (by decide +kernel)) (fun _ h9 => h9) rfl dX3_thrown_1 ?_
  exact hr_i (v := th) hx hb hr hlocks (w1 := [(qm, .inr (3, [.int th, .int (nI n), .ref qd, .int rw, .int ak, .ref qk, .ref ql, .ref qy, .int cb, .ref qc, .int dn, .int kp, .int tr, .int md, .int wr, .ref qi, .int sm]))]) hP hD hK hS [0] [] rfl rfl rfl (rfl) (rfl) dX3_thrown_4

def flR (x y z : Int32) : Int32 := (if x = 0 then (if y = 0 then (if z = 0 then 0 else 1) else 1) else 1)
def flI (x y z : Int32) : Int32 := (if x = 0 then (if y = 0 then (if z = 0 then 0 else 3) else 2) else 1)
set_option maxHeartbeats 4000000 in
set_option maxRecDepth 100000 in
theorem kX3_fails (l : Launch) (dC : Nat → ClassId) (dI : Nat → Nat → Nat) (sz : Nat) (qm qd qk ql qy qc qi : Nat) (n : Nat) (th rw ak cb dn kp tr md wr sm : Int32) (x y z : Int32)  : Mi_ l yX3_fails wsX3_fails 0 0 dC dI (fun _ => True) [.ref qm, .int x, .int y, .int z] [(qm, .inr (3, [.int th, .int (nI n), .ref qd, .int rw, .int ak, .ref qk, .ref ql, .ref qy, .int cb, .ref qc, .int dn, .int kp, .int tr, .int md, .int wr, .ref qi, .int sm]))] [] sz (flR x y z) [(qm, .inr (3, [.int (flI x y z), .int (nI n), .ref qd, .int rw, .int ak, .ref qk, .ref ql, .ref qy, .int cb, .ref qc, .int dn, .int kp, .int tr, .int md, .int wr, .ref qi, .int sm]))] := by
  refine hm_ (cc := cX3_fails) (maxL := 4) (ret := (some .boolean)) (Qc := fun A => va_Qi (fun (r9 : Int32) (_ : Unit) => r9 = flR x y z) (fun _ t9 => qw_ dC dI A [(qm, .inr (3, [.int (flI x y z), .int (nI n), .ref qd, .int rw, .int ak, .ref qk, .ref ql, .ref qy, .int cb, .ref qc, .int dn, .int kp, .int tr, .int md, .int wr, .ref qi, .int sm]))] [] t9) A) (by decide) rfl (Nat.le_of_ble_eq_true rfl) ?_
  intro p e s m below meth c A H locs ls hx hb hr hml hts hown hlocks hsz hP hK hD hE hA hS hl
  have hl : lv_has ls 4 [(0, .ref qm), (1, .int x), (2, .int y), (3, .int z)] := hl
  have hown : s.vm.findClass RX3 = some m.cls := hown
  refine lv_aload_n hx hb dX3_fails_0 rfl (lv_at hl 0 rfl) ?_
  refine lv_iload_n hx hb dX3_fails_1 rfl (lv_at hl 1 rfl) ?_
  refine lv_if_eq (tgt := 9) hx hb dX3_fails_2 (by decide) (fun c_2 => ?_) (fun c_2 => ?_)
  · skip
    refine lv_iload_n hx hb dX3_fails_9 rfl (lv_at hl 2 rfl) ?_
    refine lv_if_eq (tgt := 17) hx hb dX3_fails_10 (by decide) (fun c_10 => ?_) (fun c_10 => ?_)
    · skip
      refine lv_iload_n hx hb dX3_fails_17 rfl (lv_at hl 3 rfl) ?_
      refine lv_if_eq (tgt := 25) hx hb dX3_fails_18 (by decide) (fun c_18 => ?_) (fun c_18 => ?_)
      · skip
        refine lv_iconst (v := 0) hx hb dX3_fails_25 (by decide) ?_
        refine va_put (D := (dC, dI)) (ci := 3) (v := .int 0) (ty := .int) (C := RX3) (T := TX3) (N := 17) hx hb hts (by decide +kernel) tyX3 tyX3_ok nmX3 hown hK hP hD hS 0 rfl rfl 0 (by decide) (hts (.fieldLink RX3 35 "HouseLogModel" "thrown" "I") (by decide +kernel)) (fun _ h9 => h9) rfl (by decide +kernel) rfl rfl (Nat.le_of_ble_eq_true rfl) dX3_fails_26 (fun H locs hP hD hS => ?_)
        have hP : va_P (dC, dI) hlCl [(qm, .inr (3, [.int 0, .int (nI n), .ref qd, .int rw, .int ak, .ref qk, .ref ql, .ref qy, .int cb, .ref qc, .int dn, .int kp, .int tr, .int md, .int wr, .ref qi, .int sm]))] H := hP
        have hD : va_D A [(qm, .inr (3, [.int 0, .int (nI n), .ref qd, .int rw, .int ak, .ref qk, .ref ql, .ref qy, .int cb, .ref qc, .int dn, .int kp, .int tr, .int md, .int wr, .ref qi, .int sm]))] := hD
        refine lv_aload_n hx hb dX3_fails_29 rfl (lv_at hl 0 rfl) ?_
        refine va_get (D := (dC, dI)) (ci := 3) (v := .int 0) (C := RX3) (T := TX3) (N := 17) hx hb hts (by decide +kernel) hown hK hP 0 rfl rfl 0 (by decide) (hts (.fieldLink RX3 35 "HouseLogModel" "thrown" "I") (by decide +kernel)) (fun _ h9 => h9) rfl dX3_fails_30 ?_
        refine lv_if_le (tgt := 40) hx hb dX3_fails_33 (by decide) (fun c_33 => ?_) (fun c_33 => ?_)
        · skip
          refine lv_iconst (v := 0) hx hb dX3_fails_40 (by decide) ?_
          exact hr_z (v := 0) hx hb hr hlocks (by decide) (w1 := [(qm, .inr (3, [.int 0, .int (nI n), .ref qd, .int rw, .int ak, .ref qk, .ref ql, .ref qy, .int cb, .ref qc, .int dn, .int kp, .int tr, .int md, .int wr, .ref qi, .int sm]))]) hP hD hK hS [0] [] rfl rfl rfl (by simp only [flR, if_pos c_2, if_pos c_10, if_pos c_18] <;> rfl) (by simp only [flR, flI, if_pos c_2, if_pos c_10, if_pos c_18] <;> rfl) dX3_fails_41
        · exact absurd (by decide) c_33
      · skip
        refine lv_iconst (v := 3) hx hb dX3_fails_21 (by decide) ?_
        refine lv_goto (tgt := 26) hx hb dX3_fails_22 (by decide) ?_
        refine va_put (D := (dC, dI)) (ci := 3) (v := .int 3) (ty := .int) (C := RX3) (T := TX3) (N := 17) hx hb hts (by decide +kernel) tyX3 tyX3_ok nmX3 hown hK hP hD hS 0 rfl rfl 0 (by decide) (hts (.fieldLink RX3 35 "HouseLogModel" "thrown" "I") (by decide +kernel)) (fun _ h9 => h9) rfl (by decide +kernel) rfl rfl (Nat.le_of_ble_eq_true rfl) dX3_fails_26 (fun H locs hP hD hS => ?_)
        have hP : va_P (dC, dI) hlCl [(qm, .inr (3, [.int 3, .int (nI n), .ref qd, .int rw, .int ak, .ref qk, .ref ql, .ref qy, .int cb, .ref qc, .int dn, .int kp, .int tr, .int md, .int wr, .ref qi, .int sm]))] H := hP
        have hD : va_D A [(qm, .inr (3, [.int 3, .int (nI n), .ref qd, .int rw, .int ak, .ref qk, .ref ql, .ref qy, .int cb, .ref qc, .int dn, .int kp, .int tr, .int md, .int wr, .ref qi, .int sm]))] := hD
        refine lv_aload_n hx hb dX3_fails_29 rfl (lv_at hl 0 rfl) ?_
        refine va_get (D := (dC, dI)) (ci := 3) (v := .int 3) (C := RX3) (T := TX3) (N := 17) hx hb hts (by decide +kernel) hown hK hP 0 rfl rfl 0 (by decide) (hts (.fieldLink RX3 35 "HouseLogModel" "thrown" "I") (by decide +kernel)) (fun _ h9 => h9) rfl dX3_fails_30 ?_
        refine lv_if_le (tgt := 40) hx hb dX3_fails_33 (by decide) (fun c_33 => ?_) (fun c_33 => ?_)
        · exact absurd c_33 (by decide)
        · skip
          refine lv_iconst (v := 1) hx hb dX3_fails_36 (by decide) ?_
          refine lv_goto (tgt := 41) hx hb dX3_fails_37 (by decide) ?_
          exact hr_z (v := 1) hx hb hr hlocks (by decide) (w1 := [(qm, .inr (3, [.int 3, .int (nI n), .ref qd, .int rw, .int ak, .ref qk, .ref ql, .ref qy, .int cb, .ref qc, .int dn, .int kp, .int tr, .int md, .int wr, .ref qi, .int sm]))]) hP hD hK hS [0] [] rfl rfl rfl (by simp only [flR, if_pos c_2, if_pos c_10, if_neg c_18] <;> rfl) (by simp only [flR, flI, if_pos c_2, if_pos c_10, if_neg c_18] <;> rfl) dX3_fails_41
    · skip
      refine lv_iconst (v := 2) hx hb dX3_fails_13 (by decide) ?_
      refine lv_goto (tgt := 26) hx hb dX3_fails_14 (by decide) ?_
      refine va_put (D := (dC, dI)) (ci := 3) (v := .int 2) (ty := .int) (C := RX3) (T := TX3) (N := 17) hx hb hts (by decide +kernel) tyX3 tyX3_ok nmX3 hown hK hP hD hS 0 rfl rfl 0 (by decide) (hts (.fieldLink RX3 35 "HouseLogModel" "thrown" "I") (by decide +kernel)) (fun _ h9 => h9) rfl (by decide +kernel) rfl rfl (Nat.le_of_ble_eq_true rfl) dX3_fails_26 (fun H locs hP hD hS => ?_)
      have hP : va_P (dC, dI) hlCl [(qm, .inr (3, [.int 2, .int (nI n), .ref qd, .int rw, .int ak, .ref qk, .ref ql, .ref qy, .int cb, .ref qc, .int dn, .int kp, .int tr, .int md, .int wr, .ref qi, .int sm]))] H := hP
      have hD : va_D A [(qm, .inr (3, [.int 2, .int (nI n), .ref qd, .int rw, .int ak, .ref qk, .ref ql, .ref qy, .int cb, .ref qc, .int dn, .int kp, .int tr, .int md, .int wr, .ref qi, .int sm]))] := hD
      refine lv_aload_n hx hb dX3_fails_29 rfl (lv_at hl 0 rfl) ?_
      refine va_get (D := (dC, dI)) (ci := 3) (v := .int 2) (C := RX3) (T := TX3) (N := 17) hx hb hts (by decide +kernel) hown hK hP 0 rfl rfl 0 (by decide) (hts (.fieldLink RX3 35 "HouseLogModel" "thrown" "I") (by decide +kernel)) (fun _ h9 => h9) rfl dX3_fails_30 ?_
      refine lv_if_le (tgt := 40) hx hb dX3_fails_33 (by decide) (fun c_33 => ?_) (fun c_33 => ?_)
      · exact absurd c_33 (by decide)
      · skip
        refine lv_iconst (v := 1) hx hb dX3_fails_36 (by decide) ?_
        refine lv_goto (tgt := 41) hx hb dX3_fails_37 (by decide) ?_
        exact hr_z (v := 1) hx hb hr hlocks (by decide) (w1 := [(qm, .inr (3, [.int 2, .int (nI n), .ref qd, .int rw, .int ak, .ref qk, .ref ql, .ref qy, .int cb, .ref qc, .int dn, .int kp, .int tr, .int md, .int wr, .ref qi, .int sm]))]) hP hD hK hS [0] [] rfl rfl rfl (by simp only [flR, if_pos c_2, if_neg c_10] <;> rfl) (by simp only [flR, flI, if_pos c_2, if_neg c_10] <;> rfl) dX3_fails_41
  · skip
    refine lv_iconst (v := 1) hx hb dX3_fails_5 (by decide) ?_
    refine lv_goto (tgt := 26) hx hb dX3_fails_6 (by decide) ?_
    refine va_put (D := (dC, dI)) (ci := 3) (v := .int 1) (ty := .int) (C := RX3) (T := TX3) (N := 17) hx hb hts (by decide +kernel) tyX3 tyX3_ok nmX3 hown hK hP hD hS 0 rfl rfl 0 (by decide) (hts (.fieldLink RX3 35 "HouseLogModel" "thrown" "I") (by decide +kernel)) (fun _ h9 => h9) rfl (by decide +kernel) rfl rfl (Nat.le_of_ble_eq_true rfl) dX3_fails_26 (fun H locs hP hD hS => ?_)
    have hP : va_P (dC, dI) hlCl [(qm, .inr (3, [.int 1, .int (nI n), .ref qd, .int rw, .int ak, .ref qk, .ref ql, .ref qy, .int cb, .ref qc, .int dn, .int kp, .int tr, .int md, .int wr, .ref qi, .int sm]))] H := hP
    have hD : va_D A [(qm, .inr (3, [.int 1, .int (nI n), .ref qd, .int rw, .int ak, .ref qk, .ref ql, .ref qy, .int cb, .ref qc, .int dn, .int kp, .int tr, .int md, .int wr, .ref qi, .int sm]))] := hD
    refine lv_aload_n hx hb dX3_fails_29 rfl (lv_at hl 0 rfl) ?_
    refine va_get (D := (dC, dI)) (ci := 3) (v := .int 1) (C := RX3) (T := TX3) (N := 17) hx hb hts (by decide +kernel) hown hK hP 0 rfl rfl 0 (by decide) (hts (.fieldLink RX3 35 "HouseLogModel" "thrown" "I") (by decide +kernel)) (fun _ h9 => h9) rfl dX3_fails_30 ?_
    refine lv_if_le (tgt := 40) hx hb dX3_fails_33 (by decide) (fun c_33 => ?_) (fun c_33 => ?_)
    · exact absurd c_33 (by decide)
    · skip
      refine lv_iconst (v := 1) hx hb dX3_fails_36 (by decide) ?_
      refine lv_goto (tgt := 41) hx hb dX3_fails_37 (by decide) ?_
      exact hr_z (v := 1) hx hb hr hlocks (by decide) (w1 := [(qm, .inr (3, [.int 1, .int (nI n), .ref qd, .int rw, .int ak, .ref qk, .ref ql, .ref qy, .int cb, .ref qc, .int dn, .int kp, .int tr, .int md, .int wr, .ref qi, .int sm]))]) hP hD hK hS [0] [] rfl rfl rfl (by simp only [flR, if_neg c_2] <;> rfl) (by simp only [flR, flI, if_neg c_2] <;> rfl) dX3_fails_41

theorem fl_iff {x y z : Int32} : flR x y z = 0 ↔ x = 0 ∧ y = 0 ∧ z = 0 := by
  unfold flR
  by_cases h1 : x = 0
  · by_cases h2 : y = 0
    · by_cases h3 : z = 0
      · simp [h1, h2, h3]
      · simp [h1, h2, h3]
    · simp [h1, h2]
  · simp [h1]
theorem ne40_ {cb : Nat} (h : ¬ nI cb = 40) (h2 : cb ≤ 40) : cb < 40 := by
  rcases Nat.lt_or_ge cb 40 with h9 | h9
  · exact h9
  · exact absurd (show nI cb = 40 from by have h8 : cb = 40 := by omega
                                          subst h8
                                          rfl) h

def inI (x y z : Int32) : Int32 := (if x < y then 0 else (if z < x then 0 else 1))
set_option maxHeartbeats 4000000 in
set_option maxRecDepth 100000 in
theorem kX3_in (l : Launch) (dC : Nat → ClassId) (dI : Nat → Nat → Nat) (sz : Nat) (x y z : Int32)  : Mi_ l yX3_in wsX3_in 0 0 dC dI (fun _ => True) [.int x, .int y, .int z] [] [] sz (inI x y z) [] := by
  refine hm_ (cc := cX3_in) (maxL := 3) (ret := (some .boolean)) (Qc := fun A => va_Qi (fun (r9 : Int32) (_ : Unit) => r9 = inI x y z) (fun _ t9 => qw_ dC dI A [] [] t9) A) (by decide) rfl (Nat.le_of_ble_eq_true rfl) ?_
  intro p e s m below meth c A H locs ls hx hb hr hml hts hown hlocks hsz hP hK hD hE hA hS hl
  have hl : lv_has ls 3 [(0, .int x), (1, .int y), (2, .int z)] := hl
  have hown : s.vm.findClass RX3 = some m.cls := hown
  refine lv_iload_n hx hb dX3_in_0 rfl (lv_at hl 0 rfl) ?_
  refine lv_iload_n hx hb dX3_in_1 rfl (lv_at hl 1 rfl) ?_
  refine lv_icmp_lt (tgt := 14) hx hb dX3_in_2 (by decide) (fun c_2 => ?_) (fun c_2 => ?_)
  · skip
    refine lv_iconst (v := 0) hx hb dX3_in_14 (by decide) ?_
    exact hr_z (v := 0) hx hb hr hlocks (by decide) (w1 := []) hP hD hK hS [] [] rfl rfl rfl (by unfold inI; rw [if_pos c_2]) (rfl) dX3_in_15
  · skip
    refine lv_iload_n hx hb dX3_in_5 rfl (lv_at hl 0 rfl) ?_
    refine lv_iload_n hx hb dX3_in_6 rfl (lv_at hl 2 rfl) ?_
    refine lv_icmp_gt (tgt := 14) hx hb dX3_in_7 (by decide) (fun c_7 => ?_) (fun c_7 => ?_)
    · skip
      refine lv_iconst (v := 0) hx hb dX3_in_14 (by decide) ?_
      exact hr_z (v := 0) hx hb hr hlocks (by decide) (w1 := []) hP hD hK hS [] [] rfl rfl rfl (by unfold inI; rw [if_neg c_2, if_pos c_7]) (rfl) dX3_in_15
    · skip
      refine lv_iconst (v := 1) hx hb dX3_in_10 (by decide) ?_
      refine lv_goto (tgt := 15) hx hb dX3_in_11 (by decide) ?_
      exact hr_z (v := 1) hx hb hr hlocks (by decide) (w1 := []) hP hD hK hS [] [] rfl rfl rfl (by unfold inI; rw [if_neg c_2, if_neg c_7]) (rfl) dX3_in_15

set_option maxHeartbeats 4000000 in
set_option maxRecDepth 100000 in
theorem kX3_begin (l : Launch) (dC : Nat → ClassId) (dI : Nat → Nat → Nat) (sz : Nat) (qm qd qk ql qy qc qi : Nat) (n : Nat) (th rw ak cb dn kp tr md wr sm : Int32)  : Mv_ l yX3_begin wsX3_begin 0 0 dC dI (fun _ => True) [.ref qm] [(qm, .inr (3, [.int th, .int (nI n), .ref qd, .int rw, .int ak, .ref qk, .ref ql, .ref qy, .int cb, .ref qc, .int dn, .int kp, .int tr, .int md, .int wr, .ref qi, .int sm]))] [] sz [(qm, .inr (3, [.int th, .int (nI n), .ref qd, .int rw, .int ak, .ref qk, .ref ql, .ref qy, .int cb, .ref qc, .int dn, .int kp, .int tr, .int md, .int wr, .ref qi, .int (-1756908916)]))] := by
  refine hm_ (cc := cX3_begin) (maxL := 1) (ret := none) (Qc := fun A => va_Qv (fun (_ : Unit) => True) (fun _ t9 => qw_ dC dI A [(qm, .inr (3, [.int th, .int (nI n), .ref qd, .int rw, .int ak, .ref qk, .ref ql, .ref qy, .int cb, .ref qc, .int dn, .int kp, .int tr, .int md, .int wr, .ref qi, .int (-1756908916)]))] [] t9) A) (by decide) rfl (Nat.le_of_ble_eq_true rfl) ?_
  intro p e s m below meth c A H locs ls hx hb hr hml hts hown hlocks hsz hP hK hD hE hA hS hl
  have hl : lv_has ls 1 [(0, .ref qm)] := hl
  have hown : s.vm.findClass RX3 = some m.cls := hown
  refine lv_aload_n hx hb dX3_begin_0 rfl (lv_at hl 0 rfl) ?_
  refine lv_ldc (v := (-1756908916)) hx hb hown (hts (.constant RX3 38 (-1756908916)) (by decide +kernel)) dX3_begin_1 ?_
  refine va_put (D := (dC, dI)) (ci := 3) (v := .int (-1756908916)) (ty := .int) (C := RX3) (T := TX3) (N := 17) hx hb hts (by decide +kernel) tyX3 tyX3_ok nmX3 hown hK hP hD hS 0 rfl rfl 16 (by decide) (hts (.fieldLink RX3 39 "HouseLogModel" "sum" "I") (by decide +kernel)) (fun _ h9 => h9) rfl (by decide +kernel) rfl rfl (Nat.le_of_ble_eq_true rfl) dX3_begin_3 (fun H locs hP hD hS => ?_)
  have hP : va_P (dC, dI) hlCl [(qm, .inr (3, [.int th, .int (nI n), .ref qd, .int rw, .int ak, .ref qk, .ref ql, .ref qy, .int cb, .ref qc, .int dn, .int kp, .int tr, .int md, .int wr, .ref qi, .int (-1756908916)]))] H := hP
  have hD : va_D A [(qm, .inr (3, [.int th, .int (nI n), .ref qd, .int rw, .int ak, .ref qk, .ref ql, .ref qy, .int cb, .ref qc, .int dn, .int kp, .int tr, .int md, .int wr, .ref qi, .int (-1756908916)]))] := hD
  exact hr_v hx hb hr hlocks (w1 := [(qm, .inr (3, [.int th, .int (nI n), .ref qd, .int rw, .int ak, .ref qk, .ref ql, .ref qy, .int cb, .ref qc, .int dn, .int kp, .int tr, .int md, .int wr, .ref qi, .int (-1756908916)]))]) hP hD hK hS [0] [] rfl rfl rfl (rfl) dX3_begin_6

set_option maxHeartbeats 4000000 in
set_option maxRecDepth 100000 in
theorem kX3_goOn (l : Launch) (dC : Nat → ClassId) (dI : Nat → Nat → Nat) (sz : Nat) (qm qd qk ql qy qc qi : Nat) (n : Nat) (th rw ak cb dn kp tr md wr sm : Int32) (b : Int32)  : Mv_ l yX3_goOn wsX3_goOn 0 0 dC dI (fun _ => True) [.ref qm, .int b] [(qm, .inr (3, [.int th, .int (nI n), .ref qd, .int rw, .int ak, .ref qk, .ref ql, .ref qy, .int cb, .ref qc, .int dn, .int kp, .int tr, .int md, .int wr, .ref qi, .int sm]))] [] sz [(qm, .inr (3, [.int th, .int (nI n), .ref qd, .int rw, .int ak, .ref qk, .ref ql, .ref qy, .int cb, .ref qc, .int dn, .int kp, .int tr, .int md, .int wr, .ref qi, .int (mixI sm b)]))] := by
  refine hm_ (cc := cX3_goOn) (maxL := 3) (ret := none) (Qc := fun A => va_Qv (fun (_ : Unit) => True) (fun _ t9 => qw_ dC dI A [(qm, .inr (3, [.int th, .int (nI n), .ref qd, .int rw, .int ak, .ref qk, .ref ql, .ref qy, .int cb, .ref qc, .int dn, .int kp, .int tr, .int md, .int wr, .ref qi, .int (mixI sm b)]))] [] t9) A) (by decide) rfl (Nat.le_of_ble_eq_true rfl) ?_
  intro p e s m below meth c A H locs ls hx hb hr hml hts hown hlocks hsz hP hK hD hE hA hS hl
  have hl : lv_has ls 3 [(0, .ref qm), (1, .int b)] := hl
  have hown : s.vm.findClass RX3 = some m.cls := hown
  refine lv_aload_n hx hb dX3_goOn_0 rfl (lv_at hl 0 rfl) ?_
  refine va_get (D := (dC, dI)) (ci := 3) (v := .int sm) (C := RX3) (T := TX3) (N := 17) hx hb hts (by decide +kernel) hown hK hP 0 rfl rfl 16 (by decide) (hts (.fieldLink RX3 39 "HouseLogModel" "sum" "I") (by decide +kernel)) (fun _ h9 => h9) rfl dX3_goOn_1 ?_
  refine lv_iload_n hx hb dX3_goOn_4 rfl (lv_at hl 1 rfl) ?_
  refine lv_ixor hx hb dX3_goOn_5 ?_
  refine lv_istore_n (lv' := [(2, .int (sm ^^^ b)), (0, .ref qm), (1, .int b)]) hx hb dX3_goOn_6 rfl hl (by decide) rfl (fun ls hl => ?_)
  refine lv_aload_n hx hb dX3_goOn_7 rfl (lv_at hl 1 rfl) ?_
  refine lv_iload_n hx hb dX3_goOn_8 rfl (lv_at hl 0 rfl) ?_
  refine lv_bipush (v := 9) hx hb dX3_goOn_9 (by decide) ?_
  refine lv_ishl hx hb dX3_goOn_11 ?_
  refine lv_iload_n hx hb dX3_goOn_12 rfl (lv_at hl 0 rfl) ?_
  refine lv_bipush (v := 23) hx hb dX3_goOn_13 (by decide) ?_
  refine lv_iushr (v := ((sm ^^^ b).toUInt32 >>> ((23 : Int32).toUInt32 &&& Int32.toUInt32 31)).toInt32) hx hb dX3_goOn_15 rfl ?_
  refine lv_ior hx hb dX3_goOn_16 ?_
  refine lv_ldc (v := (-2048144789)) hx hb hown (hts (.constant RX3 42 (-2048144789)) (by decide +kernel)) dX3_goOn_17 ?_
  refine lv_imul hx hb dX3_goOn_19 ?_
  rw [mixI_f]
  refine va_put (D := (dC, dI)) (ci := 3) (v := .int (mixI sm b)) (ty := .int) (C := RX3) (T := TX3) (N := 17) hx hb hts (by decide +kernel) tyX3 tyX3_ok nmX3 hown hK hP hD hS 0 rfl rfl 16 (by decide) (hts (.fieldLink RX3 39 "HouseLogModel" "sum" "I") (by decide +kernel)) (fun _ h9 => h9) rfl (by decide +kernel) rfl rfl (Nat.le_of_ble_eq_true rfl) dX3_goOn_20 (fun H locs hP hD hS => ?_)
  have hP : va_P (dC, dI) hlCl [(qm, .inr (3, [.int th, .int (nI n), .ref qd, .int rw, .int ak, .ref qk, .ref ql, .ref qy, .int cb, .ref qc, .int dn, .int kp, .int tr, .int md, .int wr, .ref qi, .int (mixI sm b)]))] H := hP
  have hD : va_D A [(qm, .inr (3, [.int th, .int (nI n), .ref qd, .int rw, .int ak, .ref qk, .ref ql, .ref qy, .int cb, .ref qc, .int dn, .int kp, .int tr, .int md, .int wr, .ref qi, .int (mixI sm b)]))] := hD
  exact hr_v hx hb hr hlocks (w1 := [(qm, .inr (3, [.int th, .int (nI n), .ref qd, .int rw, .int ak, .ref qk, .ref ql, .ref qy, .int cb, .ref qc, .int dn, .int kp, .int tr, .int md, .int wr, .ref qi, .int (mixI sm b)]))]) hP hD hK hS [0] [] rfl rfl rfl (rfl) dX3_goOn_23

set_option maxHeartbeats 4000000 in
set_option maxRecDepth 100000 in
theorem kX3_from (l : Launch) (dC : Nat → ClassId) (dI : Nat → Nat → Nat) (sz : Nat) (qm qd qk ql qy qc qi : Nat) (n : Nat) (th rw ak cb dn kp tr md wr sm : Int32) (u k : Nat)  : Mi_ l yX3_from wsX3_from 0 0 dC dI (fun _ => True) [.ref qm, .int (nI u), .int (nI k)] [(qm, .inr (3, [.int th, .int (nI n), .ref qd, .int rw, .int ak, .ref qk, .ref ql, .ref qy, .int cb, .ref qc, .int dn, .int kp, .int tr, .int md, .int wr, .ref qi, .int sm]))] [] sz (nI (4096 * u + 64 * k)) [(qm, .inr (3, [.int th, .int (nI n), .ref qd, .int rw, .int ak, .ref qk, .ref ql, .ref qy, .int cb, .ref qc, .int dn, .int kp, .int tr, .int md, .int wr, .ref qi, .int sm]))] := by
  refine hm_ (cc := cX3_from) (maxL := 3) (ret := (some .int)) (Qc := fun A => va_Qi (fun (r9 : Int32) (_ : Unit) => r9 = nI (4096 * u + 64 * k)) (fun _ t9 => qw_ dC dI A [(qm, .inr (3, [.int th, .int (nI n), .ref qd, .int rw, .int ak, .ref qk, .ref ql, .ref qy, .int cb, .ref qc, .int dn, .int kp, .int tr, .int md, .int wr, .ref qi, .int sm]))] [] t9) A) (by decide) rfl (Nat.le_of_ble_eq_true rfl) ?_
  intro p e s m below meth c A H locs ls hx hb hr hml hts hown hlocks hsz hP hK hD hE hA hS hl
  have hl : lv_has ls 3 [(0, .ref qm), (1, .int (nI u)), (2, .int (nI k))] := hl
  have hown : s.vm.findClass RX3 = some m.cls := hown
  refine lv_sipush (v := 4096) hx hb dX3_from_0 (by decide) ?_
  refine lv_iload_n hx hb dX3_from_3 rfl (lv_at hl 1 rfl) ?_
  refine lv_imul hx hb dX3_from_4 ?_
  rw [show (4096 * (nI u) : Int32) = nI (4096 * u) from pk_mul 4096 u]
  refine lv_bipush (v := 64) hx hb dX3_from_5 (by decide) ?_
  refine lv_iload_n hx hb dX3_from_7 rfl (lv_at hl 2 rfl) ?_
  refine lv_imul hx hb dX3_from_8 ?_
  rw [show (64 * (nI k) : Int32) = nI (64 * k) from pk_mul 64 k]
  refine lv_iadd hx hb dX3_from_9 ?_
  rw [show ((nI (4096 * u)) + (nI (64 * k)) : Int32) = nI (4096 * u + (64 * k)) from nI_add (4096 * u) (64 * k)]
  exact hr_i (v := nI (4096 * u + (64 * k))) hx hb hr hlocks (w1 := [(qm, .inr (3, [.int th, .int (nI n), .ref qd, .int rw, .int ak, .ref qk, .ref ql, .ref qy, .int cb, .ref qc, .int dn, .int kp, .int tr, .int md, .int wr, .ref qi, .int sm]))]) hP hD hK hS [0] [] rfl rfl rfl (rfl) (rfl) dX3_from_10

def foI (D : Nat → Int32) (a : Nat) : Int32 := ((((D a) <<< ((24 : Int32) &&& 31)) ||| ((D (a + 1)) <<< ((16 : Int32) &&& 31))) ||| ((D (a + 2)) <<< ((8 : Int32) &&& 31))) ||| (D (a + 3))
set_option maxHeartbeats 4000000 in
set_option maxRecDepth 100000 in
theorem kX3_four (l : Launch) (dC : Nat → ClassId) (dI : Nat → Nat → Nat) (sz : Nat) (qm qd qk ql qy qc qi : Nat) (n : Nat) (cAd : ClassId) (th rw ak cb dn kp tr md wr sm : Int32) (D : Nat → Int32) (a : Nat) (ha : a + 3 < 8192) : Mi_ l yX3_four wsX3_four 0 0 dC dI (fun _ => True) [.ref qm, .int (nI a)] [(qm, .inr (3, [.int th, .int (nI n), .ref qd, .int rw, .int ak, .ref qk, .ref ql, .ref qy, .int cb, .ref qc, .int dn, .int kp, .int tr, .int md, .int wr, .ref qi, .int sm])), (qd, .inl (cAd, 8192, .inl D))] [(cAd, .int)] sz (foI D a) [(qm, .inr (3, [.int th, .int (nI n), .ref qd, .int rw, .int ak, .ref qk, .ref ql, .ref qy, .int cb, .ref qc, .int dn, .int kp, .int tr, .int md, .int wr, .ref qi, .int sm])), (qd, .inl (cAd, 8192, .inl D))] := by
  refine hm_ (cc := cX3_four) (maxL := 2) (ret := (some .int)) (Qc := fun A => va_Qi (fun (r9 : Int32) (_ : Unit) => r9 = foI D a) (fun _ t9 => qw_ dC dI A [(qm, .inr (3, [.int th, .int (nI n), .ref qd, .int rw, .int ak, .ref qk, .ref ql, .ref qy, .int cb, .ref qc, .int dn, .int kp, .int tr, .int md, .int wr, .ref qi, .int sm])), (qd, .inl (cAd, 8192, .inl D))] [(cAd, .int)] t9) A) (by decide) rfl (Nat.le_of_ble_eq_true rfl) ?_
  intro p e s m below meth c A H locs ls hx hb hr hml hts hown hlocks hsz hP hK hD hE hA hS hl
  have hl : lv_has ls 2 [(0, .ref qm), (1, .int (nI a))] := hl
  have hown : s.vm.findClass RX3 = some m.cls := hown
  refine lv_aload_n hx hb dX3_four_0 rfl (lv_at hl 0 rfl) ?_
  refine va_get (D := (dC, dI)) (ci := 3) (v := .ref qd) (C := RX3) (T := TX3) (N := 17) hx hb hts (by decide +kernel) hown hK hP 0 rfl rfl 2 (by decide) (hts (.fieldLink RX3 7 "HouseLogModel" "disk" "[I") (by decide +kernel)) (fun _ h9 => h9) rfl dX3_four_1 ?_
  refine lv_iload_n hx hb dX3_four_4 rfl (lv_at hl 1 rfl) ?_
  refine va_iald hx hb hK hP 1 0 rfl rfl (i := nI a) (vp_in_nI (n := a) (by omega) (by decide)) dX3_four_5 ?_
  refine W.eq (g2 := F0 m 6 ls (.int (D a) :: [])) (by rw [show (nI a : Int32).toNatClampNeg = a from nI_clamp (by omega)]) ?_
  refine lv_bipush (v := 24) hx hb dX3_four_6 (by decide) ?_
  refine lv_ishl hx hb dX3_four_8 ?_
  refine lv_aload_n hx hb dX3_four_9 rfl (lv_at hl 0 rfl) ?_
  refine va_get (D := (dC, dI)) (ci := 3) (v := .ref qd) (C := RX3) (T := TX3) (N := 17) hx hb hts (by decide +kernel) hown hK hP 0 rfl rfl 2 (by decide) (hts (.fieldLink RX3 7 "HouseLogModel" "disk" "[I") (by decide +kernel)) (fun _ h9 => h9) rfl dX3_four_10 ?_
  refine lv_iload_n hx hb dX3_four_13 rfl (lv_at hl 1 rfl) ?_
  refine lv_iconst (v := 1) hx hb dX3_four_14 (by decide) ?_
  refine lv_iadd hx hb dX3_four_15 ?_
  rw [show ((nI a) + 1 : Int32) = nI (a + 1) from nI_add a 1]
  refine va_iald hx hb hK hP 1 0 rfl rfl (i := nI (a + 1)) (vp_in_nI (n := a + 1) (by omega) (by decide)) dX3_four_16 ?_
  refine W.eq (g2 := F0 m 17 ls (.int (D (a + 1)) :: .int ((D a) <<< ((24 : Int32) &&& 31)) :: [])) (by rw [show (nI (a + 1) : Int32).toNatClampNeg = a + 1 from nI_clamp (by omega)]) ?_
  refine lv_bipush (v := 16) hx hb dX3_four_17 (by decide) ?_
  refine lv_ishl hx hb dX3_four_19 ?_
  refine lv_ior hx hb dX3_four_20 ?_
  refine lv_aload_n hx hb dX3_four_21 rfl (lv_at hl 0 rfl) ?_
  refine va_get (D := (dC, dI)) (ci := 3) (v := .ref qd) (C := RX3) (T := TX3) (N := 17) hx hb hts (by decide +kernel) hown hK hP 0 rfl rfl 2 (by decide) (hts (.fieldLink RX3 7 "HouseLogModel" "disk" "[I") (by decide +kernel)) (fun _ h9 => h9) rfl dX3_four_22 ?_
  refine lv_iload_n hx hb dX3_four_25 rfl (lv_at hl 1 rfl) ?_
  refine lv_iconst (v := 2) hx hb dX3_four_26 (by decide) ?_
  refine lv_iadd hx hb dX3_four_27 ?_
  rw [show ((nI a) + 2 : Int32) = nI (a + 2) from nI_add a 2]
  refine va_iald hx hb hK hP 1 0 rfl rfl (i := nI (a + 2)) (vp_in_nI (n := a + 2) (by omega) (by decide)) dX3_four_28 ?_
  refine W.eq (g2 := F0 m 29 ls (.int (D (a + 2)) :: .int (((D a) <<< ((24 : Int32) &&& 31)) ||| ((D (a + 1)) <<< ((16 : Int32) &&& 31))) :: [])) (by rw [show (nI (a + 2) : Int32).toNatClampNeg = a + 2 from nI_clamp (by omega)]) ?_
  refine lv_bipush (v := 8) hx hb dX3_four_29 (by decide) ?_
  refine lv_ishl hx hb dX3_four_31 ?_
  refine lv_ior hx hb dX3_four_32 ?_
  refine lv_aload_n hx hb dX3_four_33 rfl (lv_at hl 0 rfl) ?_
  refine va_get (D := (dC, dI)) (ci := 3) (v := .ref qd) (C := RX3) (T := TX3) (N := 17) hx hb hts (by decide +kernel) hown hK hP 0 rfl rfl 2 (by decide) (hts (.fieldLink RX3 7 "HouseLogModel" "disk" "[I") (by decide +kernel)) (fun _ h9 => h9) rfl dX3_four_34 ?_
  refine lv_iload_n hx hb dX3_four_37 rfl (lv_at hl 1 rfl) ?_
  refine lv_iconst (v := 3) hx hb dX3_four_38 (by decide) ?_
  refine lv_iadd hx hb dX3_four_39 ?_
  rw [show ((nI a) + 3 : Int32) = nI (a + 3) from nI_add a 3]
  refine va_iald hx hb hK hP 1 0 rfl rfl (i := nI (a + 3)) (vp_in_nI (n := a + 3) (by omega) (by decide)) dX3_four_40 ?_
  refine W.eq (g2 := F0 m 41 ls (.int (D (a + 3)) :: .int ((((D a) <<< ((24 : Int32) &&& 31)) ||| ((D (a + 1)) <<< ((16 : Int32) &&& 31))) ||| ((D (a + 2)) <<< ((8 : Int32) &&& 31))) :: [])) (by rw [show (nI (a + 3) : Int32).toNatClampNeg = a + 3 from nI_clamp (by omega)]) ?_
  refine lv_ior hx hb dX3_four_41 ?_
  exact hr_i (v := ((((D a) <<< ((24 : Int32) &&& 31)) ||| ((D (a + 1)) <<< ((16 : Int32) &&& 31))) ||| ((D (a + 2)) <<< ((8 : Int32) &&& 31))) ||| (D (a + 3))) hx hb hr hlocks (w1 := [(qm, .inr (3, [.int th, .int (nI n), .ref qd, .int rw, .int ak, .ref qk, .ref ql, .ref qy, .int cb, .ref qc, .int dn, .int kp, .int tr, .int md, .int wr, .ref qi, .int sm])), (qd, .inl (cAd, 8192, .inl D))]) hP hD hK hS [0, 1] [0] rfl rfl rfl (by unfold foI; rfl) (rfl) dX3_four_42

theorem inI_n (x y z : Int32) : narrow .boolean (.int (inI x y z)) = .int (inI x y z) := by
  unfold inI
  split
  · rfl
  · split <;> rfl

def irR (rw : Int32) (i : Int32) : Int32 := inI i 0 (rw - 1)
set_option maxHeartbeats 4000000 in
set_option maxRecDepth 100000 in
theorem kX3_isRow (l : Launch) (dC : Nat → ClassId) (dI : Nat → Nat → Nat) (sz : Nat) (qm qd qk ql qy qc qi : Nat) (n : Nat) (th rw ak cb dn kp tr md wr sm : Int32) (i : Int32)  : Mi_ l yX3_isRow wsX3_isRow 1 22 dC dI (fun _ => True) [.ref qm, .int i] [(qm, .inr (3, [.int th, .int (nI n), .ref qd, .int rw, .int ak, .ref qk, .ref ql, .ref qy, .int cb, .ref qc, .int dn, .int kp, .int tr, .int md, .int wr, .ref qi, .int sm]))] [] sz (irR rw i) [(qm, .inr (3, [.int th, .int (nI n), .ref qd, .int rw, .int ak, .ref qk, .ref ql, .ref qy, .int cb, .ref qc, .int dn, .int kp, .int tr, .int md, .int wr, .ref qi, .int sm]))] := by
  refine hm_ (cc := cX3_isRow) (maxL := 2) (ret := (some .boolean)) (Qc := fun A => va_Qi (fun (r9 : Int32) (_ : Unit) => r9 = irR rw i) (fun _ t9 => qw_ dC dI A [(qm, .inr (3, [.int th, .int (nI n), .ref qd, .int rw, .int ak, .ref qk, .ref ql, .ref qy, .int cb, .ref qc, .int dn, .int kp, .int tr, .int md, .int wr, .ref qi, .int sm]))] [] t9) A) (by decide) rfl (Nat.le_of_ble_eq_true rfl) ?_
  intro p e s m below meth c A H locs ls hx hb hr hml hts hown hlocks hsz hP hK hD hE hA hS hl
  have hl : lv_has ls 2 [(0, .ref qm), (1, .int i)] := hl
  have hown : s.vm.findClass RX3 = some m.cls := hown
  refine lv_iload_n hx hb dX3_isRow_0 rfl (lv_at hl 1 rfl) ?_
  refine lv_iconst (v := 0) hx hb dX3_isRow_1 (by decide) ?_
  refine lv_aload_n hx hb dX3_isRow_2 rfl (lv_at hl 0 rfl) ?_
  refine va_get (D := (dC, dI)) (ci := 3) (v := .int rw) (C := RX3) (T := TX3) (N := 17) hx hb hts (by decide +kernel) hown hK hP 0 rfl rfl 3 (by decide) (hts (.fieldLink RX3 73 "HouseLogModel" "rows" "I") (by decide +kernel)) (fun _ h9 => h9) rfl dX3_isRow_3 ?_
  refine lv_iconst (v := 1) hx hb dX3_isRow_6 (by decide) ?_
  refine lv_isub hx hb dX3_isRow_7 ?_
  refine hc_iS (As := [.int i, .int 0, .int (rw - 1)]) (rest := []) ⟨hx, hb, hml, hown, hts⟩ sx_T trivial (kX3_in l dC dI H.size i 0 (rw - 1) ) (va_cwS 3 hts gX3_isRow_X3_in rfl rfl rfl (by decide +kernel) ⟨Nat.le_of_ble_eq_true rfl, Nat.le_of_ble_eq_true rfl⟩) hK hP hD hS hA [0] rfl rfl rfl hl.1 rfl (Nat.le_of_ble_eq_true rfl) dX3_isRow_8 ⟨Nat.zero_le _, Nat.zero_le _⟩ (fun H locs hP hD hS => ?_)
  exact hr_z (v := inI i 0 (rw - 1)) hx hb hr hlocks (inI_n _ _ _) (w1 := [(qm, .inr (3, [.int th, .int (nI n), .ref qd, .int rw, .int ak, .ref qk, .ref ql, .ref qy, .int cb, .ref qc, .int dn, .int kp, .int tr, .int md, .int wr, .ref qi, .int sm]))]) hP hD hK hS [0] [] rfl rfl rfl (by unfold irR; rfl) (rfl) dX3_isRow_11

set_option maxHeartbeats 4000000 in
set_option maxRecDepth 100000 in
theorem kX3_goDown (l : Launch) (dC : Nat → ClassId) (dI : Nat → Nat → Nat) (sz : Nat) (qm qd qk ql qy qc qi : Nat) (n : Nat) (th rw ak cb dn kp tr md wr sm : Int32)  : Mv_ l yX3_goDown wsX3_goDown 0 0 dC dI (fun _ => True) [.ref qm] [(qm, .inr (3, [.int th, .int (nI n), .ref qd, .int rw, .int ak, .ref qk, .ref ql, .ref qy, .int cb, .ref qc, .int dn, .int kp, .int tr, .int md, .int wr, .ref qi, .int sm]))] [] sz [(qm, .inr (3, [.int th, .int (nI n), .ref qd, .int 0, .int ak, .ref qk, .ref ql, .ref qy, .int 0, .ref qc, .int 1, .int (-1), .int tr, .int md, .int wr, .ref qi, .int sm]))] := by
  refine hm_ (cc := cX3_goDown) (maxL := 1) (ret := none) (Qc := fun A => va_Qv (fun (_ : Unit) => True) (fun _ t9 => qw_ dC dI A [(qm, .inr (3, [.int th, .int (nI n), .ref qd, .int 0, .int ak, .ref qk, .ref ql, .ref qy, .int 0, .ref qc, .int 1, .int (-1), .int tr, .int md, .int wr, .ref qi, .int sm]))] [] t9) A) (by decide) rfl (Nat.le_of_ble_eq_true rfl) ?_
  intro p e s m below meth c A H locs ls hx hb hr hml hts hown hlocks hsz hP hK hD hE hA hS hl
  have hl : lv_has ls 1 [(0, .ref qm)] := hl
  have hown : s.vm.findClass RX3 = some m.cls := hown
  refine lv_aload_n hx hb dX3_goDown_0 rfl (lv_at hl 0 rfl) ?_
  refine lv_iconst (v := 1) hx hb dX3_goDown_1 (by decide) ?_
  refine va_put (D := (dC, dI)) (ci := 3) (v := .int 1) (ty := .boolean) (C := RX3) (T := TX3) (N := 17) hx hb hts (by decide +kernel) tyX3 tyX3_ok nmX3 hown hK hP hD hS 0 rfl rfl 10 (by decide) (hts (.fieldLink RX3 62 "HouseLogModel" "down" "Z") (by decide +kernel)) (fun _ h9 => h9) rfl (by decide +kernel) (by decide) (by decide) (Nat.le_of_ble_eq_true rfl) dX3_goDown_2 (fun H locs hP hD hS => ?_)
  have hP : va_P (dC, dI) hlCl [(qm, .inr (3, [.int th, .int (nI n), .ref qd, .int rw, .int ak, .ref qk, .ref ql, .ref qy, .int cb, .ref qc, .int 1, .int kp, .int tr, .int md, .int wr, .ref qi, .int sm]))] H := hP
  have hD : va_D A [(qm, .inr (3, [.int th, .int (nI n), .ref qd, .int rw, .int ak, .ref qk, .ref ql, .ref qy, .int cb, .ref qc, .int 1, .int kp, .int tr, .int md, .int wr, .ref qi, .int sm]))] := hD
  refine lv_aload_n hx hb dX3_goDown_5 rfl (lv_at hl 0 rfl) ?_
  refine lv_iconst (v := 0) hx hb dX3_goDown_6 (by decide) ?_
  refine va_put (D := (dC, dI)) (ci := 3) (v := .int 0) (ty := .int) (C := RX3) (T := TX3) (N := 17) hx hb hts (by decide +kernel) tyX3 tyX3_ok nmX3 hown hK hP hD hS 0 rfl rfl 3 (by decide) (hts (.fieldLink RX3 73 "HouseLogModel" "rows" "I") (by decide +kernel)) (fun _ h9 => h9) rfl (by decide +kernel) rfl rfl (Nat.le_of_ble_eq_true rfl) dX3_goDown_7 (fun H locs hP hD hS => ?_)
  have hP : va_P (dC, dI) hlCl [(qm, .inr (3, [.int th, .int (nI n), .ref qd, .int 0, .int ak, .ref qk, .ref ql, .ref qy, .int cb, .ref qc, .int 1, .int kp, .int tr, .int md, .int wr, .ref qi, .int sm]))] H := hP
  have hD : va_D A [(qm, .inr (3, [.int th, .int (nI n), .ref qd, .int 0, .int ak, .ref qk, .ref ql, .ref qy, .int cb, .ref qc, .int 1, .int kp, .int tr, .int md, .int wr, .ref qi, .int sm]))] := hD
  refine lv_aload_n hx hb dX3_goDown_10 rfl (lv_at hl 0 rfl) ?_
  refine lv_iconst (v := 0) hx hb dX3_goDown_11 (by decide) ?_
  refine va_put (D := (dC, dI)) (ci := 3) (v := .int 0) (ty := .int) (C := RX3) (T := TX3) (N := 17) hx hb hts (by decide +kernel) tyX3 tyX3_ok nmX3 hown hK hP hD hS 0 rfl rfl 8 (by decide) (hts (.fieldLink RX3 66 "HouseLogModel" "collected" "I") (by decide +kernel)) (fun _ h9 => h9) rfl (by decide +kernel) rfl rfl (Nat.le_of_ble_eq_true rfl) dX3_goDown_12 (fun H locs hP hD hS => ?_)
  have hP : va_P (dC, dI) hlCl [(qm, .inr (3, [.int th, .int (nI n), .ref qd, .int 0, .int ak, .ref qk, .ref ql, .ref qy, .int 0, .ref qc, .int 1, .int kp, .int tr, .int md, .int wr, .ref qi, .int sm]))] H := hP
  have hD : va_D A [(qm, .inr (3, [.int th, .int (nI n), .ref qd, .int 0, .int ak, .ref qk, .ref ql, .ref qy, .int 0, .ref qc, .int 1, .int kp, .int tr, .int md, .int wr, .ref qi, .int sm]))] := hD
  refine lv_aload_n hx hb dX3_goDown_15 rfl (lv_at hl 0 rfl) ?_
  refine lv_iconst (v := (-1)) hx hb dX3_goDown_16 (by decide) ?_
  refine va_put (D := (dC, dI)) (ci := 3) (v := .int (-1)) (ty := .int) (C := RX3) (T := TX3) (N := 17) hx hb hts (by decide +kernel) tyX3 tyX3_ok nmX3 hown hK hP hD hS 0 rfl rfl 11 (by decide) (hts (.fieldLink RX3 25 "HouseLogModel" "keep" "I") (by decide +kernel)) (fun _ h9 => h9) rfl (by decide +kernel) rfl rfl (Nat.le_of_ble_eq_true rfl) dX3_goDown_17 (fun H locs hP hD hS => ?_)
  have hP : va_P (dC, dI) hlCl [(qm, .inr (3, [.int th, .int (nI n), .ref qd, .int 0, .int ak, .ref qk, .ref ql, .ref qy, .int 0, .ref qc, .int 1, .int (-1), .int tr, .int md, .int wr, .ref qi, .int sm]))] H := hP
  have hD : va_D A [(qm, .inr (3, [.int th, .int (nI n), .ref qd, .int 0, .int ak, .ref qk, .ref ql, .ref qy, .int 0, .ref qc, .int 1, .int (-1), .int tr, .int md, .int wr, .ref qi, .int sm]))] := hD
  exact hr_v hx hb hr hlocks (w1 := [(qm, .inr (3, [.int th, .int (nI n), .ref qd, .int 0, .int ak, .ref qk, .ref ql, .ref qy, .int 0, .ref qc, .int 1, .int (-1), .int tr, .int md, .int wr, .ref qi, .int sm]))]) hP hD hK hS [0] [] rfl rfl rfl (rfl) dX3_goDown_20

def adRI (dn : Int32) (cb : Nat) : Int32 := (if dn = 0 then (if (nI cb) = 40 then 0 else 1) else 0)
def adRN (dn : Int32) (cb : Nat) : Nat := (if dn = 0 then (if (nI cb) = 40 then cb else cb + 1) else cb)
def adRC (dn : Int32) (cb : Nat) (Co : Nat → Int32) (b : Int32) : Nat → Int32 := (if dn = 0 then (if (nI cb) = 40 then Co else upd Co cb (b &&& 255)) else Co)
set_option maxHeartbeats 4000000 in
set_option maxRecDepth 100000 in
theorem kX3_add (l : Launch) (dC : Nat → ClassId) (dI : Nat → Nat → Nat) (sz : Nat) (qm qd qk ql qy qc qi : Nat) (n : Nat) (cAc : ClassId) (th rw ak dn kp tr md wr sm : Int32) (cb : Nat) (Co : Nat → Int32) (b : Int32) (hcb : cb ≤ 40) : Mi_ l yX3_add wsX3_add 0 0 dC dI (fun _ => True) [.ref qm, .int b] [(qm, .inr (3, [.int th, .int (nI n), .ref qd, .int rw, .int ak, .ref qk, .ref ql, .ref qy, .int (nI cb), .ref qc, .int dn, .int kp, .int tr, .int md, .int wr, .ref qi, .int sm])), (qc, .inl (cAc, 40, .inl Co))] [(cAc, .int)] sz (adRI dn cb) [(qm, .inr (3, [.int 0, .int (nI n), .ref qd, .int rw, .int ak, .ref qk, .ref ql, .ref qy, .int (nI (adRN dn cb)), .ref qc, .int dn, .int kp, .int tr, .int md, .int wr, .ref qi, .int sm])), (qc, .inl (cAc, 40, .inl (adRC dn cb Co b)))] := by
  refine hm_ (cc := cX3_add) (maxL := 2) (ret := (some .boolean)) (Qc := fun A => va_Qi (fun (r9 : Int32) (_ : Unit) => r9 = adRI dn cb) (fun _ t9 => qw_ dC dI A [(qm, .inr (3, [.int 0, .int (nI n), .ref qd, .int rw, .int ak, .ref qk, .ref ql, .ref qy, .int (nI (adRN dn cb)), .ref qc, .int dn, .int kp, .int tr, .int md, .int wr, .ref qi, .int sm])), (qc, .inl (cAc, 40, .inl (adRC dn cb Co b)))] [(cAc, .int)] t9) A) (by decide) rfl (Nat.le_of_ble_eq_true rfl) ?_
  intro p e s m below meth c A H locs ls hx hb hr hml hts hown hlocks hsz hP hK hD hE hA hS hl
  have hl : lv_has ls 2 [(0, .ref qm), (1, .int b)] := hl
  have hown : s.vm.findClass RX3 = some m.cls := hown
  refine lv_aload_n hx hb dX3_add_0 rfl (lv_at hl 0 rfl) ?_
  refine lv_iconst (v := 0) hx hb dX3_add_1 (by decide) ?_
  refine va_put (D := (dC, dI)) (ci := 3) (v := .int 0) (ty := .int) (C := RX3) (T := TX3) (N := 17) hx hb hts (by decide +kernel) tyX3 tyX3_ok nmX3 hown hK hP hD hS 0 rfl rfl 0 (by decide) (hts (.fieldLink RX3 35 "HouseLogModel" "thrown" "I") (by decide +kernel)) (fun _ h9 => h9) rfl (by decide +kernel) rfl rfl (Nat.le_of_ble_eq_true rfl) dX3_add_2 (fun H locs hP hD hS => ?_)
  have hP : va_P (dC, dI) hlCl [(qm, .inr (3, [.int 0, .int (nI n), .ref qd, .int rw, .int ak, .ref qk, .ref ql, .ref qy, .int (nI cb), .ref qc, .int dn, .int kp, .int tr, .int md, .int wr, .ref qi, .int sm])), (qc, .inl (cAc, 40, .inl Co))] H := hP
  have hD : va_D A [(qm, .inr (3, [.int 0, .int (nI n), .ref qd, .int rw, .int ak, .ref qk, .ref ql, .ref qy, .int (nI cb), .ref qc, .int dn, .int kp, .int tr, .int md, .int wr, .ref qi, .int sm])), (qc, .inl (cAc, 40, .inl Co))] := hD
  refine lv_aload_n hx hb dX3_add_5 rfl (lv_at hl 0 rfl) ?_
  refine va_get (D := (dC, dI)) (ci := 3) (v := .int dn) (C := RX3) (T := TX3) (N := 17) hx hb hts (by decide +kernel) hown hK hP 0 rfl rfl 10 (by decide) (hts (.fieldLink RX3 62 "HouseLogModel" "down" "Z") (by decide +kernel)) (fun _ h9 => h9) rfl dX3_add_6 ?_
  refine lv_if_ne (tgt := 21) hx hb dX3_add_9 (by decide) (fun c_9 => ?_) (fun c_9 => ?_)
  · skip
    refine lv_iconst (v := 0) hx hb dX3_add_21 (by decide) ?_
    exact hr_z (v := 0) hx hb hr hlocks (by decide) (w1 := [(qm, .inr (3, [.int 0, .int (nI n), .ref qd, .int rw, .int ak, .ref qk, .ref ql, .ref qy, .int (nI cb), .ref qc, .int dn, .int kp, .int tr, .int md, .int wr, .ref qi, .int sm])), (qc, .inl (cAc, 40, .inl Co))]) hP hD hK hS [0, 1] [0] rfl rfl rfl (by simp only [adRI, if_neg c_9] <;> rfl) (by simp only [adRI, adRN, adRC, if_neg c_9] <;> rfl) dX3_add_22
  · skip
    refine lv_aload_n hx hb dX3_add_12 rfl (lv_at hl 0 rfl) ?_
    refine va_get (D := (dC, dI)) (ci := 3) (v := .int (nI cb)) (C := RX3) (T := TX3) (N := 17) hx hb hts (by decide +kernel) hown hK hP 0 rfl rfl 8 (by decide) (hts (.fieldLink RX3 66 "HouseLogModel" "collected" "I") (by decide +kernel)) (fun _ h9 => h9) rfl dX3_add_13 ?_
    refine lv_bipush (v := 40) hx hb dX3_add_16 (by decide) ?_
    refine lv_icmp_ne (tgt := 23) hx hb dX3_add_18 (by decide) (fun c_18 => ?_) (fun c_18 => ?_)
    · skip
      have hcb2 := ne40_ c_18 hcb
      refine lv_aload_n hx hb dX3_add_23 rfl (lv_at hl 0 rfl) ?_
      refine va_get (D := (dC, dI)) (ci := 3) (v := .ref qc) (C := RX3) (T := TX3) (N := 17) hx hb hts (by decide +kernel) hown hK hP 0 rfl rfl 9 (by decide) (hts (.fieldLink RX3 22 "HouseLogModel" "collects" "[I") (by decide +kernel)) (fun _ h9 => h9) rfl dX3_add_24 ?_
      refine lv_aload_n hx hb dX3_add_27 rfl (lv_at hl 0 rfl) ?_
      refine va_get (D := (dC, dI)) (ci := 3) (v := .int (nI cb)) (C := RX3) (T := TX3) (N := 17) hx hb hts (by decide +kernel) hown hK hP 0 rfl rfl 8 (by decide) (hts (.fieldLink RX3 66 "HouseLogModel" "collected" "I") (by decide +kernel)) (fun _ h9 => h9) rfl dX3_add_28 ?_
      refine lv_iload_n hx hb dX3_add_31 rfl (lv_at hl 1 rfl) ?_
      refine lv_sipush (v := 255) hx hb dX3_add_32 (by decide) ?_
      refine lv_iand hx hb dX3_add_35 ?_
      refine va_iast hx hb hK hP hD hS 1 0 rfl rfl (i := nI cb) (vp_in_nI (n := cb) (by omega) (by decide)) dX3_add_36 (fun H locs hP hD hS => ?_)
      rw [show (nI cb : Int32).toNatClampNeg = cb from nI_clamp (by omega)] at hP hD
      have hP : va_P (dC, dI) hlCl [(qm, .inr (3, [.int 0, .int (nI n), .ref qd, .int rw, .int ak, .ref qk, .ref ql, .ref qy, .int (nI cb), .ref qc, .int dn, .int kp, .int tr, .int md, .int wr, .ref qi, .int sm])), (qc, .inl (cAc, 40, .inl (upd Co cb (b &&& 255))))] H := hP
      have hD : va_D A [(qm, .inr (3, [.int 0, .int (nI n), .ref qd, .int rw, .int ak, .ref qk, .ref ql, .ref qy, .int (nI cb), .ref qc, .int dn, .int kp, .int tr, .int md, .int wr, .ref qi, .int sm])), (qc, .inl (cAc, 40, .inl (upd Co cb (b &&& 255))))] := hD
      refine lv_aload_n hx hb dX3_add_37 rfl (lv_at hl 0 rfl) ?_
      refine lv_dup hx hb dX3_add_38 rfl ?_
      refine va_get (D := (dC, dI)) (ci := 3) (v := .int (nI cb)) (C := RX3) (T := TX3) (N := 17) hx hb hts (by decide +kernel) hown hK hP 0 rfl rfl 8 (by decide) (hts (.fieldLink RX3 66 "HouseLogModel" "collected" "I") (by decide +kernel)) (fun _ h9 => h9) rfl dX3_add_39 ?_
      refine lv_iconst (v := 1) hx hb dX3_add_42 (by decide) ?_
      refine lv_iadd hx hb dX3_add_43 ?_
      rw [show ((nI cb) + 1 : Int32) = nI (cb + 1) from nI_add cb 1]
      refine va_put (D := (dC, dI)) (ci := 3) (v := .int (nI (cb + 1))) (ty := .int) (C := RX3) (T := TX3) (N := 17) hx hb hts (by decide +kernel) tyX3 tyX3_ok nmX3 hown hK hP hD hS 0 rfl rfl 8 (by decide) (hts (.fieldLink RX3 66 "HouseLogModel" "collected" "I") (by decide +kernel)) (fun _ h9 => h9) rfl (by decide +kernel) rfl rfl (Nat.le_of_ble_eq_true rfl) dX3_add_44 (fun H locs hP hD hS => ?_)
      have hP : va_P (dC, dI) hlCl [(qm, .inr (3, [.int 0, .int (nI n), .ref qd, .int rw, .int ak, .ref qk, .ref ql, .ref qy, .int (nI (cb + 1)), .ref qc, .int dn, .int kp, .int tr, .int md, .int wr, .ref qi, .int sm])), (qc, .inl (cAc, 40, .inl (upd Co cb (b &&& 255))))] H := hP
      have hD : va_D A [(qm, .inr (3, [.int 0, .int (nI n), .ref qd, .int rw, .int ak, .ref qk, .ref ql, .ref qy, .int (nI (cb + 1)), .ref qc, .int dn, .int kp, .int tr, .int md, .int wr, .ref qi, .int sm])), (qc, .inl (cAc, 40, .inl (upd Co cb (b &&& 255))))] := hD
      refine lv_iconst (v := 1) hx hb dX3_add_47 (by decide) ?_
      exact hr_z (v := 1) hx hb hr hlocks (by decide) (w1 := [(qm, .inr (3, [.int 0, .int (nI n), .ref qd, .int rw, .int ak, .ref qk, .ref ql, .ref qy, .int (nI (cb + 1)), .ref qc, .int dn, .int kp, .int tr, .int md, .int wr, .ref qi, .int sm])), (qc, .inl (cAc, 40, .inl (upd Co cb (b &&& 255))))]) hP hD hK hS [0, 1] [0] rfl rfl rfl (by simp only [adRI, if_pos c_9, if_neg c_18] <;> rfl) (by simp only [adRI, adRN, adRC, if_pos c_9, if_neg c_18] <;> rfl) dX3_add_48
    · skip
      refine lv_iconst (v := 0) hx hb dX3_add_21 (by decide) ?_
      exact hr_z (v := 0) hx hb hr hlocks (by decide) (w1 := [(qm, .inr (3, [.int 0, .int (nI n), .ref qd, .int rw, .int ak, .ref qk, .ref ql, .ref qy, .int (nI cb), .ref qc, .int dn, .int kp, .int tr, .int md, .int wr, .ref qi, .int sm])), (qc, .inl (cAc, 40, .inl Co))]) hP hD hK hS [0, 1] [0] rfl rfl rfl (by simp only [adRI, if_pos c_9, if_pos c_18] <;> rfl) (by simp only [adRI, adRN, adRC, if_pos c_9, if_pos c_18] <;> rfl) dX3_add_22

def cuRI (dn : Int32) (keep tear : Int32) : Int32 := (if dn = 0 then (if keep < (-1) then 0 else (if (inI tear 0 63) = 0 then 0 else 1)) else 0)
def cuRK (dn kp : Int32) (keep tear : Int32) : Int32 := (if dn = 0 then (if keep < (-1) then kp else (if (inI tear 0 63) = 0 then kp else keep)) else kp)
def cuRT (dn tr : Int32) (keep tear : Int32) : Int32 := (if dn = 0 then (if keep < (-1) then tr else (if (inI tear 0 63) = 0 then tr else tear)) else tr)
set_option maxHeartbeats 4000000 in
set_option maxRecDepth 100000 in
theorem kX3_cut (l : Launch) (dC : Nat → ClassId) (dI : Nat → Nat → Nat) (sz : Nat) (qm qd qk ql qy qc qi : Nat) (n : Nat) (th rw ak cb dn kp tr md wr sm : Int32) (keep tear : Int32)  : Mi_ l yX3_cut wsX3_cut 1 22 dC dI (fun _ => True) [.ref qm, .int keep, .int tear] [(qm, .inr (3, [.int th, .int (nI n), .ref qd, .int rw, .int ak, .ref qk, .ref ql, .ref qy, .int cb, .ref qc, .int dn, .int kp, .int tr, .int md, .int wr, .ref qi, .int sm]))] [] sz (cuRI dn keep tear) [(qm, .inr (3, [.int 0, .int (nI n), .ref qd, .int rw, .int ak, .ref qk, .ref ql, .ref qy, .int cb, .ref qc, .int dn, .int (cuRK dn kp keep tear), .int (cuRT dn tr keep tear), .int md, .int wr, .ref qi, .int sm]))] := by
  refine hm_ (cc := cX3_cut) (maxL := 3) (ret := (some .boolean)) (Qc := fun A => va_Qi (fun (r9 : Int32) (_ : Unit) => r9 = cuRI dn keep tear) (fun _ t9 => qw_ dC dI A [(qm, .inr (3, [.int 0, .int (nI n), .ref qd, .int rw, .int ak, .ref qk, .ref ql, .ref qy, .int cb, .ref qc, .int dn, .int (cuRK dn kp keep tear), .int (cuRT dn tr keep tear), .int md, .int wr, .ref qi, .int sm]))] [] t9) A) (by decide) rfl (Nat.le_of_ble_eq_true rfl) ?_
  intro p e s m below meth c A H locs ls hx hb hr hml hts hown hlocks hsz hP hK hD hE hA hS hl
  have hl : lv_has ls 3 [(0, .ref qm), (1, .int keep), (2, .int tear)] := hl
  have hown : s.vm.findClass RX3 = some m.cls := hown
  refine lv_aload_n hx hb dX3_cut_0 rfl (lv_at hl 0 rfl) ?_
  refine lv_iconst (v := 0) hx hb dX3_cut_1 (by decide) ?_
  refine va_put (D := (dC, dI)) (ci := 3) (v := .int 0) (ty := .int) (C := RX3) (T := TX3) (N := 17) hx hb hts (by decide +kernel) tyX3 tyX3_ok nmX3 hown hK hP hD hS 0 rfl rfl 0 (by decide) (hts (.fieldLink RX3 35 "HouseLogModel" "thrown" "I") (by decide +kernel)) (fun _ h9 => h9) rfl (by decide +kernel) rfl rfl (Nat.le_of_ble_eq_true rfl) dX3_cut_2 (fun H locs hP hD hS => ?_)
  have hP : va_P (dC, dI) hlCl [(qm, .inr (3, [.int 0, .int (nI n), .ref qd, .int rw, .int ak, .ref qk, .ref ql, .ref qy, .int cb, .ref qc, .int dn, .int kp, .int tr, .int md, .int wr, .ref qi, .int sm]))] H := hP
  have hD : va_D A [(qm, .inr (3, [.int 0, .int (nI n), .ref qd, .int rw, .int ak, .ref qk, .ref ql, .ref qy, .int cb, .ref qc, .int dn, .int kp, .int tr, .int md, .int wr, .ref qi, .int sm]))] := hD
  refine lv_aload_n hx hb dX3_cut_5 rfl (lv_at hl 0 rfl) ?_
  refine va_get (D := (dC, dI)) (ci := 3) (v := .int dn) (C := RX3) (T := TX3) (N := 17) hx hb hts (by decide +kernel) hown hK hP 0 rfl rfl 10 (by decide) (hts (.fieldLink RX3 62 "HouseLogModel" "down" "Z") (by decide +kernel)) (fun _ h9 => h9) rfl dX3_cut_6 ?_
  refine lv_if_ne (tgt := 27) hx hb dX3_cut_9 (by decide) (fun c_9 => ?_) (fun c_9 => ?_)
  · skip
    refine lv_iconst (v := 0) hx hb dX3_cut_27 (by decide) ?_
    exact hr_z (v := 0) hx hb hr hlocks (by decide) (w1 := [(qm, .inr (3, [.int 0, .int (nI n), .ref qd, .int rw, .int ak, .ref qk, .ref ql, .ref qy, .int cb, .ref qc, .int dn, .int kp, .int tr, .int md, .int wr, .ref qi, .int sm]))]) hP hD hK hS [0] [] rfl rfl rfl (by simp only [cuRI, if_neg c_9] <;> rfl) (by simp only [cuRI, cuRK, cuRT, if_neg c_9] <;> rfl) dX3_cut_28
  · skip
    refine lv_iload_n hx hb dX3_cut_12 rfl (lv_at hl 1 rfl) ?_
    refine lv_iconst (v := (-1)) hx hb dX3_cut_13 (by decide) ?_
    refine lv_icmp_lt (tgt := 27) hx hb dX3_cut_14 (by decide) (fun c_14 => ?_) (fun c_14 => ?_)
    · skip
      refine lv_iconst (v := 0) hx hb dX3_cut_27 (by decide) ?_
      exact hr_z (v := 0) hx hb hr hlocks (by decide) (w1 := [(qm, .inr (3, [.int 0, .int (nI n), .ref qd, .int rw, .int ak, .ref qk, .ref ql, .ref qy, .int cb, .ref qc, .int dn, .int kp, .int tr, .int md, .int wr, .ref qi, .int sm]))]) hP hD hK hS [0] [] rfl rfl rfl (by simp only [cuRI, if_pos c_9, if_pos c_14] <;> rfl) (by simp only [cuRI, cuRK, cuRT, if_pos c_9, if_pos c_14] <;> rfl) dX3_cut_28
    · skip
      refine lv_iload_n hx hb dX3_cut_17 rfl (lv_at hl 2 rfl) ?_
      refine lv_iconst (v := 0) hx hb dX3_cut_18 (by decide) ?_
      refine lv_bipush (v := 63) hx hb dX3_cut_19 (by decide) ?_
      refine hc_iS (As := [.int tear, .int 0, .int 63]) (rest := []) ⟨hx, hb, hml, hown, hts⟩ sx_T trivial (kX3_in l dC dI H.size tear 0 63 ) (va_cwS 3 hts gX3_cut_X3_in rfl rfl rfl (by decide +kernel) ⟨Nat.le_of_ble_eq_true rfl, Nat.le_of_ble_eq_true rfl⟩) hK hP hD hS hA [0] rfl rfl rfl hl.1 rfl (Nat.le_of_ble_eq_true rfl) dX3_cut_21 ⟨Nat.zero_le _, Nat.zero_le _⟩ (fun H locs hP hD hS => ?_)
      refine lv_if_ne (tgt := 29) hx hb dX3_cut_24 (by decide) (fun c_24 => ?_) (fun c_24 => ?_)
      · skip
        refine lv_aload_n hx hb dX3_cut_29 rfl (lv_at hl 0 rfl) ?_
        refine lv_iload_n hx hb dX3_cut_30 rfl (lv_at hl 1 rfl) ?_
        refine va_put (D := (dC, dI)) (ci := 3) (v := .int keep) (ty := .int) (C := RX3) (T := TX3) (N := 17) hx hb hts (by decide +kernel) tyX3 tyX3_ok nmX3 hown hK hP hD hS 0 rfl rfl 11 (by decide) (hts (.fieldLink RX3 25 "HouseLogModel" "keep" "I") (by decide +kernel)) (fun _ h9 => h9) rfl (by decide +kernel) rfl rfl (Nat.le_of_ble_eq_true rfl) dX3_cut_31 (fun H locs hP hD hS => ?_)
        have hP : va_P (dC, dI) hlCl [(qm, .inr (3, [.int 0, .int (nI n), .ref qd, .int rw, .int ak, .ref qk, .ref ql, .ref qy, .int cb, .ref qc, .int dn, .int keep, .int tr, .int md, .int wr, .ref qi, .int sm]))] H := hP
        have hD : va_D A [(qm, .inr (3, [.int 0, .int (nI n), .ref qd, .int rw, .int ak, .ref qk, .ref ql, .ref qy, .int cb, .ref qc, .int dn, .int keep, .int tr, .int md, .int wr, .ref qi, .int sm]))] := hD
        refine lv_aload_n hx hb dX3_cut_34 rfl (lv_at hl 0 rfl) ?_
        refine lv_iload_n hx hb dX3_cut_35 rfl (lv_at hl 2 rfl) ?_
        refine va_put (D := (dC, dI)) (ci := 3) (v := .int tear) (ty := .int) (C := RX3) (T := TX3) (N := 17) hx hb hts (by decide +kernel) tyX3 tyX3_ok nmX3 hown hK hP hD hS 0 rfl rfl 12 (by decide) (hts (.fieldLink RX3 76 "HouseLogModel" "tear" "I") (by decide +kernel)) (fun _ h9 => h9) rfl (by decide +kernel) rfl rfl (Nat.le_of_ble_eq_true rfl) dX3_cut_36 (fun H locs hP hD hS => ?_)
        have hP : va_P (dC, dI) hlCl [(qm, .inr (3, [.int 0, .int (nI n), .ref qd, .int rw, .int ak, .ref qk, .ref ql, .ref qy, .int cb, .ref qc, .int dn, .int keep, .int tear, .int md, .int wr, .ref qi, .int sm]))] H := hP
        have hD : va_D A [(qm, .inr (3, [.int 0, .int (nI n), .ref qd, .int rw, .int ak, .ref qk, .ref ql, .ref qy, .int cb, .ref qc, .int dn, .int keep, .int tear, .int md, .int wr, .ref qi, .int sm]))] := hD
        refine lv_iconst (v := 1) hx hb dX3_cut_39 (by decide) ?_
        exact hr_z (v := 1) hx hb hr hlocks (by decide) (w1 := [(qm, .inr (3, [.int 0, .int (nI n), .ref qd, .int rw, .int ak, .ref qk, .ref ql, .ref qy, .int cb, .ref qc, .int dn, .int keep, .int tear, .int md, .int wr, .ref qi, .int sm]))]) hP hD hK hS [0] [] rfl rfl rfl (by simp only [cuRI, if_pos c_9, if_neg c_14, if_neg c_24] <;> rfl) (by simp only [cuRI, cuRK, cuRT, if_pos c_9, if_neg c_14, if_neg c_24] <;> rfl) dX3_cut_40
      · skip
        refine lv_iconst (v := 0) hx hb dX3_cut_27 (by decide) ?_
        exact hr_z (v := 0) hx hb hr hlocks (by decide) (w1 := [(qm, .inr (3, [.int 0, .int (nI n), .ref qd, .int rw, .int ak, .ref qk, .ref ql, .ref qy, .int cb, .ref qc, .int dn, .int kp, .int tr, .int md, .int wr, .ref qi, .int sm]))]) hP hD hK hS [0] [] rfl rfl rfl (by simp only [cuRI, if_pos c_9, if_neg c_14, if_pos c_24] <;> rfl) (by simp only [cuRI, cuRK, cuRT, if_pos c_9, if_neg c_14, if_pos c_24] <;> rfl) dX3_cut_28

def coRI (n : Nat) (rw ak cb dn md wr : Int32) (x : Int32) : Int32 := (if x = 0 then nI n else (if x = 1 then (if dn = 0 then rw else (-1)) else (if x = 2 then ak else (if x = 3 then cb else (if x = 4 then (if dn = 0 then 0 else 1) else (if x = 5 then md else (if x = 6 then wr else (if x = 7 then (if dn = 0 then (if rw ≤ ((nI n) - 2) then ((nI n) - 2) - rw else 0) else 0) else (-1)))))))))
set_option maxHeartbeats 4000000 in
set_option maxRecDepth 100000 in
theorem kX3_count (l : Launch) (dC : Nat → ClassId) (dI : Nat → Nat → Nat) (sz : Nat) (qm qd qk ql qy qc qi : Nat) (n : Nat) (th rw ak cb dn kp tr md wr sm : Int32) (x : Int32)  : Mi_ l yX3_count wsX3_count 0 0 dC dI (fun _ => True) [.ref qm, .int x] [(qm, .inr (3, [.int th, .int (nI n), .ref qd, .int rw, .int ak, .ref qk, .ref ql, .ref qy, .int cb, .ref qc, .int dn, .int kp, .int tr, .int md, .int wr, .ref qi, .int sm]))] [] sz (coRI n rw ak cb dn md wr x) [(qm, .inr (3, [.int 0, .int (nI n), .ref qd, .int rw, .int ak, .ref qk, .ref ql, .ref qy, .int cb, .ref qc, .int dn, .int kp, .int tr, .int md, .int wr, .ref qi, .int sm]))] := by
  refine hm_ (cc := cX3_count) (maxL := 2) (ret := (some .int)) (Qc := fun A => va_Qi (fun (r9 : Int32) (_ : Unit) => r9 = coRI n rw ak cb dn md wr x) (fun _ t9 => qw_ dC dI A [(qm, .inr (3, [.int 0, .int (nI n), .ref qd, .int rw, .int ak, .ref qk, .ref ql, .ref qy, .int cb, .ref qc, .int dn, .int kp, .int tr, .int md, .int wr, .ref qi, .int sm]))] [] t9) A) (by decide) rfl (Nat.le_of_ble_eq_true rfl) ?_
  intro p e s m below meth c A H locs ls hx hb hr hml hts hown hlocks hsz hP hK hD hE hA hS hl
  have hl : lv_has ls 2 [(0, .ref qm), (1, .int x)] := hl
  have hown : s.vm.findClass RX3 = some m.cls := hown
  refine lv_aload_n hx hb dX3_count_0 rfl (lv_at hl 0 rfl) ?_
  refine lv_iconst (v := 0) hx hb dX3_count_1 (by decide) ?_
  refine va_put (D := (dC, dI)) (ci := 3) (v := .int 0) (ty := .int) (C := RX3) (T := TX3) (N := 17) hx hb hts (by decide +kernel) tyX3 tyX3_ok nmX3 hown hK hP hD hS 0 rfl rfl 0 (by decide) (hts (.fieldLink RX3 35 "HouseLogModel" "thrown" "I") (by decide +kernel)) (fun _ h9 => h9) rfl (by decide +kernel) rfl rfl (Nat.le_of_ble_eq_true rfl) dX3_count_2 (fun H locs hP hD hS => ?_)
  have hP : va_P (dC, dI) hlCl [(qm, .inr (3, [.int 0, .int (nI n), .ref qd, .int rw, .int ak, .ref qk, .ref ql, .ref qy, .int cb, .ref qc, .int dn, .int kp, .int tr, .int md, .int wr, .ref qi, .int sm]))] H := hP
  have hD : va_D A [(qm, .inr (3, [.int 0, .int (nI n), .ref qd, .int rw, .int ak, .ref qk, .ref ql, .ref qy, .int cb, .ref qc, .int dn, .int kp, .int tr, .int md, .int wr, .ref qi, .int sm]))] := hD
  refine lv_iload_n hx hb dX3_count_5 rfl (lv_at hl 1 rfl) ?_
  rcases sw_ x 7 (by decide) with hsw | ⟨jsw, hjsw, esw⟩
  · skip
    refine lv_tableOut (tgt := 142) hx hb dX3_count_6 hsw (by decide) ?_
    refine lv_iconst (v := (-1)) hx hb dX3_count_142 (by decide) ?_
    exact hr_i (v := (-1)) hx hb hr hlocks (w1 := [(qm, .inr (3, [.int 0, .int (nI n), .ref qd, .int rw, .int ak, .ref qk, .ref ql, .ref qy, .int cb, .ref qc, .int dn, .int kp, .int tr, .int md, .int wr, .ref qi, .int sm]))]) hP hD hK hS [0] [] rfl rfl rfl (by simp only [coRI, if_neg (show ¬ x = 0 from sw_ne 7 0 (by decide) (by decide) hsw), if_neg (show ¬ x = 1 from sw_ne 7 1 (by decide) (by decide) hsw), if_neg (show ¬ x = 2 from sw_ne 7 2 (by decide) (by decide) hsw), if_neg (show ¬ x = 3 from sw_ne 7 3 (by decide) (by decide) hsw), if_neg (show ¬ x = 4 from sw_ne 7 4 (by decide) (by decide) hsw), if_neg (show ¬ x = 5 from sw_ne 7 5 (by decide) (by decide) hsw), if_neg (show ¬ x = 6 from sw_ne 7 6 (by decide) (by decide) hsw), if_neg (show ¬ x = 7 from sw_ne 7 7 (by decide) (by decide) hsw)] <;> rfl) (by simp only [coRI, if_neg (show ¬ x = 0 from sw_ne 7 0 (by decide) (by decide) hsw), if_neg (show ¬ x = 1 from sw_ne 7 1 (by decide) (by decide) hsw), if_neg (show ¬ x = 2 from sw_ne 7 2 (by decide) (by decide) hsw), if_neg (show ¬ x = 3 from sw_ne 7 3 (by decide) (by decide) hsw), if_neg (show ¬ x = 4 from sw_ne 7 4 (by decide) (by decide) hsw), if_neg (show ¬ x = 5 from sw_ne 7 5 (by decide) (by decide) hsw), if_neg (show ¬ x = 6 from sw_ne 7 6 (by decide) (by decide) hsw), if_neg (show ¬ x = 7 from sw_ne 7 7 (by decide) (by decide) hsw)] <;> rfl) dX3_count_143
  · obtain rfl | rfl | rfl | rfl | rfl | rfl | rfl | rfl : jsw = 0 ∨ jsw = 1 ∨ jsw = 2 ∨ jsw = 3 ∨ jsw = 4 ∨ jsw = 5 ∨ jsw = 6 ∨ jsw = 7 := by omega
    · skip
      refine lv_tableIn (tgt := 52) hx hb dX3_count_6 (by rw [esw]; decide) (by rw [esw]; decide) (off := 46) (by rw [esw]; decide) (by decide) ?_
      refine lv_aload_n hx hb dX3_count_52 rfl (lv_at hl 0 rfl) ?_
      refine va_get (D := (dC, dI)) (ci := 3) (v := .int (nI n)) (C := RX3) (T := TX3) (N := 17) hx hb hts (by decide +kernel) hown hK hP 0 rfl rfl 1 (by decide) (hts (.fieldLink RX3 32 "HouseLogModel" "sectors" "I") (by decide +kernel)) (fun _ h9 => h9) rfl dX3_count_53 ?_
      exact hr_i (v := nI n) hx hb hr hlocks (w1 := [(qm, .inr (3, [.int 0, .int (nI n), .ref qd, .int rw, .int ak, .ref qk, .ref ql, .ref qy, .int cb, .ref qc, .int dn, .int kp, .int tr, .int md, .int wr, .ref qi, .int sm]))]) hP hD hK hS [0] [] rfl rfl rfl (by simp only [coRI, if_pos (show x = 0 from esw)] <;> rfl) (by simp only [coRI, if_pos (show x = 0 from esw)] <;> rfl) dX3_count_56
    · skip
      refine lv_tableIn (tgt := 57) hx hb dX3_count_6 (by rw [esw]; decide) (by rw [esw]; decide) (off := 51) (by rw [esw]; decide) (by decide) ?_
      refine lv_aload_n hx hb dX3_count_57 rfl (lv_at hl 0 rfl) ?_
      refine va_get (D := (dC, dI)) (ci := 3) (v := .int dn) (C := RX3) (T := TX3) (N := 17) hx hb hts (by decide +kernel) hown hK hP 0 rfl rfl 10 (by decide) (hts (.fieldLink RX3 62 "HouseLogModel" "down" "Z") (by decide +kernel)) (fun _ h9 => h9) rfl dX3_count_58 ?_
      refine lv_if_eq (tgt := 68) hx hb dX3_count_61 (by decide) (fun c_61 => ?_) (fun c_61 => ?_)
      · skip
        refine lv_aload_n hx hb dX3_count_68 rfl (lv_at hl 0 rfl) ?_
        refine va_get (D := (dC, dI)) (ci := 3) (v := .int rw) (C := RX3) (T := TX3) (N := 17) hx hb hts (by decide +kernel) hown hK hP 0 rfl rfl 3 (by decide) (hts (.fieldLink RX3 73 "HouseLogModel" "rows" "I") (by decide +kernel)) (fun _ h9 => h9) rfl dX3_count_69 ?_
        exact hr_i (v := rw) hx hb hr hlocks (w1 := [(qm, .inr (3, [.int 0, .int (nI n), .ref qd, .int rw, .int ak, .ref qk, .ref ql, .ref qy, .int cb, .ref qc, .int dn, .int kp, .int tr, .int md, .int wr, .ref qi, .int sm]))]) hP hD hK hS [0] [] rfl rfl rfl (by simp only [coRI, if_neg (show ¬ x = 0 by rw [esw]; decide), if_pos (show x = 1 from esw), if_pos c_61] <;> rfl) (by simp only [coRI, if_neg (show ¬ x = 0 by rw [esw]; decide), if_pos (show x = 1 from esw), if_pos c_61] <;> rfl) dX3_count_72
      · skip
        refine lv_iconst (v := (-1)) hx hb dX3_count_64 (by decide) ?_
        refine lv_goto (tgt := 72) hx hb dX3_count_65 (by decide) ?_
        exact hr_i (v := (-1)) hx hb hr hlocks (w1 := [(qm, .inr (3, [.int 0, .int (nI n), .ref qd, .int rw, .int ak, .ref qk, .ref ql, .ref qy, .int cb, .ref qc, .int dn, .int kp, .int tr, .int md, .int wr, .ref qi, .int sm]))]) hP hD hK hS [0] [] rfl rfl rfl (by simp only [coRI, if_neg (show ¬ x = 0 by rw [esw]; decide), if_pos (show x = 1 from esw), if_neg c_61] <;> rfl) (by simp only [coRI, if_neg (show ¬ x = 0 by rw [esw]; decide), if_pos (show x = 1 from esw), if_neg c_61] <;> rfl) dX3_count_72
    · skip
      refine lv_tableIn (tgt := 73) hx hb dX3_count_6 (by rw [esw]; decide) (by rw [esw]; decide) (off := 67) (by rw [esw]; decide) (by decide) ?_
      refine lv_aload_n hx hb dX3_count_73 rfl (lv_at hl 0 rfl) ?_
      refine va_get (D := (dC, dI)) (ci := 3) (v := .int ak) (C := RX3) (T := TX3) (N := 17) hx hb hts (by decide +kernel) hown hK hP 0 rfl rfl 4 (by decide) (hts (.fieldLink RX3 82 "HouseLogModel" "acknowledged" "I") (by decide +kernel)) (fun _ h9 => h9) rfl dX3_count_74 ?_
      exact hr_i (v := ak) hx hb hr hlocks (w1 := [(qm, .inr (3, [.int 0, .int (nI n), .ref qd, .int rw, .int ak, .ref qk, .ref ql, .ref qy, .int cb, .ref qc, .int dn, .int kp, .int tr, .int md, .int wr, .ref qi, .int sm]))]) hP hD hK hS [0] [] rfl rfl rfl (by simp only [coRI, if_neg (show ¬ x = 0 by rw [esw]; decide), if_neg (show ¬ x = 1 by rw [esw]; decide), if_pos (show x = 2 from esw)] <;> rfl) (by simp only [coRI, if_neg (show ¬ x = 0 by rw [esw]; decide), if_neg (show ¬ x = 1 by rw [esw]; decide), if_pos (show x = 2 from esw)] <;> rfl) dX3_count_77
    · skip
      refine lv_tableIn (tgt := 78) hx hb dX3_count_6 (by rw [esw]; decide) (by rw [esw]; decide) (off := 72) (by rw [esw]; decide) (by decide) ?_
      refine lv_aload_n hx hb dX3_count_78 rfl (lv_at hl 0 rfl) ?_
      refine va_get (D := (dC, dI)) (ci := 3) (v := .int cb) (C := RX3) (T := TX3) (N := 17) hx hb hts (by decide +kernel) hown hK hP 0 rfl rfl 8 (by decide) (hts (.fieldLink RX3 66 "HouseLogModel" "collected" "I") (by decide +kernel)) (fun _ h9 => h9) rfl dX3_count_79 ?_
      exact hr_i (v := cb) hx hb hr hlocks (w1 := [(qm, .inr (3, [.int 0, .int (nI n), .ref qd, .int rw, .int ak, .ref qk, .ref ql, .ref qy, .int cb, .ref qc, .int dn, .int kp, .int tr, .int md, .int wr, .ref qi, .int sm]))]) hP hD hK hS [0] [] rfl rfl rfl (by simp only [coRI, if_neg (show ¬ x = 0 by rw [esw]; decide), if_neg (show ¬ x = 1 by rw [esw]; decide), if_neg (show ¬ x = 2 by rw [esw]; decide), if_pos (show x = 3 from esw)] <;> rfl) (by simp only [coRI, if_neg (show ¬ x = 0 by rw [esw]; decide), if_neg (show ¬ x = 1 by rw [esw]; decide), if_neg (show ¬ x = 2 by rw [esw]; decide), if_pos (show x = 3 from esw)] <;> rfl) dX3_count_82
    · skip
      refine lv_tableIn (tgt := 83) hx hb dX3_count_6 (by rw [esw]; decide) (by rw [esw]; decide) (off := 77) (by rw [esw]; decide) (by decide) ?_
      refine lv_aload_n hx hb dX3_count_83 rfl (lv_at hl 0 rfl) ?_
      refine va_get (D := (dC, dI)) (ci := 3) (v := .int dn) (C := RX3) (T := TX3) (N := 17) hx hb hts (by decide +kernel) hown hK hP 0 rfl rfl 10 (by decide) (hts (.fieldLink RX3 62 "HouseLogModel" "down" "Z") (by decide +kernel)) (fun _ h9 => h9) rfl dX3_count_84 ?_
      refine lv_if_eq (tgt := 94) hx hb dX3_count_87 (by decide) (fun c_87 => ?_) (fun c_87 => ?_)
      · skip
        refine lv_iconst (v := 0) hx hb dX3_count_94 (by decide) ?_
        exact hr_i (v := 0) hx hb hr hlocks (w1 := [(qm, .inr (3, [.int 0, .int (nI n), .ref qd, .int rw, .int ak, .ref qk, .ref ql, .ref qy, .int cb, .ref qc, .int dn, .int kp, .int tr, .int md, .int wr, .ref qi, .int sm]))]) hP hD hK hS [0] [] rfl rfl rfl (by simp only [coRI, if_neg (show ¬ x = 0 by rw [esw]; decide), if_neg (show ¬ x = 1 by rw [esw]; decide), if_neg (show ¬ x = 2 by rw [esw]; decide), if_neg (show ¬ x = 3 by rw [esw]; decide), if_pos (show x = 4 from esw), if_pos c_87] <;> rfl) (by simp only [coRI, if_neg (show ¬ x = 0 by rw [esw]; decide), if_neg (show ¬ x = 1 by rw [esw]; decide), if_neg (show ¬ x = 2 by rw [esw]; decide), if_neg (show ¬ x = 3 by rw [esw]; decide), if_pos (show x = 4 from esw), if_pos c_87] <;> rfl) dX3_count_95
      · skip
        refine lv_iconst (v := 1) hx hb dX3_count_90 (by decide) ?_
        refine lv_goto (tgt := 95) hx hb dX3_count_91 (by decide) ?_
        exact hr_i (v := 1) hx hb hr hlocks (w1 := [(qm, .inr (3, [.int 0, .int (nI n), .ref qd, .int rw, .int ak, .ref qk, .ref ql, .ref qy, .int cb, .ref qc, .int dn, .int kp, .int tr, .int md, .int wr, .ref qi, .int sm]))]) hP hD hK hS [0] [] rfl rfl rfl (by simp only [coRI, if_neg (show ¬ x = 0 by rw [esw]; decide), if_neg (show ¬ x = 1 by rw [esw]; decide), if_neg (show ¬ x = 2 by rw [esw]; decide), if_neg (show ¬ x = 3 by rw [esw]; decide), if_pos (show x = 4 from esw), if_neg c_87] <;> rfl) (by simp only [coRI, if_neg (show ¬ x = 0 by rw [esw]; decide), if_neg (show ¬ x = 1 by rw [esw]; decide), if_neg (show ¬ x = 2 by rw [esw]; decide), if_neg (show ¬ x = 3 by rw [esw]; decide), if_pos (show x = 4 from esw), if_neg c_87] <;> rfl) dX3_count_95
    · skip
      refine lv_tableIn (tgt := 96) hx hb dX3_count_6 (by rw [esw]; decide) (by rw [esw]; decide) (off := 90) (by rw [esw]; decide) (by decide) ?_
      refine lv_aload_n hx hb dX3_count_96 rfl (lv_at hl 0 rfl) ?_
      refine va_get (D := (dC, dI)) (ci := 3) (v := .int md) (C := RX3) (T := TX3) (N := 17) hx hb hts (by decide +kernel) hown hK hP 0 rfl rfl 13 (by decide) (hts (.fieldLink RX3 95 "HouseLogModel" "mended" "I") (by decide +kernel)) (fun _ h9 => h9) rfl dX3_count_97 ?_
      exact hr_i (v := md) hx hb hr hlocks (w1 := [(qm, .inr (3, [.int 0, .int (nI n), .ref qd, .int rw, .int ak, .ref qk, .ref ql, .ref qy, .int cb, .ref qc, .int dn, .int kp, .int tr, .int md, .int wr, .ref qi, .int sm]))]) hP hD hK hS [0] [] rfl rfl rfl (by simp only [coRI, if_neg (show ¬ x = 0 by rw [esw]; decide), if_neg (show ¬ x = 1 by rw [esw]; decide), if_neg (show ¬ x = 2 by rw [esw]; decide), if_neg (show ¬ x = 3 by rw [esw]; decide), if_neg (show ¬ x = 4 by rw [esw]; decide), if_pos (show x = 5 from esw)] <;> rfl) (by simp only [coRI, if_neg (show ¬ x = 0 by rw [esw]; decide), if_neg (show ¬ x = 1 by rw [esw]; decide), if_neg (show ¬ x = 2 by rw [esw]; decide), if_neg (show ¬ x = 3 by rw [esw]; decide), if_neg (show ¬ x = 4 by rw [esw]; decide), if_pos (show x = 5 from esw)] <;> rfl) dX3_count_100
    · skip
      refine lv_tableIn (tgt := 101) hx hb dX3_count_6 (by rw [esw]; decide) (by rw [esw]; decide) (off := 95) (by rw [esw]; decide) (by decide) ?_
      refine lv_aload_n hx hb dX3_count_101 rfl (lv_at hl 0 rfl) ?_
      refine va_get (D := (dC, dI)) (ci := 3) (v := .int wr) (C := RX3) (T := TX3) (N := 17) hx hb hts (by decide +kernel) hown hK hP 0 rfl rfl 14 (by decide) (hts (.fieldLink RX3 79 "HouseLogModel" "writes" "I") (by decide +kernel)) (fun _ h9 => h9) rfl dX3_count_102 ?_
      exact hr_i (v := wr) hx hb hr hlocks (w1 := [(qm, .inr (3, [.int 0, .int (nI n), .ref qd, .int rw, .int ak, .ref qk, .ref ql, .ref qy, .int cb, .ref qc, .int dn, .int kp, .int tr, .int md, .int wr, .ref qi, .int sm]))]) hP hD hK hS [0] [] rfl rfl rfl (by simp only [coRI, if_neg (show ¬ x = 0 by rw [esw]; decide), if_neg (show ¬ x = 1 by rw [esw]; decide), if_neg (show ¬ x = 2 by rw [esw]; decide), if_neg (show ¬ x = 3 by rw [esw]; decide), if_neg (show ¬ x = 4 by rw [esw]; decide), if_neg (show ¬ x = 5 by rw [esw]; decide), if_pos (show x = 6 from esw)] <;> rfl) (by simp only [coRI, if_neg (show ¬ x = 0 by rw [esw]; decide), if_neg (show ¬ x = 1 by rw [esw]; decide), if_neg (show ¬ x = 2 by rw [esw]; decide), if_neg (show ¬ x = 3 by rw [esw]; decide), if_neg (show ¬ x = 4 by rw [esw]; decide), if_neg (show ¬ x = 5 by rw [esw]; decide), if_pos (show x = 6 from esw)] <;> rfl) dX3_count_105
    · skip
      refine lv_tableIn (tgt := 106) hx hb dX3_count_6 (by rw [esw]; decide) (by rw [esw]; decide) (off := 100) (by rw [esw]; decide) (by decide) ?_
      refine lv_aload_n hx hb dX3_count_106 rfl (lv_at hl 0 rfl) ?_
      refine va_get (D := (dC, dI)) (ci := 3) (v := .int dn) (C := RX3) (T := TX3) (N := 17) hx hb hts (by decide +kernel) hown hK hP 0 rfl rfl 10 (by decide) (hts (.fieldLink RX3 62 "HouseLogModel" "down" "Z") (by decide +kernel)) (fun _ h9 => h9) rfl dX3_count_107 ?_
      refine lv_if_ne (tgt := 126) hx hb dX3_count_110 (by decide) (fun c_110 => ?_) (fun c_110 => ?_)
      · skip
        refine lv_iconst (v := 0) hx hb dX3_count_126 (by decide) ?_
        refine lv_goto (tgt := 141) hx hb dX3_count_127 (by decide) ?_
        exact hr_i (v := 0) hx hb hr hlocks (w1 := [(qm, .inr (3, [.int 0, .int (nI n), .ref qd, .int rw, .int ak, .ref qk, .ref ql, .ref qy, .int cb, .ref qc, .int dn, .int kp, .int tr, .int md, .int wr, .ref qi, .int sm]))]) hP hD hK hS [0] [] rfl rfl rfl (by simp only [coRI, if_neg (show ¬ x = 0 by rw [esw]; decide), if_neg (show ¬ x = 1 by rw [esw]; decide), if_neg (show ¬ x = 2 by rw [esw]; decide), if_neg (show ¬ x = 3 by rw [esw]; decide), if_neg (show ¬ x = 4 by rw [esw]; decide), if_neg (show ¬ x = 5 by rw [esw]; decide), if_neg (show ¬ x = 6 by rw [esw]; decide), if_pos (show x = 7 from esw), if_neg c_110] <;> rfl) (by simp only [coRI, if_neg (show ¬ x = 0 by rw [esw]; decide), if_neg (show ¬ x = 1 by rw [esw]; decide), if_neg (show ¬ x = 2 by rw [esw]; decide), if_neg (show ¬ x = 3 by rw [esw]; decide), if_neg (show ¬ x = 4 by rw [esw]; decide), if_neg (show ¬ x = 5 by rw [esw]; decide), if_neg (show ¬ x = 6 by rw [esw]; decide), if_pos (show x = 7 from esw), if_neg c_110] <;> rfl) dX3_count_141
      · skip
        refine lv_aload_n hx hb dX3_count_113 rfl (lv_at hl 0 rfl) ?_
        refine va_get (D := (dC, dI)) (ci := 3) (v := .int rw) (C := RX3) (T := TX3) (N := 17) hx hb hts (by decide +kernel) hown hK hP 0 rfl rfl 3 (by decide) (hts (.fieldLink RX3 73 "HouseLogModel" "rows" "I") (by decide +kernel)) (fun _ h9 => h9) rfl dX3_count_114 ?_
        refine lv_aload_n hx hb dX3_count_117 rfl (lv_at hl 0 rfl) ?_
        refine va_get (D := (dC, dI)) (ci := 3) (v := .int (nI n)) (C := RX3) (T := TX3) (N := 17) hx hb hts (by decide +kernel) hown hK hP 0 rfl rfl 1 (by decide) (hts (.fieldLink RX3 32 "HouseLogModel" "sectors" "I") (by decide +kernel)) (fun _ h9 => h9) rfl dX3_count_118 ?_
        refine lv_iconst (v := 2) hx hb dX3_count_121 (by decide) ?_
        refine lv_isub hx hb dX3_count_122 ?_
        refine lv_icmp_le (tgt := 130) hx hb dX3_count_123 (by decide) (fun c_123 => ?_) (fun c_123 => ?_)
        · skip
          refine lv_aload_n hx hb dX3_count_130 rfl (lv_at hl 0 rfl) ?_
          refine va_get (D := (dC, dI)) (ci := 3) (v := .int (nI n)) (C := RX3) (T := TX3) (N := 17) hx hb hts (by decide +kernel) hown hK hP 0 rfl rfl 1 (by decide) (hts (.fieldLink RX3 32 "HouseLogModel" "sectors" "I") (by decide +kernel)) (fun _ h9 => h9) rfl dX3_count_131 ?_
          refine lv_iconst (v := 2) hx hb dX3_count_134 (by decide) ?_
          refine lv_isub hx hb dX3_count_135 ?_
          refine lv_aload_n hx hb dX3_count_136 rfl (lv_at hl 0 rfl) ?_
          refine va_get (D := (dC, dI)) (ci := 3) (v := .int rw) (C := RX3) (T := TX3) (N := 17) hx hb hts (by decide +kernel) hown hK hP 0 rfl rfl 3 (by decide) (hts (.fieldLink RX3 73 "HouseLogModel" "rows" "I") (by decide +kernel)) (fun _ h9 => h9) rfl dX3_count_137 ?_
          refine lv_isub hx hb dX3_count_140 ?_
          exact hr_i (v := ((nI n) - 2) - rw) hx hb hr hlocks (w1 := [(qm, .inr (3, [.int 0, .int (nI n), .ref qd, .int rw, .int ak, .ref qk, .ref ql, .ref qy, .int cb, .ref qc, .int dn, .int kp, .int tr, .int md, .int wr, .ref qi, .int sm]))]) hP hD hK hS [0] [] rfl rfl rfl (by simp only [coRI, if_neg (show ¬ x = 0 by rw [esw]; decide), if_neg (show ¬ x = 1 by rw [esw]; decide), if_neg (show ¬ x = 2 by rw [esw]; decide), if_neg (show ¬ x = 3 by rw [esw]; decide), if_neg (show ¬ x = 4 by rw [esw]; decide), if_neg (show ¬ x = 5 by rw [esw]; decide), if_neg (show ¬ x = 6 by rw [esw]; decide), if_pos (show x = 7 from esw), if_pos c_110, if_pos c_123] <;> rfl) (by simp only [coRI, if_neg (show ¬ x = 0 by rw [esw]; decide), if_neg (show ¬ x = 1 by rw [esw]; decide), if_neg (show ¬ x = 2 by rw [esw]; decide), if_neg (show ¬ x = 3 by rw [esw]; decide), if_neg (show ¬ x = 4 by rw [esw]; decide), if_neg (show ¬ x = 5 by rw [esw]; decide), if_neg (show ¬ x = 6 by rw [esw]; decide), if_pos (show x = 7 from esw), if_pos c_110, if_pos c_123] <;> rfl) dX3_count_141
        · skip
          refine lv_iconst (v := 0) hx hb dX3_count_126 (by decide) ?_
          refine lv_goto (tgt := 141) hx hb dX3_count_127 (by decide) ?_
          exact hr_i (v := 0) hx hb hr hlocks (w1 := [(qm, .inr (3, [.int 0, .int (nI n), .ref qd, .int rw, .int ak, .ref qk, .ref ql, .ref qy, .int cb, .ref qc, .int dn, .int kp, .int tr, .int md, .int wr, .ref qi, .int sm]))]) hP hD hK hS [0] [] rfl rfl rfl (by simp only [coRI, if_neg (show ¬ x = 0 by rw [esw]; decide), if_neg (show ¬ x = 1 by rw [esw]; decide), if_neg (show ¬ x = 2 by rw [esw]; decide), if_neg (show ¬ x = 3 by rw [esw]; decide), if_neg (show ¬ x = 4 by rw [esw]; decide), if_neg (show ¬ x = 5 by rw [esw]; decide), if_neg (show ¬ x = 6 by rw [esw]; decide), if_pos (show x = 7 from esw), if_pos c_110, if_neg c_123] <;> rfl) (by simp only [coRI, if_neg (show ¬ x = 0 by rw [esw]; decide), if_neg (show ¬ x = 1 by rw [esw]; decide), if_neg (show ¬ x = 2 by rw [esw]; decide), if_neg (show ¬ x = 3 by rw [esw]; decide), if_neg (show ¬ x = 4 by rw [esw]; decide), if_neg (show ¬ x = 5 by rw [esw]; decide), if_neg (show ¬ x = 6 by rw [esw]; decide), if_pos (show x = 7 from esw), if_pos c_110, if_neg c_123] <;> rfl) dX3_count_141

theorem in_nat {x z : Int32} {m : Nat} (hm : m < 2 ^ 31) (h : ¬ inI x 0 z = 0) (hz : z = nI m) : ∃ j : Nat, j ≤ m ∧ x = nI j := by
  unfold inI at h
  by_cases h1 : x < 0
  · rw [if_pos h1] at h
    exact absurd rfl h
  · rw [if_neg h1] at h
    by_cases h2 : z < x
    · rw [if_pos h2] at h
      exact absurd rfl h
    · obtain ⟨j, hj, e⟩ := nI_of h1
      refine ⟨j, ?_, e⟩
      rw [e, hz] at h2
      rcases Nat.lt_or_ge m j with q | q
      · exact absurd (nI_lt q hj) h2
      · exact q

def dkRI (n : Nat) (D : Nat → Int32) (x i : Int32) : Int32 := (if (inI x 0 1) = 0 then 0 else (if (inI i 0 ((nI (64 * n)) - 1)) = 0 then 0 else D (4096 * x.toNatClampNeg + i.toNatClampNeg)))
def dkRT (n : Nat) (x i : Int32) : Int32 := (if (inI x 0 1) = 0 then (if (inI i 0 ((nI (64 * n)) - 1)) = 0 then flI 1 1 0 else flI 1 0 0) else (if (inI i 0 ((nI (64 * n)) - 1)) = 0 then flI 0 1 0 else flI 0 0 0))
set_option maxHeartbeats 4000000 in
set_option maxRecDepth 100000 in
theorem kX3_disk (l : Launch) (dC : Nat → ClassId) (dI : Nat → Nat → Nat) (sz : Nat) (qm qd qk ql qy qc qi : Nat) (n : Nat) (cAd : ClassId) (th rw ak cb dn kp tr md wr sm : Int32) (D : Nat → Int32) (x i : Int32) (hn4 : 4 ≤ n) (hn : n ≤ 64) : Mi_ l yX3_disk wsX3_disk 1 23 dC dI (fun _ => True) [.ref qm, .int x, .int i] [(qm, .inr (3, [.int th, .int (nI n), .ref qd, .int rw, .int ak, .ref qk, .ref ql, .ref qy, .int cb, .ref qc, .int dn, .int kp, .int tr, .int md, .int wr, .ref qi, .int sm])), (qd, .inl (cAd, 8192, .inl D))] [(cAd, .int)] sz (dkRI n D x i) [(qm, .inr (3, [.int (dkRT n x i), .int (nI n), .ref qd, .int rw, .int ak, .ref qk, .ref ql, .ref qy, .int cb, .ref qc, .int dn, .int kp, .int tr, .int md, .int wr, .ref qi, .int sm])), (qd, .inl (cAd, 8192, .inl D))] := by
  refine hm_ (cc := cX3_disk) (maxL := 3) (ret := (some .int)) (Qc := fun A => va_Qi (fun (r9 : Int32) (_ : Unit) => r9 = dkRI n D x i) (fun _ t9 => qw_ dC dI A [(qm, .inr (3, [.int (dkRT n x i), .int (nI n), .ref qd, .int rw, .int ak, .ref qk, .ref ql, .ref qy, .int cb, .ref qc, .int dn, .int kp, .int tr, .int md, .int wr, .ref qi, .int sm])), (qd, .inl (cAd, 8192, .inl D))] [(cAd, .int)] t9) A) (by decide) rfl (Nat.le_of_ble_eq_true rfl) ?_
  intro p e s m below meth c A H locs ls hx hb hr hml hts hown hlocks hsz hP hK hD hE hA hS hl
  have hl : lv_has ls 3 [(0, .ref qm), (1, .int x), (2, .int i)] := hl
  have hown : s.vm.findClass RX3 = some m.cls := hown
  refine lv_aload_n hx hb dX3_disk_0 rfl (lv_at hl 0 rfl) ?_
  refine lv_iload_n hx hb dX3_disk_1 rfl (lv_at hl 1 rfl) ?_
  refine lv_iconst (v := 0) hx hb dX3_disk_2 (by decide) ?_
  refine lv_iconst (v := 1) hx hb dX3_disk_3 (by decide) ?_
  refine hc_iS (As := [.int x, .int 0, .int 1]) (rest := [.ref qm]) ⟨hx, hb, hml, hown, hts⟩ sx_T trivial (kX3_in l dC dI H.size x 0 1 ) (va_cwS 3 hts gX3_disk_X3_in rfl rfl rfl (by decide +kernel) ⟨Nat.le_of_ble_eq_true rfl, Nat.le_of_ble_eq_true rfl⟩) hK hP hD hS hA [0, 1] rfl rfl rfl hl.1 rfl (Nat.le_of_ble_eq_true rfl) dX3_disk_4 ⟨Nat.zero_le _, Nat.zero_le _⟩ (fun H locs hP hD hS => ?_)
  refine lv_if_ne (tgt := 14) hx hb dX3_disk_7 (by decide) (fun c_7 => ?_) (fun c_7 => ?_)
  · skip
    refine lv_iconst (v := 0) hx hb dX3_disk_14 (by decide) ?_
    refine lv_iload_n hx hb dX3_disk_15 rfl (lv_at hl 2 rfl) ?_
    refine lv_iconst (v := 0) hx hb dX3_disk_16 (by decide) ?_
    refine lv_bipush (v := 64) hx hb dX3_disk_17 (by decide) ?_
    refine lv_aload_n hx hb dX3_disk_19 rfl (lv_at hl 0 rfl) ?_
    refine va_get (D := (dC, dI)) (ci := 3) (v := .int (nI n)) (C := RX3) (T := TX3) (N := 17) hx hb hts (by decide +kernel) hown hK hP 0 rfl rfl 1 (by decide) (hts (.fieldLink RX3 32 "HouseLogModel" "sectors" "I") (by decide +kernel)) (fun _ h9 => h9) rfl dX3_disk_20 ?_
    refine lv_imul hx hb dX3_disk_23 ?_
    rw [show (64 * (nI n) : Int32) = nI (64 * n) from pk_mul 64 n]
    refine lv_iconst (v := 1) hx hb dX3_disk_24 (by decide) ?_
    refine lv_isub hx hb dX3_disk_25 ?_
    refine hc_iS (As := [.int i, .int 0, .int ((nI (64 * n)) - 1)]) (rest := [.int 0, .ref qm]) ⟨hx, hb, hml, hown, hts⟩ sx_T trivial (kX3_in l dC dI H.size i 0 ((nI (64 * n)) - 1) ) (va_cwS 3 hts gX3_disk_X3_in rfl rfl rfl (by decide +kernel) ⟨Nat.le_of_ble_eq_true rfl, Nat.le_of_ble_eq_true rfl⟩) hK hP hD hS hA [0, 1] rfl rfl rfl hl.1 rfl (Nat.le_of_ble_eq_true rfl) dX3_disk_26 ⟨Nat.zero_le _, Nat.zero_le _⟩ (fun H locs hP hD hS => ?_)
    refine lv_if_ne (tgt := 36) hx hb dX3_disk_29 (by decide) (fun c_29 => ?_) (fun c_29 => ?_)
    · skip
      refine lv_iconst (v := 0) hx hb dX3_disk_36 (by decide) ?_
      refine lv_iconst (v := 0) hx hb dX3_disk_37 (by decide) ?_
      refine hc_iV (As := [.int 0, .int 0, .int 0]) (rest := []) (wr := [(qd, .inl (cAd, 8192, .inl D))]) ⟨hx, hb, hml, hown, hts⟩ sx_T trivial (kX3_fails l dC dI H.size qm qd qk ql qy qc qi n th rw ak cb dn kp tr md wr sm 0 0 0 ) (cwV 3 hts gX3_disk_X3_fails rfl rfl rfl (by decide +kernel) ⟨Nat.le_of_ble_eq_true rfl, Nat.le_of_ble_eq_true rfl⟩) hK hP hD hS hA [0] [1] [] rfl rfl rfl rfl rfl (by decide) (ci := 3) rfl rfl rfl rfl hl.1 rfl (Nat.le_of_ble_eq_true rfl) dX3_disk_38 ⟨Nat.zero_le _, Nat.zero_le _⟩ (fun H locs hP hD hS => ?_)
      have hP : va_P (dC, dI) hlCl [(qm, .inr (3, [.int (flI 0 0 0), .int (nI n), .ref qd, .int rw, .int ak, .ref qk, .ref ql, .ref qy, .int cb, .ref qc, .int dn, .int kp, .int tr, .int md, .int wr, .ref qi, .int sm])), (qd, .inl (cAd, 8192, .inl D))] H := hP.sub [1, 0] rfl
      have hD : va_D A [(qm, .inr (3, [.int (flI 0 0 0), .int (nI n), .ref qd, .int rw, .int ak, .ref qk, .ref ql, .ref qy, .int cb, .ref qc, .int dn, .int kp, .int tr, .int md, .int wr, .ref qi, .int sm])), (qd, .inl (cAd, 8192, .inl D))] := hD.sub [1, 0] (by decide) rfl
      refine lv_if_eq (tgt := 48) hx hb dX3_disk_41 (by decide) (fun c_41 => ?_) (fun c_41 => ?_)
      · skip
        obtain ⟨u, hu, rfl⟩ := in_nat (m := 1) (by decide) c_7 rfl
        obtain ⟨j, hj, rfl⟩ := in_nat (m := 64 * n - 1) (by omega) c_29 (pk_sub (a := 64 * n) (b := 1) (by omega))
        refine lv_aload_n hx hb dX3_disk_48 rfl (lv_at hl 0 rfl) ?_
        refine va_get (D := (dC, dI)) (ci := 3) (v := .ref qd) (C := RX3) (T := TX3) (N := 17) hx hb hts (by decide +kernel) hown hK hP 0 rfl rfl 2 (by decide) (hts (.fieldLink RX3 7 "HouseLogModel" "disk" "[I") (by decide +kernel)) (fun _ h9 => h9) rfl dX3_disk_49 ?_
        refine lv_sipush (v := 4096) hx hb dX3_disk_52 (by decide) ?_
        refine lv_iload_n hx hb dX3_disk_55 rfl (lv_at hl 1 rfl) ?_
        refine lv_imul hx hb dX3_disk_56 ?_
        rw [show (4096 * (nI u) : Int32) = nI (4096 * u) from pk_mul 4096 u]
        refine lv_iload_n hx hb dX3_disk_57 rfl (lv_at hl 2 rfl) ?_
        refine lv_iadd hx hb dX3_disk_58 ?_
        rw [show ((nI (4096 * u)) + (nI j) : Int32) = nI (4096 * u + j) from nI_add (4096 * u) j]
        refine va_iald hx hb hK hP 1 0 rfl rfl (i := nI (4096 * u + j)) (vp_in_nI (n := 4096 * u + j) (by omega) (by decide)) dX3_disk_59 ?_
        refine W.eq (g2 := F0 m 60 ls (.int (D (4096 * u + j)) :: [])) (by rw [show (nI (4096 * u + j) : Int32).toNatClampNeg = 4096 * u + j from nI_clamp (by omega)]) ?_
        exact hr_i (v := D (4096 * u + j)) hx hb hr hlocks (w1 := [(qm, .inr (3, [.int (flI 0 0 0), .int (nI n), .ref qd, .int rw, .int ak, .ref qk, .ref ql, .ref qy, .int cb, .ref qc, .int dn, .int kp, .int tr, .int md, .int wr, .ref qi, .int sm])), (qd, .inl (cAd, 8192, .inl D))]) hP hD hK hS [0, 1] [0] rfl rfl rfl (by simp only [dkRI, if_neg c_7, if_neg c_29, nI_clamp (show u < 2 ^ 31 by omega), nI_clamp (show j < 2 ^ 31 by omega)] <;> rfl) (by simp only [dkRI, dkRT, if_neg c_7, if_neg c_29, nI_clamp (show u < 2 ^ 31 by omega), nI_clamp (show j < 2 ^ 31 by omega)] <;> rfl) dX3_disk_60
      · exact absurd (fl_iff.mpr ⟨rfl, rfl, rfl⟩) c_41
    · skip
      refine lv_iconst (v := 1) hx hb dX3_disk_32 (by decide) ?_
      refine lv_goto (tgt := 37) hx hb dX3_disk_33 (by decide) ?_
      refine lv_iconst (v := 0) hx hb dX3_disk_37 (by decide) ?_
      refine hc_iV (As := [.int 0, .int 1, .int 0]) (rest := []) (wr := [(qd, .inl (cAd, 8192, .inl D))]) ⟨hx, hb, hml, hown, hts⟩ sx_T trivial (kX3_fails l dC dI H.size qm qd qk ql qy qc qi n th rw ak cb dn kp tr md wr sm 0 1 0 ) (cwV 3 hts gX3_disk_X3_fails rfl rfl rfl (by decide +kernel) ⟨Nat.le_of_ble_eq_true rfl, Nat.le_of_ble_eq_true rfl⟩) hK hP hD hS hA [0] [1] [] rfl rfl rfl rfl rfl (by decide) (ci := 3) rfl rfl rfl rfl hl.1 rfl (Nat.le_of_ble_eq_true rfl) dX3_disk_38 ⟨Nat.zero_le _, Nat.zero_le _⟩ (fun H locs hP hD hS => ?_)
      have hP : va_P (dC, dI) hlCl [(qm, .inr (3, [.int (flI 0 1 0), .int (nI n), .ref qd, .int rw, .int ak, .ref qk, .ref ql, .ref qy, .int cb, .ref qc, .int dn, .int kp, .int tr, .int md, .int wr, .ref qi, .int sm])), (qd, .inl (cAd, 8192, .inl D))] H := hP.sub [1, 0] rfl
      have hD : va_D A [(qm, .inr (3, [.int (flI 0 1 0), .int (nI n), .ref qd, .int rw, .int ak, .ref qk, .ref ql, .ref qy, .int cb, .ref qc, .int dn, .int kp, .int tr, .int md, .int wr, .ref qi, .int sm])), (qd, .inl (cAd, 8192, .inl D))] := hD.sub [1, 0] (by decide) rfl
      refine lv_if_eq (tgt := 48) hx hb dX3_disk_41 (by decide) (fun c_41 => ?_) (fun c_41 => ?_)
      · exact absurd (fl_iff.mp c_41).2.1 (by decide)
      · skip
        refine lv_iconst (v := 0) hx hb dX3_disk_44 (by decide) ?_
        refine lv_goto (tgt := 60) hx hb dX3_disk_45 (by decide) ?_
        exact hr_i (v := 0) hx hb hr hlocks (w1 := [(qm, .inr (3, [.int (flI 0 1 0), .int (nI n), .ref qd, .int rw, .int ak, .ref qk, .ref ql, .ref qy, .int cb, .ref qc, .int dn, .int kp, .int tr, .int md, .int wr, .ref qi, .int sm])), (qd, .inl (cAd, 8192, .inl D))]) hP hD hK hS [0, 1] [0] rfl rfl rfl (by simp only [dkRI, if_neg c_7, if_pos c_29] <;> rfl) (by simp only [dkRI, dkRT, if_neg c_7, if_pos c_29] <;> rfl) dX3_disk_60
  · skip
    refine lv_iconst (v := 1) hx hb dX3_disk_10 (by decide) ?_
    refine lv_goto (tgt := 15) hx hb dX3_disk_11 (by decide) ?_
    refine lv_iload_n hx hb dX3_disk_15 rfl (lv_at hl 2 rfl) ?_
    refine lv_iconst (v := 0) hx hb dX3_disk_16 (by decide) ?_
    refine lv_bipush (v := 64) hx hb dX3_disk_17 (by decide) ?_
    refine lv_aload_n hx hb dX3_disk_19 rfl (lv_at hl 0 rfl) ?_
    refine va_get (D := (dC, dI)) (ci := 3) (v := .int (nI n)) (C := RX3) (T := TX3) (N := 17) hx hb hts (by decide +kernel) hown hK hP 0 rfl rfl 1 (by decide) (hts (.fieldLink RX3 32 "HouseLogModel" "sectors" "I") (by decide +kernel)) (fun _ h9 => h9) rfl dX3_disk_20 ?_
    refine lv_imul hx hb dX3_disk_23 ?_
    rw [show (64 * (nI n) : Int32) = nI (64 * n) from pk_mul 64 n]
    refine lv_iconst (v := 1) hx hb dX3_disk_24 (by decide) ?_
    refine lv_isub hx hb dX3_disk_25 ?_
    refine hc_iS (As := [.int i, .int 0, .int ((nI (64 * n)) - 1)]) (rest := [.int 1, .ref qm]) ⟨hx, hb, hml, hown, hts⟩ sx_T trivial (kX3_in l dC dI H.size i 0 ((nI (64 * n)) - 1) ) (va_cwS 3 hts gX3_disk_X3_in rfl rfl rfl (by decide +kernel) ⟨Nat.le_of_ble_eq_true rfl, Nat.le_of_ble_eq_true rfl⟩) hK hP hD hS hA [0, 1] rfl rfl rfl hl.1 rfl (Nat.le_of_ble_eq_true rfl) dX3_disk_26 ⟨Nat.zero_le _, Nat.zero_le _⟩ (fun H locs hP hD hS => ?_)
    refine lv_if_ne (tgt := 36) hx hb dX3_disk_29 (by decide) (fun c_29 => ?_) (fun c_29 => ?_)
    · skip
      refine lv_iconst (v := 0) hx hb dX3_disk_36 (by decide) ?_
      refine lv_iconst (v := 0) hx hb dX3_disk_37 (by decide) ?_
      refine hc_iV (As := [.int 1, .int 0, .int 0]) (rest := []) (wr := [(qd, .inl (cAd, 8192, .inl D))]) ⟨hx, hb, hml, hown, hts⟩ sx_T trivial (kX3_fails l dC dI H.size qm qd qk ql qy qc qi n th rw ak cb dn kp tr md wr sm 1 0 0 ) (cwV 3 hts gX3_disk_X3_fails rfl rfl rfl (by decide +kernel) ⟨Nat.le_of_ble_eq_true rfl, Nat.le_of_ble_eq_true rfl⟩) hK hP hD hS hA [0] [1] [] rfl rfl rfl rfl rfl (by decide) (ci := 3) rfl rfl rfl rfl hl.1 rfl (Nat.le_of_ble_eq_true rfl) dX3_disk_38 ⟨Nat.zero_le _, Nat.zero_le _⟩ (fun H locs hP hD hS => ?_)
      have hP : va_P (dC, dI) hlCl [(qm, .inr (3, [.int (flI 1 0 0), .int (nI n), .ref qd, .int rw, .int ak, .ref qk, .ref ql, .ref qy, .int cb, .ref qc, .int dn, .int kp, .int tr, .int md, .int wr, .ref qi, .int sm])), (qd, .inl (cAd, 8192, .inl D))] H := hP.sub [1, 0] rfl
      have hD : va_D A [(qm, .inr (3, [.int (flI 1 0 0), .int (nI n), .ref qd, .int rw, .int ak, .ref qk, .ref ql, .ref qy, .int cb, .ref qc, .int dn, .int kp, .int tr, .int md, .int wr, .ref qi, .int sm])), (qd, .inl (cAd, 8192, .inl D))] := hD.sub [1, 0] (by decide) rfl
      refine lv_if_eq (tgt := 48) hx hb dX3_disk_41 (by decide) (fun c_41 => ?_) (fun c_41 => ?_)
      · exact absurd (fl_iff.mp c_41).1 (by decide)
      · skip
        refine lv_iconst (v := 0) hx hb dX3_disk_44 (by decide) ?_
        refine lv_goto (tgt := 60) hx hb dX3_disk_45 (by decide) ?_
        exact hr_i (v := 0) hx hb hr hlocks (w1 := [(qm, .inr (3, [.int (flI 1 0 0), .int (nI n), .ref qd, .int rw, .int ak, .ref qk, .ref ql, .ref qy, .int cb, .ref qc, .int dn, .int kp, .int tr, .int md, .int wr, .ref qi, .int sm])), (qd, .inl (cAd, 8192, .inl D))]) hP hD hK hS [0, 1] [0] rfl rfl rfl (by simp only [dkRI, if_pos c_7, if_neg c_29] <;> rfl) (by simp only [dkRI, dkRT, if_pos c_7, if_neg c_29] <;> rfl) dX3_disk_60
    · skip
      refine lv_iconst (v := 1) hx hb dX3_disk_32 (by decide) ?_
      refine lv_goto (tgt := 37) hx hb dX3_disk_33 (by decide) ?_
      refine lv_iconst (v := 0) hx hb dX3_disk_37 (by decide) ?_
      refine hc_iV (As := [.int 1, .int 1, .int 0]) (rest := []) (wr := [(qd, .inl (cAd, 8192, .inl D))]) ⟨hx, hb, hml, hown, hts⟩ sx_T trivial (kX3_fails l dC dI H.size qm qd qk ql qy qc qi n th rw ak cb dn kp tr md wr sm 1 1 0 ) (cwV 3 hts gX3_disk_X3_fails rfl rfl rfl (by decide +kernel) ⟨Nat.le_of_ble_eq_true rfl, Nat.le_of_ble_eq_true rfl⟩) hK hP hD hS hA [0] [1] [] rfl rfl rfl rfl rfl (by decide) (ci := 3) rfl rfl rfl rfl hl.1 rfl (Nat.le_of_ble_eq_true rfl) dX3_disk_38 ⟨Nat.zero_le _, Nat.zero_le _⟩ (fun H locs hP hD hS => ?_)
      have hP : va_P (dC, dI) hlCl [(qm, .inr (3, [.int (flI 1 1 0), .int (nI n), .ref qd, .int rw, .int ak, .ref qk, .ref ql, .ref qy, .int cb, .ref qc, .int dn, .int kp, .int tr, .int md, .int wr, .ref qi, .int sm])), (qd, .inl (cAd, 8192, .inl D))] H := hP.sub [1, 0] rfl
      have hD : va_D A [(qm, .inr (3, [.int (flI 1 1 0), .int (nI n), .ref qd, .int rw, .int ak, .ref qk, .ref ql, .ref qy, .int cb, .ref qc, .int dn, .int kp, .int tr, .int md, .int wr, .ref qi, .int sm])), (qd, .inl (cAd, 8192, .inl D))] := hD.sub [1, 0] (by decide) rfl
      refine lv_if_eq (tgt := 48) hx hb dX3_disk_41 (by decide) (fun c_41 => ?_) (fun c_41 => ?_)
      · exact absurd (fl_iff.mp c_41).1 (by decide)
      · skip
        refine lv_iconst (v := 0) hx hb dX3_disk_44 (by decide) ?_
        refine lv_goto (tgt := 60) hx hb dX3_disk_45 (by decide) ?_
        exact hr_i (v := 0) hx hb hr hlocks (w1 := [(qm, .inr (3, [.int (flI 1 1 0), .int (nI n), .ref qd, .int rw, .int ak, .ref qk, .ref ql, .ref qy, .int cb, .ref qc, .int dn, .int kp, .int tr, .int md, .int wr, .ref qi, .int sm])), (qd, .inl (cAd, 8192, .inl D))]) hP hD hK hS [0, 1] [0] rfl rfl rfl (by simp only [dkRI, if_pos c_7, if_pos c_29] <;> rfl) (by simp only [dkRI, dkRT, if_pos c_7, if_pos c_29] <;> rfl) dX3_disk_60

def pkRI (n : Nat) (x i mk : Int32) : Int32 := (if (inI x 0 1) = 0 then 0 else (if (inI i 0 ((nI (64 * n)) - 1)) = 0 then 0 else (if (inI mk 1 255) = 0 then 0 else 1)))
def pkRD (n : Nat) (D : Nat → Int32) (x i mk : Int32) : Nat → Int32 := (if (inI x 0 1) = 0 then D else (if (inI i 0 ((nI (64 * n)) - 1)) = 0 then D else (if (inI mk 1 255) = 0 then D else upd D (4096 * x.toNatClampNeg + i.toNatClampNeg) ((D (4096 * x.toNatClampNeg + i.toNatClampNeg)) ^^^ mk))))
set_option maxHeartbeats 4000000 in
set_option maxRecDepth 100000 in
theorem kX3_poke (l : Launch) (dC : Nat → ClassId) (dI : Nat → Nat → Nat) (sz : Nat) (qm qd qk ql qy qc qi : Nat) (n : Nat) (cAd : ClassId) (th rw ak cb dn kp tr md wr sm : Int32) (D : Nat → Int32) (x i mk : Int32) (hn4 : 4 ≤ n) (hn : n ≤ 64) : Mi_ l yX3_poke wsX3_poke 1 22 dC dI (fun _ => True) [.ref qm, .int x, .int i, .int mk] [(qm, .inr (3, [.int th, .int (nI n), .ref qd, .int rw, .int ak, .ref qk, .ref ql, .ref qy, .int cb, .ref qc, .int dn, .int kp, .int tr, .int md, .int wr, .ref qi, .int sm])), (qd, .inl (cAd, 8192, .inl D))] [(cAd, .int)] sz (pkRI n x i mk) [(qm, .inr (3, [.int 0, .int (nI n), .ref qd, .int rw, .int ak, .ref qk, .ref ql, .ref qy, .int cb, .ref qc, .int dn, .int kp, .int tr, .int md, .int wr, .ref qi, .int sm])), (qd, .inl (cAd, 8192, .inl (pkRD n D x i mk)))] := by
  refine hm_ (cc := cX3_poke) (maxL := 4) (ret := (some .boolean)) (Qc := fun A => va_Qi (fun (r9 : Int32) (_ : Unit) => r9 = pkRI n x i mk) (fun _ t9 => qw_ dC dI A [(qm, .inr (3, [.int 0, .int (nI n), .ref qd, .int rw, .int ak, .ref qk, .ref ql, .ref qy, .int cb, .ref qc, .int dn, .int kp, .int tr, .int md, .int wr, .ref qi, .int sm])), (qd, .inl (cAd, 8192, .inl (pkRD n D x i mk)))] [(cAd, .int)] t9) A) (by decide) rfl (Nat.le_of_ble_eq_true rfl) ?_
  intro p e s m below meth c A H locs ls hx hb hr hml hts hown hlocks hsz hP hK hD hE hA hS hl
  have hl : lv_has ls 4 [(0, .ref qm), (1, .int x), (2, .int i), (3, .int mk)] := hl
  have hown : s.vm.findClass RX3 = some m.cls := hown
  refine lv_aload_n hx hb dX3_poke_0 rfl (lv_at hl 0 rfl) ?_
  refine lv_iconst (v := 0) hx hb dX3_poke_1 (by decide) ?_
  refine va_put (D := (dC, dI)) (ci := 3) (v := .int 0) (ty := .int) (C := RX3) (T := TX3) (N := 17) hx hb hts (by decide +kernel) tyX3 tyX3_ok nmX3 hown hK hP hD hS 0 rfl rfl 0 (by decide) (hts (.fieldLink RX3 35 "HouseLogModel" "thrown" "I") (by decide +kernel)) (fun _ h9 => h9) rfl (by decide +kernel) rfl rfl (Nat.le_of_ble_eq_true rfl) dX3_poke_2 (fun H locs hP hD hS => ?_)
  have hP : va_P (dC, dI) hlCl [(qm, .inr (3, [.int 0, .int (nI n), .ref qd, .int rw, .int ak, .ref qk, .ref ql, .ref qy, .int cb, .ref qc, .int dn, .int kp, .int tr, .int md, .int wr, .ref qi, .int sm])), (qd, .inl (cAd, 8192, .inl D))] H := hP
  have hD : va_D A [(qm, .inr (3, [.int 0, .int (nI n), .ref qd, .int rw, .int ak, .ref qk, .ref ql, .ref qy, .int cb, .ref qc, .int dn, .int kp, .int tr, .int md, .int wr, .ref qi, .int sm])), (qd, .inl (cAd, 8192, .inl D))] := hD
  refine lv_iload_n hx hb dX3_poke_5 rfl (lv_at hl 1 rfl) ?_
  refine lv_iconst (v := 0) hx hb dX3_poke_6 (by decide) ?_
  refine lv_iconst (v := 1) hx hb dX3_poke_7 (by decide) ?_
  refine hc_iS (As := [.int x, .int 0, .int 1]) (rest := []) ⟨hx, hb, hml, hown, hts⟩ sx_T trivial (kX3_in l dC dI H.size x 0 1 ) (va_cwS 3 hts gX3_poke_X3_in rfl rfl rfl (by decide +kernel) ⟨Nat.le_of_ble_eq_true rfl, Nat.le_of_ble_eq_true rfl⟩) hK hP hD hS hA [0, 1] rfl rfl rfl hl.1 rfl (Nat.le_of_ble_eq_true rfl) dX3_poke_8 ⟨Nat.zero_le _, Nat.zero_le _⟩ (fun H locs hP hD hS => ?_)
  refine lv_if_eq (tgt := 42) hx hb dX3_poke_11 (by decide) (fun c_11 => ?_) (fun c_11 => ?_)
  · skip
    refine lv_iconst (v := 0) hx hb dX3_poke_42 (by decide) ?_
    exact hr_z (v := 0) hx hb hr hlocks (by decide) (w1 := [(qm, .inr (3, [.int 0, .int (nI n), .ref qd, .int rw, .int ak, .ref qk, .ref ql, .ref qy, .int cb, .ref qc, .int dn, .int kp, .int tr, .int md, .int wr, .ref qi, .int sm])), (qd, .inl (cAd, 8192, .inl D))]) hP hD hK hS [0, 1] [0] rfl rfl rfl (by simp only [pkRI, if_pos c_11] <;> rfl) (by simp only [pkRI, pkRD, if_pos c_11] <;> rfl) dX3_poke_43
  · skip
    refine lv_iload_n hx hb dX3_poke_14 rfl (lv_at hl 2 rfl) ?_
    refine lv_iconst (v := 0) hx hb dX3_poke_15 (by decide) ?_
    refine lv_bipush (v := 64) hx hb dX3_poke_16 (by decide) ?_
    refine lv_aload_n hx hb dX3_poke_18 rfl (lv_at hl 0 rfl) ?_
    refine va_get (D := (dC, dI)) (ci := 3) (v := .int (nI n)) (C := RX3) (T := TX3) (N := 17) hx hb hts (by decide +kernel) hown hK hP 0 rfl rfl 1 (by decide) (hts (.fieldLink RX3 32 "HouseLogModel" "sectors" "I") (by decide +kernel)) (fun _ h9 => h9) rfl dX3_poke_19 ?_
    refine lv_imul hx hb dX3_poke_22 ?_
    rw [show (64 * (nI n) : Int32) = nI (64 * n) from pk_mul 64 n]
    refine lv_iconst (v := 1) hx hb dX3_poke_23 (by decide) ?_
    refine lv_isub hx hb dX3_poke_24 ?_
    refine hc_iS (As := [.int i, .int 0, .int ((nI (64 * n)) - 1)]) (rest := []) ⟨hx, hb, hml, hown, hts⟩ sx_T trivial (kX3_in l dC dI H.size i 0 ((nI (64 * n)) - 1) ) (va_cwS 3 hts gX3_poke_X3_in rfl rfl rfl (by decide +kernel) ⟨Nat.le_of_ble_eq_true rfl, Nat.le_of_ble_eq_true rfl⟩) hK hP hD hS hA [0, 1] rfl rfl rfl hl.1 rfl (Nat.le_of_ble_eq_true rfl) dX3_poke_25 ⟨Nat.zero_le _, Nat.zero_le _⟩ (fun H locs hP hD hS => ?_)
    refine lv_if_eq (tgt := 42) hx hb dX3_poke_28 (by decide) (fun c_28 => ?_) (fun c_28 => ?_)
    · skip
      refine lv_iconst (v := 0) hx hb dX3_poke_42 (by decide) ?_
      exact hr_z (v := 0) hx hb hr hlocks (by decide) (w1 := [(qm, .inr (3, [.int 0, .int (nI n), .ref qd, .int rw, .int ak, .ref qk, .ref ql, .ref qy, .int cb, .ref qc, .int dn, .int kp, .int tr, .int md, .int wr, .ref qi, .int sm])), (qd, .inl (cAd, 8192, .inl D))]) hP hD hK hS [0, 1] [0] rfl rfl rfl (by simp only [pkRI, if_neg c_11, if_pos c_28] <;> rfl) (by simp only [pkRI, pkRD, if_neg c_11, if_pos c_28] <;> rfl) dX3_poke_43
    · skip
      refine lv_iload_n hx hb dX3_poke_31 rfl (lv_at hl 3 rfl) ?_
      refine lv_iconst (v := 1) hx hb dX3_poke_32 (by decide) ?_
      refine lv_sipush (v := 255) hx hb dX3_poke_33 (by decide) ?_
      refine hc_iS (As := [.int mk, .int 1, .int 255]) (rest := []) ⟨hx, hb, hml, hown, hts⟩ sx_T trivial (kX3_in l dC dI H.size mk 1 255 ) (va_cwS 3 hts gX3_poke_X3_in rfl rfl rfl (by decide +kernel) ⟨Nat.le_of_ble_eq_true rfl, Nat.le_of_ble_eq_true rfl⟩) hK hP hD hS hA [0, 1] rfl rfl rfl hl.1 rfl (Nat.le_of_ble_eq_true rfl) dX3_poke_36 ⟨Nat.zero_le _, Nat.zero_le _⟩ (fun H locs hP hD hS => ?_)
      refine lv_if_ne (tgt := 44) hx hb dX3_poke_39 (by decide) (fun c_39 => ?_) (fun c_39 => ?_)
      · skip
        obtain ⟨u, hu, rfl⟩ := in_nat (m := 1) (by decide) c_11 rfl
        obtain ⟨j, hj, rfl⟩ := in_nat (m := 64 * n - 1) (by omega) c_28 (pk_sub (a := 64 * n) (b := 1) (by omega))
        refine lv_aload_n hx hb dX3_poke_44 rfl (lv_at hl 0 rfl) ?_
        refine va_get (D := (dC, dI)) (ci := 3) (v := .ref qd) (C := RX3) (T := TX3) (N := 17) hx hb hts (by decide +kernel) hown hK hP 0 rfl rfl 2 (by decide) (hts (.fieldLink RX3 7 "HouseLogModel" "disk" "[I") (by decide +kernel)) (fun _ h9 => h9) rfl dX3_poke_45 ?_
        refine lv_sipush (v := 4096) hx hb dX3_poke_48 (by decide) ?_
        refine lv_iload_n hx hb dX3_poke_51 rfl (lv_at hl 1 rfl) ?_
        refine lv_imul hx hb dX3_poke_52 ?_
        rw [show (4096 * (nI u) : Int32) = nI (4096 * u) from pk_mul 4096 u]
        refine lv_iload_n hx hb dX3_poke_53 rfl (lv_at hl 2 rfl) ?_
        refine lv_iadd hx hb dX3_poke_54 ?_
        rw [show ((nI (4096 * u)) + (nI j) : Int32) = nI (4096 * u + j) from nI_add (4096 * u) j]
        refine lv_dup2_11 hx hb dX3_poke_55 rfl rfl ?_
        refine va_iald hx hb hK hP 1 0 rfl rfl (i := nI (4096 * u + j)) (vp_in_nI (n := 4096 * u + j) (by omega) (by decide)) dX3_poke_56 ?_
        refine W.eq (g2 := F0 m 57 ls (.int (D (4096 * u + j)) :: .int (nI (4096 * u + j)) :: .ref qd :: [])) (by rw [show (nI (4096 * u + j) : Int32).toNatClampNeg = 4096 * u + j from nI_clamp (by omega)]) ?_
        refine lv_iload_n hx hb dX3_poke_57 rfl (lv_at hl 3 rfl) ?_
        refine lv_ixor hx hb dX3_poke_58 ?_
        refine va_iast hx hb hK hP hD hS 1 0 rfl rfl (i := nI (4096 * u + j)) (vp_in_nI (n := 4096 * u + j) (by omega) (by decide)) dX3_poke_59 (fun H locs hP hD hS => ?_)
        rw [show (nI (4096 * u + j) : Int32).toNatClampNeg = 4096 * u + j from nI_clamp (by omega)] at hP hD
        have hP : va_P (dC, dI) hlCl [(qm, .inr (3, [.int 0, .int (nI n), .ref qd, .int rw, .int ak, .ref qk, .ref ql, .ref qy, .int cb, .ref qc, .int dn, .int kp, .int tr, .int md, .int wr, .ref qi, .int sm])), (qd, .inl (cAd, 8192, .inl (upd D (4096 * u + j) ((D (4096 * u + j)) ^^^ mk))))] H := hP
        have hD : va_D A [(qm, .inr (3, [.int 0, .int (nI n), .ref qd, .int rw, .int ak, .ref qk, .ref ql, .ref qy, .int cb, .ref qc, .int dn, .int kp, .int tr, .int md, .int wr, .ref qi, .int sm])), (qd, .inl (cAd, 8192, .inl (upd D (4096 * u + j) ((D (4096 * u + j)) ^^^ mk))))] := hD
        refine lv_iconst (v := 1) hx hb dX3_poke_60 (by decide) ?_
        exact hr_z (v := 1) hx hb hr hlocks (by decide) (w1 := [(qm, .inr (3, [.int 0, .int (nI n), .ref qd, .int rw, .int ak, .ref qk, .ref ql, .ref qy, .int cb, .ref qc, .int dn, .int kp, .int tr, .int md, .int wr, .ref qi, .int sm])), (qd, .inl (cAd, 8192, .inl (upd D (4096 * u + j) ((D (4096 * u + j)) ^^^ mk))))]) hP hD hK hS [0, 1] [0] rfl rfl rfl (by simp only [pkRI, if_neg c_11, if_neg c_28, if_neg c_39, nI_clamp (show u < 2 ^ 31 by omega), nI_clamp (show j < 2 ^ 31 by omega)] <;> rfl) (by simp only [pkRI, pkRD, if_neg c_11, if_neg c_28, if_neg c_39, nI_clamp (show u < 2 ^ 31 by omega), nI_clamp (show j < 2 ^ 31 by omega)] <;> rfl) dX3_poke_61
      · skip
        refine lv_iconst (v := 0) hx hb dX3_poke_42 (by decide) ?_
        exact hr_z (v := 0) hx hb hr hlocks (by decide) (w1 := [(qm, .inr (3, [.int 0, .int (nI n), .ref qd, .int rw, .int ak, .ref qk, .ref ql, .ref qy, .int cb, .ref qc, .int dn, .int kp, .int tr, .int md, .int wr, .ref qi, .int sm])), (qd, .inl (cAd, 8192, .inl D))]) hP hD hK hS [0, 1] [0] rfl rfl rfl (by simp only [pkRI, if_neg c_11, if_neg c_28, if_pos c_39] <;> rfl) (by simp only [pkRI, pkRD, if_neg c_11, if_neg c_28, if_pos c_39] <;> rfl) dX3_poke_43
