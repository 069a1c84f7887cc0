theorem sw_ (x : Int32) (m : Nat) (hm : m < 2 ^ 31) : (x.toInt < 0 ∨ (m : Int) < x.toInt) ∨ ∃ j : Nat, j ≤ m ∧ x = nI j := by
  by_cases h : x.toInt < 0
  · exact Or.inl (Or.inl h)
  · by_cases h2 : (m : Int) < x.toInt
    · exact Or.inl (Or.inr h2)
    · refine Or.inr ⟨x.toInt.toNat, by omega, ?_⟩
      apply Int32.toInt_inj.mp
      rw [nI_toInt (by omega)]
      omega
theorem sw_ne {x : Int32} (m i : Nat) (hi : i ≤ m) (hm : m < 2 ^ 31) (h : x.toInt < 0 ∨ (m : Int) < x.toInt) : ¬ x = nI i := by
  intro e
  rw [e, nI_toInt (by omega)] at h
  omega

def icI (x : Int32) : Int32 := (if x = 0 then 1 else (if x = 1 then 1 else 0))
set_option maxHeartbeats 4000000 in
set_option maxRecDepth 100000 in
theorem kX2_isCopy (l : Launch) (dC : Nat → ClassId) (dI : Nat → Nat → Nat) (sz : Nat) (x : Int32)  : Mi_ l yX2_isCopy wsX2_isCopy 0 0 dC dI (fun _ => True) [.int x] [] [] sz (icI x) [] := by
  refine hm_ (cc := cX2_isCopy) (maxL := 1) (ret := (some .boolean)) (Qc := fun A => va_Qi (fun (r9 : Int32) (_ : Unit) => r9 = icI x) (fun _ t9 => qw_ dC dI A [] [] t9) A) (by decide) rfl (Nat.le_of_ble_eq_true rfl) ?_
  intro p e s m below meth c A H locs ls hx hb hr hml hts hown hlocks hsz hP hK hD hE hA hS hl
  have hl : lv_has ls 1 [(0, .int x)] := hl
  have hown : s.vm.findClass RX2 = some m.cls := hown
  refine lv_iload_n hx hb dX2_isCopy_0 rfl (lv_at hl 0 rfl) ?_
  refine lv_if_eq (tgt := 9) hx hb dX2_isCopy_1 (by decide) (fun c_1 => ?_) (fun c_1 => ?_)
  · skip
    refine lv_iconst (v := 1) hx hb dX2_isCopy_9 (by decide) ?_
    refine lv_goto (tgt := 14) hx hb dX2_isCopy_10 (by decide) ?_
    exact hr_z (v := 1) hx hb hr hlocks (by decide) (w1 := []) hP hD hK hS [] [] rfl rfl rfl (by unfold icI; rw [if_pos c_1]) (rfl) dX2_isCopy_14
  · skip
    refine lv_iload_n hx hb dX2_isCopy_4 rfl (lv_at hl 0 rfl) ?_
    refine lv_iconst (v := 1) hx hb dX2_isCopy_5 (by decide) ?_
    refine lv_icmp_ne (tgt := 13) hx hb dX2_isCopy_6 (by decide) (fun c_6 => ?_) (fun c_6 => ?_)
    · skip
      refine lv_iconst (v := 0) hx hb dX2_isCopy_13 (by decide) ?_
      exact hr_z (v := 0) hx hb hr hlocks (by decide) (w1 := []) hP hD hK hS [] [] rfl rfl rfl (by unfold icI; rw [if_neg c_1, if_neg c_6]) (rfl) dX2_isCopy_14
    · skip
      refine lv_iconst (v := 1) hx hb dX2_isCopy_9 (by decide) ?_
      refine lv_goto (tgt := 14) hx hb dX2_isCopy_10 (by decide) ?_
      exact hr_z (v := 1) hx hb hr hlocks (by decide) (w1 := []) hP hD hK hS [] [] rfl rfl rfl (by unfold icI; rw [if_neg c_1, if_pos c_6]) (rfl) dX2_isCopy_14

def ipI (n : Nat) (i : Int32) : Int32 := (if i < 0 then 0 else (if ((nI n) * 64) ≤ i then 0 else 1))
set_option maxHeartbeats 4000000 in
set_option maxRecDepth 100000 in
theorem kX2_isPlace (l : Launch) (dC : Nat → ClassId) (dI : Nat → Nat → Nat) (sz : Nat) (qh qs0 qs1 qsm qbc : Nat) (n : Nat) (cb rw ak dn ct tn md wr : Int32) (i : Int32)  : Mi_ l yX2_isPlace wsX2_isPlace 0 0 dC dI (fun _ => True) [.ref qh, .int i] [(qh, .inr (2, [.int (nI n), .ref qs0, .ref qs1, .ref qsm, .ref qbc, .int cb, .int rw, .int ak, .int dn, .int ct, .int tn, .int md, .int wr]))] [] sz (ipI n i) [(qh, .inr (2, [.int (nI n), .ref qs0, .ref qs1, .ref qsm, .ref qbc, .int cb, .int rw, .int ak, .int dn, .int ct, .int tn, .int md, .int wr]))] := by
  refine hm_ (cc := cX2_isPlace) (maxL := 2) (ret := (some .boolean)) (Qc := fun A => va_Qi (fun (r9 : Int32) (_ : Unit) => r9 = ipI n i) (fun _ t9 => qw_ dC dI A [(qh, .inr (2, [.int (nI n), .ref qs0, .ref qs1, .ref qsm, .ref qbc, .int cb, .int rw, .int ak, .int dn, .int ct, .int tn, .int md, .int wr]))] [] t9) A) (by decide) rfl (Nat.le_of_ble_eq_true rfl) ?_
  intro p e s m below meth c A H locs ls hx hb hr hml hts hown hlocks hsz hP hK hD hE hA hS hl
  have hl : lv_has ls 2 [(0, .ref qh), (1, .int i)] := hl
  have hown : s.vm.findClass RX2 = some m.cls := hown
  refine lv_iload_n hx hb dX2_isPlace_0 rfl (lv_at hl 1 rfl) ?_
  refine lv_if_lt (tgt := 19) hx hb dX2_isPlace_1 (by decide) (fun c_1 => ?_) (fun c_1 => ?_)
  · skip
    refine lv_iconst (v := 0) hx hb dX2_isPlace_19 (by decide) ?_
    exact hr_z (v := 0) hx hb hr hlocks (by decide) (w1 := [(qh, .inr (2, [.int (nI n), .ref qs0, .ref qs1, .ref qsm, .ref qbc, .int cb, .int rw, .int ak, .int dn, .int ct, .int tn, .int md, .int wr]))]) hP hD hK hS [0] [] rfl rfl rfl (by unfold ipI; rw [if_pos c_1]) (rfl) dX2_isPlace_20
  · skip
    refine lv_iload_n hx hb dX2_isPlace_4 rfl (lv_at hl 1 rfl) ?_
    refine lv_aload_n hx hb dX2_isPlace_5 rfl (lv_at hl 0 rfl) ?_
    refine va_get (D := (dC, dI)) (ci := 2) (v := .int (nI n)) (C := RX2) (T := TX2) (N := 13) hx hb hts (by decide +kernel) hown hK hP 0 rfl rfl 0 (by decide) (hts (.fieldLink RX2 18 "HouseLog" "sectors" "I") (by decide +kernel)) (fun _ h9 => h9) rfl dX2_isPlace_6 ?_
    refine lv_bipush (v := 64) hx hb dX2_isPlace_9 (by decide) ?_
    refine lv_imul hx hb dX2_isPlace_11 ?_
    refine lv_icmp_ge (tgt := 19) hx hb dX2_isPlace_12 (by decide) (fun c_12 => ?_) (fun c_12 => ?_)
    · skip
      refine lv_iconst (v := 0) hx hb dX2_isPlace_19 (by decide) ?_
      exact hr_z (v := 0) hx hb hr hlocks (by decide) (w1 := [(qh, .inr (2, [.int (nI n), .ref qs0, .ref qs1, .ref qsm, .ref qbc, .int cb, .int rw, .int ak, .int dn, .int ct, .int tn, .int md, .int wr]))]) hP hD hK hS [0] [] rfl rfl rfl (by unfold ipI; rw [if_neg c_1, if_pos c_12]) (rfl) dX2_isPlace_20
    · skip
      refine lv_iconst (v := 1) hx hb dX2_isPlace_15 (by decide) ?_
      refine lv_goto (tgt := 20) hx hb dX2_isPlace_16 (by decide) ?_
      exact hr_z (v := 1) hx hb hr hlocks (by decide) (w1 := [(qh, .inr (2, [.int (nI n), .ref qs0, .ref qs1, .ref qsm, .ref qbc, .int cb, .int rw, .int ak, .int dn, .int ct, .int tn, .int md, .int wr]))]) hP hD hK hS [0] [] rfl rfl rfl (by unfold ipI; rw [if_neg c_1, if_neg c_12]) (rfl) dX2_isPlace_20

def irI (rw : Int32) (i : Int32) : Int32 := (if i < 0 then 0 else (if rw ≤ i then 0 else 1))
set_option maxHeartbeats 4000000 in
set_option maxRecDepth 100000 in
theorem kX2_isRow (l : Launch) (dC : Nat → ClassId) (dI : Nat → Nat → Nat) (sz : Nat) (qh qs0 qs1 qsm qbc : Nat) (n : Nat) (cb rw ak dn ct tn md wr : Int32) (i : Int32)  : Mi_ l yX2_isRow wsX2_isRow 0 0 dC dI (fun _ => True) [.ref qh, .int i] [(qh, .inr (2, [.int (nI n), .ref qs0, .ref qs1, .ref qsm, .ref qbc, .int cb, .int rw, .int ak, .int dn, .int ct, .int tn, .int md, .int wr]))] [] sz (irI rw i) [(qh, .inr (2, [.int (nI n), .ref qs0, .ref qs1, .ref qsm, .ref qbc, .int cb, .int rw, .int ak, .int dn, .int ct, .int tn, .int md, .int wr]))] := by
  refine hm_ (cc := cX2_isRow) (maxL := 2) (ret := (some .boolean)) (Qc := fun A => va_Qi (fun (r9 : Int32) (_ : Unit) => r9 = irI rw i) (fun _ t9 => qw_ dC dI A [(qh, .inr (2, [.int (nI n), .ref qs0, .ref qs1, .ref qsm, .ref qbc, .int cb, .int rw, .int ak, .int dn, .int ct, .int tn, .int md, .int wr]))] [] t9) A) (by decide) rfl (Nat.le_of_ble_eq_true rfl) ?_
  intro p e s m below meth c A H locs ls hx hb hr hml hts hown hlocks hsz hP hK hD hE hA hS hl
  have hl : lv_has ls 2 [(0, .ref qh), (1, .int i)] := hl
  have hown : s.vm.findClass RX2 = some m.cls := hown
  refine lv_iload_n hx hb dX2_isRow_0 rfl (lv_at hl 1 rfl) ?_
  refine lv_if_lt (tgt := 16) hx hb dX2_isRow_1 (by decide) (fun c_1 => ?_) (fun c_1 => ?_)
  · skip
    refine lv_iconst (v := 0) hx hb dX2_isRow_16 (by decide) ?_
    exact hr_z (v := 0) hx hb hr hlocks (by decide) (w1 := [(qh, .inr (2, [.int (nI n), .ref qs0, .ref qs1, .ref qsm, .ref qbc, .int cb, .int rw, .int ak, .int dn, .int ct, .int tn, .int md, .int wr]))]) hP hD hK hS [0] [] rfl rfl rfl (by unfold irI; rw [if_pos c_1]) (rfl) dX2_isRow_17
  · skip
    refine lv_iload_n hx hb dX2_isRow_4 rfl (lv_at hl 1 rfl) ?_
    refine lv_aload_n hx hb dX2_isRow_5 rfl (lv_at hl 0 rfl) ?_
    refine va_get (D := (dC, dI)) (ci := 2) (v := .int rw) (C := RX2) (T := TX2) (N := 13) hx hb hts (by decide +kernel) hown hK hP 0 rfl rfl 6 (by decide) (hts (.fieldLink RX2 76 "HouseLog" "rows" "I") (by decide +kernel)) (fun _ h9 => h9) rfl dX2_isRow_6 ?_
    refine lv_icmp_ge (tgt := 16) hx hb dX2_isRow_9 (by decide) (fun c_9 => ?_) (fun c_9 => ?_)
    · skip
      refine lv_iconst (v := 0) hx hb dX2_isRow_16 (by decide) ?_
      exact hr_z (v := 0) hx hb hr hlocks (by decide) (w1 := [(qh, .inr (2, [.int (nI n), .ref qs0, .ref qs1, .ref qsm, .ref qbc, .int cb, .int rw, .int ak, .int dn, .int ct, .int tn, .int md, .int wr]))]) hP hD hK hS [0] [] rfl rfl rfl (by unfold irI; rw [if_neg c_1, if_pos c_9]) (rfl) dX2_isRow_17
    · skip
      refine lv_iconst (v := 1) hx hb dX2_isRow_12 (by decide) ?_
      refine lv_goto (tgt := 17) hx hb dX2_isRow_13 (by decide) ?_
      exact hr_z (v := 1) hx hb hr hlocks (by decide) (w1 := [(qh, .inr (2, [.int (nI n), .ref qs0, .ref qs1, .ref qsm, .ref qbc, .int cb, .int rw, .int ak, .int dn, .int ct, .int tn, .int md, .int wr]))]) hP hD hK hS [0] [] rfl rfl rfl (by unfold irI; rw [if_neg c_1, if_neg c_9]) (rfl) dX2_isRow_17

set_option maxHeartbeats 4000000 in
set_option maxRecDepth 100000 in
theorem kX2_copyOf (l : Launch) (dC : Nat → ClassId) (dI : Nat → Nat → Nat) (sz : Nat) (qh qs0 qs1 qsm qbc : Nat) (n : Nat) (cb rw ak dn ct tn md wr : Int32) (x : Int32)  : Mr_ l yX2_copyOf wsX2_copyOf 0 0 dC dI (fun _ => True) [.ref qh, .int x] [(qh, .inr (2, [.int (nI n), .ref qs0, .ref qs1, .ref qsm, .ref qbc, .int cb, .int rw, .int ak, .int dn, .int ct, .int tn, .int md, .int wr]))] [] sz (if x = 0 then qs0 else qs1) [(qh, .inr (2, [.int (nI n), .ref qs0, .ref qs1, .ref qsm, .ref qbc, .int cb, .int rw, .int ak, .int dn, .int ct, .int tn, .int md, .int wr]))] := by
  refine hm_ (cc := cX2_copyOf) (maxL := 2) (ret := (some (.object "HouseLog$Sectors"))) (Qc := fun A => va_Qr (fun (_ : Unit) => True) (fun _ a9 t9 => a9 = (if x = 0 then qs0 else qs1) ∧ qw_ dC dI A [(qh, .inr (2, [.int (nI n), .ref qs0, .ref qs1, .ref qsm, .ref qbc, .int cb, .int rw, .int ak, .int dn, .int ct, .int tn, .int md, .int wr]))] [] t9) A) (by decide) rfl (Nat.le_of_ble_eq_true rfl) ?_
  intro p e s m below meth c A H locs ls hx hb hr hml hts hown hlocks hsz hP hK hD hE hA hS hl
  have hl : lv_has ls 2 [(0, .ref qh), (1, .int x)] := hl
  have hown : s.vm.findClass RX2 = some m.cls := hown
  refine lv_iload_n hx hb dX2_copyOf_0 rfl (lv_at hl 1 rfl) ?_
  refine lv_if_ne (tgt := 11) hx hb dX2_copyOf_1 (by decide) (fun c_1 => ?_) (fun c_1 => ?_)
  · skip
    refine lv_aload_n hx hb dX2_copyOf_11 rfl (lv_at hl 0 rfl) ?_
    refine va_get (D := (dC, dI)) (ci := 2) (v := .ref qs1) (C := RX2) (T := TX2) (N := 13) hx hb hts (by decide +kernel) hown hK hP 0 rfl rfl 2 (by decide) (hts (.fieldLink RX2 31 "HouseLog" "copy1" "LHouseLog$Sectors;") (by decide +kernel)) (fun _ h9 => h9) rfl dX2_copyOf_12 ?_
    exact hr_r (v := qs1) hx hb hr hlocks (w1 := [(qh, .inr (2, [.int (nI n), .ref qs0, .ref qs1, .ref qsm, .ref qbc, .int cb, .int rw, .int ak, .int dn, .int ct, .int tn, .int md, .int wr]))]) hP hD hK hS [0] [] rfl rfl rfl (by rw [if_neg c_1]) (rfl) dX2_copyOf_15
  · skip
    refine lv_aload_n hx hb dX2_copyOf_4 rfl (lv_at hl 0 rfl) ?_
    refine va_get (D := (dC, dI)) (ci := 2) (v := .ref qs0) (C := RX2) (T := TX2) (N := 13) hx hb hts (by decide +kernel) hown hK hP 0 rfl rfl 1 (by decide) (hts (.fieldLink RX2 27 "HouseLog" "copy0" "LHouseLog$Sectors;") (by decide +kernel)) (fun _ h9 => h9) rfl dX2_copyOf_5 ?_
    refine lv_goto (tgt := 15) hx hb dX2_copyOf_8 (by decide) ?_
    exact hr_r (v := qs0) hx hb hr hlocks (w1 := [(qh, .inr (2, [.int (nI n), .ref qs0, .ref qs1, .ref qsm, .ref qbc, .int cb, .int rw, .int ak, .int dn, .int ct, .int tn, .int md, .int wr]))]) hP hD hK hS [0] [] rfl rfl rfl (by rw [if_pos c_1]) (rfl) dX2_copyOf_15

def rmI (n : Nat) (rw : Int32) (x : Int32) : Int32 := (if x = 0 then if 0 < (((nI n) - 2) - rw) then ((nI n) - 2) - rw else 0 else if 0 < ((nI n) - rw) then (nI n) - rw else 0)
set_option maxHeartbeats 4000000 in
set_option maxRecDepth 100000 in
theorem kX2_roomFor (l : Launch) (dC : Nat → ClassId) (dI : Nat → Nat → Nat) (sz : Nat) (qh qs0 qs1 qsm qbc : Nat) (n : Nat) (cb rw ak dn ct tn md wr : Int32) (x : Int32)  : Mi_ l yX2_roomFor wsX2_roomFor 1 13 dC dI (fun _ => True) [.ref qh, .int x] [(qh, .inr (2, [.int (nI n), .ref qs0, .ref qs1, .ref qsm, .ref qbc, .int cb, .int rw, .int ak, .int dn, .int ct, .int tn, .int md, .int wr]))] [] sz (rmI n rw x) [(qh, .inr (2, [.int (nI n), .ref qs0, .ref qs1, .ref qsm, .ref qbc, .int cb, .int rw, .int ak, .int dn, .int ct, .int tn, .int md, .int wr]))] := by
  refine hm_ (cc := cX2_roomFor) (maxL := 3) (ret := (some .int)) (Qc := fun A => va_Qi (fun (r9 : Int32) (_ : Unit) => r9 = rmI n rw x) (fun _ t9 => qw_ dC dI A [(qh, .inr (2, [.int (nI n), .ref qs0, .ref qs1, .ref qsm, .ref qbc, .int cb, .int rw, .int ak, .int dn, .int ct, .int tn, .int md, .int wr]))] [] t9) A) (by decide) rfl (Nat.le_of_ble_eq_true rfl) ?_
  intro p e s m below meth c A H locs ls hx hb hr hml hts hown hlocks hsz hP hK hD hE hA hS hl
  have hl : lv_has ls 3 [(0, .ref qh), (1, .int x)] := hl
  have hown : s.vm.findClass RX2 = some m.cls := hown
  refine lv_iload_n hx hb dX2_roomFor_0 rfl (lv_at hl 1 rfl) ?_
  refine lv_if_eq (tgt := 11) hx hb dX2_roomFor_1 (by decide) (fun c_1 => ?_) (fun c_1 => ?_)
  · skip
    refine lv_aload_n hx hb dX2_roomFor_11 rfl (lv_at hl 0 rfl) ?_
    refine va_get (D := (dC, dI)) (ci := 2) (v := .int (nI n)) (C := RX2) (T := TX2) (N := 13) hx hb hts (by decide +kernel) hown hK hP 0 rfl rfl 0 (by decide) (hts (.fieldLink RX2 18 "HouseLog" "sectors" "I") (by decide +kernel)) (fun _ h9 => h9) rfl dX2_roomFor_12 ?_
    refine lv_iconst (v := 2) hx hb dX2_roomFor_15 (by decide) ?_
    refine lv_isub hx hb dX2_roomFor_16 ?_
    refine lv_istore_n (lv' := [(2, .int ((nI n) - 2)), (0, .ref qh), (1, .int x)]) hx hb dX2_roomFor_17 rfl hl (by decide) rfl (fun ls hl => ?_)
    refine lv_iconst (v := 0) hx hb dX2_roomFor_18 (by decide) ?_
    refine lv_iload_n hx hb dX2_roomFor_19 rfl (lv_at hl 0 rfl) ?_
    refine lv_aload_n hx hb dX2_roomFor_20 rfl (lv_at hl 1 rfl) ?_
    refine va_get (D := (dC, dI)) (ci := 2) (v := .int rw) (C := RX2) (T := TX2) (N := 13) hx hb hts (by decide +kernel) hown hK hP 0 rfl rfl 6 (by decide) (hts (.fieldLink RX2 76 "HouseLog" "rows" "I") (by decide +kernel)) (fun _ h9 => h9) rfl dX2_roomFor_21 ?_
    refine lv_isub hx hb dX2_roomFor_24 ?_
    refine va_mmax hx hb (by rw [hml]; exact hl.1.symm) hown (hts (.methodLink RX2 15 Lib.Math.max.name) (by decide +kernel)) (hts (.static Lib.Math.max.name) (by decide +kernel)) (hts (.initialized "java/lang/Math") (by decide +kernel)) (hts (.code Lib.Math.max.name Lib.Math.max.code 2 (some .int)) (by decide +kernel)) (Nat.le_of_ble_eq_true rfl) (Nat.le_of_ble_eq_true rfl) (Nat.zero_le _) (Nat.zero_le _) dX2_roomFor_25 ?_
    exact hr_i (v := if 0 < (((nI n) - 2) - rw) then ((nI n) - 2) - rw else 0) hx hb hr hlocks (w1 := [(qh, .inr (2, [.int (nI n), .ref qs0, .ref qs1, .ref qsm, .ref qbc, .int cb, .int rw, .int ak, .int dn, .int ct, .int tn, .int md, .int wr]))]) hP hD hK hS [0] [] rfl rfl rfl (by unfold rmI; rw [if_pos c_1]) (rfl) dX2_roomFor_28
  · skip
    refine lv_aload_n hx hb dX2_roomFor_4 rfl (lv_at hl 0 rfl) ?_
    refine va_get (D := (dC, dI)) (ci := 2) (v := .int (nI n)) (C := RX2) (T := TX2) (N := 13) hx hb hts (by decide +kernel) hown hK hP 0 rfl rfl 0 (by decide) (hts (.fieldLink RX2 18 "HouseLog" "sectors" "I") (by decide +kernel)) (fun _ h9 => h9) rfl dX2_roomFor_5 ?_
    refine lv_goto (tgt := 17) hx hb dX2_roomFor_8 (by decide) ?_
    refine lv_istore_n (lv' := [(2, .int (nI n)), (0, .ref qh), (1, .int x)]) hx hb dX2_roomFor_17 rfl hl (by decide) rfl (fun ls hl => ?_)
    refine lv_iconst (v := 0) hx hb dX2_roomFor_18 (by decide) ?_
    refine lv_iload_n hx hb dX2_roomFor_19 rfl (lv_at hl 0 rfl) ?_
    refine lv_aload_n hx hb dX2_roomFor_20 rfl (lv_at hl 1 rfl) ?_
    refine va_get (D := (dC, dI)) (ci := 2) (v := .int rw) (C := RX2) (T := TX2) (N := 13) hx hb hts (by decide +kernel) hown hK hP 0 rfl rfl 6 (by decide) (hts (.fieldLink RX2 76 "HouseLog" "rows" "I") (by decide +kernel)) (fun _ h9 => h9) rfl dX2_roomFor_21 ?_
    refine lv_isub hx hb dX2_roomFor_24 ?_
    refine va_mmax hx hb (by rw [hml]; exact hl.1.symm) hown (hts (.methodLink RX2 15 Lib.Math.max.name) (by decide +kernel)) (hts (.static Lib.Math.max.name) (by decide +kernel)) (hts (.initialized "java/lang/Math") (by decide +kernel)) (hts (.code Lib.Math.max.name Lib.Math.max.code 2 (some .int)) (by decide +kernel)) (Nat.le_of_ble_eq_true rfl) (Nat.le_of_ble_eq_true rfl) (Nat.zero_le _) (Nat.zero_le _) dX2_roomFor_25 ?_
    exact hr_i (v := if 0 < ((nI n) - rw) then (nI n) - rw else 0) hx hb hr hlocks (w1 := [(qh, .inr (2, [.int (nI n), .ref qs0, .ref qs1, .ref qsm, .ref qbc, .int cb, .int rw, .int ak, .int dn, .int ct, .int tn, .int md, .int wr]))]) hP hD hK hS [0] [] rfl rfl rfl (by unfold rmI; rw [if_neg c_1]) (rfl) dX2_roomFor_28

set_option maxHeartbeats 4000000 in
set_option maxRecDepth 100000 in
theorem kX2_goDown (l : Launch) (dC : Nat → ClassId) (dI : Nat → Nat → Nat) (sz : Nat) (qh qs0 qs1 qsm qbc : Nat) (n : Nat) (cb rw ak dn ct tn md wr : Int32)  : Mv_ l yX2_goDown wsX2_goDown 0 0 dC dI (fun _ => True) [.ref qh] [(qh, .inr (2, [.int (nI n), .ref qs0, .ref qs1, .ref qsm, .ref qbc, .int cb, .int rw, .int ak, .int dn, .int ct, .int tn, .int md, .int wr]))] [] sz [(qh, .inr (2, [.int (nI n), .ref qs0, .ref qs1, .ref qsm, .ref qbc, .int 0, .int ak, .int ak, .int 1, .int (-1), .int tn, .int md, .int wr]))] := by
  refine hm_ (cc := cX2_goDown) (maxL := 1) (ret := none) (Qc := fun A => va_Qv (fun (_ : Unit) => True) (fun _ t9 => qw_ dC dI A [(qh, .inr (2, [.int (nI n), .ref qs0, .ref qs1, .ref qsm, .ref qbc, .int 0, .int ak, .int ak, .int 1, .int (-1), .int tn, .int md, .int wr]))] [] t9) A) (by decide) rfl (Nat.le_of_ble_eq_true rfl) ?_
  intro p e s m below meth c A H locs ls hx hb hr hml hts hown hlocks hsz hP hK hD hE hA hS hl
  have hl : lv_has ls 1 [(0, .ref qh)] := hl
  have hown : s.vm.findClass RX2 = some m.cls := hown
  refine lv_aload_n hx hb dX2_goDown_0 rfl (lv_at hl 0 rfl) ?_
  refine lv_iconst (v := 1) hx hb dX2_goDown_1 (by decide) ?_
  refine va_put (D := (dC, dI)) (ci := 2) (v := .int 1) (ty := .boolean) (C := RX2) (T := TX2) (N := 13) hx hb hts (by decide +kernel) tyX2 tyX2_ok nmX2 hown hK hP hD hS 0 rfl rfl 8 (by decide) (hts (.fieldLink RX2 47 "HouseLog" "down" "Z") (by decide +kernel)) (fun _ h9 => h9) rfl (by decide +kernel) (by decide) (by decide) (Nat.le_of_ble_eq_true rfl) dX2_goDown_2 (fun H locs hP hD hS => ?_)
  have hP : va_P (dC, dI) hlCl [(qh, .inr (2, [.int (nI n), .ref qs0, .ref qs1, .ref qsm, .ref qbc, .int cb, .int rw, .int ak, .int 1, .int ct, .int tn, .int md, .int wr]))] H := hP
  have hD : va_D A [(qh, .inr (2, [.int (nI n), .ref qs0, .ref qs1, .ref qsm, .ref qbc, .int cb, .int rw, .int ak, .int 1, .int ct, .int tn, .int md, .int wr]))] := hD
  refine lv_aload_n hx hb dX2_goDown_5 rfl (lv_at hl 0 rfl) ?_
  refine lv_iconst (v := (-1)) hx hb dX2_goDown_6 (by decide) ?_
  refine va_put (D := (dC, dI)) (ci := 2) (v := .int (-1)) (ty := .int) (C := RX2) (T := TX2) (N := 13) hx hb hts (by decide +kernel) tyX2 tyX2_ok nmX2 hown hK hP hD hS 0 rfl rfl 9 (by decide) (hts (.fieldLink RX2 44 "HouseLog" "writesUntilCut" "I") (by decide +kernel)) (fun _ h9 => h9) rfl (by decide +kernel) rfl rfl (Nat.le_of_ble_eq_true rfl) dX2_goDown_7 (fun H locs hP hD hS => ?_)
  have hP : va_P (dC, dI) hlCl [(qh, .inr (2, [.int (nI n), .ref qs0, .ref qs1, .ref qsm, .ref qbc, .int cb, .int rw, .int ak, .int 1, .int (-1), .int tn, .int md, .int wr]))] H := hP
  have hD : va_D A [(qh, .inr (2, [.int (nI n), .ref qs0, .ref qs1, .ref qsm, .ref qbc, .int cb, .int rw, .int ak, .int 1, .int (-1), .int tn, .int md, .int wr]))] := hD
  refine lv_aload_n hx hb dX2_goDown_10 rfl (lv_at hl 0 rfl) ?_
  refine lv_aload_n hx hb dX2_goDown_11 rfl (lv_at hl 0 rfl) ?_
  refine va_get (D := (dC, dI)) (ci := 2) (v := .int ak) (C := RX2) (T := TX2) (N := 13) hx hb hts (by decide +kernel) hown hK hP 0 rfl rfl 7 (by decide) (hts (.fieldLink RX2 83 "HouseLog" "acknowledged" "I") (by decide +kernel)) (fun _ h9 => h9) rfl dX2_goDown_12 ?_
  refine va_put (D := (dC, dI)) (ci := 2) (v := .int ak) (ty := .int) (C := RX2) (T := TX2) (N := 13) hx hb hts (by decide +kernel) tyX2 tyX2_ok nmX2 hown hK hP hD hS 0 rfl rfl 6 (by decide) (hts (.fieldLink RX2 76 "HouseLog" "rows" "I") (by decide +kernel)) (fun _ h9 => h9) rfl (by decide +kernel) rfl rfl (Nat.le_of_ble_eq_true rfl) dX2_goDown_15 (fun H locs hP hD hS => ?_)
  have hP : va_P (dC, dI) hlCl [(qh, .inr (2, [.int (nI n), .ref qs0, .ref qs1, .ref qsm, .ref qbc, .int cb, .int ak, .int ak, .int 1, .int (-1), .int tn, .int md, .int wr]))] H := hP
  have hD : va_D A [(qh, .inr (2, [.int (nI n), .ref qs0, .ref qs1, .ref qsm, .ref qbc, .int cb, .int ak, .int ak, .int 1, .int (-1), .int tn, .int md, .int wr]))] := hD
  refine lv_aload_n hx hb dX2_goDown_18 rfl (lv_at hl 0 rfl) ?_
  refine lv_iconst (v := 0) hx hb dX2_goDown_19 (by decide) ?_
  refine va_put (D := (dC, dI)) (ci := 2) (v := .int 0) (ty := .int) (C := RX2) (T := TX2) (N := 13) hx hb hts (by decide +kernel) tyX2 tyX2_ok nmX2 hown hK hP hD hS 0 rfl rfl 5 (by decide) (hts (.fieldLink RX2 51 "HouseLog" "collectedBytes" "I") (by decide +kernel)) (fun _ h9 => h9) rfl (by decide +kernel) rfl rfl (Nat.le_of_ble_eq_true rfl) dX2_goDown_20 (fun H locs hP hD hS => ?_)
  have hP : va_P (dC, dI) hlCl [(qh, .inr (2, [.int (nI n), .ref qs0, .ref qs1, .ref qsm, .ref qbc, .int 0, .int ak, .int ak, .int 1, .int (-1), .int tn, .int md, .int wr]))] H := hP
  have hD : va_D A [(qh, .inr (2, [.int (nI n), .ref qs0, .ref qs1, .ref qsm, .ref qbc, .int 0, .int ak, .int ak, .int 1, .int (-1), .int tn, .int md, .int wr]))] := hD
  exact hr_v hx hb hr hlocks (w1 := [(qh, .inr (2, [.int (nI n), .ref qs0, .ref qs1, .ref qsm, .ref qbc, .int 0, .int ak, .int ak, .int 1, .int (-1), .int tn, .int md, .int wr]))]) hP hD hK hS [0] [] rfl rfl rfl (rfl) dX2_goDown_23

def adOK (dn cb : Int32) : Prop := dn = 0 ∧ cb < 40
def adC (co : Nat → Int32) (dn cb b : Int32) : Nat → Int32 := if dn = 0 then (if cb < 40 then sB co 40 cb b else co) else co
def adN (dn cb : Int32) : Int32 := if dn = 0 then (if cb < 40 then cb + 1 else cb) else cb

def adI (cb dn : Int32) : Int32 := (if dn = 0 then (if cb < 40 then 1 else 0) else 0)
set_option maxHeartbeats 4000000 in
set_option maxRecDepth 100000 in
theorem kX2_add (l : Launch) (dC : Nat → ClassId) (dI : Nat → Nat → Nat) (sz : Nat) (qh qs0 qs1 qsm qbc qac : Nat) (cBc : ClassId) (n : Nat) (co : Nat → Int32) (cb rw ak dn ct tn md wr : Int32) (b : Int32)  : Mi_ l yX2_add wsX2_add 1 22 dC dI (fun _ => True) [.ref qh, .int b] [(qh, .inr (2, [.int (nI n), .ref qs0, .ref qs1, .ref qsm, .ref qbc, .int cb, .int rw, .int ak, .int dn, .int ct, .int tn, .int md, .int wr])), (qbc, .inr (0, [.ref qac])), (qac, .inl (cBc, 40, .inl co))] [(cBc, .byte)] sz (adI cb dn) [(qh, .inr (2, [.int (nI n), .ref qs0, .ref qs1, .ref qsm, .ref qbc, .int (adN dn cb), .int rw, .int ak, .int dn, .int ct, .int tn, .int md, .int wr])), (qbc, .inr (0, [.ref qac])), (qac, .inl (cBc, 40, .inl (adC co dn cb b)))] := by
  refine hm_ (cc := cX2_add) (maxL := 2) (ret := (some .boolean)) (Qc := fun A => va_Qi (fun (r9 : Int32) (_ : Unit) => r9 = adI cb dn) (fun _ t9 => qw_ dC dI A [(qh, .inr (2, [.int (nI n), .ref qs0, .ref qs1, .ref qsm, .ref qbc, .int (adN dn cb), .int rw, .int ak, .int dn, .int ct, .int tn, .int md, .int wr])), (qbc, .inr (0, [.ref qac])), (qac, .inl (cBc, 40, .inl (adC co dn cb b)))] [(cBc, .byte)] t9) A) (by decide) rfl (Nat.le_of_ble_eq_true rfl) ?_
  intro p e s m below meth c A H locs ls hx hb hr hml hts hown hlocks hsz hP hK hD hE hA hS hl
  have hl : lv_has ls 2 [(0, .ref qh), (1, .int b)] := hl
  have hown : s.vm.findClass RX2 = some m.cls := hown
  refine lv_aload_n hx hb dX2_add_0 rfl (lv_at hl 0 rfl) ?_
  refine va_get (D := (dC, dI)) (ci := 2) (v := .int dn) (C := RX2) (T := TX2) (N := 13) hx hb hts (by decide +kernel) hown hK hP 0 rfl rfl 8 (by decide) (hts (.fieldLink RX2 47 "HouseLog" "down" "Z") (by decide +kernel)) (fun _ h9 => h9) rfl dX2_add_1 ?_
  refine lv_if_ne (tgt := 16) hx hb dX2_add_4 (by decide) (fun c_4 => ?_) (fun c_4 => ?_)
  · skip
    refine lv_iconst (v := 0) hx hb dX2_add_16 (by decide) ?_
    exact hr_z (v := 0) hx hb hr hlocks (by decide) (w1 := [(qh, .inr (2, [.int (nI n), .ref qs0, .ref qs1, .ref qsm, .ref qbc, .int cb, .int rw, .int ak, .int dn, .int ct, .int tn, .int md, .int wr])), (qbc, .inr (0, [.ref qac])), (qac, .inl (cBc, 40, .inl co))]) hP hD hK hS [0, 1, 2] [0] rfl rfl rfl (by unfold adI; rw [if_neg c_4]) (by simp only [adN, adC, if_neg c_4]) dX2_add_17
  · skip
    refine lv_aload_n hx hb dX2_add_7 rfl (lv_at hl 0 rfl) ?_
    refine va_get (D := (dC, dI)) (ci := 2) (v := .int cb) (C := RX2) (T := TX2) (N := 13) hx hb hts (by decide +kernel) hown hK hP 0 rfl rfl 5 (by decide) (hts (.fieldLink RX2 51 "HouseLog" "collectedBytes" "I") (by decide +kernel)) (fun _ h9 => h9) rfl dX2_add_8 ?_
    refine lv_bipush (v := 40) hx hb dX2_add_11 (by decide) ?_
    refine lv_icmp_lt (tgt := 18) hx hb dX2_add_13 (by decide) (fun c_13 => ?_) (fun c_13 => ?_)
    · skip
      refine lv_aload_n hx hb dX2_add_18 rfl (lv_at hl 0 rfl) ?_
      refine va_get (D := (dC, dI)) (ci := 2) (v := .ref qbc) (C := RX2) (T := TX2) (N := 13) hx hb hts (by decide +kernel) hown hK hP 0 rfl rfl 4 (by decide) (hts (.fieldLink RX2 40 "HouseLog" "collected" "LHouseLog$Bytes;") (by decide +kernel)) (fun _ h9 => h9) rfl dX2_add_19 ?_
      refine lv_aload_n hx hb dX2_add_22 rfl (lv_at hl 0 rfl) ?_
      refine va_get (D := (dC, dI)) (ci := 2) (v := .int cb) (C := RX2) (T := TX2) (N := 13) hx hb hts (by decide +kernel) hown hK hP 0 rfl rfl 5 (by decide) (hts (.fieldLink RX2 51 "HouseLog" "collectedBytes" "I") (by decide +kernel)) (fun _ h9 => h9) rfl dX2_add_23 ?_
      refine lv_iload_n hx hb dX2_add_26 rfl (lv_at hl 1 rfl) ?_
      refine hc_vV (As := [.int cb, .int b]) (rest := []) (wr := [(qh, .inr (2, [.int (nI n), .ref qs0, .ref qs1, .ref qsm, .ref qbc, .int cb, .int rw, .int ak, .int dn, .int ct, .int tn, .int md, .int wr]))]) ⟨hx, hb, hml, hown, hts⟩ sx_T trivial (kX0_set l dC dI H.size qbc qac cBc co 40 cb b (by decide)) (cwV 2 hts gX2_add_X0_set rfl rfl rfl (by decide +kernel) ⟨Nat.le_of_ble_eq_true rfl, Nat.le_of_ble_eq_true rfl⟩) hK hP hD hS hA [1, 2] [0] [0] rfl rfl rfl rfl rfl (by decide) (ci := 0) rfl rfl rfl rfl hl.1 rfl (Nat.le_of_ble_eq_true rfl) dX2_add_27 ⟨Nat.zero_le _, Nat.zero_le _⟩ (fun H locs hP hD hS => ?_)
      have hP : va_P (dC, dI) hlCl [(qh, .inr (2, [.int (nI n), .ref qs0, .ref qs1, .ref qsm, .ref qbc, .int cb, .int rw, .int ak, .int dn, .int ct, .int tn, .int md, .int wr])), (qbc, .inr (0, [.ref qac])), (qac, .inl (cBc, 40, .inl (sB co 40 cb b)))] H := hP
      have hD : va_D A [(qh, .inr (2, [.int (nI n), .ref qs0, .ref qs1, .ref qsm, .ref qbc, .int cb, .int rw, .int ak, .int dn, .int ct, .int tn, .int md, .int wr])), (qbc, .inr (0, [.ref qac])), (qac, .inl (cBc, 40, .inl (sB co 40 cb b)))] := hD
      refine lv_aload_n hx hb dX2_add_30 rfl (lv_at hl 0 rfl) ?_
      refine lv_dup hx hb dX2_add_31 rfl ?_
      refine va_get (D := (dC, dI)) (ci := 2) (v := .int cb) (C := RX2) (T := TX2) (N := 13) hx hb hts (by decide +kernel) hown hK hP 0 rfl rfl 5 (by decide) (hts (.fieldLink RX2 51 "HouseLog" "collectedBytes" "I") (by decide +kernel)) (fun _ h9 => h9) rfl dX2_add_32 ?_
      refine lv_iconst (v := 1) hx hb dX2_add_35 (by decide) ?_
      refine lv_iadd hx hb dX2_add_36 ?_
      refine va_put (D := (dC, dI)) (ci := 2) (v := .int (cb + 1)) (ty := .int) (C := RX2) (T := TX2) (N := 13) hx hb hts (by decide +kernel) tyX2 tyX2_ok nmX2 hown hK hP hD hS 0 rfl rfl 5 (by decide) (hts (.fieldLink RX2 51 "HouseLog" "collectedBytes" "I") (by decide +kernel)) (fun _ h9 => h9) rfl (by decide +kernel) rfl rfl (Nat.le_of_ble_eq_true rfl) dX2_add_37 (fun H locs hP hD hS => ?_)
      have hP : va_P (dC, dI) hlCl [(qh, .inr (2, [.int (nI n), .ref qs0, .ref qs1, .ref qsm, .ref qbc, .int (cb + 1), .int rw, .int ak, .int dn, .int ct, .int tn, .int md, .int wr])), (qbc, .inr (0, [.ref qac])), (qac, .inl (cBc, 40, .inl (sB co 40 cb b)))] H := hP
      have hD : va_D A [(qh, .inr (2, [.int (nI n), .ref qs0, .ref qs1, .ref qsm, .ref qbc, .int (cb + 1), .int rw, .int ak, .int dn, .int ct, .int tn, .int md, .int wr])), (qbc, .inr (0, [.ref qac])), (qac, .inl (cBc, 40, .inl (sB co 40 cb b)))] := hD
      refine lv_iconst (v := 1) hx hb dX2_add_40 (by decide) ?_
      exact hr_z (v := 1) hx hb hr hlocks (by decide) (w1 := [(qh, .inr (2, [.int (nI n), .ref qs0, .ref qs1, .ref qsm, .ref qbc, .int (cb + 1), .int rw, .int ak, .int dn, .int ct, .int tn, .int md, .int wr])), (qbc, .inr (0, [.ref qac])), (qac, .inl (cBc, 40, .inl (sB co 40 cb b)))]) hP hD hK hS [0, 1, 2] [0] rfl rfl rfl (by unfold adI; rw [if_pos c_4, if_pos c_13]) (by simp only [adN, adC, if_pos c_4, if_pos c_13]) dX2_add_41
    · skip
      refine lv_iconst (v := 0) hx hb dX2_add_16 (by decide) ?_
      exact hr_z (v := 0) hx hb hr hlocks (by decide) (w1 := [(qh, .inr (2, [.int (nI n), .ref qs0, .ref qs1, .ref qsm, .ref qbc, .int cb, .int rw, .int ak, .int dn, .int ct, .int tn, .int md, .int wr])), (qbc, .inr (0, [.ref qac])), (qac, .inl (cBc, 40, .inl co))]) hP hD hK hS [0, 1, 2] [0] rfl rfl rfl (by unfold adI; rw [if_pos c_4, if_neg c_13]) (by simp only [adN, adC, if_pos c_4, if_neg c_13]) dX2_add_17

def cuK (dn keep tear ct : Int32) : Int32 := if dn = 0 then (if keep < -1 then ct else if tear < 0 then ct else if tear < 64 then keep else ct) else ct
def cuT (dn keep tear tn : Int32) : Int32 := if dn = 0 then (if keep < -1 then tn else if tear < 0 then tn else if tear < 64 then tear else tn) else tn

def cuI (dn : Int32) (keep tear : Int32) : Int32 := (if dn = 0 then (if keep < (-1) then 0 else (if tear < 0 then 0 else (if tear < 64 then 1 else 0))) else 0)
set_option maxHeartbeats 4000000 in
set_option maxRecDepth 100000 in
theorem kX2_cut (l : Launch) (dC : Nat → ClassId) (dI : Nat → Nat → Nat) (sz : Nat) (qh qs0 qs1 qsm qbc : Nat) (n : Nat) (cb rw ak dn ct tn md wr : Int32) (keep tear : Int32)  : Mi_ l yX2_cut wsX2_cut 0 0 dC dI (fun _ => True) [.ref qh, .int keep, .int tear] [(qh, .inr (2, [.int (nI n), .ref qs0, .ref qs1, .ref qsm, .ref qbc, .int cb, .int rw, .int ak, .int dn, .int ct, .int tn, .int md, .int wr]))] [] sz (cuI dn keep tear) [(qh, .inr (2, [.int (nI n), .ref qs0, .ref qs1, .ref qsm, .ref qbc, .int cb, .int rw, .int ak, .int dn, .int (cuK dn keep tear ct), .int (cuT dn keep tear tn), .int md, .int wr]))] := by
  refine hm_ (cc := cX2_cut) (maxL := 3) (ret := (some .boolean)) (Qc := fun A => va_Qi (fun (r9 : Int32) (_ : Unit) => r9 = cuI dn keep tear) (fun _ t9 => qw_ dC dI A [(qh, .inr (2, [.int (nI n), .ref qs0, .ref qs1, .ref qsm, .ref qbc, .int cb, .int rw, .int ak, .int dn, .int (cuK dn keep tear ct), .int (cuT dn keep tear tn), .int md, .int wr]))] [] t9) A) (by decide) rfl (Nat.le_of_ble_eq_true rfl) ?_
  intro p e s m below meth c A H locs ls hx hb hr hml hts hown hlocks hsz hP hK hD hE hA hS hl
  have hl : lv_has ls 3 [(0, .ref qh), (1, .int keep), (2, .int tear)] := hl
  have hown : s.vm.findClass RX2 = some m.cls := hown
  refine lv_aload_n hx hb dX2_cut_0 rfl (lv_at hl 0 rfl) ?_
  refine va_get (D := (dC, dI)) (ci := 2) (v := .int dn) (C := RX2) (T := TX2) (N := 13) hx hb hts (by decide +kernel) hown hK hP 0 rfl rfl 8 (by decide) (hts (.fieldLink RX2 47 "HouseLog" "down" "Z") (by decide +kernel)) (fun _ h9 => h9) rfl dX2_cut_1 ?_
  refine lv_if_ne (tgt := 22) hx hb dX2_cut_4 (by decide) (fun c_4 => ?_) (fun c_4 => ?_)
  · skip
    refine lv_iconst (v := 0) hx hb dX2_cut_22 (by decide) ?_
    exact hr_z (v := 0) hx hb hr hlocks (by decide) (w1 := [(qh, .inr (2, [.int (nI n), .ref qs0, .ref qs1, .ref qsm, .ref qbc, .int cb, .int rw, .int ak, .int dn, .int ct, .int tn, .int md, .int wr]))]) hP hD hK hS [0] [] rfl rfl rfl (by unfold cuI; rw [if_neg c_4]) (by simp only [cuK, cuT, if_neg c_4]) dX2_cut_23
  · skip
    refine lv_iload_n hx hb dX2_cut_7 rfl (lv_at hl 1 rfl) ?_
    refine lv_iconst (v := (-1)) hx hb dX2_cut_8 (by decide) ?_
    refine lv_icmp_lt (tgt := 22) hx hb dX2_cut_9 (by decide) (fun c_9 => ?_) (fun c_9 => ?_)
    · skip
      refine lv_iconst (v := 0) hx hb dX2_cut_22 (by decide) ?_
      exact hr_z (v := 0) hx hb hr hlocks (by decide) (w1 := [(qh, .inr (2, [.int (nI n), .ref qs0, .ref qs1, .ref qsm, .ref qbc, .int cb, .int rw, .int ak, .int dn, .int ct, .int tn, .int md, .int wr]))]) hP hD hK hS [0] [] rfl rfl rfl (by unfold cuI; rw [if_pos c_4, if_pos c_9]) (by simp only [cuK, cuT, if_pos c_4, if_pos c_9]) dX2_cut_23
    · skip
      refine lv_iload_n hx hb dX2_cut_12 rfl (lv_at hl 2 rfl) ?_
      refine lv_if_lt (tgt := 22) hx hb dX2_cut_13 (by decide) (fun c_13 => ?_) (fun c_13 => ?_)
      · skip
        refine lv_iconst (v := 0) hx hb dX2_cut_22 (by decide) ?_
        exact hr_z (v := 0) hx hb hr hlocks (by decide) (w1 := [(qh, .inr (2, [.int (nI n), .ref qs0, .ref qs1, .ref qsm, .ref qbc, .int cb, .int rw, .int ak, .int dn, .int ct, .int tn, .int md, .int wr]))]) hP hD hK hS [0] [] rfl rfl rfl (by unfold cuI; rw [if_pos c_4, if_neg c_9, if_pos c_13]) (by simp only [cuK, cuT, if_pos c_4, if_neg c_9, if_pos c_13]) dX2_cut_23
      · skip
        refine lv_iload_n hx hb dX2_cut_16 rfl (lv_at hl 2 rfl) ?_
        refine lv_bipush (v := 64) hx hb dX2_cut_17 (by decide) ?_
        refine lv_icmp_lt (tgt := 24) hx hb dX2_cut_19 (by decide) (fun c_19 => ?_) (fun c_19 => ?_)
        · skip
          refine lv_aload_n hx hb dX2_cut_24 rfl (lv_at hl 0 rfl) ?_
          refine lv_iload_n hx hb dX2_cut_25 rfl (lv_at hl 1 rfl) ?_
          refine va_put (D := (dC, dI)) (ci := 2) (v := .int keep) (ty := .int) (C := RX2) (T := TX2) (N := 13) hx hb hts (by decide +kernel) tyX2 tyX2_ok nmX2 hown hK hP hD hS 0 rfl rfl 9 (by decide) (hts (.fieldLink RX2 44 "HouseLog" "writesUntilCut" "I") (by decide +kernel)) (fun _ h9 => h9) rfl (by decide +kernel) rfl rfl (Nat.le_of_ble_eq_true rfl) dX2_cut_26 (fun H locs hP hD hS => ?_)
          have hP : va_P (dC, dI) hlCl [(qh, .inr (2, [.int (nI n), .ref qs0, .ref qs1, .ref qsm, .ref qbc, .int cb, .int rw, .int ak, .int dn, .int keep, .int tn, .int md, .int wr]))] H := hP
          have hD : va_D A [(qh, .inr (2, [.int (nI n), .ref qs0, .ref qs1, .ref qsm, .ref qbc, .int cb, .int rw, .int ak, .int dn, .int keep, .int tn, .int md, .int wr]))] := hD
          refine lv_aload_n hx hb dX2_cut_29 rfl (lv_at hl 0 rfl) ?_
          refine lv_iload_n hx hb dX2_cut_30 rfl (lv_at hl 2 rfl) ?_
          refine va_put (D := (dC, dI)) (ci := 2) (v := .int tear) (ty := .int) (C := RX2) (T := TX2) (N := 13) hx hb hts (by decide +kernel) tyX2 tyX2_ok nmX2 hown hK hP hD hS 0 rfl rfl 10 (by decide) (hts (.fieldLink RX2 93 "HouseLog" "tornBytes" "I") (by decide +kernel)) (fun _ h9 => h9) rfl (by decide +kernel) rfl rfl (Nat.le_of_ble_eq_true rfl) dX2_cut_31 (fun H locs hP hD hS => ?_)
          have hP : va_P (dC, dI) hlCl [(qh, .inr (2, [.int (nI n), .ref qs0, .ref qs1, .ref qsm, .ref qbc, .int cb, .int rw, .int ak, .int dn, .int keep, .int tear, .int md, .int wr]))] H := hP
          have hD : va_D A [(qh, .inr (2, [.int (nI n), .ref qs0, .ref qs1, .ref qsm, .ref qbc, .int cb, .int rw, .int ak, .int dn, .int keep, .int tear, .int md, .int wr]))] := hD
          refine lv_iconst (v := 1) hx hb dX2_cut_34 (by decide) ?_
          exact hr_z (v := 1) hx hb hr hlocks (by decide) (w1 := [(qh, .inr (2, [.int (nI n), .ref qs0, .ref qs1, .ref qsm, .ref qbc, .int cb, .int rw, .int ak, .int dn, .int keep, .int tear, .int md, .int wr]))]) hP hD hK hS [0] [] rfl rfl rfl (by unfold cuI; rw [if_pos c_4, if_neg c_9, if_neg c_13, if_pos c_19]) (by simp only [cuK, cuT, if_pos c_4, if_neg c_9, if_neg c_13, if_pos c_19]) dX2_cut_35
        · skip
          refine lv_iconst (v := 0) hx hb dX2_cut_22 (by decide) ?_
          exact hr_z (v := 0) hx hb hr hlocks (by decide) (w1 := [(qh, .inr (2, [.int (nI n), .ref qs0, .ref qs1, .ref qsm, .ref qbc, .int cb, .int rw, .int ak, .int dn, .int ct, .int tn, .int md, .int wr]))]) hP hD hK hS [0] [] rfl rfl rfl (by unfold cuI; rw [if_pos c_4, if_neg c_9, if_neg c_13, if_neg c_19]) (by simp only [cuK, cuT, if_pos c_4, if_neg c_9, if_neg c_13, if_neg c_19]) dX2_cut_23

set_option maxHeartbeats 4000000 in
set_option maxRecDepth 100000 in
theorem kX2_mend (l : Launch) (dC : Nat → ClassId) (dI : Nat → Nat → Nat) (sz : Nat) (qh qs0 qs1 qsm qbc qs qb qa qs2 qb2 qa2 : Nat) (cB cB2 : ClassId) (n : Nat) (f : Nat → Int32) (N : Nat) (g : Nat → Int32) (cb rw ak dn ct tn md wr : Int32) (k : Nat) (hN : N < 2 ^ 31) (hk : k < 1000) : Mv_ l yX2_mend wsX2_mend 2 47 dC dI (fun _ => True) [.ref qh, .ref qs, .ref qs2, .int (nI k)] [(qh, .inr (2, [.int (nI n), .ref qs0, .ref qs1, .ref qsm, .ref qbc, .int cb, .int rw, .int ak, .int dn, .int ct, .int tn, .int md, .int wr])), (qs, .inr (1, [.ref qb])), (qb, .inr (0, [.ref qa])), (qa, .inl (cB, N, .inl f)), (qs2, .inr (1, [.ref qb2])), (qb2, .inr (0, [.ref qa2])), (qa2, .inl (cB2, N, .inl g))] [(cB, .byte), (cB2, .byte)] sz [(qh, .inr (2, [.int (nI n), .ref qs0, .ref qs1, .ref qsm, .ref qbc, .int cb, .int rw, .int ak, .int dn, .int ct, .int tn, .int (md + 1), .int wr])), (qs, .inr (1, [.ref qb])), (qb, .inr (0, [.ref qa])), (qa, .inl (cB, N, .inl (tkB f N g (k * 64) 64))), (qs2, .inr (1, [.ref qb2])), (qb2, .inr (0, [.ref qa2])), (qa2, .inl (cB2, N, .inl g))] := by
  refine hm_ (cc := cX2_mend) (maxL := 4) (ret := none) (Qc := fun A => va_Qv (fun (_ : Unit) => True) (fun _ t9 => qw_ dC dI A [(qh, .inr (2, [.int (nI n), .ref qs0, .ref qs1, .ref qsm, .ref qbc, .int cb, .int rw, .int ak, .int dn, .int ct, .int tn, .int (md + 1), .int wr])), (qs, .inr (1, [.ref qb])), (qb, .inr (0, [.ref qa])), (qa, .inl (cB, N, .inl (tkB f N g (k * 64) 64))), (qs2, .inr (1, [.ref qb2])), (qb2, .inr (0, [.ref qa2])), (qa2, .inl (cB2, N, .inl g))] [(cB, .byte), (cB2, .byte)] t9) A) (by decide) rfl (Nat.le_of_ble_eq_true rfl) ?_
  intro p e s m below meth c A H locs ls hx hb hr hml hts hown hlocks hsz hP hK hD hE hA hS hl
  have hl : lv_has ls 4 [(0, .ref qh), (1, .ref qs), (2, .ref qs2), (3, .int (nI k))] := hl
  have hown : s.vm.findClass RX2 = some m.cls := hown
  refine lv_aload_n hx hb dX2_mend_0 rfl (lv_at hl 1 rfl) ?_
  refine lv_aload_n hx hb dX2_mend_1 rfl (lv_at hl 2 rfl) ?_
  refine lv_iload_n hx hb dX2_mend_2 rfl (lv_at hl 3 rfl) ?_
  refine lv_bipush (v := 64) hx hb dX2_mend_3 (by decide) ?_
  refine hc_vV (As := [.ref qs2, .int (nI k), .int 64]) (rest := []) (wr := [(qh, .inr (2, [.int (nI n), .ref qs0, .ref qs1, .ref qsm, .ref qbc, .int cb, .int rw, .int ak, .int dn, .int ct, .int tn, .int md, .int wr]))]) ⟨hx, hb, hml, hown, hts⟩ sx_T trivial (kX1_take l dC dI H.size qs qb qa qs2 qb2 qa2 cB cB2 f N g k 64 (hN) (hk) (by decide)) (cwV 3 hts gX2_mend_X1_take rfl rfl rfl (by decide +kernel) ⟨Nat.le_of_ble_eq_true rfl, Nat.le_of_ble_eq_true rfl⟩) hK hP hD hS hA [1, 2, 3, 4, 5, 6] [0] [0, 1] rfl rfl rfl rfl rfl (by decide) (ci := 1) rfl rfl rfl rfl hl.1 rfl (Nat.le_of_ble_eq_true rfl) dX2_mend_5 ⟨Nat.zero_le _, Nat.zero_le _⟩ (fun H locs hP hD hS => ?_)
  have hP : va_P (dC, dI) hlCl [(qh, .inr (2, [.int (nI n), .ref qs0, .ref qs1, .ref qsm, .ref qbc, .int cb, .int rw, .int ak, .int dn, .int ct, .int tn, .int md, .int wr])), (qs, .inr (1, [.ref qb])), (qb, .inr (0, [.ref qa])), (qa, .inl (cB, N, .inl (tkB f N g (k * 64) 64))), (qs2, .inr (1, [.ref qb2])), (qb2, .inr (0, [.ref qa2])), (qa2, .inl (cB2, N, .inl g))] H := hP
  have hD : va_D A [(qh, .inr (2, [.int (nI n), .ref qs0, .ref qs1, .ref qsm, .ref qbc, .int cb, .int rw, .int ak, .int dn, .int ct, .int tn, .int md, .int wr])), (qs, .inr (1, [.ref qb])), (qb, .inr (0, [.ref qa])), (qa, .inl (cB, N, .inl (tkB f N g (k * 64) 64))), (qs2, .inr (1, [.ref qb2])), (qb2, .inr (0, [.ref qa2])), (qa2, .inl (cB2, N, .inl g))] := hD
  refine lv_aload_n hx hb dX2_mend_8 rfl (lv_at hl 0 rfl) ?_
  refine lv_dup hx hb dX2_mend_9 rfl ?_
  refine va_get (D := (dC, dI)) (ci := 2) (v := .int md) (C := RX2) (T := TX2) (N := 13) hx hb hts (by decide +kernel) hown hK hP 0 rfl rfl 11 (by decide) (hts (.fieldLink RX2 96 "HouseLog" "mended" "I") (by decide +kernel)) (fun _ h9 => h9) rfl dX2_mend_10 ?_
  refine lv_iconst (v := 1) hx hb dX2_mend_13 (by decide) ?_
  refine lv_iadd hx hb dX2_mend_14 ?_
  refine va_put (D := (dC, dI)) (ci := 2) (v := .int (md + 1)) (ty := .int) (C := RX2) (T := TX2) (N := 13) hx hb hts (by decide +kernel) tyX2 tyX2_ok nmX2 hown hK hP hD hS 0 rfl rfl 11 (by decide) (hts (.fieldLink RX2 96 "HouseLog" "mended" "I") (by decide +kernel)) (fun _ h9 => h9) rfl (by decide +kernel) rfl rfl (Nat.le_of_ble_eq_true rfl) dX2_mend_15 (fun H locs hP hD hS => ?_)
  have hP : va_P (dC, dI) hlCl [(qh, .inr (2, [.int (nI n), .ref qs0, .ref qs1, .ref qsm, .ref qbc, .int cb, .int rw, .int ak, .int dn, .int ct, .int tn, .int (md + 1), .int wr])), (qs, .inr (1, [.ref qb])), (qb, .inr (0, [.ref qa])), (qa, .inl (cB, N, .inl (tkB f N g (k * 64) 64))), (qs2, .inr (1, [.ref qb2])), (qb2, .inr (0, [.ref qa2])), (qa2, .inl (cB2, N, .inl g))] H := hP
  have hD : va_D A [(qh, .inr (2, [.int (nI n), .ref qs0, .ref qs1, .ref qsm, .ref qbc, .int cb, .int rw, .int ak, .int dn, .int ct, .int tn, .int (md + 1), .int wr])), (qs, .inr (1, [.ref qb])), (qb, .inr (0, [.ref qa])), (qa, .inl (cB, N, .inl (tkB f N g (k * 64) 64))), (qs2, .inr (1, [.ref qb2])), (qb2, .inr (0, [.ref qa2])), (qa2, .inl (cB2, N, .inl g))] := hD
  exact hr_v hx hb hr hlocks (w1 := [(qh, .inr (2, [.int (nI n), .ref qs0, .ref qs1, .ref qsm, .ref qbc, .int cb, .int rw, .int ak, .int dn, .int ct, .int tn, .int (md + 1), .int wr])), (qs, .inr (1, [.ref qb])), (qb, .inr (0, [.ref qa])), (qa, .inl (cB, N, .inl (tkB f N g (k * 64) 64))), (qs2, .inr (1, [.ref qb2])), (qb2, .inr (0, [.ref qa2])), (qa2, .inl (cB2, N, .inl g))]) hP hD hK hS [0, 1, 2, 3, 4, 5, 6] [0, 1] rfl rfl rfl (rfl) dX2_mend_18

def wtN (ct : Int32) (tt : Nat) : Nat := if ct = 0 then tt else 64
def wcI (ct : Int32) : Int32 := if ct = 0 then ct else if ct ≤ 0 then ct else ct - 1

def wwI (ct : Int32) : Int32 := (if ct = 0 then 0 else (if ct ≤ 0 then 1 else 1))
set_option maxHeartbeats 4000000 in
set_option maxRecDepth 100000 in
theorem kX2_writeWhole (l : Launch) (dC : Nat → ClassId) (dI : Nat → Nat → Nat) (sz : Nat) (qh qs0 qs1 qsm qbc qs qb qa qbm qam : Nat) (cB cBm : ClassId) (n : Nat) (f mm : Nat → Int32) (N : Nat) (cb rw ak dn ct : Int32) (tt : Nat) (md wr : Int32) (k : Nat) (hN : N < 2 ^ 31) (hk : k < 1000) (htt : tt ≤ 63) : Mi_ l yX2_writeWhole wsX2_writeWhole 2 47 dC dI (fun _ => True) [.ref qh, .ref qs, .int (nI k)] [(qh, .inr (2, [.int (nI n), .ref qs0, .ref qs1, .ref qsm, .ref qbc, .int cb, .int rw, .int ak, .int dn, .int ct, .int (nI tt), .int md, .int wr])), (qs, .inr (1, [.ref qb])), (qb, .inr (0, [.ref qa])), (qa, .inl (cB, N, .inl f)), (qsm, .inr (1, [.ref qbm])), (qbm, .inr (0, [.ref qam])), (qam, .inl (cBm, N, .inl mm))] [(cB, .byte), (cBm, .byte)] sz (wwI ct) [(qh, .inr (2, [.int (nI n), .ref qs0, .ref qs1, .ref qsm, .ref qbc, .int cb, .int rw, .int ak, .int dn, .int (wcI ct), .int (nI tt), .int md, .int (wr + 1)])), (qs, .inr (1, [.ref qb])), (qb, .inr (0, [.ref qa])), (qa, .inl (cB, N, .inl (tkB f N mm (k * 64) (wtN ct tt)))), (qsm, .inr (1, [.ref qbm])), (qbm, .inr (0, [.ref qam])), (qam, .inl (cBm, N, .inl mm))] := by
  refine hm_ (cc := cX2_writeWhole) (maxL := 3) (ret := (some .boolean)) (Qc := fun A => va_Qi (fun (r9 : Int32) (_ : Unit) => r9 = wwI ct) (fun _ t9 => qw_ dC dI A [(qh, .inr (2, [.int (nI n), .ref qs0, .ref qs1, .ref qsm, .ref qbc, .int cb, .int rw, .int ak, .int dn, .int (wcI ct), .int (nI tt), .int md, .int (wr + 1)])), (qs, .inr (1, [.ref qb])), (qb, .inr (0, [.ref qa])), (qa, .inl (cB, N, .inl (tkB f N mm (k * 64) (wtN ct tt)))), (qsm, .inr (1, [.ref qbm])), (qbm, .inr (0, [.ref qam])), (qam, .inl (cBm, N, .inl mm))] [(cB, .byte), (cBm, .byte)] t9) A) (by decide) rfl (Nat.le_of_ble_eq_true rfl) ?_
  intro p e s m below meth c A H locs ls hx hb hr hml hts hown hlocks hsz hP hK hD hE hA hS hl
  have hl : lv_has ls 3 [(0, .ref qh), (1, .ref qs), (2, .int (nI k))] := hl
  have hown : s.vm.findClass RX2 = some m.cls := hown
  refine lv_aload_n hx hb dX2_writeWhole_0 rfl (lv_at hl 0 rfl) ?_
  refine lv_dup hx hb dX2_writeWhole_1 rfl ?_
  refine va_get (D := (dC, dI)) (ci := 2) (v := .int wr) (C := RX2) (T := TX2) (N := 13) hx hb hts (by decide +kernel) hown hK hP 0 rfl rfl 12 (by decide) (hts (.fieldLink RX2 156 "HouseLog" "writes" "I") (by decide +kernel)) (fun _ h9 => h9) rfl dX2_writeWhole_2 ?_
  refine lv_iconst (v := 1) hx hb dX2_writeWhole_5 (by decide) ?_
  refine lv_iadd hx hb dX2_writeWhole_6 ?_
  refine va_put (D := (dC, dI)) (ci := 2) (v := .int (wr + 1)) (ty := .int) (C := RX2) (T := TX2) (N := 13) hx hb hts (by decide +kernel) tyX2 tyX2_ok nmX2 hown hK hP hD hS 0 rfl rfl 12 (by decide) (hts (.fieldLink RX2 156 "HouseLog" "writes" "I") (by decide +kernel)) (fun _ h9 => h9) rfl (by decide +kernel) rfl rfl (Nat.le_of_ble_eq_true rfl) dX2_writeWhole_7 (fun H locs hP hD hS => ?_)
  have hP : va_P (dC, dI) hlCl [(qh, .inr (2, [.int (nI n), .ref qs0, .ref qs1, .ref qsm, .ref qbc, .int cb, .int rw, .int ak, .int dn, .int ct, .int (nI tt), .int md, .int (wr + 1)])), (qs, .inr (1, [.ref qb])), (qb, .inr (0, [.ref qa])), (qa, .inl (cB, N, .inl f)), (qsm, .inr (1, [.ref qbm])), (qbm, .inr (0, [.ref qam])), (qam, .inl (cBm, N, .inl mm))] H := hP
  have hD : va_D A [(qh, .inr (2, [.int (nI n), .ref qs0, .ref qs1, .ref qsm, .ref qbc, .int cb, .int rw, .int ak, .int dn, .int ct, .int (nI tt), .int md, .int (wr + 1)])), (qs, .inr (1, [.ref qb])), (qb, .inr (0, [.ref qa])), (qa, .inl (cB, N, .inl f)), (qsm, .inr (1, [.ref qbm])), (qbm, .inr (0, [.ref qam])), (qam, .inl (cBm, N, .inl mm))] := hD
  refine lv_aload_n hx hb dX2_writeWhole_10 rfl (lv_at hl 0 rfl) ?_
  refine va_get (D := (dC, dI)) (ci := 2) (v := .int ct) (C := RX2) (T := TX2) (N := 13) hx hb hts (by decide +kernel) hown hK hP 0 rfl rfl 9 (by decide) (hts (.fieldLink RX2 44 "HouseLog" "writesUntilCut" "I") (by decide +kernel)) (fun _ h9 => h9) rfl dX2_writeWhole_11 ?_
  refine lv_if_ne (tgt := 32) hx hb dX2_writeWhole_14 (by decide) (fun c_14 => ?_) (fun c_14 => ?_)
  · skip
    refine lv_aload_n hx hb dX2_writeWhole_32 rfl (lv_at hl 0 rfl) ?_
    refine va_get (D := (dC, dI)) (ci := 2) (v := .int ct) (C := RX2) (T := TX2) (N := 13) hx hb hts (by decide +kernel) hown hK hP 0 rfl rfl 9 (by decide) (hts (.fieldLink RX2 44 "HouseLog" "writesUntilCut" "I") (by decide +kernel)) (fun _ h9 => h9) rfl dX2_writeWhole_33 ?_
    refine lv_if_le (tgt := 49) hx hb dX2_writeWhole_36 (by decide) (fun c_36 => ?_) (fun c_36 => ?_)
    · skip
      refine lv_aload_n hx hb dX2_writeWhole_49 rfl (lv_at hl 1 rfl) ?_
      refine lv_aload_n hx hb dX2_writeWhole_50 rfl (lv_at hl 0 rfl) ?_
      refine va_get (D := (dC, dI)) (ci := 2) (v := .ref qsm) (C := RX2) (T := TX2) (N := 13) hx hb hts (by decide +kernel) hown hK hP 0 rfl rfl 3 (by decide) (hts (.fieldLink RX2 34 "HouseLog" "memory" "LHouseLog$Sectors;") (by decide +kernel)) (fun _ h9 => h9) rfl dX2_writeWhole_51 ?_
      refine lv_iload_n hx hb dX2_writeWhole_54 rfl (lv_at hl 2 rfl) ?_
      refine lv_bipush (v := 64) hx hb dX2_writeWhole_55 (by decide) ?_
      refine hc_vV (As := [.ref qsm, .int (nI k), .int 64]) (rest := []) (wr := [(qh, .inr (2, [.int (nI n), .ref qs0, .ref qs1, .ref qsm, .ref qbc, .int cb, .int rw, .int ak, .int dn, .int ct, .int (nI tt), .int md, .int (wr + 1)]))]) ⟨hx, hb, hml, hown, hts⟩ sx_T trivial (kX1_take l dC dI H.size qs qb qa qsm qbm qam cB cBm f N mm k 64 (hN) (hk) (by decide)) (cwV 3 hts gX2_writeWhole_X1_take rfl rfl rfl (by decide +kernel) ⟨Nat.le_of_ble_eq_true rfl, Nat.le_of_ble_eq_true rfl⟩) hK hP hD hS hA [1, 2, 3, 4, 5, 6] [0] [0, 1] rfl rfl rfl rfl rfl (by decide) (ci := 1) rfl rfl rfl rfl hl.1 rfl (Nat.le_of_ble_eq_true rfl) dX2_writeWhole_57 ⟨Nat.zero_le _, Nat.zero_le _⟩ (fun H locs hP hD hS => ?_)
      have hP : va_P (dC, dI) hlCl [(qh, .inr (2, [.int (nI n), .ref qs0, .ref qs1, .ref qsm, .ref qbc, .int cb, .int rw, .int ak, .int dn, .int ct, .int (nI tt), .int md, .int (wr + 1)])), (qs, .inr (1, [.ref qb])), (qb, .inr (0, [.ref qa])), (qa, .inl (cB, N, .inl (tkB f N mm (k * 64) 64))), (qsm, .inr (1, [.ref qbm])), (qbm, .inr (0, [.ref qam])), (qam, .inl (cBm, N, .inl mm))] H := hP
      have hD : va_D A [(qh, .inr (2, [.int (nI n), .ref qs0, .ref qs1, .ref qsm, .ref qbc, .int cb, .int rw, .int ak, .int dn, .int ct, .int (nI tt), .int md, .int (wr + 1)])), (qs, .inr (1, [.ref qb])), (qb, .inr (0, [.ref qa])), (qa, .inl (cB, N, .inl (tkB f N mm (k * 64) 64))), (qsm, .inr (1, [.ref qbm])), (qbm, .inr (0, [.ref qam])), (qam, .inl (cBm, N, .inl mm))] := hD
      refine lv_iconst (v := 1) hx hb dX2_writeWhole_60 (by decide) ?_
      exact hr_z (v := 1) hx hb hr hlocks (by decide) (w1 := [(qh, .inr (2, [.int (nI n), .ref qs0, .ref qs1, .ref qsm, .ref qbc, .int cb, .int rw, .int ak, .int dn, .int ct, .int (nI tt), .int md, .int (wr + 1)])), (qs, .inr (1, [.ref qb])), (qb, .inr (0, [.ref qa])), (qa, .inl (cB, N, .inl (tkB f N mm (k * 64) 64))), (qsm, .inr (1, [.ref qbm])), (qbm, .inr (0, [.ref qam])), (qam, .inl (cBm, N, .inl mm))]) hP hD hK hS [0, 1, 2, 3, 4, 5, 6] [0, 1] rfl rfl rfl (by unfold wwI; rw [if_neg c_14, if_pos c_36]) (by simp only [wtN, wcI, if_neg c_14, if_pos c_36]) dX2_writeWhole_61
    · skip
      refine lv_aload_n hx hb dX2_writeWhole_39 rfl (lv_at hl 0 rfl) ?_
      refine lv_dup hx hb dX2_writeWhole_40 rfl ?_
      refine va_get (D := (dC, dI)) (ci := 2) (v := .int ct) (C := RX2) (T := TX2) (N := 13) hx hb hts (by decide +kernel) hown hK hP 0 rfl rfl 9 (by decide) (hts (.fieldLink RX2 44 "HouseLog" "writesUntilCut" "I") (by decide +kernel)) (fun _ h9 => h9) rfl dX2_writeWhole_41 ?_
      refine lv_iconst (v := 1) hx hb dX2_writeWhole_44 (by decide) ?_
      refine lv_isub hx hb dX2_writeWhole_45 ?_
      refine va_put (D := (dC, dI)) (ci := 2) (v := .int (ct - 1)) (ty := .int) (C := RX2) (T := TX2) (N := 13) hx hb hts (by decide +kernel) tyX2 tyX2_ok nmX2 hown hK hP hD hS 0 rfl rfl 9 (by decide) (hts (.fieldLink RX2 44 "HouseLog" "writesUntilCut" "I") (by decide +kernel)) (fun _ h9 => h9) rfl (by decide +kernel) rfl rfl (Nat.le_of_ble_eq_true rfl) dX2_writeWhole_46 (fun H locs hP hD hS => ?_)
      have hP : va_P (dC, dI) hlCl [(qh, .inr (2, [.int (nI n), .ref qs0, .ref qs1, .ref qsm, .ref qbc, .int cb, .int rw, .int ak, .int dn, .int (ct - 1), .int (nI tt), .int md, .int (wr + 1)])), (qs, .inr (1, [.ref qb])), (qb, .inr (0, [.ref qa])), (qa, .inl (cB, N, .inl f)), (qsm, .inr (1, [.ref qbm])), (qbm, .inr (0, [.ref qam])), (qam, .inl (cBm, N, .inl mm))] H := hP
      have hD : va_D A [(qh, .inr (2, [.int (nI n), .ref qs0, .ref qs1, .ref qsm, .ref qbc, .int cb, .int rw, .int ak, .int dn, .int (ct - 1), .int (nI tt), .int md, .int (wr + 1)])), (qs, .inr (1, [.ref qb])), (qb, .inr (0, [.ref qa])), (qa, .inl (cB, N, .inl f)), (qsm, .inr (1, [.ref qbm])), (qbm, .inr (0, [.ref qam])), (qam, .inl (cBm, N, .inl mm))] := hD
      refine lv_aload_n hx hb dX2_writeWhole_49 rfl (lv_at hl 1 rfl) ?_
      refine lv_aload_n hx hb dX2_writeWhole_50 rfl (lv_at hl 0 rfl) ?_
      refine va_get (D := (dC, dI)) (ci := 2) (v := .ref qsm) (C := RX2) (T := TX2) (N := 13) hx hb hts (by decide +kernel) hown hK hP 0 rfl rfl 3 (by decide) (hts (.fieldLink RX2 34 "HouseLog" "memory" "LHouseLog$Sectors;") (by decide +kernel)) (fun _ h9 => h9) rfl dX2_writeWhole_51 ?_
      refine lv_iload_n hx hb dX2_writeWhole_54 rfl (lv_at hl 2 rfl) ?_
      refine lv_bipush (v := 64) hx hb dX2_writeWhole_55 (by decide) ?_
      refine hc_vV (As := [.ref qsm, .int (nI k), .int 64]) (rest := []) (wr := [(qh, .inr (2, [.int (nI n), .ref qs0, .ref qs1, .ref qsm, .ref qbc, .int cb, .int rw, .int ak, .int dn, .int (ct - 1), .int (nI tt), .int md, .int (wr + 1)]))]) ⟨hx, hb, hml, hown, hts⟩ sx_T trivial (kX1_take l dC dI H.size qs qb qa qsm qbm qam cB cBm f N mm k 64 (hN) (hk) (by decide)) (cwV 3 hts gX2_writeWhole_X1_take rfl rfl rfl (by decide +kernel) ⟨Nat.le_of_ble_eq_true rfl, Nat.le_of_ble_eq_true rfl⟩) hK hP hD hS hA [1, 2, 3, 4, 5, 6] [0] [0, 1] rfl rfl rfl rfl rfl (by decide) (ci := 1) rfl rfl rfl rfl hl.1 rfl (Nat.le_of_ble_eq_true rfl) dX2_writeWhole_57 ⟨Nat.zero_le _, Nat.zero_le _⟩ (fun H locs hP hD hS => ?_)
      have hP : va_P (dC, dI) hlCl [(qh, .inr (2, [.int (nI n), .ref qs0, .ref qs1, .ref qsm, .ref qbc, .int cb, .int rw, .int ak, .int dn, .int (ct - 1), .int (nI tt), .int md, .int (wr + 1)])), (qs, .inr (1, [.ref qb])), (qb, .inr (0, [.ref qa])), (qa, .inl (cB, N, .inl (tkB f N mm (k * 64) 64))), (qsm, .inr (1, [.ref qbm])), (qbm, .inr (0, [.ref qam])), (qam, .inl (cBm, N, .inl mm))] H := hP
      have hD : va_D A [(qh, .inr (2, [.int (nI n), .ref qs0, .ref qs1, .ref qsm, .ref qbc, .int cb, .int rw, .int ak, .int dn, .int (ct - 1), .int (nI tt), .int md, .int (wr + 1)])), (qs, .inr (1, [.ref qb])), (qb, .inr (0, [.ref qa])), (qa, .inl (cB, N, .inl (tkB f N mm (k * 64) 64))), (qsm, .inr (1, [.ref qbm])), (qbm, .inr (0, [.ref qam])), (qam, .inl (cBm, N, .inl mm))] := hD
      refine lv_iconst (v := 1) hx hb dX2_writeWhole_60 (by decide) ?_
      exact hr_z (v := 1) hx hb hr hlocks (by decide) (w1 := [(qh, .inr (2, [.int (nI n), .ref qs0, .ref qs1, .ref qsm, .ref qbc, .int cb, .int rw, .int ak, .int dn, .int (ct - 1), .int (nI tt), .int md, .int (wr + 1)])), (qs, .inr (1, [.ref qb])), (qb, .inr (0, [.ref qa])), (qa, .inl (cB, N, .inl (tkB f N mm (k * 64) 64))), (qsm, .inr (1, [.ref qbm])), (qbm, .inr (0, [.ref qam])), (qam, .inl (cBm, N, .inl mm))]) hP hD hK hS [0, 1, 2, 3, 4, 5, 6] [0, 1] rfl rfl rfl (by unfold wwI; rw [if_neg c_14, if_neg c_36]) (by simp only [wtN, wcI, if_neg c_14, if_neg c_36]) dX2_writeWhole_61
  · skip
    refine lv_aload_n hx hb dX2_writeWhole_17 rfl (lv_at hl 1 rfl) ?_
    refine lv_aload_n hx hb dX2_writeWhole_18 rfl (lv_at hl 0 rfl) ?_
    refine va_get (D := (dC, dI)) (ci := 2) (v := .ref qsm) (C := RX2) (T := TX2) (N := 13) hx hb hts (by decide +kernel) hown hK hP 0 rfl rfl 3 (by decide) (hts (.fieldLink RX2 34 "HouseLog" "memory" "LHouseLog$Sectors;") (by decide +kernel)) (fun _ h9 => h9) rfl dX2_writeWhole_19 ?_
    refine lv_iload_n hx hb dX2_writeWhole_22 rfl (lv_at hl 2 rfl) ?_
    refine lv_aload_n hx hb dX2_writeWhole_23 rfl (lv_at hl 0 rfl) ?_
    refine va_get (D := (dC, dI)) (ci := 2) (v := .int (nI tt)) (C := RX2) (T := TX2) (N := 13) hx hb hts (by decide +kernel) hown hK hP 0 rfl rfl 10 (by decide) (hts (.fieldLink RX2 93 "HouseLog" "tornBytes" "I") (by decide +kernel)) (fun _ h9 => h9) rfl dX2_writeWhole_24 ?_
    refine hc_vV (As := [.ref qsm, .int (nI k), .int (nI tt)]) (rest := []) (wr := [(qh, .inr (2, [.int (nI n), .ref qs0, .ref qs1, .ref qsm, .ref qbc, .int cb, .int rw, .int ak, .int dn, .int ct, .int (nI tt), .int md, .int (wr + 1)]))]) ⟨hx, hb, hml, hown, hts⟩ sx_T trivial (kX1_take l dC dI H.size qs qb qa qsm qbm qam cB cBm f N mm k tt (hN) (hk) (by omega)) (cwV 3 hts gX2_writeWhole_X1_take rfl rfl rfl (by decide +kernel) ⟨Nat.le_of_ble_eq_true rfl, Nat.le_of_ble_eq_true rfl⟩) hK hP hD hS hA [1, 2, 3, 4, 5, 6] [0] [0, 1] rfl rfl rfl rfl rfl (by decide) (ci := 1) rfl rfl rfl rfl hl.1 rfl (Nat.le_of_ble_eq_true rfl) dX2_writeWhole_27 ⟨Nat.zero_le _, Nat.zero_le _⟩ (fun H locs hP hD hS => ?_)
    have hP : va_P (dC, dI) hlCl [(qh, .inr (2, [.int (nI n), .ref qs0, .ref qs1, .ref qsm, .ref qbc, .int cb, .int rw, .int ak, .int dn, .int ct, .int (nI tt), .int md, .int (wr + 1)])), (qs, .inr (1, [.ref qb])), (qb, .inr (0, [.ref qa])), (qa, .inl (cB, N, .inl (tkB f N mm (k * 64) tt))), (qsm, .inr (1, [.ref qbm])), (qbm, .inr (0, [.ref qam])), (qam, .inl (cBm, N, .inl mm))] H := hP
    have hD : va_D A [(qh, .inr (2, [.int (nI n), .ref qs0, .ref qs1, .ref qsm, .ref qbc, .int cb, .int rw, .int ak, .int dn, .int ct, .int (nI tt), .int md, .int (wr + 1)])), (qs, .inr (1, [.ref qb])), (qb, .inr (0, [.ref qa])), (qa, .inl (cB, N, .inl (tkB f N mm (k * 64) tt))), (qsm, .inr (1, [.ref qbm])), (qbm, .inr (0, [.ref qam])), (qam, .inl (cBm, N, .inl mm))] := hD
    refine lv_iconst (v := 0) hx hb dX2_writeWhole_30 (by decide) ?_
    exact hr_z (v := 0) hx hb hr hlocks (by decide) (w1 := [(qh, .inr (2, [.int (nI n), .ref qs0, .ref qs1, .ref qsm, .ref qbc, .int cb, .int rw, .int ak, .int dn, .int ct, .int (nI tt), .int md, .int (wr + 1)])), (qs, .inr (1, [.ref qb])), (qb, .inr (0, [.ref qa])), (qa, .inl (cB, N, .inl (tkB f N mm (k * 64) tt))), (qsm, .inr (1, [.ref qbm])), (qbm, .inr (0, [.ref qam])), (qam, .inl (cBm, N, .inl mm))]) hP hD hK hS [0, 1, 2, 3, 4, 5, 6] [0, 1] rfl rfl rfl (by unfold wwI; rw [if_pos c_14]) (by simp only [wtN, wcI, if_pos c_14]) dX2_writeWhole_31

def fr0 (c0 c1 : Nat → Int32) (N k : Nat) : Nat → Int32 := if rtI c0 N k = 0 then (if rtI c1 N k = 0 then c0 else tkB c0 N c1 (k * 64) 64) else c0
def fr1 (c0 c1 : Nat → Int32) (N k : Nat) : Nat → Int32 := if rtI c0 N k = 0 then c1 else (if rtI c1 N k = 0 then tkB c1 N c0 (k * 64) 64 else c1)
def frm (c0 c1 mm : Nat → Int32) (N k : Nat) : Nat → Int32 := if rtI c0 N k = 0 then (if rtI c1 N k = 0 then mm else tkB mm N (tkB c0 N c1 (k * 64) 64) (k * 64) 64) else tkB mm N c0 (k * 64) 64
def frd (c0 c1 : Nat → Int32) (N k : Nat) (md : Int32) : Int32 := if rtI c0 N k = 0 then (if rtI c1 N k = 0 then md else md + 1) else (if rtI c1 N k = 0 then md + 1 else md)

def frI (c0 c1 : Nat → Int32) (N : Nat) (k : Nat) : Int32 := (if (rtI c0 N k) = 0 then (if (rtI c1 N k) = 0 then 0 else 1) else (if (rtI c1 N k) = 0 then 1 else 1))
set_option maxHeartbeats 4000000 in
set_option maxRecDepth 100000 in
theorem kX2_findRow (l : Launch) (dC : Nat → ClassId) (dI : Nat → Nat → Nat) (sz : Nat) (qh qs0 qb0 qa0 qs1 qb1 qa1 qsm qbm qam qbc : Nat) (cB0 cB1 cBm : ClassId) (n : Nat) (c0 c1 mm : Nat → Int32) (N : Nat) (cb rw ak dn ct tn md wr : Int32) (k : Nat) (hN : N < 2 ^ 31) (hk : k < 1000) : Mi_ l yX2_findRow wsX2_findRow 5 105 dC dI zN [.ref qh, .int (nI k)] [(qh, .inr (2, [.int (nI n), .ref qs0, .ref qs1, .ref qsm, .ref qbc, .int cb, .int rw, .int ak, .int dn, .int ct, .int tn, .int md, .int wr])), (qs0, .inr (1, [.ref qb0])), (qb0, .inr (0, [.ref qa0])), (qa0, .inl (cB0, N, .inl c0)), (qs1, .inr (1, [.ref qb1])), (qb1, .inr (0, [.ref qa1])), (qa1, .inl (cB1, N, .inl c1)), (qsm, .inr (1, [.ref qbm])), (qbm, .inr (0, [.ref qam])), (qam, .inl (cBm, N, .inl mm))] [(cB0, .byte), (cB1, .byte), (cBm, .byte)] sz (frI c0 c1 N k) [(qh, .inr (2, [.int (nI n), .ref qs0, .ref qs1, .ref qsm, .ref qbc, .int cb, .int rw, .int ak, .int dn, .int ct, .int tn, .int (frd c0 c1 N k md), .int wr])), (qs0, .inr (1, [.ref qb0])), (qb0, .inr (0, [.ref qa0])), (qa0, .inl (cB0, N, .inl (fr0 c0 c1 N k))), (qs1, .inr (1, [.ref qb1])), (qb1, .inr (0, [.ref qa1])), (qa1, .inl (cB1, N, .inl (fr1 c0 c1 N k))), (qsm, .inr (1, [.ref qbm])), (qbm, .inr (0, [.ref qam])), (qam, .inl (cBm, N, .inl (frm c0 c1 mm N k)))] := by
  refine hm_ (cc := cX2_findRow) (maxL := 4) (ret := (some .boolean)) (Qc := fun A => va_Qi (fun (r9 : Int32) (_ : Unit) => r9 = frI c0 c1 N k) (fun _ t9 => qw_ dC dI A [(qh, .inr (2, [.int (nI n), .ref qs0, .ref qs1, .ref qsm, .ref qbc, .int cb, .int rw, .int ak, .int dn, .int ct, .int tn, .int (frd c0 c1 N k md), .int wr])), (qs0, .inr (1, [.ref qb0])), (qb0, .inr (0, [.ref qa0])), (qa0, .inl (cB0, N, .inl (fr0 c0 c1 N k))), (qs1, .inr (1, [.ref qb1])), (qb1, .inr (0, [.ref qa1])), (qa1, .inl (cB1, N, .inl (fr1 c0 c1 N k))), (qsm, .inr (1, [.ref qbm])), (qbm, .inr (0, [.ref qam])), (qam, .inl (cBm, N, .inl (frm c0 c1 mm N k)))] [(cB0, .byte), (cB1, .byte), (cBm, .byte)] t9) A) (by decide) rfl (Nat.le_of_ble_eq_true rfl) ?_
  intro p e s m below meth c A H locs ls hx hb hr hml hts hown hlocks hsz hP hK hD hE hA hS hl
  have hl : lv_has ls 4 [(0, .ref qh), (1, .int (nI k))] := hl
  have hown : s.vm.findClass RX2 = some m.cls := hown
  refine lv_aload_n hx hb dX2_findRow_0 rfl (lv_at hl 0 rfl) ?_
  refine va_get (D := (dC, dI)) (ci := 2) (v := .ref qs0) (C := RX2) (T := TX2) (N := 13) hx hb hts (by decide +kernel) hown hK hP 0 rfl rfl 1 (by decide) (hts (.fieldLink RX2 27 "HouseLog" "copy0" "LHouseLog$Sectors;") (by decide +kernel)) (fun _ h9 => h9) rfl dX2_findRow_1 ?_
  refine lv_iload_n hx hb dX2_findRow_4 rfl (lv_at hl 1 rfl) ?_
  refine hc_iV (As := [.int (nI k)]) (rest := []) (wr := [(qh, .inr (2, [.int (nI n), .ref qs0, .ref qs1, .ref qsm, .ref qbc, .int cb, .int rw, .int ak, .int dn, .int ct, .int tn, .int md, .int wr])), (qs1, .inr (1, [.ref qb1])), (qb1, .inr (0, [.ref qa1])), (qa1, .inl (cB1, N, .inl c1)), (qsm, .inr (1, [.ref qbm])), (qbm, .inr (0, [.ref qam])), (qam, .inl (cBm, N, .inl mm))]) ⟨hx, hb, hml, hown, hts⟩ sx_N hE (kX1_isRight l dC dI H.size qs0 qb0 qa0 cB0 c0 N k (hN) (hk)) (cwV 1 hts gX2_findRow_X1_isRight rfl rfl rfl (by decide +kernel) ⟨Nat.le_of_ble_eq_true rfl, Nat.le_of_ble_eq_true rfl⟩) hK hP hD hS hA [1, 2, 3] [0, 4, 5, 6, 7, 8, 9] [0] rfl rfl rfl rfl rfl (by decide) (ci := 1) rfl rfl rfl rfl hl.1 rfl (Nat.le_of_ble_eq_true rfl) dX2_findRow_5 ⟨Nat.zero_le _, Nat.zero_le _⟩ (fun H locs hP hD hS => ?_)
  have hP : va_P (dC, dI) hlCl [(qh, .inr (2, [.int (nI n), .ref qs0, .ref qs1, .ref qsm, .ref qbc, .int cb, .int rw, .int ak, .int dn, .int ct, .int tn, .int md, .int wr])), (qs0, .inr (1, [.ref qb0])), (qb0, .inr (0, [.ref qa0])), (qa0, .inl (cB0, N, .inl c0)), (qs1, .inr (1, [.ref qb1])), (qb1, .inr (0, [.ref qa1])), (qa1, .inl (cB1, N, .inl c1)), (qsm, .inr (1, [.ref qbm])), (qbm, .inr (0, [.ref qam])), (qam, .inl (cBm, N, .inl mm))] H := hP.sub [0, 7, 8, 9, 1, 2, 3, 4, 5, 6] rfl
  have hD : va_D A [(qh, .inr (2, [.int (nI n), .ref qs0, .ref qs1, .ref qsm, .ref qbc, .int cb, .int rw, .int ak, .int dn, .int ct, .int tn, .int md, .int wr])), (qs0, .inr (1, [.ref qb0])), (qb0, .inr (0, [.ref qa0])), (qa0, .inl (cB0, N, .inl c0)), (qs1, .inr (1, [.ref qb1])), (qb1, .inr (0, [.ref qa1])), (qa1, .inl (cB1, N, .inl c1)), (qsm, .inr (1, [.ref qbm])), (qbm, .inr (0, [.ref qam])), (qam, .inl (cBm, N, .inl mm))] := hD.sub [0, 7, 8, 9, 1, 2, 3, 4, 5, 6] (by decide) rfl
  refine lv_istore_n (lv' := [(2, .int (rtI c0 N k)), (0, .ref qh), (1, .int (nI k))]) hx hb dX2_findRow_8 rfl hl (by decide) rfl (fun ls hl => ?_)
  refine lv_aload_n hx hb dX2_findRow_9 rfl (lv_at hl 1 rfl) ?_
  refine va_get (D := (dC, dI)) (ci := 2) (v := .ref qs1) (C := RX2) (T := TX2) (N := 13) hx hb hts (by decide +kernel) hown hK hP 0 rfl rfl 2 (by decide) (hts (.fieldLink RX2 31 "HouseLog" "copy1" "LHouseLog$Sectors;") (by decide +kernel)) (fun _ h9 => h9) rfl dX2_findRow_10 ?_
  refine lv_iload_n hx hb dX2_findRow_13 rfl (lv_at hl 2 rfl) ?_
  refine hc_iV (As := [.int (nI k)]) (rest := []) (wr := [(qh, .inr (2, [.int (nI n), .ref qs0, .ref qs1, .ref qsm, .ref qbc, .int cb, .int rw, .int ak, .int dn, .int ct, .int tn, .int md, .int wr])), (qs0, .inr (1, [.ref qb0])), (qb0, .inr (0, [.ref qa0])), (qa0, .inl (cB0, N, .inl c0)), (qsm, .inr (1, [.ref qbm])), (qbm, .inr (0, [.ref qam])), (qam, .inl (cBm, N, .inl mm))]) ⟨hx, hb, hml, hown, hts⟩ sx_N hE (kX1_isRight l dC dI H.size qs1 qb1 qa1 cB1 c1 N k (hN) (hk)) (cwV 1 hts gX2_findRow_X1_isRight rfl rfl rfl (by decide +kernel) ⟨Nat.le_of_ble_eq_true rfl, Nat.le_of_ble_eq_true rfl⟩) hK hP hD hS hA [4, 5, 6] [0, 1, 2, 3, 7, 8, 9] [1] rfl rfl rfl rfl rfl (by decide) (ci := 1) rfl rfl rfl rfl hl.1 rfl (Nat.le_of_ble_eq_true rfl) dX2_findRow_14 ⟨Nat.zero_le _, Nat.zero_le _⟩ (fun H locs hP hD hS => ?_)
  have hP : va_P (dC, dI) hlCl [(qh, .inr (2, [.int (nI n), .ref qs0, .ref qs1, .ref qsm, .ref qbc, .int cb, .int rw, .int ak, .int dn, .int ct, .int tn, .int md, .int wr])), (qs0, .inr (1, [.ref qb0])), (qb0, .inr (0, [.ref qa0])), (qa0, .inl (cB0, N, .inl c0)), (qs1, .inr (1, [.ref qb1])), (qb1, .inr (0, [.ref qa1])), (qa1, .inl (cB1, N, .inl c1)), (qsm, .inr (1, [.ref qbm])), (qbm, .inr (0, [.ref qam])), (qam, .inl (cBm, N, .inl mm))] H := hP.sub [0, 1, 2, 3, 7, 8, 9, 4, 5, 6] rfl
  have hD : va_D A [(qh, .inr (2, [.int (nI n), .ref qs0, .ref qs1, .ref qsm, .ref qbc, .int cb, .int rw, .int ak, .int dn, .int ct, .int tn, .int md, .int wr])), (qs0, .inr (1, [.ref qb0])), (qb0, .inr (0, [.ref qa0])), (qa0, .inl (cB0, N, .inl c0)), (qs1, .inr (1, [.ref qb1])), (qb1, .inr (0, [.ref qa1])), (qa1, .inl (cB1, N, .inl c1)), (qsm, .inr (1, [.ref qbm])), (qbm, .inr (0, [.ref qam])), (qam, .inl (cBm, N, .inl mm))] := hD.sub [0, 1, 2, 3, 7, 8, 9, 4, 5, 6] (by decide) rfl
  refine lv_istore_n (lv' := [(3, .int (rtI c1 N k)), (2, .int (rtI c0 N k)), (0, .ref qh), (1, .int (nI k))]) hx hb dX2_findRow_17 rfl hl (by decide) rfl (fun ls hl => ?_)
  refine lv_iload_n hx hb dX2_findRow_18 rfl (lv_at hl 1 rfl) ?_
  refine lv_if_ne (tgt := 28) hx hb dX2_findRow_19 (by decide) (fun c_19 => ?_) (fun c_19 => ?_)
  · skip
    refine lv_iload_n hx hb dX2_findRow_28 rfl (lv_at hl 1 rfl) ?_
    refine lv_if_ne (tgt := 48) hx hb dX2_findRow_29 (by decide) (fun c_29 => ?_) (fun c_29 => ?_)
    · skip
      refine lv_iload_n hx hb dX2_findRow_48 rfl (lv_at hl 0 rfl) ?_
      refine lv_if_ne (tgt := 65) hx hb dX2_findRow_49 (by decide) (fun c_49 => ?_) (fun c_49 => ?_)
      · skip
        refine lv_aload_n hx hb dX2_findRow_65 rfl (lv_at hl 2 rfl) ?_
        refine va_get (D := (dC, dI)) (ci := 2) (v := .ref qsm) (C := RX2) (T := TX2) (N := 13) hx hb hts (by decide +kernel) hown hK hP 0 rfl rfl 3 (by decide) (hts (.fieldLink RX2 34 "HouseLog" "memory" "LHouseLog$Sectors;") (by decide +kernel)) (fun _ h9 => h9) rfl dX2_findRow_66 ?_
        refine lv_aload_n hx hb dX2_findRow_69 rfl (lv_at hl 2 rfl) ?_
        refine va_get (D := (dC, dI)) (ci := 2) (v := .ref qs0) (C := RX2) (T := TX2) (N := 13) hx hb hts (by decide +kernel) hown hK hP 0 rfl rfl 1 (by decide) (hts (.fieldLink RX2 27 "HouseLog" "copy0" "LHouseLog$Sectors;") (by decide +kernel)) (fun _ h9 => h9) rfl dX2_findRow_70 ?_
        refine lv_iload_n hx hb dX2_findRow_73 rfl (lv_at hl 3 rfl) ?_
        refine lv_bipush (v := 64) hx hb dX2_findRow_74 (by decide) ?_
        refine hc_vV (As := [.ref qs0, .int (nI k), .int 64]) (rest := []) (wr := [(qh, .inr (2, [.int (nI n), .ref qs0, .ref qs1, .ref qsm, .ref qbc, .int cb, .int rw, .int ak, .int dn, .int ct, .int tn, .int md, .int wr])), (qs1, .inr (1, [.ref qb1])), (qb1, .inr (0, [.ref qa1])), (qa1, .inl (cB1, N, .inl c1))]) ⟨hx, hb, hml, hown, hts⟩ sx_T trivial (kX1_take l dC dI H.size qsm qbm qam qs0 qb0 qa0 cBm cB0 mm N c0 k 64 (hN) (hk) (by decide)) (cwV 3 hts gX2_findRow_X1_take rfl rfl rfl (by decide +kernel) ⟨Nat.le_of_ble_eq_true rfl, Nat.le_of_ble_eq_true rfl⟩) hK hP hD hS hA [7, 8, 9, 1, 2, 3] [0, 4, 5, 6] [2, 0] rfl rfl rfl rfl rfl (by decide) (ci := 1) rfl rfl rfl rfl hl.1 rfl (Nat.le_of_ble_eq_true rfl) dX2_findRow_76 ⟨Nat.zero_le _, Nat.zero_le _⟩ (fun H locs hP hD hS => ?_)
        have hP : va_P (dC, dI) hlCl [(qh, .inr (2, [.int (nI n), .ref qs0, .ref qs1, .ref qsm, .ref qbc, .int cb, .int rw, .int ak, .int dn, .int ct, .int tn, .int md, .int wr])), (qs0, .inr (1, [.ref qb0])), (qb0, .inr (0, [.ref qa0])), (qa0, .inl (cB0, N, .inl c0)), (qs1, .inr (1, [.ref qb1])), (qb1, .inr (0, [.ref qa1])), (qa1, .inl (cB1, N, .inl c1)), (qsm, .inr (1, [.ref qbm])), (qbm, .inr (0, [.ref qam])), (qam, .inl (cBm, N, .inl (tkB mm N c0 (k * 64) 64)))] H := hP.sub [0, 7, 8, 9, 1, 2, 3, 4, 5, 6] rfl
        have hD : va_D A [(qh, .inr (2, [.int (nI n), .ref qs0, .ref qs1, .ref qsm, .ref qbc, .int cb, .int rw, .int ak, .int dn, .int ct, .int tn, .int md, .int wr])), (qs0, .inr (1, [.ref qb0])), (qb0, .inr (0, [.ref qa0])), (qa0, .inl (cB0, N, .inl c0)), (qs1, .inr (1, [.ref qb1])), (qb1, .inr (0, [.ref qa1])), (qa1, .inl (cB1, N, .inl c1)), (qsm, .inr (1, [.ref qbm])), (qbm, .inr (0, [.ref qam])), (qam, .inl (cBm, N, .inl (tkB mm N c0 (k * 64) 64)))] := hD.sub [0, 7, 8, 9, 1, 2, 3, 4, 5, 6] (by decide) rfl
        refine lv_iconst (v := 1) hx hb dX2_findRow_79 (by decide) ?_
        exact hr_z (v := 1) hx hb hr hlocks (by decide) (w1 := [(qh, .inr (2, [.int (nI n), .ref qs0, .ref qs1, .ref qsm, .ref qbc, .int cb, .int rw, .int ak, .int dn, .int ct, .int tn, .int md, .int wr])), (qs0, .inr (1, [.ref qb0])), (qb0, .inr (0, [.ref qa0])), (qa0, .inl (cB0, N, .inl c0)), (qs1, .inr (1, [.ref qb1])), (qb1, .inr (0, [.ref qa1])), (qa1, .inl (cB1, N, .inl c1)), (qsm, .inr (1, [.ref qbm])), (qbm, .inr (0, [.ref qam])), (qam, .inl (cBm, N, .inl (tkB mm N c0 (k * 64) 64)))]) hP hD hK hS [0, 1, 2, 3, 4, 5, 6, 7, 8, 9] [0, 1, 2] rfl rfl rfl (by unfold frI; rw [if_neg c_19, if_neg c_49]) (by simp only [fr0, fr1, frm, frd, if_neg c_19, if_neg c_49]) dX2_findRow_80
      · skip
        refine lv_aload_n hx hb dX2_findRow_52 rfl (lv_at hl 2 rfl) ?_
        refine lv_aload_n hx hb dX2_findRow_53 rfl (lv_at hl 2 rfl) ?_
        refine va_get (D := (dC, dI)) (ci := 2) (v := .ref qs1) (C := RX2) (T := TX2) (N := 13) hx hb hts (by decide +kernel) hown hK hP 0 rfl rfl 2 (by decide) (hts (.fieldLink RX2 31 "HouseLog" "copy1" "LHouseLog$Sectors;") (by decide +kernel)) (fun _ h9 => h9) rfl dX2_findRow_54 ?_
        refine lv_aload_n hx hb dX2_findRow_57 rfl (lv_at hl 2 rfl) ?_
        refine va_get (D := (dC, dI)) (ci := 2) (v := .ref qs0) (C := RX2) (T := TX2) (N := 13) hx hb hts (by decide +kernel) hown hK hP 0 rfl rfl 1 (by decide) (hts (.fieldLink RX2 27 "HouseLog" "copy0" "LHouseLog$Sectors;") (by decide +kernel)) (fun _ h9 => h9) rfl dX2_findRow_58 ?_
        refine lv_iload_n hx hb dX2_findRow_61 rfl (lv_at hl 3 rfl) ?_
        refine hc_vV (As := [.ref qs1, .ref qs0, .int (nI k)]) (rest := []) (wr := [(qsm, .inr (1, [.ref qbm])), (qbm, .inr (0, [.ref qam])), (qam, .inl (cBm, N, .inl mm))]) ⟨hx, hb, hml, hown, hts⟩ sx_T trivial (kX2_mend l dC dI H.size qh qs0 qs1 qsm qbc qs1 qb1 qa1 qs0 qb0 qa0 cB1 cB0 n c1 N c0 cb rw ak dn ct tn md wr k (hN) (hk)) (cwV 3 hts gX2_findRow_X2_mend rfl rfl rfl (by decide +kernel) ⟨Nat.le_of_ble_eq_true rfl, Nat.le_of_ble_eq_true rfl⟩) hK hP hD hS hA [0, 4, 5, 6, 1, 2, 3] [7, 8, 9] [1, 0] rfl rfl rfl rfl rfl (by decide) (ci := 2) rfl rfl rfl rfl hl.1 rfl (Nat.le_of_ble_eq_true rfl) dX2_findRow_62 ⟨Nat.zero_le _, Nat.zero_le _⟩ (fun H locs hP hD hS => ?_)
        have hP : va_P (dC, dI) hlCl [(qh, .inr (2, [.int (nI n), .ref qs0, .ref qs1, .ref qsm, .ref qbc, .int cb, .int rw, .int ak, .int dn, .int ct, .int tn, .int (md + 1), .int wr])), (qs0, .inr (1, [.ref qb0])), (qb0, .inr (0, [.ref qa0])), (qa0, .inl (cB0, N, .inl c0)), (qs1, .inr (1, [.ref qb1])), (qb1, .inr (0, [.ref qa1])), (qa1, .inl (cB1, N, .inl (tkB c1 N c0 (k * 64) 64))), (qsm, .inr (1, [.ref qbm])), (qbm, .inr (0, [.ref qam])), (qam, .inl (cBm, N, .inl mm))] H := hP.sub [3, 7, 8, 9, 4, 5, 6, 0, 1, 2] rfl
        have hD : va_D A [(qh, .inr (2, [.int (nI n), .ref qs0, .ref qs1, .ref qsm, .ref qbc, .int cb, .int rw, .int ak, .int dn, .int ct, .int tn, .int (md + 1), .int wr])), (qs0, .inr (1, [.ref qb0])), (qb0, .inr (0, [.ref qa0])), (qa0, .inl (cB0, N, .inl c0)), (qs1, .inr (1, [.ref qb1])), (qb1, .inr (0, [.ref qa1])), (qa1, .inl (cB1, N, .inl (tkB c1 N c0 (k * 64) 64))), (qsm, .inr (1, [.ref qbm])), (qbm, .inr (0, [.ref qam])), (qam, .inl (cBm, N, .inl mm))] := hD.sub [3, 7, 8, 9, 4, 5, 6, 0, 1, 2] (by decide) rfl
        refine lv_aload_n hx hb dX2_findRow_65 rfl (lv_at hl 2 rfl) ?_
        refine va_get (D := (dC, dI)) (ci := 2) (v := .ref qsm) (C := RX2) (T := TX2) (N := 13) hx hb hts (by decide +kernel) hown hK hP 0 rfl rfl 3 (by decide) (hts (.fieldLink RX2 34 "HouseLog" "memory" "LHouseLog$Sectors;") (by decide +kernel)) (fun _ h9 => h9) rfl dX2_findRow_66 ?_
        refine lv_aload_n hx hb dX2_findRow_69 rfl (lv_at hl 2 rfl) ?_
        refine va_get (D := (dC, dI)) (ci := 2) (v := .ref qs0) (C := RX2) (T := TX2) (N := 13) hx hb hts (by decide +kernel) hown hK hP 0 rfl rfl 1 (by decide) (hts (.fieldLink RX2 27 "HouseLog" "copy0" "LHouseLog$Sectors;") (by decide +kernel)) (fun _ h9 => h9) rfl dX2_findRow_70 ?_
        refine lv_iload_n hx hb dX2_findRow_73 rfl (lv_at hl 3 rfl) ?_
        refine lv_bipush (v := 64) hx hb dX2_findRow_74 (by decide) ?_
        refine hc_vV (As := [.ref qs0, .int (nI k), .int 64]) (rest := []) (wr := [(qh, .inr (2, [.int (nI n), .ref qs0, .ref qs1, .ref qsm, .ref qbc, .int cb, .int rw, .int ak, .int dn, .int ct, .int tn, .int (md + 1), .int wr])), (qs1, .inr (1, [.ref qb1])), (qb1, .inr (0, [.ref qa1])), (qa1, .inl (cB1, N, .inl (tkB c1 N c0 (k * 64) 64)))]) ⟨hx, hb, hml, hown, hts⟩ sx_T trivial (kX1_take l dC dI H.size qsm qbm qam qs0 qb0 qa0 cBm cB0 mm N c0 k 64 (hN) (hk) (by decide)) (cwV 3 hts gX2_findRow_X1_take rfl rfl rfl (by decide +kernel) ⟨Nat.le_of_ble_eq_true rfl, Nat.le_of_ble_eq_true rfl⟩) hK hP hD hS hA [7, 8, 9, 1, 2, 3] [0, 4, 5, 6] [2, 0] rfl rfl rfl rfl rfl (by decide) (ci := 1) rfl rfl rfl rfl hl.1 rfl (Nat.le_of_ble_eq_true rfl) dX2_findRow_76 ⟨Nat.zero_le _, Nat.zero_le _⟩ (fun H locs hP hD hS => ?_)
        have hP : va_P (dC, dI) hlCl [(qh, .inr (2, [.int (nI n), .ref qs0, .ref qs1, .ref qsm, .ref qbc, .int cb, .int rw, .int ak, .int dn, .int ct, .int tn, .int (md + 1), .int wr])), (qs0, .inr (1, [.ref qb0])), (qb0, .inr (0, [.ref qa0])), (qa0, .inl (cB0, N, .inl c0)), (qs1, .inr (1, [.ref qb1])), (qb1, .inr (0, [.ref qa1])), (qa1, .inl (cB1, N, .inl (tkB c1 N c0 (k * 64) 64))), (qsm, .inr (1, [.ref qbm])), (qbm, .inr (0, [.ref qam])), (qam, .inl (cBm, N, .inl (tkB mm N c0 (k * 64) 64)))] H := hP.sub [0, 7, 8, 9, 1, 2, 3, 4, 5, 6] rfl
        have hD : va_D A [(qh, .inr (2, [.int (nI n), .ref qs0, .ref qs1, .ref qsm, .ref qbc, .int cb, .int rw, .int ak, .int dn, .int ct, .int tn, .int (md + 1), .int wr])), (qs0, .inr (1, [.ref qb0])), (qb0, .inr (0, [.ref qa0])), (qa0, .inl (cB0, N, .inl c0)), (qs1, .inr (1, [.ref qb1])), (qb1, .inr (0, [.ref qa1])), (qa1, .inl (cB1, N, .inl (tkB c1 N c0 (k * 64) 64))), (qsm, .inr (1, [.ref qbm])), (qbm, .inr (0, [.ref qam])), (qam, .inl (cBm, N, .inl (tkB mm N c0 (k * 64) 64)))] := hD.sub [0, 7, 8, 9, 1, 2, 3, 4, 5, 6] (by decide) rfl
        refine lv_iconst (v := 1) hx hb dX2_findRow_79 (by decide) ?_
        exact hr_z (v := 1) hx hb hr hlocks (by decide) (w1 := [(qh, .inr (2, [.int (nI n), .ref qs0, .ref qs1, .ref qsm, .ref qbc, .int cb, .int rw, .int ak, .int dn, .int ct, .int tn, .int (md + 1), .int wr])), (qs0, .inr (1, [.ref qb0])), (qb0, .inr (0, [.ref qa0])), (qa0, .inl (cB0, N, .inl c0)), (qs1, .inr (1, [.ref qb1])), (qb1, .inr (0, [.ref qa1])), (qa1, .inl (cB1, N, .inl (tkB c1 N c0 (k * 64) 64))), (qsm, .inr (1, [.ref qbm])), (qbm, .inr (0, [.ref qam])), (qam, .inl (cBm, N, .inl (tkB mm N c0 (k * 64) 64)))]) hP hD hK hS [0, 1, 2, 3, 4, 5, 6, 7, 8, 9] [0, 1, 2] rfl rfl rfl (by unfold frI; rw [if_neg c_19, if_pos c_49]) (by simp only [fr0, fr1, frm, frd, if_neg c_19, if_pos c_49]) dX2_findRow_80
    · exact absurd c_29 c_19
  · skip
    refine lv_iload_n hx hb dX2_findRow_22 rfl (lv_at hl 0 rfl) ?_
    refine lv_if_ne (tgt := 28) hx hb dX2_findRow_23 (by decide) (fun c_23 => ?_) (fun c_23 => ?_)
    · skip
      refine lv_iload_n hx hb dX2_findRow_28 rfl (lv_at hl 1 rfl) ?_
      refine lv_if_ne (tgt := 48) hx hb dX2_findRow_29 (by decide) (fun c_29 => ?_) (fun c_29 => ?_)
      · exact absurd c_19 c_29
      · skip
        refine lv_aload_n hx hb dX2_findRow_32 rfl (lv_at hl 2 rfl) ?_
        refine lv_aload_n hx hb dX2_findRow_33 rfl (lv_at hl 2 rfl) ?_
        refine va_get (D := (dC, dI)) (ci := 2) (v := .ref qs0) (C := RX2) (T := TX2) (N := 13) hx hb hts (by decide +kernel) hown hK hP 0 rfl rfl 1 (by decide) (hts (.fieldLink RX2 27 "HouseLog" "copy0" "LHouseLog$Sectors;") (by decide +kernel)) (fun _ h9 => h9) rfl dX2_findRow_34 ?_
        refine lv_aload_n hx hb dX2_findRow_37 rfl (lv_at hl 2 rfl) ?_
        refine va_get (D := (dC, dI)) (ci := 2) (v := .ref qs1) (C := RX2) (T := TX2) (N := 13) hx hb hts (by decide +kernel) hown hK hP 0 rfl rfl 2 (by decide) (hts (.fieldLink RX2 31 "HouseLog" "copy1" "LHouseLog$Sectors;") (by decide +kernel)) (fun _ h9 => h9) rfl dX2_findRow_38 ?_
        refine lv_iload_n hx hb dX2_findRow_41 rfl (lv_at hl 3 rfl) ?_
        refine hc_vV (As := [.ref qs0, .ref qs1, .int (nI k)]) (rest := []) (wr := [(qsm, .inr (1, [.ref qbm])), (qbm, .inr (0, [.ref qam])), (qam, .inl (cBm, N, .inl mm))]) ⟨hx, hb, hml, hown, hts⟩ sx_T trivial (kX2_mend l dC dI H.size qh qs0 qs1 qsm qbc qs0 qb0 qa0 qs1 qb1 qa1 cB0 cB1 n c0 N c1 cb rw ak dn ct tn md wr k (hN) (hk)) (cwV 3 hts gX2_findRow_X2_mend rfl rfl rfl (by decide +kernel) ⟨Nat.le_of_ble_eq_true rfl, Nat.le_of_ble_eq_true rfl⟩) hK hP hD hS hA [0, 1, 2, 3, 4, 5, 6] [7, 8, 9] [0, 1] rfl rfl rfl rfl rfl (by decide) (ci := 2) rfl rfl rfl rfl hl.1 rfl (Nat.le_of_ble_eq_true rfl) dX2_findRow_42 ⟨Nat.zero_le _, Nat.zero_le _⟩ (fun H locs hP hD hS => ?_)
        have hP : va_P (dC, dI) hlCl [(qh, .inr (2, [.int (nI n), .ref qs0, .ref qs1, .ref qsm, .ref qbc, .int cb, .int rw, .int ak, .int dn, .int ct, .int tn, .int (md + 1), .int wr])), (qs0, .inr (1, [.ref qb0])), (qb0, .inr (0, [.ref qa0])), (qa0, .inl (cB0, N, .inl (tkB c0 N c1 (k * 64) 64))), (qs1, .inr (1, [.ref qb1])), (qb1, .inr (0, [.ref qa1])), (qa1, .inl (cB1, N, .inl c1)), (qsm, .inr (1, [.ref qbm])), (qbm, .inr (0, [.ref qam])), (qam, .inl (cBm, N, .inl mm))] H := hP.sub [3, 4, 5, 6, 7, 8, 9, 0, 1, 2] rfl
        have hD : va_D A [(qh, .inr (2, [.int (nI n), .ref qs0, .ref qs1, .ref qsm, .ref qbc, .int cb, .int rw, .int ak, .int dn, .int ct, .int tn, .int (md + 1), .int wr])), (qs0, .inr (1, [.ref qb0])), (qb0, .inr (0, [.ref qa0])), (qa0, .inl (cB0, N, .inl (tkB c0 N c1 (k * 64) 64))), (qs1, .inr (1, [.ref qb1])), (qb1, .inr (0, [.ref qa1])), (qa1, .inl (cB1, N, .inl c1)), (qsm, .inr (1, [.ref qbm])), (qbm, .inr (0, [.ref qam])), (qam, .inl (cBm, N, .inl mm))] := hD.sub [3, 4, 5, 6, 7, 8, 9, 0, 1, 2] (by decide) rfl
        refine lv_goto (tgt := 65) hx hb dX2_findRow_45 (by decide) ?_
        refine lv_aload_n hx hb dX2_findRow_65 rfl (lv_at hl 2 rfl) ?_
        refine va_get (D := (dC, dI)) (ci := 2) (v := .ref qsm) (C := RX2) (T := TX2) (N := 13) hx hb hts (by decide +kernel) hown hK hP 0 rfl rfl 3 (by decide) (hts (.fieldLink RX2 34 "HouseLog" "memory" "LHouseLog$Sectors;") (by decide +kernel)) (fun _ h9 => h9) rfl dX2_findRow_66 ?_
        refine lv_aload_n hx hb dX2_findRow_69 rfl (lv_at hl 2 rfl) ?_
        refine va_get (D := (dC, dI)) (ci := 2) (v := .ref qs0) (C := RX2) (T := TX2) (N := 13) hx hb hts (by decide +kernel) hown hK hP 0 rfl rfl 1 (by decide) (hts (.fieldLink RX2 27 "HouseLog" "copy0" "LHouseLog$Sectors;") (by decide +kernel)) (fun _ h9 => h9) rfl dX2_findRow_70 ?_
        refine lv_iload_n hx hb dX2_findRow_73 rfl (lv_at hl 3 rfl) ?_
        refine lv_bipush (v := 64) hx hb dX2_findRow_74 (by decide) ?_
        refine hc_vV (As := [.ref qs0, .int (nI k), .int 64]) (rest := []) (wr := [(qh, .inr (2, [.int (nI n), .ref qs0, .ref qs1, .ref qsm, .ref qbc, .int cb, .int rw, .int ak, .int dn, .int ct, .int tn, .int (md + 1), .int wr])), (qs1, .inr (1, [.ref qb1])), (qb1, .inr (0, [.ref qa1])), (qa1, .inl (cB1, N, .inl c1))]) ⟨hx, hb, hml, hown, hts⟩ sx_T trivial (kX1_take l dC dI H.size qsm qbm qam qs0 qb0 qa0 cBm cB0 mm N (tkB c0 N c1 (k * 64) 64) k 64 (hN) (hk) (by decide)) (cwV 3 hts gX2_findRow_X1_take rfl rfl rfl (by decide +kernel) ⟨Nat.le_of_ble_eq_true rfl, Nat.le_of_ble_eq_true rfl⟩) hK hP hD hS hA [7, 8, 9, 1, 2, 3] [0, 4, 5, 6] [2, 0] rfl rfl rfl rfl rfl (by decide) (ci := 1) rfl rfl rfl rfl hl.1 rfl (Nat.le_of_ble_eq_true rfl) dX2_findRow_76 ⟨Nat.zero_le _, Nat.zero_le _⟩ (fun H locs hP hD hS => ?_)
        have hP : va_P (dC, dI) hlCl [(qh, .inr (2, [.int (nI n), .ref qs0, .ref qs1, .ref qsm, .ref qbc, .int cb, .int rw, .int ak, .int dn, .int ct, .int tn, .int (md + 1), .int wr])), (qs0, .inr (1, [.ref qb0])), (qb0, .inr (0, [.ref qa0])), (qa0, .inl (cB0, N, .inl (tkB c0 N c1 (k * 64) 64))), (qs1, .inr (1, [.ref qb1])), (qb1, .inr (0, [.ref qa1])), (qa1, .inl (cB1, N, .inl c1)), (qsm, .inr (1, [.ref qbm])), (qbm, .inr (0, [.ref qam])), (qam, .inl (cBm, N, .inl (tkB mm N (tkB c0 N c1 (k * 64) 64) (k * 64) 64)))] H := hP.sub [0, 7, 8, 9, 1, 2, 3, 4, 5, 6] rfl
        have hD : va_D A [(qh, .inr (2, [.int (nI n), .ref qs0, .ref qs1, .ref qsm, .ref qbc, .int cb, .int rw, .int ak, .int dn, .int ct, .int tn, .int (md + 1), .int wr])), (qs0, .inr (1, [.ref qb0])), (qb0, .inr (0, [.ref qa0])), (qa0, .inl (cB0, N, .inl (tkB c0 N c1 (k * 64) 64))), (qs1, .inr (1, [.ref qb1])), (qb1, .inr (0, [.ref qa1])), (qa1, .inl (cB1, N, .inl c1)), (qsm, .inr (1, [.ref qbm])), (qbm, .inr (0, [.ref qam])), (qam, .inl (cBm, N, .inl (tkB mm N (tkB c0 N c1 (k * 64) 64) (k * 64) 64)))] := hD.sub [0, 7, 8, 9, 1, 2, 3, 4, 5, 6] (by decide) rfl
        refine lv_iconst (v := 1) hx hb dX2_findRow_79 (by decide) ?_
        exact hr_z (v := 1) hx hb hr hlocks (by decide) (w1 := [(qh, .inr (2, [.int (nI n), .ref qs0, .ref qs1, .ref qsm, .ref qbc, .int cb, .int rw, .int ak, .int dn, .int ct, .int tn, .int (md + 1), .int wr])), (qs0, .inr (1, [.ref qb0])), (qb0, .inr (0, [.ref qa0])), (qa0, .inl (cB0, N, .inl (tkB c0 N c1 (k * 64) 64))), (qs1, .inr (1, [.ref qb1])), (qb1, .inr (0, [.ref qa1])), (qa1, .inl (cB1, N, .inl c1)), (qsm, .inr (1, [.ref qbm])), (qbm, .inr (0, [.ref qam])), (qam, .inl (cBm, N, .inl (tkB mm N (tkB c0 N c1 (k * 64) 64) (k * 64) 64)))]) hP hD hK hS [0, 1, 2, 3, 4, 5, 6, 7, 8, 9] [0, 1, 2] rfl rfl rfl (by unfold frI; rw [if_pos c_19, if_neg c_23]) (by simp only [fr0, fr1, frm, frd, if_pos c_19, if_neg c_23]) dX2_findRow_80
    · skip
      refine lv_iconst (v := 0) hx hb dX2_findRow_26 (by decide) ?_
      exact hr_z (v := 0) hx hb hr hlocks (by decide) (w1 := [(qh, .inr (2, [.int (nI n), .ref qs0, .ref qs1, .ref qsm, .ref qbc, .int cb, .int rw, .int ak, .int dn, .int ct, .int tn, .int md, .int wr])), (qs0, .inr (1, [.ref qb0])), (qb0, .inr (0, [.ref qa0])), (qa0, .inl (cB0, N, .inl c0)), (qs1, .inr (1, [.ref qb1])), (qb1, .inr (0, [.ref qa1])), (qa1, .inl (cB1, N, .inl c1)), (qsm, .inr (1, [.ref qbm])), (qbm, .inr (0, [.ref qam])), (qam, .inl (cBm, N, .inl mm))]) hP hD hK hS [0, 1, 2, 3, 4, 5, 6, 7, 8, 9] [0, 1, 2] rfl rfl rfl (by unfold frI; rw [if_pos c_19, if_pos c_23]) (by simp only [fr0, fr1, frm, frd, if_pos c_19, if_pos c_23]) dX2_findRow_27
