theorem vin_ {i : Int32} {N : Nat} (hN : N < 2 ^ 31) (h1 : ¬ i < 0) (h2 : ¬ nI N ≤ i) : vp_in i N := by
  obtain ⟨j, hj, e, -⟩ := pk_mu h1 h2 hN
  rw [e]
  exact vp_in_nI hj hN

def gB (f : Nat → Int32) (N : Nat) (i : Int32) : Int32 := (if i < 0 then 0 else (if (nI N) ≤ i then 0 else (f i.toNatClampNeg) &&& 255))
set_option maxHeartbeats 4000000 in
set_option maxRecDepth 100000 in
theorem kX0_get (l : Launch) (dC : Nat → ClassId) (dI : Nat → Nat → Nat) (sz : Nat) (qb qa : Nat) (cB : ClassId) (f : Nat → Int32) (N : Nat) (i : Int32) (hN : N < 2 ^ 31) : Mi_ l yX0_get wsX0_get 0 0 dC dI (fun _ => True) [.ref qb, .int i] [(qb, .inr (0, [.ref qa])), (qa, .inl (cB, N, .inl f))] [(cB, .byte)] sz (gB f N i) [(qb, .inr (0, [.ref qa])), (qa, .inl (cB, N, .inl f))] := by
  refine hm_ (cc := cX0_get) (maxL := 2) (ret := (some .int)) (Qc := fun A => va_Qi (fun (r9 : Int32) (_ : Unit) => r9 = gB f N i) (fun _ t9 => qw_ dC dI A [(qb, .inr (0, [.ref qa])), (qa, .inl (cB, N, .inl f))] [(cB, .byte)] t9) A) (by decide) rfl (Nat.le_of_ble_eq_true rfl) ?_
  intro p e s m below meth c A H locs ls hx hb hr hml hts hown hlocks hsz hP hK hD hE hA hS hl
  have hl : lv_has ls 2 [(0, .ref qb), (1, .int i)] := hl
  have hown : s.vm.findClass RX0 = some m.cls := hown
  refine lv_iload_n hx hb dX0_get_0 rfl (lv_at hl 1 rfl) ?_
  refine lv_if_lt (tgt := 26) hx hb dX0_get_1 (by decide) (fun c_1 => ?_) (fun c_1 => ?_)
  · skip
    refine lv_iconst (v := 0) hx hb dX0_get_26 (by decide) ?_
    exact hr_i (v := 0) hx hb hr hlocks (w1 := [(qb, .inr (0, [.ref qa])), (qa, .inl (cB, N, .inl f))]) hP hD hK hS [0, 1] [0] rfl rfl rfl (by unfold gB; rw [if_pos c_1]) (rfl) dX0_get_27
  · skip
    refine lv_iload_n hx hb dX0_get_4 rfl (lv_at hl 1 rfl) ?_
    refine lv_aload_n hx hb dX0_get_5 rfl (lv_at hl 0 rfl) ?_
    refine va_get (D := (dC, dI)) (ci := 0) (v := .ref qa) (C := RX0) (T := TX0) (N := 1) hx hb hts (by decide +kernel) hown hK hP 0 rfl rfl 0 (by decide) (hts (.fieldLink RX0 15 "HouseLog$Bytes" "held" "[B") (by decide +kernel)) (fun _ h9 => h9) rfl dX0_get_6 ?_
    refine va_alen hx hb hK hP 1 0 rfl rfl (v := nI N) rfl dX0_get_9 ?_
    refine lv_icmp_ge (tgt := 26) hx hb dX0_get_10 (by decide) (fun c_10 => ?_) (fun c_10 => ?_)
    · skip
      refine lv_iconst (v := 0) hx hb dX0_get_26 (by decide) ?_
      exact hr_i (v := 0) hx hb hr hlocks (w1 := [(qb, .inr (0, [.ref qa])), (qa, .inl (cB, N, .inl f))]) hP hD hK hS [0, 1] [0] rfl rfl rfl (by unfold gB; rw [if_neg c_1, if_pos c_10]) (rfl) dX0_get_27
    · skip
      refine lv_aload_n hx hb dX0_get_13 rfl (lv_at hl 0 rfl) ?_
      refine va_get (D := (dC, dI)) (ci := 0) (v := .ref qa) (C := RX0) (T := TX0) (N := 1) hx hb hts (by decide +kernel) hown hK hP 0 rfl rfl 0 (by decide) (hts (.fieldLink RX0 15 "HouseLog$Bytes" "held" "[B") (by decide +kernel)) (fun _ h9 => h9) rfl dX0_get_14 ?_
      refine lv_iload_n hx hb dX0_get_17 rfl (lv_at hl 1 rfl) ?_
      refine va_bald hx hb hK hP 1 0 rfl rfl (i := i) (vin_ hN c_1 c_10) dX0_get_18 ?_
      refine lv_sipush (v := 255) hx hb dX0_get_19 (by decide) ?_
      refine lv_iand hx hb dX0_get_22 ?_
      refine lv_goto (tgt := 27) hx hb dX0_get_23 (by decide) ?_
      exact hr_i (v := (f i.toNatClampNeg) &&& 255) hx hb hr hlocks (w1 := [(qb, .inr (0, [.ref qa])), (qa, .inl (cB, N, .inl f))]) hP hD hK hS [0, 1] [0] rfl rfl rfl (by unfold gB; rw [if_neg c_1, if_neg c_10]) (rfl) dX0_get_27

def sB (f : Nat → Int32) (N : Nat) (i x : Int32) : Nat → Int32 := if i < 0 then f else if nI N ≤ i then f else upd f i.toNatClampNeg x.toInt8.toInt32

set_option maxHeartbeats 4000000 in
set_option maxRecDepth 100000 in
theorem kX0_set (l : Launch) (dC : Nat → ClassId) (dI : Nat → Nat → Nat) (sz : Nat) (qb qa : Nat) (cB : ClassId) (f : Nat → Int32) (N : Nat) (i x : Int32) (hN : N < 2 ^ 31) : Mv_ l yX0_set wsX0_set 0 0 dC dI (fun _ => True) [.ref qb, .int i, .int x] [(qb, .inr (0, [.ref qa])), (qa, .inl (cB, N, .inl f))] [(cB, .byte)] sz [(qb, .inr (0, [.ref qa])), (qa, .inl (cB, N, .inl (sB f N i x)))] := by
  refine hm_ (cc := cX0_set) (maxL := 3) (ret := none) (Qc := fun A => va_Qv (fun (_ : Unit) => True) (fun _ t9 => qw_ dC dI A [(qb, .inr (0, [.ref qa])), (qa, .inl (cB, N, .inl (sB f N i x)))] [(cB, .byte)] t9) A) (by decide) rfl (Nat.le_of_ble_eq_true rfl) ?_
  intro p e s m below meth c A H locs ls hx hb hr hml hts hown hlocks hsz hP hK hD hE hA hS hl
  have hl : lv_has ls 3 [(0, .ref qb), (1, .int i), (2, .int x)] := hl
  have hown : s.vm.findClass RX0 = some m.cls := hown
  refine lv_iload_n hx hb dX0_set_0 rfl (lv_at hl 1 rfl) ?_
  refine lv_if_lt (tgt := 21) hx hb dX0_set_1 (by decide) (fun c_1 => ?_) (fun c_1 => ?_)
  · skip
    exact hr_v hx hb hr hlocks (w1 := [(qb, .inr (0, [.ref qa])), (qa, .inl (cB, N, .inl f))]) hP hD hK hS [0, 1] [0] rfl rfl rfl (by unfold sB; rw [if_pos c_1]) dX0_set_21
  · skip
    refine lv_iload_n hx hb dX0_set_4 rfl (lv_at hl 1 rfl) ?_
    refine lv_aload_n hx hb dX0_set_5 rfl (lv_at hl 0 rfl) ?_
    refine va_get (D := (dC, dI)) (ci := 0) (v := .ref qa) (C := RX0) (T := TX0) (N := 1) hx hb hts (by decide +kernel) hown hK hP 0 rfl rfl 0 (by decide) (hts (.fieldLink RX0 15 "HouseLog$Bytes" "held" "[B") (by decide +kernel)) (fun _ h9 => h9) rfl dX0_set_6 ?_
    refine va_alen hx hb hK hP 1 0 rfl rfl (v := nI N) rfl dX0_set_9 ?_
    refine lv_icmp_ge (tgt := 21) hx hb dX0_set_10 (by decide) (fun c_10 => ?_) (fun c_10 => ?_)
    · skip
      exact hr_v hx hb hr hlocks (w1 := [(qb, .inr (0, [.ref qa])), (qa, .inl (cB, N, .inl f))]) hP hD hK hS [0, 1] [0] rfl rfl rfl (by unfold sB; rw [if_neg c_1, if_pos c_10]) dX0_set_21
    · skip
      refine lv_aload_n hx hb dX0_set_13 rfl (lv_at hl 0 rfl) ?_
      refine va_get (D := (dC, dI)) (ci := 0) (v := .ref qa) (C := RX0) (T := TX0) (N := 1) hx hb hts (by decide +kernel) hown hK hP 0 rfl rfl 0 (by decide) (hts (.fieldLink RX0 15 "HouseLog$Bytes" "held" "[B") (by decide +kernel)) (fun _ h9 => h9) rfl dX0_set_14 ?_
      refine lv_iload_n hx hb dX0_set_17 rfl (lv_at hl 1 rfl) ?_
      refine lv_iload_n hx hb dX0_set_18 rfl (lv_at hl 2 rfl) ?_
      refine lv_i2b (v := x.toInt8.toInt32) hx hb dX0_set_19 rfl ?_
      refine va_bast hx hb hK hP hD hS 1 0 rfl rfl (i := i) (vin_ hN c_1 c_10) dX0_set_20 (fun H locs hP hD hS => ?_)
      rw [pk_vb] at hP hD
      have hP : va_P (dC, dI) hlCl [(qb, .inr (0, [.ref qa])), (qa, .inl (cB, N, .inl (upd f i.toNatClampNeg x.toInt8.toInt32)))] H := hP
      have hD : va_D A [(qb, .inr (0, [.ref qa])), (qa, .inl (cB, N, .inl (upd f i.toNatClampNeg x.toInt8.toInt32)))] := hD
      exact hr_v hx hb hr hlocks (w1 := [(qb, .inr (0, [.ref qa])), (qa, .inl (cB, N, .inl (upd f i.toNatClampNeg x.toInt8.toInt32)))]) hP hD hK hS [0, 1] [0] rfl rfl rfl (by unfold sB; rw [if_neg c_1, if_neg c_10]) dX0_set_21

def wB (f : Nat → Int32) (N : Nat) (i : Int32) : Int32 := ((((gB f N i) <<< ((24 : Int32) &&& 31)) ||| ((gB f N (i + 1)) <<< ((16 : Int32) &&& 31))) ||| ((gB f N (i + 2)) <<< ((8 : Int32) &&& 31))) ||| (gB f N (i + 3))
set_option maxHeartbeats 4000000 in
set_option maxRecDepth 100000 in
theorem kX0_word (l : Launch) (dC : Nat → ClassId) (dI : Nat → Nat → Nat) (sz : Nat) (qb qa : Nat) (cB : ClassId) (f : Nat → Int32) (N : Nat) (i : Int32) (hN : N < 2 ^ 31) : Mi_ l yX0_word wsX0_word 1 21 dC dI (fun _ => True) [.ref qb, .int i] [(qb, .inr (0, [.ref qa])), (qa, .inl (cB, N, .inl f))] [(cB, .byte)] sz (wB f N i) [(qb, .inr (0, [.ref qa])), (qa, .inl (cB, N, .inl f))] := by
  refine hm_ (cc := cX0_word) (maxL := 2) (ret := (some .int)) (Qc := fun A => va_Qi (fun (r9 : Int32) (_ : Unit) => r9 = wB f N i) (fun _ t9 => qw_ dC dI A [(qb, .inr (0, [.ref qa])), (qa, .inl (cB, N, .inl f))] [(cB, .byte)] t9) A) (by decide) rfl (Nat.le_of_ble_eq_true rfl) ?_
  intro p e s m below meth c A H locs ls hx hb hr hml hts hown hlocks hsz hP hK hD hE hA hS hl
  have hl : lv_has ls 2 [(0, .ref qb), (1, .int i)] := hl
  have hown : s.vm.findClass RX0 = some m.cls := hown
  refine lv_aload_n hx hb dX0_word_0 rfl (lv_at hl 0 rfl) ?_
  refine lv_iload_n hx hb dX0_word_1 rfl (lv_at hl 1 rfl) ?_
  refine hc_iV (As := [.int i]) (rest := []) (wr := []) ⟨hx, hb, hml, hown, hts⟩ sx_T trivial (kX0_get l dC dI H.size qb qa cB f N i (hN)) (cwV 1 hts gX0_word_X0_get rfl rfl rfl (by decide +kernel) ⟨Nat.le_of_ble_eq_true rfl, Nat.le_of_ble_eq_true rfl⟩) hK hP hD hS hA [0, 1] [] [0] rfl rfl rfl rfl rfl (by decide) (ci := 0) rfl rfl rfl rfl hl.1 rfl (Nat.le_of_ble_eq_true rfl) dX0_word_2 ⟨Nat.zero_le _, Nat.zero_le _⟩ (fun H locs hP hD hS => ?_)
  have hP : va_P (dC, dI) hlCl [(qb, .inr (0, [.ref qa])), (qa, .inl (cB, N, .inl f))] H := hP
  have hD : va_D A [(qb, .inr (0, [.ref qa])), (qa, .inl (cB, N, .inl f))] := hD
  refine lv_bipush (v := 24) hx hb dX0_word_5 (by decide) ?_
  refine lv_ishl hx hb dX0_word_7 ?_
  refine lv_aload_n hx hb dX0_word_8 rfl (lv_at hl 0 rfl) ?_
  refine lv_iload_n hx hb dX0_word_9 rfl (lv_at hl 1 rfl) ?_
  refine lv_iconst (v := 1) hx hb dX0_word_10 (by decide) ?_
  refine lv_iadd hx hb dX0_word_11 ?_
  refine hc_iV (As := [.int (i + 1)]) (rest := [.int ((gB f N i) <<< ((24 : Int32) &&& 31))]) (wr := []) ⟨hx, hb, hml, hown, hts⟩ sx_T trivial (kX0_get l dC dI H.size qb qa cB f N (i + 1) (hN)) (cwV 1 hts gX0_word_X0_get rfl rfl rfl (by decide +kernel) ⟨Nat.le_of_ble_eq_true rfl, Nat.le_of_ble_eq_true rfl⟩) hK hP hD hS hA [0, 1] [] [0] rfl rfl rfl rfl rfl (by decide) (ci := 0) rfl rfl rfl rfl hl.1 rfl (Nat.le_of_ble_eq_true rfl) dX0_word_12 ⟨Nat.zero_le _, Nat.zero_le _⟩ (fun H locs hP hD hS => ?_)
  have hP : va_P (dC, dI) hlCl [(qb, .inr (0, [.ref qa])), (qa, .inl (cB, N, .inl f))] H := hP
  have hD : va_D A [(qb, .inr (0, [.ref qa])), (qa, .inl (cB, N, .inl f))] := hD
  refine lv_bipush (v := 16) hx hb dX0_word_15 (by decide) ?_
  refine lv_ishl hx hb dX0_word_17 ?_
  refine lv_ior hx hb dX0_word_18 ?_
  refine lv_aload_n hx hb dX0_word_19 rfl (lv_at hl 0 rfl) ?_
  refine lv_iload_n hx hb dX0_word_20 rfl (lv_at hl 1 rfl) ?_
  refine lv_iconst (v := 2) hx hb dX0_word_21 (by decide) ?_
  refine lv_iadd hx hb dX0_word_22 ?_
  refine hc_iV (As := [.int (i + 2)]) (rest := [.int (((gB f N i) <<< ((24 : Int32) &&& 31)) ||| ((gB f N (i + 1)) <<< ((16 : Int32) &&& 31)))]) (wr := []) ⟨hx, hb, hml, hown, hts⟩ sx_T trivial (kX0_get l dC dI H.size qb qa cB f N (i + 2) (hN)) (cwV 1 hts gX0_word_X0_get rfl rfl rfl (by decide +kernel) ⟨Nat.le_of_ble_eq_true rfl, Nat.le_of_ble_eq_true rfl⟩) hK hP hD hS hA [0, 1] [] [0] rfl rfl rfl rfl rfl (by decide) (ci := 0) rfl rfl rfl rfl hl.1 rfl (Nat.le_of_ble_eq_true rfl) dX0_word_23 ⟨Nat.zero_le _, Nat.zero_le _⟩ (fun H locs hP hD hS => ?_)
  have hP : va_P (dC, dI) hlCl [(qb, .inr (0, [.ref qa])), (qa, .inl (cB, N, .inl f))] H := hP
  have hD : va_D A [(qb, .inr (0, [.ref qa])), (qa, .inl (cB, N, .inl f))] := hD
  refine lv_bipush (v := 8) hx hb dX0_word_26 (by decide) ?_
  refine lv_ishl hx hb dX0_word_28 ?_
  refine lv_ior hx hb dX0_word_29 ?_
  refine lv_aload_n hx hb dX0_word_30 rfl (lv_at hl 0 rfl) ?_
  refine lv_iload_n hx hb dX0_word_31 rfl (lv_at hl 1 rfl) ?_
  refine lv_iconst (v := 3) hx hb dX0_word_32 (by decide) ?_
  refine lv_iadd hx hb dX0_word_33 ?_
  refine hc_iV (As := [.int (i + 3)]) (rest := [.int ((((gB f N i) <<< ((24 : Int32) &&& 31)) ||| ((gB f N (i + 1)) <<< ((16 : Int32) &&& 31))) ||| ((gB f N (i + 2)) <<< ((8 : Int32) &&& 31)))]) (wr := []) ⟨hx, hb, hml, hown, hts⟩ sx_T trivial (kX0_get l dC dI H.size qb qa cB f N (i + 3) (hN)) (cwV 1 hts gX0_word_X0_get rfl rfl rfl (by decide +kernel) ⟨Nat.le_of_ble_eq_true rfl, Nat.le_of_ble_eq_true rfl⟩) hK hP hD hS hA [0, 1] [] [0] rfl rfl rfl rfl rfl (by decide) (ci := 0) rfl rfl rfl rfl hl.1 rfl (Nat.le_of_ble_eq_true rfl) dX0_word_34 ⟨Nat.zero_le _, Nat.zero_le _⟩ (fun H locs hP hD hS => ?_)
  have hP : va_P (dC, dI) hlCl [(qb, .inr (0, [.ref qa])), (qa, .inl (cB, N, .inl f))] H := hP
  have hD : va_D A [(qb, .inr (0, [.ref qa])), (qa, .inl (cB, N, .inl f))] := hD
  refine lv_ior hx hb dX0_word_37 ?_
  exact hr_i (v := ((((gB f N i) <<< ((24 : Int32) &&& 31)) ||| ((gB f N (i + 1)) <<< ((16 : Int32) &&& 31))) ||| ((gB f N (i + 2)) <<< ((8 : Int32) &&& 31))) ||| (gB f N (i + 3))) hx hb hr hlocks (w1 := [(qb, .inr (0, [.ref qa])), (qa, .inl (cB, N, .inl f))]) hP hD hK hS [0, 1] [0] rfl rfl rfl (by unfold wB; rfl) (rfl) dX0_word_38

def swB (f : Nat → Int32) (N : Nat) (i x : Int32) : Nat → Int32 := sB (sB (sB (sB f N i ((x.toUInt32 >>> ((24 : Int32).toUInt32 &&& Int32.toUInt32 31)).toInt32)) N (i + 1) ((x.toUInt32 >>> ((16 : Int32).toUInt32 &&& Int32.toUInt32 31)).toInt32)) N (i + 2) ((x.toUInt32 >>> ((8 : Int32).toUInt32 &&& Int32.toUInt32 31)).toInt32)) N (i + 3) x

set_option maxHeartbeats 4000000 in
set_option maxRecDepth 100000 in
theorem kX0_setWord (l : Launch) (dC : Nat → ClassId) (dI : Nat → Nat → Nat) (sz : Nat) (qb qa : Nat) (cB : ClassId) (f : Nat → Int32) (N : Nat) (i x : Int32) (hN : N < 2 ^ 31) : Mv_ l yX0_setWord wsX0_setWord 1 22 dC dI (fun _ => True) [.ref qb, .int i, .int x] [(qb, .inr (0, [.ref qa])), (qa, .inl (cB, N, .inl f))] [(cB, .byte)] sz [(qb, .inr (0, [.ref qa])), (qa, .inl (cB, N, .inl (swB f N i x)))] := by
  refine hm_ (cc := cX0_setWord) (maxL := 3) (ret := none) (Qc := fun A => va_Qv (fun (_ : Unit) => True) (fun _ t9 => qw_ dC dI A [(qb, .inr (0, [.ref qa])), (qa, .inl (cB, N, .inl (swB f N i x)))] [(cB, .byte)] t9) A) (by decide) rfl (Nat.le_of_ble_eq_true rfl) ?_
  intro p e s m below meth c A H locs ls hx hb hr hml hts hown hlocks hsz hP hK hD hE hA hS hl
  have hl : lv_has ls 3 [(0, .ref qb), (1, .int i), (2, .int x)] := hl
  have hown : s.vm.findClass RX0 = some m.cls := hown
  refine lv_aload_n hx hb dX0_setWord_0 rfl (lv_at hl 0 rfl) ?_
  refine lv_iload_n hx hb dX0_setWord_1 rfl (lv_at hl 1 rfl) ?_
  refine lv_iload_n hx hb dX0_setWord_2 rfl (lv_at hl 2 rfl) ?_
  refine lv_bipush (v := 24) hx hb dX0_setWord_3 (by decide) ?_
  refine lv_iushr (v := (x.toUInt32 >>> ((24 : Int32).toUInt32 &&& Int32.toUInt32 31)).toInt32) hx hb dX0_setWord_5 rfl ?_
  refine hc_vV (As := [.int i, .int ((x.toUInt32 >>> ((24 : Int32).toUInt32 &&& Int32.toUInt32 31)).toInt32)]) (rest := []) (wr := []) ⟨hx, hb, hml, hown, hts⟩ sx_T trivial (kX0_set l dC dI H.size qb qa cB f N i ((x.toUInt32 >>> ((24 : Int32).toUInt32 &&& Int32.toUInt32 31)).toInt32) (hN)) (cwV 2 hts gX0_setWord_X0_set rfl rfl rfl (by decide +kernel) ⟨Nat.le_of_ble_eq_true rfl, Nat.le_of_ble_eq_true rfl⟩) hK hP hD hS hA [0, 1] [] [0] rfl rfl rfl rfl rfl (by decide) (ci := 0) rfl rfl rfl rfl hl.1 rfl (Nat.le_of_ble_eq_true rfl) dX0_setWord_6 ⟨Nat.zero_le _, Nat.zero_le _⟩ (fun H locs hP hD hS => ?_)
  have hP : va_P (dC, dI) hlCl [(qb, .inr (0, [.ref qa])), (qa, .inl (cB, N, .inl (sB f N i ((x.toUInt32 >>> ((24 : Int32).toUInt32 &&& Int32.toUInt32 31)).toInt32))))] H := hP
  have hD : va_D A [(qb, .inr (0, [.ref qa])), (qa, .inl (cB, N, .inl (sB f N i ((x.toUInt32 >>> ((24 : Int32).toUInt32 &&& Int32.toUInt32 31)).toInt32))))] := hD
  refine lv_aload_n hx hb dX0_setWord_9 rfl (lv_at hl 0 rfl) ?_
  refine lv_iload_n hx hb dX0_setWord_10 rfl (lv_at hl 1 rfl) ?_
  refine lv_iconst (v := 1) hx hb dX0_setWord_11 (by decide) ?_
  refine lv_iadd hx hb dX0_setWord_12 ?_
  refine lv_iload_n hx hb dX0_setWord_13 rfl (lv_at hl 2 rfl) ?_
  refine lv_bipush (v := 16) hx hb dX0_setWord_14 (by decide) ?_
  refine lv_iushr (v := (x.toUInt32 >>> ((16 : Int32).toUInt32 &&& Int32.toUInt32 31)).toInt32) hx hb dX0_setWord_16 rfl ?_
  refine hc_vV (As := [.int (i + 1), .int ((x.toUInt32 >>> ((16 : Int32).toUInt32 &&& Int32.toUInt32 31)).toInt32)]) (rest := []) (wr := []) ⟨hx, hb, hml, hown, hts⟩ sx_T trivial (kX0_set l dC dI H.size qb qa cB (sB f N i ((x.toUInt32 >>> ((24 : Int32).toUInt32 &&& Int32.toUInt32 31)).toInt32)) N (i + 1) ((x.toUInt32 >>> ((16 : Int32).toUInt32 &&& Int32.toUInt32 31)).toInt32) (hN)) (cwV 2 hts gX0_setWord_X0_set rfl rfl rfl (by decide +kernel) ⟨Nat.le_of_ble_eq_true rfl, Nat.le_of_ble_eq_true rfl⟩) hK hP hD hS hA [0, 1] [] [0] rfl rfl rfl rfl rfl (by decide) (ci := 0) rfl rfl rfl rfl hl.1 rfl (Nat.le_of_ble_eq_true rfl) dX0_setWord_17 ⟨Nat.zero_le _, Nat.zero_le _⟩ (fun H locs hP hD hS => ?_)
  have hP : va_P (dC, dI) hlCl [(qb, .inr (0, [.ref qa])), (qa, .inl (cB, N, .inl (sB (sB f N i ((x.toUInt32 >>> ((24 : Int32).toUInt32 &&& Int32.toUInt32 31)).toInt32)) N (i + 1) ((x.toUInt32 >>> ((16 : Int32).toUInt32 &&& Int32.toUInt32 31)).toInt32))))] H := hP
  have hD : va_D A [(qb, .inr (0, [.ref qa])), (qa, .inl (cB, N, .inl (sB (sB f N i ((x.toUInt32 >>> ((24 : Int32).toUInt32 &&& Int32.toUInt32 31)).toInt32)) N (i + 1) ((x.toUInt32 >>> ((16 : Int32).toUInt32 &&& Int32.toUInt32 31)).toInt32))))] := hD
  refine lv_aload_n hx hb dX0_setWord_20 rfl (lv_at hl 0 rfl) ?_
  refine lv_iload_n hx hb dX0_setWord_21 rfl (lv_at hl 1 rfl) ?_
  refine lv_iconst (v := 2) hx hb dX0_setWord_22 (by decide) ?_
  refine lv_iadd hx hb dX0_setWord_23 ?_
  refine lv_iload_n hx hb dX0_setWord_24 rfl (lv_at hl 2 rfl) ?_
  refine lv_bipush (v := 8) hx hb dX0_setWord_25 (by decide) ?_
  refine lv_iushr (v := (x.toUInt32 >>> ((8 : Int32).toUInt32 &&& Int32.toUInt32 31)).toInt32) hx hb dX0_setWord_27 rfl ?_
  refine hc_vV (As := [.int (i + 2), .int ((x.toUInt32 >>> ((8 : Int32).toUInt32 &&& Int32.toUInt32 31)).toInt32)]) (rest := []) (wr := []) ⟨hx, hb, hml, hown, hts⟩ sx_T trivial (kX0_set l dC dI H.size qb qa cB (sB (sB f N i ((x.toUInt32 >>> ((24 : Int32).toUInt32 &&& Int32.toUInt32 31)).toInt32)) N (i + 1) ((x.toUInt32 >>> ((16 : Int32).toUInt32 &&& Int32.toUInt32 31)).toInt32)) N (i + 2) ((x.toUInt32 >>> ((8 : Int32).toUInt32 &&& Int32.toUInt32 31)).toInt32) (hN)) (cwV 2 hts gX0_setWord_X0_set rfl rfl rfl (by decide +kernel) ⟨Nat.le_of_ble_eq_true rfl, Nat.le_of_ble_eq_true rfl⟩) hK hP hD hS hA [0, 1] [] [0] rfl rfl rfl rfl rfl (by decide) (ci := 0) rfl rfl rfl rfl hl.1 rfl (Nat.le_of_ble_eq_true rfl) dX0_setWord_28 ⟨Nat.zero_le _, Nat.zero_le _⟩ (fun H locs hP hD hS => ?_)
  have hP : va_P (dC, dI) hlCl [(qb, .inr (0, [.ref qa])), (qa, .inl (cB, N, .inl (sB (sB (sB f N i ((x.toUInt32 >>> ((24 : Int32).toUInt32 &&& Int32.toUInt32 31)).toInt32)) N (i + 1) ((x.toUInt32 >>> ((16 : Int32).toUInt32 &&& Int32.toUInt32 31)).toInt32)) N (i + 2) ((x.toUInt32 >>> ((8 : Int32).toUInt32 &&& Int32.toUInt32 31)).toInt32))))] H := hP
  have hD : va_D A [(qb, .inr (0, [.ref qa])), (qa, .inl (cB, N, .inl (sB (sB (sB f N i ((x.toUInt32 >>> ((24 : Int32).toUInt32 &&& Int32.toUInt32 31)).toInt32)) N (i + 1) ((x.toUInt32 >>> ((16 : Int32).toUInt32 &&& Int32.toUInt32 31)).toInt32)) N (i + 2) ((x.toUInt32 >>> ((8 : Int32).toUInt32 &&& Int32.toUInt32 31)).toInt32))))] := hD
  refine lv_aload_n hx hb dX0_setWord_31 rfl (lv_at hl 0 rfl) ?_
  refine lv_iload_n hx hb dX0_setWord_32 rfl (lv_at hl 1 rfl) ?_
  refine lv_iconst (v := 3) hx hb dX0_setWord_33 (by decide) ?_
  refine lv_iadd hx hb dX0_setWord_34 ?_
  refine lv_iload_n hx hb dX0_setWord_35 rfl (lv_at hl 2 rfl) ?_
  refine hc_vV (As := [.int (i + 3), .int x]) (rest := []) (wr := []) ⟨hx, hb, hml, hown, hts⟩ sx_T trivial (kX0_set l dC dI H.size qb qa cB (sB (sB (sB f N i ((x.toUInt32 >>> ((24 : Int32).toUInt32 &&& Int32.toUInt32 31)).toInt32)) N (i + 1) ((x.toUInt32 >>> ((16 : Int32).toUInt32 &&& Int32.toUInt32 31)).toInt32)) N (i + 2) ((x.toUInt32 >>> ((8 : Int32).toUInt32 &&& Int32.toUInt32 31)).toInt32)) N (i + 3) x (hN)) (cwV 2 hts gX0_setWord_X0_set rfl rfl rfl (by decide +kernel) ⟨Nat.le_of_ble_eq_true rfl, Nat.le_of_ble_eq_true rfl⟩) hK hP hD hS hA [0, 1] [] [0] rfl rfl rfl rfl rfl (by decide) (ci := 0) rfl rfl rfl rfl hl.1 rfl (Nat.le_of_ble_eq_true rfl) dX0_setWord_36 ⟨Nat.zero_le _, Nat.zero_le _⟩ (fun H locs hP hD hS => ?_)
  have hP : va_P (dC, dI) hlCl [(qb, .inr (0, [.ref qa])), (qa, .inl (cB, N, .inl (sB (sB (sB (sB f N i ((x.toUInt32 >>> ((24 : Int32).toUInt32 &&& Int32.toUInt32 31)).toInt32)) N (i + 1) ((x.toUInt32 >>> ((16 : Int32).toUInt32 &&& Int32.toUInt32 31)).toInt32)) N (i + 2) ((x.toUInt32 >>> ((8 : Int32).toUInt32 &&& Int32.toUInt32 31)).toInt32)) N (i + 3) x)))] H := hP
  have hD : va_D A [(qb, .inr (0, [.ref qa])), (qa, .inl (cB, N, .inl (sB (sB (sB (sB f N i ((x.toUInt32 >>> ((24 : Int32).toUInt32 &&& Int32.toUInt32 31)).toInt32)) N (i + 1) ((x.toUInt32 >>> ((16 : Int32).toUInt32 &&& Int32.toUInt32 31)).toInt32)) N (i + 2) ((x.toUInt32 >>> ((8 : Int32).toUInt32 &&& Int32.toUInt32 31)).toInt32)) N (i + 3) x)))] := hD
  exact hr_v hx hb hr hlocks (w1 := [(qb, .inr (0, [.ref qa])), (qa, .inl (cB, N, .inl (sB (sB (sB (sB f N i ((x.toUInt32 >>> ((24 : Int32).toUInt32 &&& Int32.toUInt32 31)).toInt32)) N (i + 1) ((x.toUInt32 >>> ((16 : Int32).toUInt32 &&& Int32.toUInt32 31)).toInt32)) N (i + 2) ((x.toUInt32 >>> ((8 : Int32).toUInt32 &&& Int32.toUInt32 31)).toInt32)) N (i + 3) x)))]) hP hD hK hS [0, 1] [0] rfl rfl rfl (rfl) dX0_setWord_39

def mixI (s b : Int32) : Int32 := ((s ^^^ b) <<< ((9 : Int32) &&& 31) ||| ((s ^^^ b).toUInt32 >>> ((23 : Int32).toUInt32 &&& Int32.toUInt32 31)).toInt32) * (-2048144789)
theorem mixI_f (s b : Int32) : ((s ^^^ b) <<< ((9 : Int32) &&& 31) ||| ((s ^^^ b).toUInt32 >>> ((23 : Int32).toUInt32 &&& Int32.toUInt32 31)).toInt32) * (-2048144789) = mixI s b := rfl
/-- the sum s gone on over k bytes from place a -/
def sumB (f : Nat → Int32) (N a : Nat) (s : Int32) : Nat → Int32
  | 0 => s
  | k + 1 => mixI (sumB f N a s k) (gB f N (nI (a + k)))
theorem sumB_s (f : Nat → Int32) (N a : Nat) (s : Int32) (k : Nat) : sumB f N a s (k + 1) = mixI (sumB f N a s k) (gB f N (nI (a + k))) := rfl

set_option maxHeartbeats 4000000 in
set_option maxRecDepth 100000 in
theorem kX0_sumOn (l : Launch) (dC : Nat → ClassId) (dI : Nat → Nat → Nat) (sz : Nat) (qb qa : Nat) (cB : ClassId) (f : Nat → Int32) (N : Nat) (s0 : Int32) (a b : Nat) (hN : N < 2 ^ 31) (hab : a ≤ b) (hb2 : b < 2 ^ 31) : Mi_ l yX0_sumOn wsX0_sumOn 1 21 dC dI (fun _ => True) [.ref qb, .int s0, .int (nI a), .int (nI b)] [(qb, .inr (0, [.ref qa])), (qa, .inl (cB, N, .inl f))] [(cB, .byte)] sz (sumB f N a s0 (b - a)) [(qb, .inr (0, [.ref qa])), (qa, .inl (cB, N, .inl f))] := by
  refine hm_ (cc := cX0_sumOn) (maxL := 7) (ret := (some .int)) (Qc := fun A => va_Qi (fun (r9 : Int32) (_ : Unit) => r9 = sumB f N a s0 (b - a)) (fun _ t9 => qw_ dC dI A [(qb, .inr (0, [.ref qa])), (qa, .inl (cB, N, .inl f))] [(cB, .byte)] t9) A) (by decide) rfl (Nat.le_of_ble_eq_true rfl) ?_
  intro p e s m below meth c A H locs ls hx hb hr hml hts hown hlocks hsz hP hK hD hE hA hS hl
  have hl : lv_has ls 7 [(0, .ref qb), (1, .int s0), (2, .int (nI a)), (3, .int (nI b))] := hl
  have hown : s.vm.findClass RX0 = some m.cls := hown
  have loop : ∀ (k0 : Nat) (i : Nat) (H : Heap) (locs : List Loc) (ls : Array Slot), (a + i + k0 = b) → va_P (dC, dI) hlCl [(qb, .inr (0, [.ref qa])), (qa, .inl (cB, N, .inl f))] H → va_D A [(qb, .inr (0, [.ref qa])), (qa, .inl (cB, N, .inl f))] → va_S A s.heap H locs → lv_has ls 7 [(0, .ref qb), (1, .int s0), (2, .int (nI a)), (3, .int (nI b)), (4, .int (sumB f N a s0 i)), (5, .int (nI (a + i)))] → W p l e (rm_ 1 21) s m [.ref qb, .int s0, .int (nI a), .int (nI b)].toArray below meth c H locs 0 0 (MQ below ((fun A => va_Qi (fun (r9 : Int32) (_ : Unit) => r9 = sumB f N a s0 (b - a)) (fun _ t9 => qw_ dC dI A [(qb, .inr (0, [.ref qa])), (qa, .inl (cB, N, .inl f))] [(cB, .byte)] t9) A) A) [.ref qb, .int s0, .int (nI a), .int (nI b)].toArray s 0 0 A) (F0 m 6 ls []) := by
    intro k0
    induction k0 with
    | zero =>
      intro i H locs ls hi hP hD hS hl
      refine lv_iload hx hb dX0_sumOn_6 (lv_at hl 5 rfl) ?_
      refine lv_iload_n hx hb dX0_sumOn_8 rfl (lv_at hl 3 rfl) ?_
      refine lv_icmp_ge (tgt := 45) hx hb dX0_sumOn_9 (by decide) (fun c_9 => ?_) (fun c_9 => ?_)
      · skip
        refine lv_iload hx hb dX0_sumOn_45 (lv_at hl 4 rfl) ?_
        exact hr_i (v := sumB f N a s0 i) hx hb hr hlocks (w1 := [(qb, .inr (0, [.ref qa])), (qa, .inl (cB, N, .inl f))]) hP hD hK hS [0, 1] [0] rfl rfl rfl (by rw [show i = b - a by omega]) (rfl) dX0_sumOn_47
      · exact absurd (nI_le (show b ≤ a + i by omega) (by omega)) c_9
    | succ k0 ih =>
      intro i H locs ls hi hP hD hS hl
      refine lv_iload hx hb dX0_sumOn_6 (lv_at hl 5 rfl) ?_
      refine lv_iload_n hx hb dX0_sumOn_8 rfl (lv_at hl 3 rfl) ?_
      refine lv_icmp_ge (tgt := 45) hx hb dX0_sumOn_9 (by decide) (fun c_9 => ?_) (fun c_9 => ?_)
      · exact absurd c_9 (nI_ge (show a + i < b by omega) hb2)
      · skip
        refine lv_iload hx hb dX0_sumOn_12 (lv_at hl 4 rfl) ?_
        refine lv_aload_n hx hb dX0_sumOn_14 rfl (lv_at hl 0 rfl) ?_
        refine lv_iload hx hb dX0_sumOn_15 (lv_at hl 5 rfl) ?_
        refine hc_iV (As := [.int (nI (a + i))]) (rest := [.int (sumB f N a s0 i)]) (wr := []) ⟨hx, hb, hml, hown, hts⟩ sx_T trivial (kX0_get l dC dI H.size qb qa cB f N (nI (a + i)) (hN)) (cwV 1 hts gX0_sumOn_X0_get rfl rfl rfl (by decide +kernel) ⟨Nat.le_of_ble_eq_true rfl, Nat.le_of_ble_eq_true rfl⟩) hK hP hD hS hA [0, 1] [] [0] rfl rfl rfl rfl rfl (by decide) (ci := 0) rfl rfl rfl rfl hl.1 rfl (Nat.le_of_ble_eq_true rfl) dX0_sumOn_17 ⟨Nat.zero_le _, Nat.zero_le _⟩ (fun H locs hP hD hS => ?_)
        have hP : va_P (dC, dI) hlCl [(qb, .inr (0, [.ref qa])), (qa, .inl (cB, N, .inl f))] H := hP
        have hD : va_D A [(qb, .inr (0, [.ref qa])), (qa, .inl (cB, N, .inl f))] := hD
        refine lv_ixor hx hb dX0_sumOn_20 ?_
        refine lv_istore (lv' := [(6, .int ((sumB f N a s0 i) ^^^ (gB f N (nI (a + i))))), (0, .ref qb), (1, .int s0), (2, .int (nI a)), (3, .int (nI b)), (4, .int (sumB f N a s0 i)), (5, .int (nI (a + i)))]) hx hb dX0_sumOn_21 hl (by decide) rfl (fun ls hl => ?_)
        refine lv_iload hx hb dX0_sumOn_23 (lv_at hl 0 rfl) ?_
        refine lv_bipush (v := 9) hx hb dX0_sumOn_25 (by decide) ?_
        refine lv_ishl hx hb dX0_sumOn_27 ?_
        refine lv_iload hx hb dX0_sumOn_28 (lv_at hl 0 rfl) ?_
        refine lv_bipush (v := 23) hx hb dX0_sumOn_30 (by decide) ?_
        refine lv_iushr (v := (((sumB f N a s0 i) ^^^ (gB f N (nI (a + i)))).toUInt32 >>> ((23 : Int32).toUInt32 &&& Int32.toUInt32 31)).toInt32) hx hb dX0_sumOn_32 rfl ?_
        refine lv_ior hx hb dX0_sumOn_33 ?_
        refine lv_ldc (v := (-2048144789)) hx hb hown (hts (.constant RX0 29 (-2048144789)) (by decide +kernel)) dX0_sumOn_34 ?_
        refine lv_imul hx hb dX0_sumOn_36 ?_
        rw [mixI_f, ← sumB_s]
        refine lv_istore (lv' := [(4, .int (sumB f N a s0 (i + 1))), (6, .int ((sumB f N a s0 i) ^^^ (gB f N (nI (a + i))))), (0, .ref qb), (1, .int s0), (2, .int (nI a)), (3, .int (nI b)), (5, .int (nI (a + i)))]) hx hb dX0_sumOn_37 hl (by decide) rfl (fun ls hl => ?_)
        refine lv_iinc (v := nI (a + (i + 1))) (lv' := [(5, .int (nI (a + (i + 1)))), (4, .int (sumB f N a s0 (i + 1))), (6, .int ((sumB f N a s0 i) ^^^ (gB f N (nI (a + i))))), (0, .ref qb), (1, .int s0), (2, .int (nI a)), (3, .int (nI b))]) hx hb dX0_sumOn_39 hl (k := 6) rfl (nI_1 (a + i)) (by decide) rfl (fun ls hl => ?_)
        refine lv_goto (tgt := 6) hx hb dX0_sumOn_42 (by decide) ?_
        exact ih (i + 1) H locs ls (by omega) hP hD hS (lv_sub hl [3, 4, 5, 6, 1, 0] rfl)
  refine lv_iload_n hx hb dX0_sumOn_0 rfl (lv_at hl 1 rfl) ?_
  refine lv_istore (lv' := [(4, .int s0), (0, .ref qb), (1, .int s0), (2, .int (nI a)), (3, .int (nI b))]) hx hb dX0_sumOn_1 hl (by decide) rfl (fun ls hl => ?_)
  refine lv_iload_n hx hb dX0_sumOn_3 rfl (lv_at hl 3 rfl) ?_
  refine lv_istore (lv' := [(5, .int (nI a)), (4, .int s0), (0, .ref qb), (1, .int s0), (2, .int (nI a)), (3, .int (nI b))]) hx hb dX0_sumOn_4 hl (by decide) rfl (fun ls hl => ?_)
  exact loop (b - a) 0 H locs ls (by omega) hP hD hS (lv_sub hl [2, 3, 4, 5, 1, 0] rfl)
