set_option maxHeartbeats 4000000 in
set_option maxRecDepth 100000 in
theorem kX1_firstPlace (l : Launch) (dC : Nat → ClassId) (dI : Nat → Nat → Nat) (sz : Nat) (i : Int32)  : Mi_ l yX1_firstPlace wsX1_firstPlace 0 0 dC dI (fun _ => True) [.int i] [] [] sz (i * 64) [] := by
  refine hm_ (cc := cX1_firstPlace) (maxL := 1) (ret := (some .int)) (Qc := fun A => va_Qi (fun (r9 : Int32) (_ : Unit) => r9 = i * 64) (fun _ t9 => qw_ dC dI A [] [] t9) A) (by decide) rfl (Nat.le_of_ble_eq_true rfl) ?_
  intro p e s m below meth c A H locs ls hx hb hr hml hts hown hlocks hsz hP hK hD hE hA hS hl
  have hl : lv_has ls 1 [(0, .int i)] := hl
  have hown : s.vm.findClass RX1 = some m.cls := hown
  refine lv_iload_n hx hb dX1_firstPlace_0 rfl (lv_at hl 0 rfl) ?_
  refine lv_bipush (v := 64) hx hb dX1_firstPlace_1 (by decide) ?_
  refine lv_imul hx hb dX1_firstPlace_3 ?_
  exact hr_i (v := i * 64) hx hb hr hlocks (w1 := []) hP hD hK hS [] [] rfl rfl rfl (rfl) (rfl) dX1_firstPlace_4

theorem fp_ (k : Nat) : nI k * 64 = nI (k * 64) := pk_mul k 64
theorem gB_n (f : Nat → Int32) (N : Nat) (i : Int32) : ∃ j : Nat, j < 256 ∧ gB f N i = nI j := by
  unfold gB
  split
  · exact ⟨0, by decide, rfl⟩
  · split
    · exact ⟨0, by decide, rfl⟩
    · exact pk_andE _ (m := 255) 8 (by decide)
/-- the length that sector k bears -/
def lnN (f : Nat → Int32) (N k : Nat) : Nat := (gB f N (nI k * 64 + 5)).toNatClampNeg
theorem lnN_e (f : Nat → Int32) (N k : Nat) : gB f N (nI k * 64 + 5) = nI (lnN f N k) ∧ lnN f N k < 256 := by
  obtain ⟨j, hj, e⟩ := gB_n f N (nI k * 64 + 5)
  unfold lnN
  rw [e, nI_clamp (by omega)]
  exact ⟨rfl, hj⟩
theorem sp_ (f : Nat → Int32) (N k : Nat) : nI k * 64 + 6 + gB f N (nI k * 64 + 5) = nI (k * 64 + 6 + lnN f N k) := by
  rw [(lnN_e f N k).1, fp_, ← nI_add, ← nI_add]
  rfl

set_option maxHeartbeats 4000000 in
set_option maxRecDepth 100000 in
theorem kX1_kind (l : Launch) (dC : Nat → ClassId) (dI : Nat → Nat → Nat) (sz : Nat) (qs qb qa : Nat) (cB : ClassId) (f : Nat → Int32) (N : Nat) (i : Int32) (hN : N < 2 ^ 31) : Mi_ l yX1_kind wsX1_kind 1 21 dC dI (fun _ => True) [.ref qs, .int i] [(qs, .inr (1, [.ref qb])), (qb, .inr (0, [.ref qa])), (qa, .inl (cB, N, .inl f))] [(cB, .byte)] sz (gB f N ((i * 64) + 4)) [(qs, .inr (1, [.ref qb])), (qb, .inr (0, [.ref qa])), (qa, .inl (cB, N, .inl f))] := by
  refine hm_ (cc := cX1_kind) (maxL := 2) (ret := (some .int)) (Qc := fun A => va_Qi (fun (r9 : Int32) (_ : Unit) => r9 = gB f N ((i * 64) + 4)) (fun _ t9 => qw_ dC dI A [(qs, .inr (1, [.ref qb])), (qb, .inr (0, [.ref qa])), (qa, .inl (cB, N, .inl f))] [(cB, .byte)] t9) A) (by decide) rfl (Nat.le_of_ble_eq_true rfl) ?_
  intro p e s m below meth c A H locs ls hx hb hr hml hts hown hlocks hsz hP hK hD hE hA hS hl
  have hl : lv_has ls 2 [(0, .ref qs), (1, .int i)] := hl
  have hown : s.vm.findClass RX1 = some m.cls := hown
  refine lv_aload_n hx hb dX1_kind_0 rfl (lv_at hl 0 rfl) ?_
  refine va_get (D := (dC, dI)) (ci := 1) (v := .ref qb) (C := RX1) (T := TX1) (N := 1) hx hb hts (by decide +kernel) hown hK hP 0 rfl rfl 0 (by decide) (hts (.fieldLink RX1 14 "HouseLog$Sectors" "bytes" "LHouseLog$Bytes;") (by decide +kernel)) (fun _ h9 => h9) rfl dX1_kind_1 ?_
  refine lv_iload_n hx hb dX1_kind_4 rfl (lv_at hl 1 rfl) ?_
  refine hc_iS (As := [.int i]) (rest := [.ref qb]) ⟨hx, hb, hml, hown, hts⟩ sx_T trivial (kX1_firstPlace l dC dI H.size i ) (va_cwS 1 hts gX1_kind_X1_firstPlace rfl rfl rfl (by decide +kernel) ⟨Nat.le_of_ble_eq_true rfl, Nat.le_of_ble_eq_true rfl⟩) hK hP hD hS hA [0, 1, 2] rfl rfl rfl hl.1 rfl (Nat.le_of_ble_eq_true rfl) dX1_kind_5 ⟨Nat.zero_le _, Nat.zero_le _⟩ (fun H locs hP hD hS => ?_)
  refine lv_iconst (v := 4) hx hb dX1_kind_8 (by decide) ?_
  refine lv_iadd hx hb dX1_kind_9 ?_
  refine hc_iV (As := [.int ((i * 64) + 4)]) (rest := []) (wr := [(qs, .inr (1, [.ref qb]))]) ⟨hx, hb, hml, hown, hts⟩ sx_T trivial (kX0_get l dC dI H.size qb qa cB f N ((i * 64) + 4) (hN)) (cwV 1 hts gX1_kind_X0_get rfl rfl rfl (by decide +kernel) ⟨Nat.le_of_ble_eq_true rfl, Nat.le_of_ble_eq_true rfl⟩) hK hP hD hS hA [1, 2] [0] [0] rfl rfl rfl rfl rfl (by decide) (ci := 0) rfl rfl rfl rfl hl.1 rfl (Nat.le_of_ble_eq_true rfl) dX1_kind_10 ⟨Nat.zero_le _, Nat.zero_le _⟩ (fun H locs hP hD hS => ?_)
  have hP : va_P (dC, dI) hlCl [(qs, .inr (1, [.ref qb])), (qb, .inr (0, [.ref qa])), (qa, .inl (cB, N, .inl f))] H := hP
  have hD : va_D A [(qs, .inr (1, [.ref qb])), (qb, .inr (0, [.ref qa])), (qa, .inl (cB, N, .inl f))] := hD
  exact hr_i (v := gB f N ((i * 64) + 4)) hx hb hr hlocks (w1 := [(qs, .inr (1, [.ref qb])), (qb, .inr (0, [.ref qa])), (qa, .inl (cB, N, .inl f))]) hP hD hK hS [0, 1, 2] [0] rfl rfl rfl (rfl) (rfl) dX1_kind_13

set_option maxHeartbeats 4000000 in
set_option maxRecDepth 100000 in
theorem kX1_length (l : Launch) (dC : Nat → ClassId) (dI : Nat → Nat → Nat) (sz : Nat) (qs qb qa : Nat) (cB : ClassId) (f : Nat → Int32) (N : Nat) (i : Int32) (hN : N < 2 ^ 31) : Mi_ l yX1_length wsX1_length 1 21 dC dI (fun _ => True) [.ref qs, .int i] [(qs, .inr (1, [.ref qb])), (qb, .inr (0, [.ref qa])), (qa, .inl (cB, N, .inl f))] [(cB, .byte)] sz (gB f N ((i * 64) + 5)) [(qs, .inr (1, [.ref qb])), (qb, .inr (0, [.ref qa])), (qa, .inl (cB, N, .inl f))] := by
  refine hm_ (cc := cX1_length) (maxL := 2) (ret := (some .int)) (Qc := fun A => va_Qi (fun (r9 : Int32) (_ : Unit) => r9 = gB f N ((i * 64) + 5)) (fun _ t9 => qw_ dC dI A [(qs, .inr (1, [.ref qb])), (qb, .inr (0, [.ref qa])), (qa, .inl (cB, N, .inl f))] [(cB, .byte)] t9) A) (by decide) rfl (Nat.le_of_ble_eq_true rfl) ?_
  intro p e s m below meth c A H locs ls hx hb hr hml hts hown hlocks hsz hP hK hD hE hA hS hl
  have hl : lv_has ls 2 [(0, .ref qs), (1, .int i)] := hl
  have hown : s.vm.findClass RX1 = some m.cls := hown
  refine lv_aload_n hx hb dX1_length_0 rfl (lv_at hl 0 rfl) ?_
  refine va_get (D := (dC, dI)) (ci := 1) (v := .ref qb) (C := RX1) (T := TX1) (N := 1) hx hb hts (by decide +kernel) hown hK hP 0 rfl rfl 0 (by decide) (hts (.fieldLink RX1 14 "HouseLog$Sectors" "bytes" "LHouseLog$Bytes;") (by decide +kernel)) (fun _ h9 => h9) rfl dX1_length_1 ?_
  refine lv_iload_n hx hb dX1_length_4 rfl (lv_at hl 1 rfl) ?_
  refine hc_iS (As := [.int i]) (rest := [.ref qb]) ⟨hx, hb, hml, hown, hts⟩ sx_T trivial (kX1_firstPlace l dC dI H.size i ) (va_cwS 1 hts gX1_length_X1_firstPlace rfl rfl rfl (by decide +kernel) ⟨Nat.le_of_ble_eq_true rfl, Nat.le_of_ble_eq_true rfl⟩) hK hP hD hS hA [0, 1, 2] rfl rfl rfl hl.1 rfl (Nat.le_of_ble_eq_true rfl) dX1_length_5 ⟨Nat.zero_le _, Nat.zero_le _⟩ (fun H locs hP hD hS => ?_)
  refine lv_iconst (v := 5) hx hb dX1_length_8 (by decide) ?_
  refine lv_iadd hx hb dX1_length_9 ?_
  refine hc_iV (As := [.int ((i * 64) + 5)]) (rest := []) (wr := [(qs, .inr (1, [.ref qb]))]) ⟨hx, hb, hml, hown, hts⟩ sx_T trivial (kX0_get l dC dI H.size qb qa cB f N ((i * 64) + 5) (hN)) (cwV 1 hts gX1_length_X0_get rfl rfl rfl (by decide +kernel) ⟨Nat.le_of_ble_eq_true rfl, Nat.le_of_ble_eq_true rfl⟩) hK hP hD hS hA [1, 2] [0] [0] rfl rfl rfl rfl rfl (by decide) (ci := 0) rfl rfl rfl rfl hl.1 rfl (Nat.le_of_ble_eq_true rfl) dX1_length_10 ⟨Nat.zero_le _, Nat.zero_le _⟩ (fun H locs hP hD hS => ?_)
  have hP : va_P (dC, dI) hlCl [(qs, .inr (1, [.ref qb])), (qb, .inr (0, [.ref qa])), (qa, .inl (cB, N, .inl f))] H := hP
  have hD : va_D A [(qs, .inr (1, [.ref qb])), (qb, .inr (0, [.ref qa])), (qa, .inl (cB, N, .inl f))] := hD
  exact hr_i (v := gB f N ((i * 64) + 5)) hx hb hr hlocks (w1 := [(qs, .inr (1, [.ref qb])), (qb, .inr (0, [.ref qa])), (qa, .inl (cB, N, .inl f))]) hP hD hK hS [0, 1, 2] [0] rfl rfl rfl (rfl) (rfl) dX1_length_13

set_option maxHeartbeats 4000000 in
set_option maxRecDepth 100000 in
theorem kX1_content (l : Launch) (dC : Nat → ClassId) (dI : Nat → Nat → Nat) (sz : Nat) (qs qb qa : Nat) (cB : ClassId) (f : Nat → Int32) (N : Nat) (i : Int32) (j : Int32) (hN : N < 2 ^ 31) : Mi_ l yX1_content wsX1_content 1 21 dC dI (fun _ => True) [.ref qs, .int i, .int j] [(qs, .inr (1, [.ref qb])), (qb, .inr (0, [.ref qa])), (qa, .inl (cB, N, .inl f))] [(cB, .byte)] sz (gB f N (((i * 64) + 6) + j)) [(qs, .inr (1, [.ref qb])), (qb, .inr (0, [.ref qa])), (qa, .inl (cB, N, .inl f))] := by
  refine hm_ (cc := cX1_content) (maxL := 3) (ret := (some .int)) (Qc := fun A => va_Qi (fun (r9 : Int32) (_ : Unit) => r9 = gB f N (((i * 64) + 6) + j)) (fun _ t9 => qw_ dC dI A [(qs, .inr (1, [.ref qb])), (qb, .inr (0, [.ref qa])), (qa, .inl (cB, N, .inl f))] [(cB, .byte)] t9) A) (by decide) rfl (Nat.le_of_ble_eq_true rfl) ?_
  intro p e s m below meth c A H locs ls hx hb hr hml hts hown hlocks hsz hP hK hD hE hA hS hl
  have hl : lv_has ls 3 [(0, .ref qs), (1, .int i), (2, .int j)] := hl
  have hown : s.vm.findClass RX1 = some m.cls := hown
  refine lv_aload_n hx hb dX1_content_0 rfl (lv_at hl 0 rfl) ?_
  refine va_get (D := (dC, dI)) (ci := 1) (v := .ref qb) (C := RX1) (T := TX1) (N := 1) hx hb hts (by decide +kernel) hown hK hP 0 rfl rfl 0 (by decide) (hts (.fieldLink RX1 14 "HouseLog$Sectors" "bytes" "LHouseLog$Bytes;") (by decide +kernel)) (fun _ h9 => h9) rfl dX1_content_1 ?_
  refine lv_iload_n hx hb dX1_content_4 rfl (lv_at hl 1 rfl) ?_
  refine hc_iS (As := [.int i]) (rest := [.ref qb]) ⟨hx, hb, hml, hown, hts⟩ sx_T trivial (kX1_firstPlace l dC dI H.size i ) (va_cwS 1 hts gX1_content_X1_firstPlace rfl rfl rfl (by decide +kernel) ⟨Nat.le_of_ble_eq_true rfl, Nat.le_of_ble_eq_true rfl⟩) hK hP hD hS hA [0, 1, 2] rfl rfl rfl hl.1 rfl (Nat.le_of_ble_eq_true rfl) dX1_content_5 ⟨Nat.zero_le _, Nat.zero_le _⟩ (fun H locs hP hD hS => ?_)
  refine lv_bipush (v := 6) hx hb dX1_content_8 (by decide) ?_
  refine lv_iadd hx hb dX1_content_10 ?_
  refine lv_iload_n hx hb dX1_content_11 rfl (lv_at hl 2 rfl) ?_
  refine lv_iadd hx hb dX1_content_12 ?_
  refine hc_iV (As := [.int (((i * 64) + 6) + j)]) (rest := []) (wr := [(qs, .inr (1, [.ref qb]))]) ⟨hx, hb, hml, hown, hts⟩ sx_T trivial (kX0_get l dC dI H.size qb qa cB f N (((i * 64) + 6) + j) (hN)) (cwV 1 hts gX1_content_X0_get rfl rfl rfl (by decide +kernel) ⟨Nat.le_of_ble_eq_true rfl, Nat.le_of_ble_eq_true rfl⟩) hK hP hD hS hA [1, 2] [0] [0] rfl rfl rfl rfl rfl (by decide) (ci := 0) rfl rfl rfl rfl hl.1 rfl (Nat.le_of_ble_eq_true rfl) dX1_content_13 ⟨Nat.zero_le _, Nat.zero_le _⟩ (fun H locs hP hD hS => ?_)
  have hP : va_P (dC, dI) hlCl [(qs, .inr (1, [.ref qb])), (qb, .inr (0, [.ref qa])), (qa, .inl (cB, N, .inl f))] H := hP
  have hD : va_D A [(qs, .inr (1, [.ref qb])), (qb, .inr (0, [.ref qa])), (qa, .inl (cB, N, .inl f))] := hD
  exact hr_i (v := gB f N (((i * 64) + 6) + j)) hx hb hr hlocks (w1 := [(qs, .inr (1, [.ref qb])), (qb, .inr (0, [.ref qa])), (qa, .inl (cB, N, .inl f))]) hP hD hK hS [0, 1, 2] [0] rfl rfl rfl (rfl) (rfl) dX1_content_16

set_option maxHeartbeats 4000000 in
set_option maxRecDepth 100000 in
theorem kX1_sumPlace (l : Launch) (dC : Nat → ClassId) (dI : Nat → Nat → Nat) (sz : Nat) (qs qb qa : Nat) (cB : ClassId) (f : Nat → Int32) (N : Nat) (i : Int32) (hN : N < 2 ^ 31) : Mi_ l yX1_sumPlace wsX1_sumPlace 2 42 dC dI (fun _ => True) [.ref qs, .int i] [(qs, .inr (1, [.ref qb])), (qb, .inr (0, [.ref qa])), (qa, .inl (cB, N, .inl f))] [(cB, .byte)] sz (i * 64 + 6 + gB f N (i * 64 + 5)) [(qs, .inr (1, [.ref qb])), (qb, .inr (0, [.ref qa])), (qa, .inl (cB, N, .inl f))] := by
  refine hm_ (cc := cX1_sumPlace) (maxL := 2) (ret := (some .int)) (Qc := fun A => va_Qi (fun (r9 : Int32) (_ : Unit) => r9 = i * 64 + 6 + gB f N (i * 64 + 5)) (fun _ t9 => qw_ dC dI A [(qs, .inr (1, [.ref qb])), (qb, .inr (0, [.ref qa])), (qa, .inl (cB, N, .inl f))] [(cB, .byte)] t9) A) (by decide) rfl (Nat.le_of_ble_eq_true rfl) ?_
  intro p e s m below meth c A H locs ls hx hb hr hml hts hown hlocks hsz hP hK hD hE hA hS hl
  have hl : lv_has ls 2 [(0, .ref qs), (1, .int i)] := hl
  have hown : s.vm.findClass RX1 = some m.cls := hown
  refine lv_iload_n hx hb dX1_sumPlace_0 rfl (lv_at hl 1 rfl) ?_
  refine hc_iS (As := [.int i]) (rest := []) ⟨hx, hb, hml, hown, hts⟩ sx_T trivial (kX1_firstPlace l dC dI H.size i ) (va_cwS 1 hts gX1_sumPlace_X1_firstPlace rfl rfl rfl (by decide +kernel) ⟨Nat.le_of_ble_eq_true rfl, Nat.le_of_ble_eq_true rfl⟩) hK hP hD hS hA [0, 1, 2] rfl rfl rfl hl.1 rfl (Nat.le_of_ble_eq_true rfl) dX1_sumPlace_1 ⟨Nat.zero_le _, Nat.zero_le _⟩ (fun H locs hP hD hS => ?_)
  refine lv_bipush (v := 6) hx hb dX1_sumPlace_4 (by decide) ?_
  refine lv_iadd hx hb dX1_sumPlace_6 ?_
  refine lv_aload_n hx hb dX1_sumPlace_7 rfl (lv_at hl 0 rfl) ?_
  refine lv_iload_n hx hb dX1_sumPlace_8 rfl (lv_at hl 1 rfl) ?_
  refine hc_iV (As := [.int i]) (rest := [.int ((i * 64) + 6)]) (wr := []) ⟨hx, hb, hml, hown, hts⟩ sx_T trivial (kX1_length l dC dI H.size qs qb qa cB f N i (hN)) (cwV 1 hts gX1_sumPlace_X1_length rfl rfl rfl (by decide +kernel) ⟨Nat.le_of_ble_eq_true rfl, Nat.le_of_ble_eq_true rfl⟩) hK hP hD hS hA [0, 1, 2] [] [0] rfl rfl rfl rfl rfl (by decide) (ci := 1) rfl rfl rfl rfl hl.1 rfl (Nat.le_of_ble_eq_true rfl) dX1_sumPlace_9 ⟨Nat.zero_le _, Nat.zero_le _⟩ (fun H locs hP hD hS => ?_)
  have hP : va_P (dC, dI) hlCl [(qs, .inr (1, [.ref qb])), (qb, .inr (0, [.ref qa])), (qa, .inl (cB, N, .inl f))] H := hP
  have hD : va_D A [(qs, .inr (1, [.ref qb])), (qb, .inr (0, [.ref qa])), (qa, .inl (cB, N, .inl f))] := hD
  refine lv_iadd hx hb dX1_sumPlace_12 ?_
  exact hr_i (v := ((i * 64) + 6) + (gB f N ((i * 64) + 5))) hx hb hr hlocks (w1 := [(qs, .inr (1, [.ref qb])), (qb, .inr (0, [.ref qa])), (qa, .inl (cB, N, .inl f))]) hP hD hK hS [0, 1, 2] [0] rfl rfl rfl (rfl) (rfl) dX1_sumPlace_13

def rsI (f : Nat → Int32) (N k : Nat) : Int32 := sumB f N (k * 64) (-1756908916) (k * 64 + 6 + lnN f N k - k * 64)

set_option maxHeartbeats 4000000 in
set_option maxRecDepth 100000 in
theorem kX1_rowSum (l : Launch) (dC : Nat → ClassId) (dI : Nat → Nat → Nat) (sz : Nat) (qs qb qa : Nat) (cB : ClassId) (f : Nat → Int32) (N : Nat) (k : Nat) (hN : N < 2 ^ 31) (hk : k < 1000) : Mi_ l yX1_rowSum wsX1_rowSum 3 63 dC dI (fun _ => True) [.ref qs, .int (nI k)] [(qs, .inr (1, [.ref qb])), (qb, .inr (0, [.ref qa])), (qa, .inl (cB, N, .inl f))] [(cB, .byte)] sz (rsI f N k) [(qs, .inr (1, [.ref qb])), (qb, .inr (0, [.ref qa])), (qa, .inl (cB, N, .inl f))] := by
  refine hm_ (cc := cX1_rowSum) (maxL := 2) (ret := (some .int)) (Qc := fun A => va_Qi (fun (r9 : Int32) (_ : Unit) => r9 = rsI f N k) (fun _ t9 => qw_ dC dI A [(qs, .inr (1, [.ref qb])), (qb, .inr (0, [.ref qa])), (qa, .inl (cB, N, .inl f))] [(cB, .byte)] t9) A) (by decide) rfl (Nat.le_of_ble_eq_true rfl) ?_
  intro p e s m below meth c A H locs ls hx hb hr hml hts hown hlocks hsz hP hK hD hE hA hS hl
  have hl : lv_has ls 2 [(0, .ref qs), (1, .int (nI k))] := hl
  have hown : s.vm.findClass RX1 = some m.cls := hown
  refine lv_aload_n hx hb dX1_rowSum_0 rfl (lv_at hl 0 rfl) ?_
  refine va_get (D := (dC, dI)) (ci := 1) (v := .ref qb) (C := RX1) (T := TX1) (N := 1) hx hb hts (by decide +kernel) hown hK hP 0 rfl rfl 0 (by decide) (hts (.fieldLink RX1 14 "HouseLog$Sectors" "bytes" "LHouseLog$Bytes;") (by decide +kernel)) (fun _ h9 => h9) rfl dX1_rowSum_1 ?_
  refine lv_ldc (v := (-1756908916)) hx hb hown (hts (.constant RX1 57 (-1756908916)) (by decide +kernel)) dX1_rowSum_4 ?_
  refine lv_iload_n hx hb dX1_rowSum_6 rfl (lv_at hl 1 rfl) ?_
  refine hc_iS (As := [.int (nI k)]) (rest := [.int (-1756908916), .ref qb]) ⟨hx, hb, hml, hown, hts⟩ sx_T trivial (kX1_firstPlace l dC dI H.size (nI k) ) (va_cwS 1 hts gX1_rowSum_X1_firstPlace rfl rfl rfl (by decide +kernel) ⟨Nat.le_of_ble_eq_true rfl, Nat.le_of_ble_eq_true rfl⟩) hK hP hD hS hA [0, 1, 2] rfl rfl rfl hl.1 rfl (Nat.le_of_ble_eq_true rfl) dX1_rowSum_7 ⟨Nat.zero_le _, Nat.zero_le _⟩ (fun H locs hP hD hS => ?_)
  refine lv_aload_n hx hb dX1_rowSum_10 rfl (lv_at hl 0 rfl) ?_
  refine lv_iload_n hx hb dX1_rowSum_11 rfl (lv_at hl 1 rfl) ?_
  refine hc_iV (As := [.int (nI k)]) (rest := [.int ((nI k) * 64), .int (-1756908916), .ref qb]) (wr := []) ⟨hx, hb, hml, hown, hts⟩ sx_T trivial (kX1_sumPlace l dC dI H.size qs qb qa cB f N (nI k) (hN)) (cwV 1 hts gX1_rowSum_X1_sumPlace rfl rfl rfl (by decide +kernel) ⟨Nat.le_of_ble_eq_true rfl, Nat.le_of_ble_eq_true rfl⟩) hK hP hD hS hA [0, 1, 2] [] [0] rfl rfl rfl rfl rfl (by decide) (ci := 1) rfl rfl rfl rfl hl.1 rfl (Nat.le_of_ble_eq_true rfl) dX1_rowSum_12 ⟨Nat.zero_le _, Nat.zero_le _⟩ (fun H locs hP hD hS => ?_)
  have hP : va_P (dC, dI) hlCl [(qs, .inr (1, [.ref qb])), (qb, .inr (0, [.ref qa])), (qa, .inl (cB, N, .inl f))] H := hP
  have hD : va_D A [(qs, .inr (1, [.ref qb])), (qb, .inr (0, [.ref qa])), (qa, .inl (cB, N, .inl f))] := hD
  rw [sp_, fp_]
  refine hc_iV (As := [.int (-1756908916), .int (nI (k * 64)), .int (nI (k * 64 + 6 + lnN f N k))]) (rest := []) (wr := [(qs, .inr (1, [.ref qb]))]) ⟨hx, hb, hml, hown, hts⟩ sx_T trivial (kX0_sumOn l dC dI H.size qb qa cB f N (-1756908916) (k * 64) (k * 64 + 6 + lnN f N k) (hN) (by omega) (by have h9 := (lnN_e f N k).2; omega)) (cwV 3 hts gX1_rowSum_X0_sumOn rfl rfl rfl (by decide +kernel) ⟨Nat.le_of_ble_eq_true rfl, Nat.le_of_ble_eq_true rfl⟩) hK hP hD hS hA [1, 2] [0] [0] rfl rfl rfl rfl rfl (by decide) (ci := 0) rfl rfl rfl rfl hl.1 rfl (Nat.le_of_ble_eq_true rfl) dX1_rowSum_15 ⟨Nat.zero_le _, Nat.zero_le _⟩ (fun H locs hP hD hS => ?_)
  have hP : va_P (dC, dI) hlCl [(qs, .inr (1, [.ref qb])), (qb, .inr (0, [.ref qa])), (qa, .inl (cB, N, .inl f))] H := hP
  have hD : va_D A [(qs, .inr (1, [.ref qb])), (qb, .inr (0, [.ref qa])), (qa, .inl (cB, N, .inl f))] := hD
  exact hr_i (v := sumB f N (k * 64) (-1756908916) ((k * 64 + 6 + lnN f N k) - (k * 64))) hx hb hr hlocks (w1 := [(qs, .inr (1, [.ref qb])), (qb, .inr (0, [.ref qa])), (qa, .inl (cB, N, .inl f))]) hP hD hK hS [0, 1, 2] [0] rfl rfl rfl (rfl) (rfl) dX1_rowSum_18

def sbI (f : Nat → Int32) (N : Nat) (s0 : Int32) (k : Nat) : Int32 := sumB f N (k * 64 + 4) s0 (k * 64 + 6 + lnN f N k - (k * 64 + 4))

set_option maxHeartbeats 4000000 in
set_option maxRecDepth 100000 in
theorem kX1_sumBehindNumber (l : Launch) (dC : Nat → ClassId) (dI : Nat → Nat → Nat) (sz : Nat) (qs qb qa : Nat) (cB : ClassId) (f : Nat → Int32) (N : Nat) (s0 : Int32) (k : Nat) (hN : N < 2 ^ 31) (hk : k < 1000) : Mi_ l yX1_sumBehindNumber wsX1_sumBehindNumber 3 63 dC dI (fun _ => True) [.ref qs, .int s0, .int (nI k)] [(qs, .inr (1, [.ref qb])), (qb, .inr (0, [.ref qa])), (qa, .inl (cB, N, .inl f))] [(cB, .byte)] sz (sbI f N s0 k) [(qs, .inr (1, [.ref qb])), (qb, .inr (0, [.ref qa])), (qa, .inl (cB, N, .inl f))] := by
  refine hm_ (cc := cX1_sumBehindNumber) (maxL := 3) (ret := (some .int)) (Qc := fun A => va_Qi (fun (r9 : Int32) (_ : Unit) => r9 = sbI f N s0 k) (fun _ t9 => qw_ dC dI A [(qs, .inr (1, [.ref qb])), (qb, .inr (0, [.ref qa])), (qa, .inl (cB, N, .inl f))] [(cB, .byte)] t9) A) (by decide) rfl (Nat.le_of_ble_eq_true rfl) ?_
  intro p e s m below meth c A H locs ls hx hb hr hml hts hown hlocks hsz hP hK hD hE hA hS hl
  have hl : lv_has ls 3 [(0, .ref qs), (1, .int s0), (2, .int (nI k))] := hl
  have hown : s.vm.findClass RX1 = some m.cls := hown
  refine lv_aload_n hx hb dX1_sumBehindNumber_0 rfl (lv_at hl 0 rfl) ?_
  refine va_get (D := (dC, dI)) (ci := 1) (v := .ref qb) (C := RX1) (T := TX1) (N := 1) hx hb hts (by decide +kernel) hown hK hP 0 rfl rfl 0 (by decide) (hts (.fieldLink RX1 14 "HouseLog$Sectors" "bytes" "LHouseLog$Bytes;") (by decide +kernel)) (fun _ h9 => h9) rfl dX1_sumBehindNumber_1 ?_
  refine lv_iload_n hx hb dX1_sumBehindNumber_4 rfl (lv_at hl 1 rfl) ?_
  refine lv_iload_n hx hb dX1_sumBehindNumber_5 rfl (lv_at hl 2 rfl) ?_
  refine hc_iS (As := [.int (nI k)]) (rest := [.int s0, .ref qb]) ⟨hx, hb, hml, hown, hts⟩ sx_T trivial (kX1_firstPlace l dC dI H.size (nI k) ) (va_cwS 1 hts gX1_sumBehindNumber_X1_firstPlace rfl rfl rfl (by decide +kernel) ⟨Nat.le_of_ble_eq_true rfl, Nat.le_of_ble_eq_true rfl⟩) hK hP hD hS hA [0, 1, 2] rfl rfl rfl hl.1 rfl (Nat.le_of_ble_eq_true rfl) dX1_sumBehindNumber_6 ⟨Nat.zero_le _, Nat.zero_le _⟩ (fun H locs hP hD hS => ?_)
  refine lv_iconst (v := 4) hx hb dX1_sumBehindNumber_9 (by decide) ?_
  refine lv_iadd hx hb dX1_sumBehindNumber_10 ?_
  refine lv_aload_n hx hb dX1_sumBehindNumber_11 rfl (lv_at hl 0 rfl) ?_
  refine lv_iload_n hx hb dX1_sumBehindNumber_12 rfl (lv_at hl 2 rfl) ?_
  refine hc_iV (As := [.int (nI k)]) (rest := [.int (((nI k) * 64) + 4), .int s0, .ref qb]) (wr := []) ⟨hx, hb, hml, hown, hts⟩ sx_T trivial (kX1_sumPlace l dC dI H.size qs qb qa cB f N (nI k) (hN)) (cwV 1 hts gX1_sumBehindNumber_X1_sumPlace rfl rfl rfl (by decide +kernel) ⟨Nat.le_of_ble_eq_true rfl, Nat.le_of_ble_eq_true rfl⟩) hK hP hD hS hA [0, 1, 2] [] [0] rfl rfl rfl rfl rfl (by decide) (ci := 1) rfl rfl rfl rfl hl.1 rfl (Nat.le_of_ble_eq_true rfl) dX1_sumBehindNumber_13 ⟨Nat.zero_le _, Nat.zero_le _⟩ (fun H locs hP hD hS => ?_)
  have hP : va_P (dC, dI) hlCl [(qs, .inr (1, [.ref qb])), (qb, .inr (0, [.ref qa])), (qa, .inl (cB, N, .inl f))] H := hP
  have hD : va_D A [(qs, .inr (1, [.ref qb])), (qb, .inr (0, [.ref qa])), (qa, .inl (cB, N, .inl f))] := hD
  rw [sp_, fp_, show (4 : Int32) = nI 4 from rfl, nI_add]
  refine hc_iV (As := [.int s0, .int (nI (k * 64 + 4)), .int (nI (k * 64 + 6 + lnN f N k))]) (rest := []) (wr := [(qs, .inr (1, [.ref qb]))]) ⟨hx, hb, hml, hown, hts⟩ sx_T trivial (kX0_sumOn l dC dI H.size qb qa cB f N s0 (k * 64 + 4) (k * 64 + 6 + lnN f N k) (hN) (by omega) (by have h9 := (lnN_e f N k).2; omega)) (cwV 3 hts gX1_sumBehindNumber_X0_sumOn rfl rfl rfl (by decide +kernel) ⟨Nat.le_of_ble_eq_true rfl, Nat.le_of_ble_eq_true rfl⟩) hK hP hD hS hA [1, 2] [0] [0] rfl rfl rfl rfl rfl (by decide) (ci := 0) rfl rfl rfl rfl hl.1 rfl (Nat.le_of_ble_eq_true rfl) dX1_sumBehindNumber_16 ⟨Nat.zero_le _, Nat.zero_le _⟩ (fun H locs hP hD hS => ?_)
  have hP : va_P (dC, dI) hlCl [(qs, .inr (1, [.ref qb])), (qb, .inr (0, [.ref qa])), (qa, .inl (cB, N, .inl f))] H := hP
  have hD : va_D A [(qs, .inr (1, [.ref qb])), (qb, .inr (0, [.ref qa])), (qa, .inl (cB, N, .inl f))] := hD
  exact hr_i (v := sumB f N (k * 64 + 4) s0 ((k * 64 + 6 + lnN f N k) - (k * 64 + 4))) hx hb hr hlocks (w1 := [(qs, .inr (1, [.ref qb])), (qb, .inr (0, [.ref qa])), (qa, .inl (cB, N, .inl f))]) hP hD hK hS [0, 1, 2] [0] rfl rfl rfl (rfl) (rfl) dX1_sumBehindNumber_19

def ikI (x : Int32) : Int32 := (if x < 1 then 0 else (if 9 < x then 0 else 1))
set_option maxHeartbeats 4000000 in
set_option maxRecDepth 100000 in
theorem kX2_isKind (l : Launch) (dC : Nat → ClassId) (dI : Nat → Nat → Nat) (sz : Nat) (x : Int32)  : Mi_ l yX2_isKind wsX2_isKind 0 0 dC dI (fun _ => True) [.int x] [] [] sz (ikI x) [] := by
  refine hm_ (cc := cX2_isKind) (maxL := 1) (ret := (some .boolean)) (Qc := fun A => va_Qi (fun (r9 : Int32) (_ : Unit) => r9 = ikI x) (fun _ t9 => qw_ dC dI A [] [] t9) A) (by decide) rfl (Nat.le_of_ble_eq_true rfl) ?_
  intro p e s m below meth c A H locs ls hx hb hr hml hts hown hlocks hsz hP hK hD hE hA hS hl
  have hl : lv_has ls 1 [(0, .int x)] := hl
  have hown : s.vm.findClass RX2 = some m.cls := hown
  refine lv_iload_n hx hb dX2_isKind_0 rfl (lv_at hl 0 rfl) ?_
  refine lv_iconst (v := 1) hx hb dX2_isKind_1 (by decide) ?_
  refine lv_icmp_lt (tgt := 15) hx hb dX2_isKind_2 (by decide) (fun c_2 => ?_) (fun c_2 => ?_)
  · skip
    refine lv_iconst (v := 0) hx hb dX2_isKind_15 (by decide) ?_
    exact hr_z (v := 0) hx hb hr hlocks (by decide) (w1 := []) hP hD hK hS [] [] rfl rfl rfl (by unfold ikI; rw [if_pos c_2]) (rfl) dX2_isKind_16
  · skip
    refine lv_iload_n hx hb dX2_isKind_5 rfl (lv_at hl 0 rfl) ?_
    refine lv_bipush (v := 9) hx hb dX2_isKind_6 (by decide) ?_
    refine lv_icmp_gt (tgt := 15) hx hb dX2_isKind_8 (by decide) (fun c_8 => ?_) (fun c_8 => ?_)
    · skip
      refine lv_iconst (v := 0) hx hb dX2_isKind_15 (by decide) ?_
      exact hr_z (v := 0) hx hb hr hlocks (by decide) (w1 := []) hP hD hK hS [] [] rfl rfl rfl (by unfold ikI; rw [if_neg c_2, if_pos c_8]) (rfl) dX2_isKind_16
    · skip
      refine lv_iconst (v := 1) hx hb dX2_isKind_11 (by decide) ?_
      refine lv_goto (tgt := 16) hx hb dX2_isKind_12 (by decide) ?_
      exact hr_z (v := 1) hx hb hr hlocks (by decide) (w1 := []) hP hD hK hS [] [] rfl rfl rfl (by unfold ikI; rw [if_neg c_2, if_neg c_8]) (rfl) dX2_isKind_16

/-- words of the tables about nest mates -/
def zN (U : State) : Prop := va_Nw (.methodLinkNest RX1 33 yX2_isKind "HouseLog") U ∧ va_Nw (.fieldLinkNest RX2 112 "HouseLog$Sectors" "bytes" "LHouseLog$Bytes;" "HouseLog") U
theorem sx_N : sx_ zN := ⟨fun U V h q => ⟨va_Nw.same rfl h q.1, va_Nw.same rfl h q.2⟩, fun s U hW q => ⟨va_Nw.warmM hW q.1, va_Nw.warmF hW q.2⟩⟩

def rtI (f : Nat → Int32) (N : Nat) (k : Nat) : Int32 := (if (wB f N ((nI k) * 64)) = (nI k) then (if (ikI (gB f N (((nI k) * 64) + 4))) = 0 then 0 else (if 40 < (gB f N (((nI k) * 64) + 5)) then 0 else (if (wB f N ((nI k) * 64 + 6 + gB f N ((nI k) * 64 + 5))) = (rsI f N k) then 1 else 0))) else 0)
set_option maxHeartbeats 4000000 in
set_option maxRecDepth 100000 in
theorem kX1_isRight (l : Launch) (dC : Nat → ClassId) (dI : Nat → Nat → Nat) (sz : Nat) (qs qb qa : Nat) (cB : ClassId) (f : Nat → Int32) (N : Nat) (k : Nat) (hN : N < 2 ^ 31) (hk : k < 1000) : Mi_ l yX1_isRight wsX1_isRight 4 84 dC dI zN [.ref qs, .int (nI k)] [(qs, .inr (1, [.ref qb])), (qb, .inr (0, [.ref qa])), (qa, .inl (cB, N, .inl f))] [(cB, .byte)] sz (rtI f N k) [(qs, .inr (1, [.ref qb])), (qb, .inr (0, [.ref qa])), (qa, .inl (cB, N, .inl f))] := by
  refine hm_ (cc := cX1_isRight) (maxL := 2) (ret := (some .boolean)) (Qc := fun A => va_Qi (fun (r9 : Int32) (_ : Unit) => r9 = rtI f N k) (fun _ t9 => qw_ dC dI A [(qs, .inr (1, [.ref qb])), (qb, .inr (0, [.ref qa])), (qa, .inl (cB, N, .inl f))] [(cB, .byte)] t9) A) (by decide) rfl (Nat.le_of_ble_eq_true rfl) ?_
  intro p e s m below meth c A H locs ls hx hb hr hml hts hown hlocks hsz hP hK hD hE hA hS hl
  have hl : lv_has ls 2 [(0, .ref qs), (1, .int (nI k))] := hl
  have hown : s.vm.findClass RX1 = some m.cls := hown
  refine lv_aload_n hx hb dX1_isRight_0 rfl (lv_at hl 0 rfl) ?_
  refine va_get (D := (dC, dI)) (ci := 1) (v := .ref qb) (C := RX1) (T := TX1) (N := 1) hx hb hts (by decide +kernel) hown hK hP 0 rfl rfl 0 (by decide) (hts (.fieldLink RX1 14 "HouseLog$Sectors" "bytes" "LHouseLog$Bytes;") (by decide +kernel)) (fun _ h9 => h9) rfl dX1_isRight_1 ?_
  refine lv_iload_n hx hb dX1_isRight_4 rfl (lv_at hl 1 rfl) ?_
  refine hc_iS (As := [.int (nI k)]) (rest := [.ref qb]) ⟨hx, hb, hml, hown, hts⟩ sx_T trivial (kX1_firstPlace l dC dI H.size (nI k) ) (va_cwS 1 hts gX1_isRight_X1_firstPlace rfl rfl rfl (by decide +kernel) ⟨Nat.le_of_ble_eq_true rfl, Nat.le_of_ble_eq_true rfl⟩) hK hP hD hS hA [0, 1, 2] rfl rfl rfl hl.1 rfl (Nat.le_of_ble_eq_true rfl) dX1_isRight_5 ⟨Nat.zero_le _, Nat.zero_le _⟩ (fun H locs hP hD hS => ?_)
  refine hc_iV (As := [.int ((nI k) * 64)]) (rest := []) (wr := [(qs, .inr (1, [.ref qb]))]) ⟨hx, hb, hml, hown, hts⟩ sx_T trivial (kX0_word l dC dI H.size qb qa cB f N ((nI k) * 64) (hN)) (cwV 1 hts gX1_isRight_X0_word rfl rfl rfl (by decide +kernel) ⟨Nat.le_of_ble_eq_true rfl, Nat.le_of_ble_eq_true rfl⟩) hK hP hD hS hA [1, 2] [0] [0] rfl rfl rfl rfl rfl (by decide) (ci := 0) rfl rfl rfl rfl hl.1 rfl (Nat.le_of_ble_eq_true rfl) dX1_isRight_8 ⟨Nat.zero_le _, Nat.zero_le _⟩ (fun H locs hP hD hS => ?_)
  have hP : va_P (dC, dI) hlCl [(qs, .inr (1, [.ref qb])), (qb, .inr (0, [.ref qa])), (qa, .inl (cB, N, .inl f))] H := hP
  have hD : va_D A [(qs, .inr (1, [.ref qb])), (qb, .inr (0, [.ref qa])), (qa, .inl (cB, N, .inl f))] := hD
  refine lv_iload_n hx hb dX1_isRight_11 rfl (lv_at hl 1 rfl) ?_
  refine lv_icmp_ne (tgt := 60) hx hb dX1_isRight_12 (by decide) (fun c_12 => ?_) (fun c_12 => ?_)
  · skip
    refine lv_iconst (v := 0) hx hb dX1_isRight_60 (by decide) ?_
    exact hr_z (v := 0) hx hb hr hlocks (by decide) (w1 := [(qs, .inr (1, [.ref qb])), (qb, .inr (0, [.ref qa])), (qa, .inl (cB, N, .inl f))]) hP hD hK hS [0, 1, 2] [0] rfl rfl rfl (by unfold rtI; rw [if_neg c_12]) (rfl) dX1_isRight_61
  · skip
    refine lv_aload_n hx hb dX1_isRight_15 rfl (lv_at hl 0 rfl) ?_
    refine lv_iload_n hx hb dX1_isRight_16 rfl (lv_at hl 1 rfl) ?_
    refine hc_iV (As := [.int (nI k)]) (rest := []) (wr := []) ⟨hx, hb, hml, hown, hts⟩ sx_T trivial (kX1_kind l dC dI H.size qs qb qa cB f N (nI k) (hN)) (cwV 1 hts gX1_isRight_X1_kind rfl rfl rfl (by decide +kernel) ⟨Nat.le_of_ble_eq_true rfl, Nat.le_of_ble_eq_true rfl⟩) hK hP hD hS hA [0, 1, 2] [] [0] rfl rfl rfl rfl rfl (by decide) (ci := 1) rfl rfl rfl rfl hl.1 rfl (Nat.le_of_ble_eq_true rfl) dX1_isRight_17 ⟨Nat.zero_le _, Nat.zero_le _⟩ (fun H locs hP hD hS => ?_)
    have hP : va_P (dC, dI) hlCl [(qs, .inr (1, [.ref qb])), (qb, .inr (0, [.ref qa])), (qa, .inl (cB, N, .inl f))] H := hP
    have hD : va_D A [(qs, .inr (1, [.ref qb])), (qb, .inr (0, [.ref qa])), (qa, .inl (cB, N, .inl f))] := hD
    refine hc_iN (As := [.int (gB f N (((nI k) * 64) + 4))]) (rest := []) ⟨hx, hb, hml, hown, hts⟩ sx_T trivial (kX2_isKind l dC dI H.size (gB f N (((nI k) * 64) + 4)) ) (⟨va_cnB 1 hts gX1_isRight_X2_isKind_n33 rfl rfl rfl hE.1 (hts (.initialized RX2) (by decide +kernel)) (by decide +kernel) ⟨Nat.le_of_ble_eq_true rfl, Nat.le_of_ble_eq_true rfl⟩, hts (.static yX2_isKind) (by decide +kernel), trivial⟩) hK hP hD hS hA [0, 1, 2] rfl rfl rfl hl.1 rfl (Nat.le_of_ble_eq_true rfl) dX1_isRight_20 ⟨Nat.zero_le _, Nat.zero_le _⟩ (fun H locs hP hD hS => ?_)
    refine lv_if_eq (tgt := 60) hx hb dX1_isRight_23 (by decide) (fun c_23 => ?_) (fun c_23 => ?_)
    · skip
      refine lv_iconst (v := 0) hx hb dX1_isRight_60 (by decide) ?_
      exact hr_z (v := 0) hx hb hr hlocks (by decide) (w1 := [(qs, .inr (1, [.ref qb])), (qb, .inr (0, [.ref qa])), (qa, .inl (cB, N, .inl f))]) hP hD hK hS [0, 1, 2] [0] rfl rfl rfl (by unfold rtI; rw [if_pos c_12, if_pos c_23]) (rfl) dX1_isRight_61
    · skip
      refine lv_aload_n hx hb dX1_isRight_26 rfl (lv_at hl 0 rfl) ?_
      refine lv_iload_n hx hb dX1_isRight_27 rfl (lv_at hl 1 rfl) ?_
      refine hc_iV (As := [.int (nI k)]) (rest := []) (wr := []) ⟨hx, hb, hml, hown, hts⟩ sx_T trivial (kX1_length l dC dI H.size qs qb qa cB f N (nI k) (hN)) (cwV 1 hts gX1_isRight_X1_length rfl rfl rfl (by decide +kernel) ⟨Nat.le_of_ble_eq_true rfl, Nat.le_of_ble_eq_true rfl⟩) hK hP hD hS hA [0, 1, 2] [] [0] rfl rfl rfl rfl rfl (by decide) (ci := 1) rfl rfl rfl rfl hl.1 rfl (Nat.le_of_ble_eq_true rfl) dX1_isRight_28 ⟨Nat.zero_le _, Nat.zero_le _⟩ (fun H locs hP hD hS => ?_)
      have hP : va_P (dC, dI) hlCl [(qs, .inr (1, [.ref qb])), (qb, .inr (0, [.ref qa])), (qa, .inl (cB, N, .inl f))] H := hP
      have hD : va_D A [(qs, .inr (1, [.ref qb])), (qb, .inr (0, [.ref qa])), (qa, .inl (cB, N, .inl f))] := hD
      refine lv_bipush (v := 40) hx hb dX1_isRight_31 (by decide) ?_
      refine lv_icmp_gt (tgt := 60) hx hb dX1_isRight_33 (by decide) (fun c_33 => ?_) (fun c_33 => ?_)
      · skip
        refine lv_iconst (v := 0) hx hb dX1_isRight_60 (by decide) ?_
        exact hr_z (v := 0) hx hb hr hlocks (by decide) (w1 := [(qs, .inr (1, [.ref qb])), (qb, .inr (0, [.ref qa])), (qa, .inl (cB, N, .inl f))]) hP hD hK hS [0, 1, 2] [0] rfl rfl rfl (by unfold rtI; rw [if_pos c_12, if_neg c_23, if_pos c_33]) (rfl) dX1_isRight_61
      · skip
        refine lv_aload_n hx hb dX1_isRight_36 rfl (lv_at hl 0 rfl) ?_
        refine va_get (D := (dC, dI)) (ci := 1) (v := .ref qb) (C := RX1) (T := TX1) (N := 1) hx hb hts (by decide +kernel) hown hK hP 0 rfl rfl 0 (by decide) (hts (.fieldLink RX1 14 "HouseLog$Sectors" "bytes" "LHouseLog$Bytes;") (by decide +kernel)) (fun _ h9 => h9) rfl dX1_isRight_37 ?_
        refine lv_aload_n hx hb dX1_isRight_40 rfl (lv_at hl 0 rfl) ?_
        refine lv_iload_n hx hb dX1_isRight_41 rfl (lv_at hl 1 rfl) ?_
        refine hc_iV (As := [.int (nI k)]) (rest := [.ref qb]) (wr := []) ⟨hx, hb, hml, hown, hts⟩ sx_T trivial (kX1_sumPlace l dC dI H.size qs qb qa cB f N (nI k) (hN)) (cwV 1 hts gX1_isRight_X1_sumPlace rfl rfl rfl (by decide +kernel) ⟨Nat.le_of_ble_eq_true rfl, Nat.le_of_ble_eq_true rfl⟩) hK hP hD hS hA [0, 1, 2] [] [0] rfl rfl rfl rfl rfl (by decide) (ci := 1) rfl rfl rfl rfl hl.1 rfl (Nat.le_of_ble_eq_true rfl) dX1_isRight_42 ⟨Nat.zero_le _, Nat.zero_le _⟩ (fun H locs hP hD hS => ?_)
        have hP : va_P (dC, dI) hlCl [(qs, .inr (1, [.ref qb])), (qb, .inr (0, [.ref qa])), (qa, .inl (cB, N, .inl f))] H := hP
        have hD : va_D A [(qs, .inr (1, [.ref qb])), (qb, .inr (0, [.ref qa])), (qa, .inl (cB, N, .inl f))] := hD
        refine hc_iV (As := [.int ((nI k) * 64 + 6 + gB f N ((nI k) * 64 + 5))]) (rest := []) (wr := [(qs, .inr (1, [.ref qb]))]) ⟨hx, hb, hml, hown, hts⟩ sx_T trivial (kX0_word l dC dI H.size qb qa cB f N ((nI k) * 64 + 6 + gB f N ((nI k) * 64 + 5)) (hN)) (cwV 1 hts gX1_isRight_X0_word rfl rfl rfl (by decide +kernel) ⟨Nat.le_of_ble_eq_true rfl, Nat.le_of_ble_eq_true rfl⟩) hK hP hD hS hA [1, 2] [0] [0] rfl rfl rfl rfl rfl (by decide) (ci := 0) rfl rfl rfl rfl hl.1 rfl (Nat.le_of_ble_eq_true rfl) dX1_isRight_45 ⟨Nat.zero_le _, Nat.zero_le _⟩ (fun H locs hP hD hS => ?_)
        have hP : va_P (dC, dI) hlCl [(qs, .inr (1, [.ref qb])), (qb, .inr (0, [.ref qa])), (qa, .inl (cB, N, .inl f))] H := hP
        have hD : va_D A [(qs, .inr (1, [.ref qb])), (qb, .inr (0, [.ref qa])), (qa, .inl (cB, N, .inl f))] := hD
        refine lv_aload_n hx hb dX1_isRight_48 rfl (lv_at hl 0 rfl) ?_
        refine lv_iload_n hx hb dX1_isRight_49 rfl (lv_at hl 1 rfl) ?_
        refine hc_iV (As := [.int (nI k)]) (rest := [.int (wB f N ((nI k) * 64 + 6 + gB f N ((nI k) * 64 + 5)))]) (wr := []) ⟨hx, hb, hml, hown, hts⟩ sx_T trivial (kX1_rowSum l dC dI H.size qs qb qa cB f N k (hN) (hk)) (cwV 1 hts gX1_isRight_X1_rowSum rfl rfl rfl (by decide +kernel) ⟨Nat.le_of_ble_eq_true rfl, Nat.le_of_ble_eq_true rfl⟩) hK hP hD hS hA [0, 1, 2] [] [0] rfl rfl rfl rfl rfl (by decide) (ci := 1) rfl rfl rfl rfl hl.1 rfl (Nat.le_of_ble_eq_true rfl) dX1_isRight_50 ⟨Nat.zero_le _, Nat.zero_le _⟩ (fun H locs hP hD hS => ?_)
        have hP : va_P (dC, dI) hlCl [(qs, .inr (1, [.ref qb])), (qb, .inr (0, [.ref qa])), (qa, .inl (cB, N, .inl f))] H := hP
        have hD : va_D A [(qs, .inr (1, [.ref qb])), (qb, .inr (0, [.ref qa])), (qa, .inl (cB, N, .inl f))] := hD
        refine lv_icmp_ne (tgt := 60) hx hb dX1_isRight_53 (by decide) (fun c_53 => ?_) (fun c_53 => ?_)
        · skip
          refine lv_iconst (v := 0) hx hb dX1_isRight_60 (by decide) ?_
          exact hr_z (v := 0) hx hb hr hlocks (by decide) (w1 := [(qs, .inr (1, [.ref qb])), (qb, .inr (0, [.ref qa])), (qa, .inl (cB, N, .inl f))]) hP hD hK hS [0, 1, 2] [0] rfl rfl rfl (by unfold rtI; rw [if_pos c_12, if_neg c_23, if_neg c_33, if_neg c_53]) (rfl) dX1_isRight_61
        · skip
          refine lv_iconst (v := 1) hx hb dX1_isRight_56 (by decide) ?_
          refine lv_goto (tgt := 61) hx hb dX1_isRight_57 (by decide) ?_
          exact hr_z (v := 1) hx hb hr hlocks (by decide) (w1 := [(qs, .inr (1, [.ref qb])), (qb, .inr (0, [.ref qa])), (qa, .inl (cB, N, .inl f))]) hP hD hK hS [0, 1, 2] [0] rfl rfl rfl (by unfold rtI; rw [if_pos c_12, if_neg c_23, if_neg c_33, if_pos c_53]) (rfl) dX1_isRight_61

def tkB (f : Nat → Int32) (N : Nat) (g : Nat → Int32) (a : Nat) : Nat → Nat → Int32
  | 0 => f
  | i + 1 => sB (tkB f N g a i) N (nI (a + i)) (gB g N (nI (a + i)))
theorem tkB_s (f : Nat → Int32) (N : Nat) (g : Nat → Int32) (a i : Nat) : tkB f N g a (i + 1) = sB (tkB f N g a i) N (nI (a + i)) (gB g N (nI (a + i))) := rfl

set_option maxHeartbeats 4000000 in
set_option maxRecDepth 100000 in
theorem kX1_take (l : Launch) (dC : Nat → ClassId) (dI : Nat → Nat → Nat) (sz : Nat) (qs qb qa qs2 qb2 qa2 : Nat) (cB cB2 : ClassId) (f : Nat → Int32) (N : Nat) (g : Nat → Int32) (k t : Nat) (hN : N < 2 ^ 31) (hk : k < 1000) (ht : t ≤ 64) : Mv_ l yX1_take wsX1_take 1 22 dC dI (fun _ => True) [.ref qs, .ref qs2, .int (nI k), .int (nI t)] [(qs, .inr (1, [.ref qb])), (qb, .inr (0, [.ref qa])), (qa, .inl (cB, N, .inl f)), (qs2, .inr (1, [.ref qb2])), (qb2, .inr (0, [.ref qa2])), (qa2, .inl (cB2, N, .inl g))] [(cB, .byte), (cB2, .byte)] sz [(qs, .inr (1, [.ref qb])), (qb, .inr (0, [.ref qa])), (qa, .inl (cB, N, .inl (tkB f N g (k * 64) t))), (qs2, .inr (1, [.ref qb2])), (qb2, .inr (0, [.ref qa2])), (qa2, .inl (cB2, N, .inl g))] := by
  refine hm_ (cc := cX1_take) (maxL := 6) (ret := none) (Qc := fun A => va_Qv (fun (_ : Unit) => True) (fun _ t9 => qw_ dC dI A [(qs, .inr (1, [.ref qb])), (qb, .inr (0, [.ref qa])), (qa, .inl (cB, N, .inl (tkB f N g (k * 64) t))), (qs2, .inr (1, [.ref qb2])), (qb2, .inr (0, [.ref qa2])), (qa2, .inl (cB2, N, .inl g))] [(cB, .byte), (cB2, .byte)] t9) A) (by decide) rfl (Nat.le_of_ble_eq_true rfl) ?_
  intro p e s m below meth c A H locs ls hx hb hr hml hts hown hlocks hsz hP hK hD hE hA hS hl
  have hl : lv_has ls 6 [(0, .ref qs), (1, .ref qs2), (2, .int (nI k)), (3, .int (nI t))] := hl
  have hown : s.vm.findClass RX1 = some m.cls := hown
  have loop : ∀ (k0 : Nat) (i : Nat) (H : Heap) (locs : List Loc) (ls : Array Slot), (i + k0 = t) → va_P (dC, dI) hlCl [(qs, .inr (1, [.ref qb])), (qb, .inr (0, [.ref qa])), (qa, .inl (cB, N, .inl (tkB f N g (k * 64) i))), (qs2, .inr (1, [.ref qb2])), (qb2, .inr (0, [.ref qa2])), (qa2, .inl (cB2, N, .inl g))] H → va_D A [(qs, .inr (1, [.ref qb])), (qb, .inr (0, [.ref qa])), (qa, .inl (cB, N, .inl (tkB f N g (k * 64) i))), (qs2, .inr (1, [.ref qb2])), (qb2, .inr (0, [.ref qa2])), (qa2, .inl (cB2, N, .inl g))] → va_S A s.heap H locs → lv_has ls 6 [(0, .ref qs), (1, .ref qs2), (2, .int (nI k)), (3, .int (nI t)), (4, .int (nI (k * 64))), (5, .int (nI (k * 64 + i)))] → W p l e (rm_ 1 22) s m [.ref qs, .ref qs2, .int (nI k), .int (nI t)].toArray below meth c H locs 0 0 (MQ below ((fun A => va_Qv (fun (_ : Unit) => True) (fun _ t9 => qw_ dC dI A [(qs, .inr (1, [.ref qb])), (qb, .inr (0, [.ref qa])), (qa, .inl (cB, N, .inl (tkB f N g (k * 64) t))), (qs2, .inr (1, [.ref qb2])), (qb2, .inr (0, [.ref qa2])), (qa2, .inl (cB2, N, .inl g))] [(cB, .byte), (cB2, .byte)] t9) A) A) [.ref qs, .ref qs2, .int (nI k), .int (nI t)].toArray s 0 0 A) (F0 m 10 ls []) := by
    intro k0
    induction k0 with
    | zero =>
      intro i H locs ls hi hP hD hS hl
      refine lv_iload hx hb dX1_take_10 (lv_at hl 5 rfl) ?_
      refine lv_iload hx hb dX1_take_12 (lv_at hl 4 rfl) ?_
      refine lv_iload_n hx hb dX1_take_14 rfl (lv_at hl 3 rfl) ?_
      refine lv_iadd hx hb dX1_take_15 ?_
      rw [nI_add]
      refine lv_icmp_ge (tgt := 43) hx hb dX1_take_16 (by decide) (fun c_16 => ?_) (fun c_16 => ?_)
      · skip
        exact hr_v hx hb hr hlocks (w1 := [(qs, .inr (1, [.ref qb])), (qb, .inr (0, [.ref qa])), (qa, .inl (cB, N, .inl (tkB f N g (k * 64) i))), (qs2, .inr (1, [.ref qb2])), (qb2, .inr (0, [.ref qa2])), (qa2, .inl (cB2, N, .inl g))]) hP hD hK hS [0, 1, 2, 3, 4, 5] [0, 1] rfl rfl rfl (by rw [show i = t by omega]) dX1_take_43
      · exact absurd (nI_le (show k * 64 + t ≤ k * 64 + i by omega) (by omega)) c_16
    | succ k0 ih =>
      intro i H locs ls hi hP hD hS hl
      refine lv_iload hx hb dX1_take_10 (lv_at hl 5 rfl) ?_
      refine lv_iload hx hb dX1_take_12 (lv_at hl 4 rfl) ?_
      refine lv_iload_n hx hb dX1_take_14 rfl (lv_at hl 3 rfl) ?_
      refine lv_iadd hx hb dX1_take_15 ?_
      rw [nI_add]
      refine lv_icmp_ge (tgt := 43) hx hb dX1_take_16 (by decide) (fun c_16 => ?_) (fun c_16 => ?_)
      · exact absurd c_16 (nI_ge (show k * 64 + i < k * 64 + t by omega) (by omega))
      · skip
        refine lv_aload_n hx hb dX1_take_19 rfl (lv_at hl 0 rfl) ?_
        refine va_get (D := (dC, dI)) (ci := 1) (v := .ref qb) (C := RX1) (T := TX1) (N := 1) hx hb hts (by decide +kernel) hown hK hP 0 rfl rfl 0 (by decide) (hts (.fieldLink RX1 14 "HouseLog$Sectors" "bytes" "LHouseLog$Bytes;") (by decide +kernel)) (fun _ h9 => h9) rfl dX1_take_20 ?_
        refine lv_iload hx hb dX1_take_23 (lv_at hl 5 rfl) ?_
        refine lv_aload_n hx hb dX1_take_25 rfl (lv_at hl 1 rfl) ?_
        refine va_get (D := (dC, dI)) (ci := 1) (v := .ref qb2) (C := RX1) (T := TX1) (N := 1) hx hb hts (by decide +kernel) hown hK hP 3 rfl rfl 0 (by decide) (hts (.fieldLink RX1 14 "HouseLog$Sectors" "bytes" "LHouseLog$Bytes;") (by decide +kernel)) (fun _ h9 => h9) rfl dX1_take_26 ?_
        refine lv_iload hx hb dX1_take_29 (lv_at hl 5 rfl) ?_
        refine hc_iV (As := [.int (nI (k * 64 + i))]) (rest := [.int (nI (k * 64 + i)), .ref qb]) (wr := [(qs, .inr (1, [.ref qb])), (qb, .inr (0, [.ref qa])), (qa, .inl (cB, N, .inl (tkB f N g (k * 64) i))), (qs2, .inr (1, [.ref qb2]))]) ⟨hx, hb, hml, hown, hts⟩ sx_T trivial (kX0_get l dC dI H.size qb2 qa2 cB2 g N (nI (k * 64 + i)) (hN)) (cwV 1 hts gX1_take_X0_get rfl rfl rfl (by decide +kernel) ⟨Nat.le_of_ble_eq_true rfl, Nat.le_of_ble_eq_true rfl⟩) hK hP hD hS hA [4, 5] [0, 1, 2, 3] [1] rfl rfl rfl rfl rfl (by decide) (ci := 0) rfl rfl rfl rfl hl.1 rfl (Nat.le_of_ble_eq_true rfl) dX1_take_31 ⟨Nat.zero_le _, Nat.zero_le _⟩ (fun H locs hP hD hS => ?_)
        have hP : va_P (dC, dI) hlCl [(qs, .inr (1, [.ref qb])), (qb, .inr (0, [.ref qa])), (qa, .inl (cB, N, .inl (tkB f N g (k * 64) i))), (qs2, .inr (1, [.ref qb2])), (qb2, .inr (0, [.ref qa2])), (qa2, .inl (cB2, N, .inl g))] H := hP
        have hD : va_D A [(qs, .inr (1, [.ref qb])), (qb, .inr (0, [.ref qa])), (qa, .inl (cB, N, .inl (tkB f N g (k * 64) i))), (qs2, .inr (1, [.ref qb2])), (qb2, .inr (0, [.ref qa2])), (qa2, .inl (cB2, N, .inl g))] := hD
        refine hc_vV (As := [.int (nI (k * 64 + i)), .int (gB g N (nI (k * 64 + i)))]) (rest := []) (wr := [(qs, .inr (1, [.ref qb])), (qs2, .inr (1, [.ref qb2])), (qb2, .inr (0, [.ref qa2])), (qa2, .inl (cB2, N, .inl g))]) ⟨hx, hb, hml, hown, hts⟩ sx_T trivial (kX0_set l dC dI H.size qb qa cB (tkB f N g (k * 64) i) N (nI (k * 64 + i)) (gB g N (nI (k * 64 + i))) (hN)) (cwV 2 hts gX1_take_X0_set rfl rfl rfl (by decide +kernel) ⟨Nat.le_of_ble_eq_true rfl, Nat.le_of_ble_eq_true rfl⟩) hK hP hD hS hA [1, 2] [0, 3, 4, 5] [0] rfl rfl rfl rfl rfl (by decide) (ci := 0) rfl rfl rfl rfl hl.1 rfl (Nat.le_of_ble_eq_true rfl) dX1_take_34 ⟨Nat.zero_le _, Nat.zero_le _⟩ (fun H locs hP hD hS => ?_)
        have hP : va_P (dC, dI) hlCl [(qs, .inr (1, [.ref qb])), (qb, .inr (0, [.ref qa])), (qa, .inl (cB, N, .inl (sB (tkB f N g (k * 64) i) N (nI (k * 64 + i)) (gB g N (nI (k * 64 + i)))))), (qs2, .inr (1, [.ref qb2])), (qb2, .inr (0, [.ref qa2])), (qa2, .inl (cB2, N, .inl g))] H := hP.sub [0, 4, 5, 1, 2, 3] rfl
        have hD : va_D A [(qs, .inr (1, [.ref qb])), (qb, .inr (0, [.ref qa])), (qa, .inl (cB, N, .inl (sB (tkB f N g (k * 64) i) N (nI (k * 64 + i)) (gB g N (nI (k * 64 + i)))))), (qs2, .inr (1, [.ref qb2])), (qb2, .inr (0, [.ref qa2])), (qa2, .inl (cB2, N, .inl g))] := hD.sub [0, 4, 5, 1, 2, 3] (by decide) rfl
        rw [← tkB_s] at hP hD
        refine lv_iinc (v := nI (k * 64 + (i + 1))) (lv' := [(5, .int (nI (k * 64 + (i + 1)))), (0, .ref qs), (1, .ref qs2), (2, .int (nI k)), (3, .int (nI t)), (4, .int (nI (k * 64)))]) hx hb dX1_take_37 hl (k := 5) rfl (nI_1 (k * 64 + i)) (by decide) rfl (fun ls hl => ?_)
        refine lv_goto (tgt := 10) hx hb dX1_take_40 (by decide) ?_
        exact ih (i + 1) H locs ls (by omega) hP hD hS (lv_sub hl [1, 2, 3, 4, 5, 0] rfl)
  refine lv_iload_n hx hb dX1_take_0 rfl (lv_at hl 2 rfl) ?_
  refine hc_iS (As := [.int (nI k)]) (rest := []) ⟨hx, hb, hml, hown, hts⟩ sx_T trivial (kX1_firstPlace l dC dI H.size (nI k) ) (va_cwS 1 hts gX1_take_X1_firstPlace rfl rfl rfl (by decide +kernel) ⟨Nat.le_of_ble_eq_true rfl, Nat.le_of_ble_eq_true rfl⟩) hK hP hD hS hA [0, 1, 2, 3, 4, 5] rfl rfl rfl hl.1 rfl (Nat.le_of_ble_eq_true rfl) dX1_take_1 ⟨Nat.zero_le _, Nat.zero_le _⟩ (fun H locs hP hD hS => ?_)
  rw [fp_]
  refine lv_istore (lv' := [(4, .int (nI (k * 64))), (0, .ref qs), (1, .ref qs2), (2, .int (nI k)), (3, .int (nI t))]) hx hb dX1_take_4 hl (by decide) rfl (fun ls hl => ?_)
  refine lv_iload hx hb dX1_take_6 (lv_at hl 0 rfl) ?_
  refine lv_istore (lv' := [(5, .int (nI (k * 64))), (4, .int (nI (k * 64))), (0, .ref qs), (1, .ref qs2), (2, .int (nI k)), (3, .int (nI t))]) hx hb dX1_take_8 hl (by decide) rfl (fun ls hl => ?_)
  exact loop t 0 H locs ls (by omega) hP hD hS (lv_sub hl [2, 3, 4, 5, 1, 0] rfl)

def cpB (f : Nat → Int32) (N : Nat) (g : Nat → Int32) (M a : Nat) : Nat → Nat → Int32
  | 0 => f
  | i + 1 => sB (cpB f N g M a i) N (nI a + 6 + nI i) (gB g M (nI i))
theorem cpB_s (f : Nat → Int32) (N : Nat) (g : Nat → Int32) (M a i : Nat) : cpB f N g M a (i + 1) = sB (cpB f N g M a i) N (nI a + 6 + nI i) (gB g M (nI i)) := rfl
def zrB (f : Nat → Int32) (N a : Nat) : Nat → Nat → Int32
  | 0 => f
  | i + 1 => sB (zrB f N a i) N (nI (a + i)) 0
theorem zrB_s (f : Nat → Int32) (N a i : Nat) : zrB f N a (i + 1) = sB (zrB f N a i) N (nI (a + i)) 0 := rfl
def c1B (f : Nat → Int32) (N k : Nat) (kd : Int32) (len : Nat) : Nat → Int32 := sB (sB (swB f N (nI (k * 64)) (nI k)) N (nI (k * 64) + 4) kd) N (nI (k * 64) + 5) (nI len)
def c3B (f : Nat → Int32) (N k : Nat) : Nat → Int32 := swB f N (nI (k * 64 + 6 + lnN f N k)) (rsI f N k)
def c4B (f : Nat → Int32) (N k : Nat) : Nat → Int32 := zrB f N (k * 64 + 6 + lnN f N k + 4) (k * 64 + 64 - (k * 64 + 6 + lnN f N k + 4))
def cmB (f : Nat → Int32) (N : Nat) (g : Nat → Int32) (M k : Nat) (kd : Int32) (len : Nat) : Nat → Int32 := c4B (c3B (cpB (c1B f N k kd len) N g M (k * 64) len) N k) N k

set_option maxHeartbeats 4000000 in
set_option maxRecDepth 100000 in
theorem kX1_compose (l : Launch) (dC : Nat → ClassId) (dI : Nat → Nat → Nat) (sz : Nat) (qs qb qa qb2 qa2 : Nat) (cB cB2 : ClassId) (f : Nat → Int32) (N : Nat) (g : Nat → Int32) (M k : Nat) (kd : Int32) (len : Nat) (hN : N < 2 ^ 31) (hM : M < 2 ^ 31) (hk : k < 1000) (hlen : len ≤ 40) : Mv_ l yX1_compose wsX1_compose 4 84 dC dI (fun _ => True) [.ref qs, .int (nI k), .int kd, .ref qb2, .int (nI len)] [(qs, .inr (1, [.ref qb])), (qb, .inr (0, [.ref qa])), (qa, .inl (cB, N, .inl f)), (qb2, .inr (0, [.ref qa2])), (qa2, .inl (cB2, M, .inl g))] [(cB, .byte), (cB2, .byte)] sz [(qs, .inr (1, [.ref qb])), (qb, .inr (0, [.ref qa])), (qa, .inl (cB, N, .inl (cmB f N g M k kd len))), (qb2, .inr (0, [.ref qa2])), (qa2, .inl (cB2, M, .inl g))] := by
  refine hm_ (cc := cX1_compose) (maxL := 7) (ret := none) (Qc := fun A => va_Qv (fun (_ : Unit) => True) (fun _ t9 => qw_ dC dI A [(qs, .inr (1, [.ref qb])), (qb, .inr (0, [.ref qa])), (qa, .inl (cB, N, .inl (cmB f N g M k kd len))), (qb2, .inr (0, [.ref qa2])), (qa2, .inl (cB2, M, .inl g))] [(cB, .byte), (cB2, .byte)] t9) A) (by decide) rfl (Nat.le_of_ble_eq_true rfl) ?_
  intro p e s m below meth c A H locs ls hx hb hr hml hts hown hlocks hsz hP hK hD hE hA hS hl
  have hl : lv_has ls 7 [(0, .ref qs), (1, .int (nI k)), (2, .int kd), (3, .ref qb2), (4, .int (nI len))] := hl
  have hown : s.vm.findClass RX1 = some m.cls := hown
  have loop2 : ∀ (k0 : Nat) (b0 : Nat) (f3 : Nat → Int32) (i : Nat) (H : Heap) (locs : List Loc) (ls : Array Slot), (i + k0 = k * 64 + 64 - b0) → (b0 < 100000) → (zrB f3 N b0 (k * 64 + 64 - b0) = cmB f N g M k kd len) → va_P (dC, dI) hlCl [(qs, .inr (1, [.ref qb])), (qb, .inr (0, [.ref qa])), (qa, .inl (cB, N, .inl (zrB f3 N b0 i))), (qb2, .inr (0, [.ref qa2])), (qa2, .inl (cB2, M, .inl g))] H → va_D A [(qs, .inr (1, [.ref qb])), (qb, .inr (0, [.ref qa])), (qa, .inl (cB, N, .inl (zrB f3 N b0 i))), (qb2, .inr (0, [.ref qa2])), (qa2, .inl (cB2, M, .inl g))] → va_S A s.heap H locs → lv_has ls 7 [(0, .ref qs), (1, .int (nI k)), (2, .int kd), (3, .ref qb2), (4, .int (nI len)), (5, .int (nI (k * 64))), (6, .int (nI (b0 + i)))] → W p l e (rm_ 4 84) s m [.ref qs, .int (nI k), .int kd, .ref qb2, .int (nI len)].toArray below meth c H locs 0 0 (MQ below ((fun A => va_Qv (fun (_ : Unit) => True) (fun _ t9 => qw_ dC dI A [(qs, .inr (1, [.ref qb])), (qb, .inr (0, [.ref qa])), (qa, .inl (cB, N, .inl (cmB f N g M k kd len))), (qb2, .inr (0, [.ref qa2])), (qa2, .inl (cB2, M, .inl g))] [(cB, .byte), (cB2, .byte)] t9) A) A) [.ref qs, .int (nI k), .int kd, .ref qb2, .int (nI len)].toArray s 0 0 A) (F0 m 104 ls []) := by
    intro k0
    induction k0 with
    | zero =>
      intro b0 f3 i H locs ls hi hbb hfin hP hD hS hl
      refine lv_iload hx hb dX1_compose_104 (lv_at hl 6 rfl) ?_
      refine lv_iload hx hb dX1_compose_106 (lv_at hl 5 rfl) ?_
      refine lv_bipush (v := 64) hx hb dX1_compose_108 (by decide) ?_
      refine lv_iadd hx hb dX1_compose_110 ?_
      rw [show (64 : Int32) = nI 64 from rfl, nI_add]
      refine lv_icmp_ge (tgt := 130) hx hb dX1_compose_111 (by decide) (fun c_111 => ?_) (fun c_111 => ?_)
      · skip
        exact hr_v hx hb hr hlocks (w1 := [(qs, .inr (1, [.ref qb])), (qb, .inr (0, [.ref qa])), (qa, .inl (cB, N, .inl (zrB f3 N b0 i))), (qb2, .inr (0, [.ref qa2])), (qa2, .inl (cB2, M, .inl g))]) hP hD hK hS [0, 1, 2, 3, 4] [0, 1] rfl rfl rfl (by rw [← hfin, show i = k * 64 + 64 - b0 by omega]) dX1_compose_130
      · exact absurd (nI_le (show k * 64 + 64 ≤ b0 + i by omega) (by omega)) c_111
    | succ k0 ih =>
      intro b0 f3 i H locs ls hi hbb hfin hP hD hS hl
      refine lv_iload hx hb dX1_compose_104 (lv_at hl 6 rfl) ?_
      refine lv_iload hx hb dX1_compose_106 (lv_at hl 5 rfl) ?_
      refine lv_bipush (v := 64) hx hb dX1_compose_108 (by decide) ?_
      refine lv_iadd hx hb dX1_compose_110 ?_
      rw [show (64 : Int32) = nI 64 from rfl, nI_add]
      refine lv_icmp_ge (tgt := 130) hx hb dX1_compose_111 (by decide) (fun c_111 => ?_) (fun c_111 => ?_)
      · exact absurd c_111 (nI_ge (show b0 + i < k * 64 + 64 by omega) (by omega))
      · skip
        refine lv_aload_n hx hb dX1_compose_114 rfl (lv_at hl 0 rfl) ?_
        refine va_get (D := (dC, dI)) (ci := 1) (v := .ref qb) (C := RX1) (T := TX1) (N := 1) hx hb hts (by decide +kernel) hown hK hP 0 rfl rfl 0 (by decide) (hts (.fieldLink RX1 14 "HouseLog$Sectors" "bytes" "LHouseLog$Bytes;") (by decide +kernel)) (fun _ h9 => h9) rfl dX1_compose_115 ?_
        refine lv_iload hx hb dX1_compose_118 (lv_at hl 6 rfl) ?_
        refine lv_iconst (v := 0) hx hb dX1_compose_120 (by decide) ?_
        refine hc_vV (As := [.int (nI (b0 + i)), .int 0]) (rest := []) (wr := [(qs, .inr (1, [.ref qb])), (qb2, .inr (0, [.ref qa2])), (qa2, .inl (cB2, M, .inl g))]) ⟨hx, hb, hml, hown, hts⟩ sx_T trivial (kX0_set l dC dI H.size qb qa cB (zrB f3 N b0 i) N (nI (b0 + i)) 0 (hN)) (cwV 2 hts gX1_compose_X0_set rfl rfl rfl (by decide +kernel) ⟨Nat.le_of_ble_eq_true rfl, Nat.le_of_ble_eq_true rfl⟩) hK hP hD hS hA [1, 2] [0, 3, 4] [0] rfl rfl rfl rfl rfl (by decide) (ci := 0) rfl rfl rfl rfl hl.1 rfl (Nat.le_of_ble_eq_true rfl) dX1_compose_121 ⟨Nat.zero_le _, Nat.zero_le _⟩ (fun H locs hP hD hS => ?_)
        have hP : va_P (dC, dI) hlCl [(qs, .inr (1, [.ref qb])), (qb, .inr (0, [.ref qa])), (qa, .inl (cB, N, .inl (sB (zrB f3 N b0 i) N (nI (b0 + i)) 0))), (qb2, .inr (0, [.ref qa2])), (qa2, .inl (cB2, M, .inl g))] H := hP.sub [0, 3, 4, 1, 2] rfl
        have hD : va_D A [(qs, .inr (1, [.ref qb])), (qb, .inr (0, [.ref qa])), (qa, .inl (cB, N, .inl (sB (zrB f3 N b0 i) N (nI (b0 + i)) 0))), (qb2, .inr (0, [.ref qa2])), (qa2, .inl (cB2, M, .inl g))] := hD.sub [0, 3, 4, 1, 2] (by decide) rfl
        rw [← zrB_s] at hP hD
        refine lv_iinc (v := nI (b0 + (i + 1))) (lv' := [(6, .int (nI (b0 + (i + 1)))), (0, .ref qs), (1, .int (nI k)), (2, .int kd), (3, .ref qb2), (4, .int (nI len)), (5, .int (nI (k * 64)))]) hx hb dX1_compose_124 hl (k := 6) rfl (nI_1 (b0 + i)) (by decide) rfl (fun ls hl => ?_)
        refine lv_goto (tgt := 104) hx hb dX1_compose_127 (by decide) ?_
        exact ih b0 f3 (i + 1) H locs ls (by omega) (hbb) (hfin) hP hD hS (lv_sub hl [1, 2, 3, 4, 5, 6, 0] rfl)
  have loop1 : ∀ (k0 : Nat) (i : Nat) (H : Heap) (locs : List Loc) (ls : Array Slot), (i + k0 = len) → va_P (dC, dI) hlCl [(qs, .inr (1, [.ref qb])), (qb, .inr (0, [.ref qa])), (qa, .inl (cB, N, .inl (cpB (c1B f N k kd len) N g M (k * 64) i))), (qb2, .inr (0, [.ref qa2])), (qa2, .inl (cB2, M, .inl g))] H → va_D A [(qs, .inr (1, [.ref qb])), (qb, .inr (0, [.ref qa])), (qa, .inl (cB, N, .inl (cpB (c1B f N k kd len) N g M (k * 64) i))), (qb2, .inr (0, [.ref qa2])), (qa2, .inl (cB2, M, .inl g))] → va_S A s.heap H locs → lv_has ls 7 [(0, .ref qs), (1, .int (nI k)), (2, .int kd), (3, .ref qb2), (4, .int (nI len)), (5, .int (nI (k * 64))), (6, .int (nI i))] → W p l e (rm_ 4 84) s m [.ref qs, .int (nI k), .int kd, .ref qb2, .int (nI len)].toArray below meth c H locs 0 0 (MQ below ((fun A => va_Qv (fun (_ : Unit) => True) (fun _ t9 => qw_ dC dI A [(qs, .inr (1, [.ref qb])), (qb, .inr (0, [.ref qa])), (qa, .inl (cB, N, .inl (cmB f N g M k kd len))), (qb2, .inr (0, [.ref qa2])), (qa2, .inl (cB2, M, .inl g))] [(cB, .byte), (cB2, .byte)] t9) A) A) [.ref qs, .int (nI k), .int kd, .ref qb2, .int (nI len)].toArray s 0 0 A) (F0 m 44 ls []) := by
    intro k0
    induction k0 with
    | zero =>
      intro i H locs ls hi hP hD hS hl
      refine lv_iload hx hb dX1_compose_44 (lv_at hl 6 rfl) ?_
      refine lv_iload hx hb dX1_compose_46 (lv_at hl 4 rfl) ?_
      refine lv_icmp_ge (tgt := 78) hx hb dX1_compose_48 (by decide) (fun c_48 => ?_) (fun c_48 => ?_)
      · skip
        rw [show i = len by omega] at hP hD
        refine lv_aload_n hx hb dX1_compose_78 rfl (lv_at hl 0 rfl) ?_
        refine va_get (D := (dC, dI)) (ci := 1) (v := .ref qb) (C := RX1) (T := TX1) (N := 1) hx hb hts (by decide +kernel) hown hK hP 0 rfl rfl 0 (by decide) (hts (.fieldLink RX1 14 "HouseLog$Sectors" "bytes" "LHouseLog$Bytes;") (by decide +kernel)) (fun _ h9 => h9) rfl dX1_compose_79 ?_
        refine lv_aload_n hx hb dX1_compose_82 rfl (lv_at hl 0 rfl) ?_
        refine lv_iload_n hx hb dX1_compose_83 rfl (lv_at hl 1 rfl) ?_
        refine hc_iV (As := [.int (nI k)]) (rest := [.ref qb]) (wr := [(qb2, .inr (0, [.ref qa2])), (qa2, .inl (cB2, M, .inl g))]) ⟨hx, hb, hml, hown, hts⟩ sx_T trivial (kX1_sumPlace l dC dI H.size qs qb qa cB (cpB (c1B f N k kd len) N g M (k * 64) len) N (nI k) (hN)) (cwV 1 hts gX1_compose_X1_sumPlace rfl rfl rfl (by decide +kernel) ⟨Nat.le_of_ble_eq_true rfl, Nat.le_of_ble_eq_true rfl⟩) hK hP hD hS hA [0, 1, 2] [3, 4] [0] rfl rfl rfl rfl rfl (by decide) (ci := 1) rfl rfl rfl rfl hl.1 rfl (Nat.le_of_ble_eq_true rfl) dX1_compose_84 ⟨Nat.zero_le _, Nat.zero_le _⟩ (fun H locs hP hD hS => ?_)
        have hP : va_P (dC, dI) hlCl [(qs, .inr (1, [.ref qb])), (qb, .inr (0, [.ref qa])), (qa, .inl (cB, N, .inl (cpB (c1B f N k kd len) N g M (k * 64) len))), (qb2, .inr (0, [.ref qa2])), (qa2, .inl (cB2, M, .inl g))] H := hP.sub [2, 3, 4, 0, 1] rfl
        have hD : va_D A [(qs, .inr (1, [.ref qb])), (qb, .inr (0, [.ref qa])), (qa, .inl (cB, N, .inl (cpB (c1B f N k kd len) N g M (k * 64) len))), (qb2, .inr (0, [.ref qa2])), (qa2, .inl (cB2, M, .inl g))] := hD.sub [2, 3, 4, 0, 1] (by decide) rfl
        refine lv_aload_n hx hb dX1_compose_87 rfl (lv_at hl 0 rfl) ?_
        refine lv_iload_n hx hb dX1_compose_88 rfl (lv_at hl 1 rfl) ?_
        refine hc_iV (As := [.int (nI k)]) (rest := [.int ((nI k) * 64 + 6 + gB (cpB (c1B f N k kd len) N g M (k * 64) len) N ((nI k) * 64 + 5)), .ref qb]) (wr := [(qb2, .inr (0, [.ref qa2])), (qa2, .inl (cB2, M, .inl g))]) ⟨hx, hb, hml, hown, hts⟩ sx_T trivial (kX1_rowSum l dC dI H.size qs qb qa cB (cpB (c1B f N k kd len) N g M (k * 64) len) N k (hN) (hk)) (cwV 1 hts gX1_compose_X1_rowSum rfl rfl rfl (by decide +kernel) ⟨Nat.le_of_ble_eq_true rfl, Nat.le_of_ble_eq_true rfl⟩) hK hP hD hS hA [0, 1, 2] [3, 4] [0] rfl rfl rfl rfl rfl (by decide) (ci := 1) rfl rfl rfl rfl hl.1 rfl (Nat.le_of_ble_eq_true rfl) dX1_compose_89 ⟨Nat.zero_le _, Nat.zero_le _⟩ (fun H locs hP hD hS => ?_)
        have hP : va_P (dC, dI) hlCl [(qs, .inr (1, [.ref qb])), (qb, .inr (0, [.ref qa])), (qa, .inl (cB, N, .inl (cpB (c1B f N k kd len) N g M (k * 64) len))), (qb2, .inr (0, [.ref qa2])), (qa2, .inl (cB2, M, .inl g))] H := hP.sub [2, 3, 4, 0, 1] rfl
        have hD : va_D A [(qs, .inr (1, [.ref qb])), (qb, .inr (0, [.ref qa])), (qa, .inl (cB, N, .inl (cpB (c1B f N k kd len) N g M (k * 64) len))), (qb2, .inr (0, [.ref qa2])), (qa2, .inl (cB2, M, .inl g))] := hD.sub [2, 3, 4, 0, 1] (by decide) rfl
        rw [sp_]
        refine hc_vV (As := [.int (nI (k * 64 + 6 + lnN (cpB (c1B f N k kd len) N g M (k * 64) len) N k)), .int (rsI (cpB (c1B f N k kd len) N g M (k * 64) len) N k)]) (rest := []) (wr := [(qs, .inr (1, [.ref qb])), (qb2, .inr (0, [.ref qa2])), (qa2, .inl (cB2, M, .inl g))]) ⟨hx, hb, hml, hown, hts⟩ sx_T trivial (kX0_setWord l dC dI H.size qb qa cB (cpB (c1B f N k kd len) N g M (k * 64) len) N (nI (k * 64 + 6 + lnN (cpB (c1B f N k kd len) N g M (k * 64) len) N k)) (rsI (cpB (c1B f N k kd len) N g M (k * 64) len) N k) (hN)) (cwV 2 hts gX1_compose_X0_setWord rfl rfl rfl (by decide +kernel) ⟨Nat.le_of_ble_eq_true rfl, Nat.le_of_ble_eq_true rfl⟩) hK hP hD hS hA [1, 2] [0, 3, 4] [0] rfl rfl rfl rfl rfl (by decide) (ci := 0) rfl rfl rfl rfl hl.1 rfl (Nat.le_of_ble_eq_true rfl) dX1_compose_92 ⟨Nat.zero_le _, Nat.zero_le _⟩ (fun H locs hP hD hS => ?_)
        have hP : va_P (dC, dI) hlCl [(qs, .inr (1, [.ref qb])), (qb, .inr (0, [.ref qa])), (qa, .inl (cB, N, .inl (swB (cpB (c1B f N k kd len) N g M (k * 64) len) N (nI (k * 64 + 6 + lnN (cpB (c1B f N k kd len) N g M (k * 64) len) N k)) (rsI (cpB (c1B f N k kd len) N g M (k * 64) len) N k)))), (qb2, .inr (0, [.ref qa2])), (qa2, .inl (cB2, M, .inl g))] H := hP.sub [0, 3, 4, 1, 2] rfl
        have hD : va_D A [(qs, .inr (1, [.ref qb])), (qb, .inr (0, [.ref qa])), (qa, .inl (cB, N, .inl (swB (cpB (c1B f N k kd len) N g M (k * 64) len) N (nI (k * 64 + 6 + lnN (cpB (c1B f N k kd len) N g M (k * 64) len) N k)) (rsI (cpB (c1B f N k kd len) N g M (k * 64) len) N k)))), (qb2, .inr (0, [.ref qa2])), (qa2, .inl (cB2, M, .inl g))] := hD.sub [0, 3, 4, 1, 2] (by decide) rfl
        rw [show swB (cpB (c1B f N k kd len) N g M (k * 64) len) N (nI (k * 64 + 6 + lnN (cpB (c1B f N k kd len) N g M (k * 64) len) N k)) (rsI (cpB (c1B f N k kd len) N g M (k * 64) len) N k) = c3B (cpB (c1B f N k kd len) N g M (k * 64) len) N k from rfl] at hP hD
        refine lv_aload_n hx hb dX1_compose_95 rfl (lv_at hl 0 rfl) ?_
        refine lv_iload_n hx hb dX1_compose_96 rfl (lv_at hl 1 rfl) ?_
        refine hc_iV (As := [.int (nI k)]) (rest := []) (wr := [(qb2, .inr (0, [.ref qa2])), (qa2, .inl (cB2, M, .inl g))]) ⟨hx, hb, hml, hown, hts⟩ sx_T trivial (kX1_sumPlace l dC dI H.size qs qb qa cB (c3B (cpB (c1B f N k kd len) N g M (k * 64) len) N k) N (nI k) (hN)) (cwV 1 hts gX1_compose_X1_sumPlace rfl rfl rfl (by decide +kernel) ⟨Nat.le_of_ble_eq_true rfl, Nat.le_of_ble_eq_true rfl⟩) hK hP hD hS hA [0, 1, 2] [3, 4] [0] rfl rfl rfl rfl rfl (by decide) (ci := 1) rfl rfl rfl rfl hl.1 rfl (Nat.le_of_ble_eq_true rfl) dX1_compose_97 ⟨Nat.zero_le _, Nat.zero_le _⟩ (fun H locs hP hD hS => ?_)
        have hP : va_P (dC, dI) hlCl [(qs, .inr (1, [.ref qb])), (qb, .inr (0, [.ref qa])), (qa, .inl (cB, N, .inl (c3B (cpB (c1B f N k kd len) N g M (k * 64) len) N k))), (qb2, .inr (0, [.ref qa2])), (qa2, .inl (cB2, M, .inl g))] H := hP.sub [2, 3, 4, 0, 1] rfl
        have hD : va_D A [(qs, .inr (1, [.ref qb])), (qb, .inr (0, [.ref qa])), (qa, .inl (cB, N, .inl (c3B (cpB (c1B f N k kd len) N g M (k * 64) len) N k))), (qb2, .inr (0, [.ref qa2])), (qa2, .inl (cB2, M, .inl g))] := hD.sub [2, 3, 4, 0, 1] (by decide) rfl
        refine lv_iconst (v := 4) hx hb dX1_compose_100 (by decide) ?_
        refine lv_iadd hx hb dX1_compose_101 ?_
        rw [sp_, show (4 : Int32) = nI 4 from rfl, nI_add]
        refine lv_istore (lv' := [(6, .int (nI (k * 64 + 6 + lnN (c3B (cpB (c1B f N k kd len) N g M (k * 64) len) N k) N k + 4))), (0, .ref qs), (1, .int (nI k)), (2, .int kd), (3, .ref qb2), (4, .int (nI len)), (5, .int (nI (k * 64)))]) hx hb dX1_compose_102 hl (by decide) rfl (fun ls hl => ?_)
        exact loop2 (k * 64 + 64 - (k * 64 + 6 + lnN (c3B (cpB (c1B f N k kd len) N g M (k * 64) len) N k) N k + 4)) (k * 64 + 6 + lnN (c3B (cpB (c1B f N k kd len) N g M (k * 64) len) N k) N k + 4) (c3B (cpB (c1B f N k kd len) N g M (k * 64) len) N k) 0 H locs ls (by omega) (by have h9 := (lnN_e (c3B (cpB (c1B f N k kd len) N g M (k * 64) len) N k) N k).2; omega) (rfl) hP hD hS (lv_sub hl [1, 2, 3, 4, 5, 6, 0] rfl)
      · exact absurd (nI_le (show len ≤ i by omega) (by omega)) c_48
    | succ k0 ih =>
      intro i H locs ls hi hP hD hS hl
      refine lv_iload hx hb dX1_compose_44 (lv_at hl 6 rfl) ?_
      refine lv_iload hx hb dX1_compose_46 (lv_at hl 4 rfl) ?_
      refine lv_icmp_ge (tgt := 78) hx hb dX1_compose_48 (by decide) (fun c_48 => ?_) (fun c_48 => ?_)
      · exact absurd c_48 (nI_ge (show i < len by omega) (by omega))
      · skip
        refine lv_aload_n hx hb dX1_compose_51 rfl (lv_at hl 0 rfl) ?_
        refine va_get (D := (dC, dI)) (ci := 1) (v := .ref qb) (C := RX1) (T := TX1) (N := 1) hx hb hts (by decide +kernel) hown hK hP 0 rfl rfl 0 (by decide) (hts (.fieldLink RX1 14 "HouseLog$Sectors" "bytes" "LHouseLog$Bytes;") (by decide +kernel)) (fun _ h9 => h9) rfl dX1_compose_52 ?_
        refine lv_iload hx hb dX1_compose_55 (lv_at hl 5 rfl) ?_
        refine lv_bipush (v := 6) hx hb dX1_compose_57 (by decide) ?_
        refine lv_iadd hx hb dX1_compose_59 ?_
        refine lv_iload hx hb dX1_compose_60 (lv_at hl 6 rfl) ?_
        refine lv_iadd hx hb dX1_compose_62 ?_
        refine lv_aload_n hx hb dX1_compose_63 rfl (lv_at hl 3 rfl) ?_
        refine lv_iload hx hb dX1_compose_64 (lv_at hl 6 rfl) ?_
        refine hc_iV (As := [.int (nI i)]) (rest := [.int (((nI (k * 64)) + 6) + (nI i)), .ref qb]) (wr := [(qs, .inr (1, [.ref qb])), (qb, .inr (0, [.ref qa])), (qa, .inl (cB, N, .inl (cpB (c1B f N k kd len) N g M (k * 64) i)))]) ⟨hx, hb, hml, hown, hts⟩ sx_T trivial (kX0_get l dC dI H.size qb2 qa2 cB2 g M (nI i) (hM)) (cwV 1 hts gX1_compose_X0_get rfl rfl rfl (by decide +kernel) ⟨Nat.le_of_ble_eq_true rfl, Nat.le_of_ble_eq_true rfl⟩) hK hP hD hS hA [3, 4] [0, 1, 2] [1] rfl rfl rfl rfl rfl (by decide) (ci := 0) rfl rfl rfl rfl hl.1 rfl (Nat.le_of_ble_eq_true rfl) dX1_compose_66 ⟨Nat.zero_le _, Nat.zero_le _⟩ (fun H locs hP hD hS => ?_)
        have hP : va_P (dC, dI) hlCl [(qs, .inr (1, [.ref qb])), (qb, .inr (0, [.ref qa])), (qa, .inl (cB, N, .inl (cpB (c1B f N k kd len) N g M (k * 64) i))), (qb2, .inr (0, [.ref qa2])), (qa2, .inl (cB2, M, .inl g))] H := hP
        have hD : va_D A [(qs, .inr (1, [.ref qb])), (qb, .inr (0, [.ref qa])), (qa, .inl (cB, N, .inl (cpB (c1B f N k kd len) N g M (k * 64) i))), (qb2, .inr (0, [.ref qa2])), (qa2, .inl (cB2, M, .inl g))] := hD
        refine hc_vV (As := [.int (((nI (k * 64)) + 6) + (nI i)), .int (gB g M (nI i))]) (rest := []) (wr := [(qs, .inr (1, [.ref qb])), (qb2, .inr (0, [.ref qa2])), (qa2, .inl (cB2, M, .inl g))]) ⟨hx, hb, hml, hown, hts⟩ sx_T trivial (kX0_set l dC dI H.size qb qa cB (cpB (c1B f N k kd len) N g M (k * 64) i) N (((nI (k * 64)) + 6) + (nI i)) (gB g M (nI i)) (hN)) (cwV 2 hts gX1_compose_X0_set rfl rfl rfl (by decide +kernel) ⟨Nat.le_of_ble_eq_true rfl, Nat.le_of_ble_eq_true rfl⟩) hK hP hD hS hA [1, 2] [0, 3, 4] [0] rfl rfl rfl rfl rfl (by decide) (ci := 0) rfl rfl rfl rfl hl.1 rfl (Nat.le_of_ble_eq_true rfl) dX1_compose_69 ⟨Nat.zero_le _, Nat.zero_le _⟩ (fun H locs hP hD hS => ?_)
        have hP : va_P (dC, dI) hlCl [(qs, .inr (1, [.ref qb])), (qb, .inr (0, [.ref qa])), (qa, .inl (cB, N, .inl (sB (cpB (c1B f N k kd len) N g M (k * 64) i) N (((nI (k * 64)) + 6) + (nI i)) (gB g M (nI i))))), (qb2, .inr (0, [.ref qa2])), (qa2, .inl (cB2, M, .inl g))] H := hP.sub [0, 3, 4, 1, 2] rfl
        have hD : va_D A [(qs, .inr (1, [.ref qb])), (qb, .inr (0, [.ref qa])), (qa, .inl (cB, N, .inl (sB (cpB (c1B f N k kd len) N g M (k * 64) i) N (((nI (k * 64)) + 6) + (nI i)) (gB g M (nI i))))), (qb2, .inr (0, [.ref qa2])), (qa2, .inl (cB2, M, .inl g))] := hD.sub [0, 3, 4, 1, 2] (by decide) rfl
        rw [← cpB_s] at hP hD
        refine lv_iinc (v := nI (i + 1)) (lv' := [(6, .int (nI (i + 1))), (0, .ref qs), (1, .int (nI k)), (2, .int kd), (3, .ref qb2), (4, .int (nI len)), (5, .int (nI (k * 64)))]) hx hb dX1_compose_72 hl (k := 6) rfl (nI_1 i) (by decide) rfl (fun ls hl => ?_)
        refine lv_goto (tgt := 44) hx hb dX1_compose_75 (by decide) ?_
        exact ih (i + 1) H locs ls (by omega) hP hD hS (lv_sub hl [1, 2, 3, 4, 5, 6, 0] rfl)
  refine lv_iload_n hx hb dX1_compose_0 rfl (lv_at hl 1 rfl) ?_
  refine hc_iS (As := [.int (nI k)]) (rest := []) ⟨hx, hb, hml, hown, hts⟩ sx_T trivial (kX1_firstPlace l dC dI H.size (nI k) ) (va_cwS 1 hts gX1_compose_X1_firstPlace rfl rfl rfl (by decide +kernel) ⟨Nat.le_of_ble_eq_true rfl, Nat.le_of_ble_eq_true rfl⟩) hK hP hD hS hA [0, 1, 2, 3, 4] rfl rfl rfl hl.1 rfl (Nat.le_of_ble_eq_true rfl) dX1_compose_1 ⟨Nat.zero_le _, Nat.zero_le _⟩ (fun H locs hP hD hS => ?_)
  rw [fp_]
  refine lv_istore (lv' := [(5, .int (nI (k * 64))), (0, .ref qs), (1, .int (nI k)), (2, .int kd), (3, .ref qb2), (4, .int (nI len))]) hx hb dX1_compose_4 hl (by decide) rfl (fun ls hl => ?_)
  refine lv_aload_n hx hb dX1_compose_6 rfl (lv_at hl 1 rfl) ?_
  refine va_get (D := (dC, dI)) (ci := 1) (v := .ref qb) (C := RX1) (T := TX1) (N := 1) hx hb hts (by decide +kernel) hown hK hP 0 rfl rfl 0 (by decide) (hts (.fieldLink RX1 14 "HouseLog$Sectors" "bytes" "LHouseLog$Bytes;") (by decide +kernel)) (fun _ h9 => h9) rfl dX1_compose_7 ?_
  refine lv_iload hx hb dX1_compose_10 (lv_at hl 0 rfl) ?_
  refine lv_iload_n hx hb dX1_compose_12 rfl (lv_at hl 2 rfl) ?_
  refine hc_vV (As := [.int (nI (k * 64)), .int (nI k)]) (rest := []) (wr := [(qs, .inr (1, [.ref qb])), (qb2, .inr (0, [.ref qa2])), (qa2, .inl (cB2, M, .inl g))]) ⟨hx, hb, hml, hown, hts⟩ sx_T trivial (kX0_setWord l dC dI H.size qb qa cB f N (nI (k * 64)) (nI k) (hN)) (cwV 2 hts gX1_compose_X0_setWord rfl rfl rfl (by decide +kernel) ⟨Nat.le_of_ble_eq_true rfl, Nat.le_of_ble_eq_true rfl⟩) hK hP hD hS hA [1, 2] [0, 3, 4] [0] rfl rfl rfl rfl rfl (by decide) (ci := 0) rfl rfl rfl rfl hl.1 rfl (Nat.le_of_ble_eq_true rfl) dX1_compose_13 ⟨Nat.zero_le _, Nat.zero_le _⟩ (fun H locs hP hD hS => ?_)
  have hP : va_P (dC, dI) hlCl [(qs, .inr (1, [.ref qb])), (qb, .inr (0, [.ref qa])), (qa, .inl (cB, N, .inl (swB f N (nI (k * 64)) (nI k)))), (qb2, .inr (0, [.ref qa2])), (qa2, .inl (cB2, M, .inl g))] H := hP.sub [0, 3, 4, 1, 2] rfl
  have hD : va_D A [(qs, .inr (1, [.ref qb])), (qb, .inr (0, [.ref qa])), (qa, .inl (cB, N, .inl (swB f N (nI (k * 64)) (nI k)))), (qb2, .inr (0, [.ref qa2])), (qa2, .inl (cB2, M, .inl g))] := hD.sub [0, 3, 4, 1, 2] (by decide) rfl
  refine lv_aload_n hx hb dX1_compose_16 rfl (lv_at hl 1 rfl) ?_
  refine va_get (D := (dC, dI)) (ci := 1) (v := .ref qb) (C := RX1) (T := TX1) (N := 1) hx hb hts (by decide +kernel) hown hK hP 0 rfl rfl 0 (by decide) (hts (.fieldLink RX1 14 "HouseLog$Sectors" "bytes" "LHouseLog$Bytes;") (by decide +kernel)) (fun _ h9 => h9) rfl dX1_compose_17 ?_
  refine lv_iload hx hb dX1_compose_20 (lv_at hl 0 rfl) ?_
  refine lv_iconst (v := 4) hx hb dX1_compose_22 (by decide) ?_
  refine lv_iadd hx hb dX1_compose_23 ?_
  refine lv_iload_n hx hb dX1_compose_24 rfl (lv_at hl 3 rfl) ?_
  refine hc_vV (As := [.int ((nI (k * 64)) + 4), .int kd]) (rest := []) (wr := [(qs, .inr (1, [.ref qb])), (qb2, .inr (0, [.ref qa2])), (qa2, .inl (cB2, M, .inl g))]) ⟨hx, hb, hml, hown, hts⟩ sx_T trivial (kX0_set l dC dI H.size qb qa cB (swB f N (nI (k * 64)) (nI k)) N ((nI (k * 64)) + 4) kd (hN)) (cwV 2 hts gX1_compose_X0_set rfl rfl rfl (by decide +kernel) ⟨Nat.le_of_ble_eq_true rfl, Nat.le_of_ble_eq_true rfl⟩) hK hP hD hS hA [1, 2] [0, 3, 4] [0] rfl rfl rfl rfl rfl (by decide) (ci := 0) rfl rfl rfl rfl hl.1 rfl (Nat.le_of_ble_eq_true rfl) dX1_compose_25 ⟨Nat.zero_le _, Nat.zero_le _⟩ (fun H locs hP hD hS => ?_)
  have hP : va_P (dC, dI) hlCl [(qs, .inr (1, [.ref qb])), (qb, .inr (0, [.ref qa])), (qa, .inl (cB, N, .inl (sB (swB f N (nI (k * 64)) (nI k)) N ((nI (k * 64)) + 4) kd))), (qb2, .inr (0, [.ref qa2])), (qa2, .inl (cB2, M, .inl g))] H := hP.sub [0, 3, 4, 1, 2] rfl
  have hD : va_D A [(qs, .inr (1, [.ref qb])), (qb, .inr (0, [.ref qa])), (qa, .inl (cB, N, .inl (sB (swB f N (nI (k * 64)) (nI k)) N ((nI (k * 64)) + 4) kd))), (qb2, .inr (0, [.ref qa2])), (qa2, .inl (cB2, M, .inl g))] := hD.sub [0, 3, 4, 1, 2] (by decide) rfl
  refine lv_aload_n hx hb dX1_compose_28 rfl (lv_at hl 1 rfl) ?_
  refine va_get (D := (dC, dI)) (ci := 1) (v := .ref qb) (C := RX1) (T := TX1) (N := 1) hx hb hts (by decide +kernel) hown hK hP 0 rfl rfl 0 (by decide) (hts (.fieldLink RX1 14 "HouseLog$Sectors" "bytes" "LHouseLog$Bytes;") (by decide +kernel)) (fun _ h9 => h9) rfl dX1_compose_29 ?_
  refine lv_iload hx hb dX1_compose_32 (lv_at hl 0 rfl) ?_
  refine lv_iconst (v := 5) hx hb dX1_compose_34 (by decide) ?_
  refine lv_iadd hx hb dX1_compose_35 ?_
  refine lv_iload hx hb dX1_compose_36 (lv_at hl 5 rfl) ?_
  refine hc_vV (As := [.int ((nI (k * 64)) + 5), .int (nI len)]) (rest := []) (wr := [(qs, .inr (1, [.ref qb])), (qb2, .inr (0, [.ref qa2])), (qa2, .inl (cB2, M, .inl g))]) ⟨hx, hb, hml, hown, hts⟩ sx_T trivial (kX0_set l dC dI H.size qb qa cB (sB (swB f N (nI (k * 64)) (nI k)) N ((nI (k * 64)) + 4) kd) N ((nI (k * 64)) + 5) (nI len) (hN)) (cwV 2 hts gX1_compose_X0_set rfl rfl rfl (by decide +kernel) ⟨Nat.le_of_ble_eq_true rfl, Nat.le_of_ble_eq_true rfl⟩) hK hP hD hS hA [1, 2] [0, 3, 4] [0] rfl rfl rfl rfl rfl (by decide) (ci := 0) rfl rfl rfl rfl hl.1 rfl (Nat.le_of_ble_eq_true rfl) dX1_compose_38 ⟨Nat.zero_le _, Nat.zero_le _⟩ (fun H locs hP hD hS => ?_)
  have hP : va_P (dC, dI) hlCl [(qs, .inr (1, [.ref qb])), (qb, .inr (0, [.ref qa])), (qa, .inl (cB, N, .inl (sB (sB (swB f N (nI (k * 64)) (nI k)) N ((nI (k * 64)) + 4) kd) N ((nI (k * 64)) + 5) (nI len)))), (qb2, .inr (0, [.ref qa2])), (qa2, .inl (cB2, M, .inl g))] H := hP.sub [0, 3, 4, 1, 2] rfl
  have hD : va_D A [(qs, .inr (1, [.ref qb])), (qb, .inr (0, [.ref qa])), (qa, .inl (cB, N, .inl (sB (sB (swB f N (nI (k * 64)) (nI k)) N ((nI (k * 64)) + 4) kd) N ((nI (k * 64)) + 5) (nI len)))), (qb2, .inr (0, [.ref qa2])), (qa2, .inl (cB2, M, .inl g))] := hD.sub [0, 3, 4, 1, 2] (by decide) rfl
  rw [show sB (sB (swB f N (nI (k * 64)) (nI k)) N (nI (k * 64) + 4) kd) N (nI (k * 64) + 5) (nI len) = c1B f N k kd len from rfl] at hP hD
  refine lv_iconst (v := 0) hx hb dX1_compose_41 (by decide) ?_
  refine lv_istore (lv' := [(6, .int 0), (5, .int (nI (k * 64))), (0, .ref qs), (1, .int (nI k)), (2, .int kd), (3, .ref qb2), (4, .int (nI len))]) hx hb dX1_compose_42 hl (by decide) rfl (fun ls hl => ?_)
  exact loop1 len 0 H locs ls (by omega) hP hD hS (lv_sub hl [2, 3, 4, 5, 6, 1, 0] rfl)
