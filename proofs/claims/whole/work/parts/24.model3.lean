def hB_ (D : Nat → Int32) : Prop := ∀ j, j < 8192 → D j = nI (lz D j) ∧ lz D j < 256
theorem lz_n {f : Nat → Int32} {j x : Nat} (h : f j = nI x) (hx : x < 2 ^ 31) : lz f j = x := by
  unfold lz
  rw [h, nI_clamp hx]
theorem hB_i {D : Nat → Int32} : hB_ D ↔ ∀ j, j < 8192 → ∃ x, x < 256 ∧ D j = nI x := by
  constructor
  · intro h j hj
    exact ⟨lz D j, (h j hj).2, (h j hj).1⟩
  · intro h j hj
    obtain ⟨x, hx, e⟩ := h j hj
    have e2 := lz_n e (by omega)
    rw [e2]
    exact ⟨e, hx⟩
theorem in_lt {x : Int32} {r : Nat} (hr : r ≤ 100) (h : ¬ inI x 0 (nI r - 1) = 0) : ∃ j : Nat, j < r ∧ x = nI j := by
  unfold inI at h
  by_cases h1 : x < 0
  · rw [if_pos h1] at h
    exact absurd rfl h
  · rw [if_neg h1] at h
    by_cases h2 : nI r - 1 < x
    · rw [if_pos h2] at h
      exact absurd rfl h
    · obtain ⟨j, hj, e⟩ := nI_of h1
      refine ⟨j, ?_, e⟩
      rw [e, Int32.lt_iff_toInt_lt, show (nI r - 1 : Int32).toInt = (r : Int) - (1 : Nat) from pk_sub_toInt (a := r) (b := 1) (by omega) (by decide), nI_toInt hj] at h2
      omega

def atRI (dn : Int32) (r : Nat) (Ln By : Nat → Int32) (x i : Int32) : Int32 := (if (irR (nI r) x) = 0 then 0 else (if (inI i 0 ((Ln x.toNatClampNeg) - 1)) = 0 then 0 else (if (flR dn 0 0) = 0 then By (40 * x.toNatClampNeg + i.toNatClampNeg) else 0)))
def atRT (dn : Int32) (r : Nat) (Ln : Nat → Int32) (x i : Int32) : Int32 := (if (irR (nI r) x) = 0 then flI dn 1 0 else (if (inI i 0 ((Ln x.toNatClampNeg) - 1)) = 0 then flI dn 0 1 else flI dn 0 0))
set_option maxHeartbeats 4000000 in
set_option maxRecDepth 100000 in
theorem kX3_at (l : Launch) (dC : Nat → ClassId) (dI : Nat → Nat → Nat) (sz : Nat) (qm qd qk ql qy qc qi : Nat) (n : Nat) (cAl cAy : ClassId) (th ak cb dn kp tr md wr sm : Int32) (r : Nat) (Ln By : Nat → Int32) (x i : Int32) (hr0 : r ≤ 64) (hL : ∀ k, k < r → Ln k = nI (lz Ln k) ∧ lz Ln k ≤ 40) : Mi_ l yX3_at wsX3_at 2 43 dC dI (fun _ => True) [.ref qm, .int x, .int i] [(qm, .inr (3, [.int th, .int (nI n), .ref qd, .int (nI r), .int ak, .ref qk, .ref ql, .ref qy, .int cb, .ref qc, .int dn, .int kp, .int tr, .int md, .int wr, .ref qi, .int sm])), (ql, .inl (cAl, 64, .inl Ln)), (qy, .inl (cAy, 2560, .inl By))] [(cAl, .int), (cAy, .int)] sz (atRI dn r Ln By x i) [(qm, .inr (3, [.int (atRT dn r Ln x i), .int (nI n), .ref qd, .int (nI r), .int ak, .ref qk, .ref ql, .ref qy, .int cb, .ref qc, .int dn, .int kp, .int tr, .int md, .int wr, .ref qi, .int sm])), (ql, .inl (cAl, 64, .inl Ln)), (qy, .inl (cAy, 2560, .inl By))] := by
  refine hm_ (cc := cX3_at) (maxL := 4) (ret := (some .int)) (Qc := fun A => va_Qi (fun (r9 : Int32) (_ : Unit) => r9 = atRI dn r Ln By x i) (fun _ t9 => qw_ dC dI A [(qm, .inr (3, [.int (atRT dn r Ln x i), .int (nI n), .ref qd, .int (nI r), .int ak, .ref qk, .ref ql, .ref qy, .int cb, .ref qc, .int dn, .int kp, .int tr, .int md, .int wr, .ref qi, .int sm])), (ql, .inl (cAl, 64, .inl Ln)), (qy, .inl (cAy, 2560, .inl By))] [(cAl, .int), (cAy, .int)] t9) A) (by decide) rfl (Nat.le_of_ble_eq_true rfl) ?_
  intro p e s m below meth c A H locs ls hx hb hr hml hts hown hlocks hsz hP hK hD hE hA hS hl
  have hl : lv_has ls 4 [(0, .ref qm), (1, .int x), (2, .int i)] := hl
  have hown : s.vm.findClass RX3 = some m.cls := hown
  refine lv_aload_n hx hb dX3_at_0 rfl (lv_at hl 0 rfl) ?_
  refine lv_iload_n hx hb dX3_at_1 rfl (lv_at hl 1 rfl) ?_
  refine hc_iV (As := [.int x]) (rest := []) (wr := [(ql, .inl (cAl, 64, .inl Ln)), (qy, .inl (cAy, 2560, .inl By))]) ⟨hx, hb, hml, hown, hts⟩ sx_T trivial (kX3_isRow l dC dI H.size qm qd qk ql qy qc qi n th (nI r) ak cb dn kp tr md wr sm x ) (cwV 1 hts gX3_at_X3_isRow rfl rfl rfl (by decide +kernel) ⟨Nat.le_of_ble_eq_true rfl, Nat.le_of_ble_eq_true rfl⟩) hK hP hD hS hA [0] [1, 2] [] rfl rfl rfl rfl rfl (by decide) (ci := 3) rfl rfl rfl rfl hl.1 rfl (Nat.le_of_ble_eq_true rfl) dX3_at_2 ⟨Nat.zero_le _, Nat.zero_le _⟩ (fun H locs hP hD hS => ?_)
  have hP : va_P (dC, dI) hlCl [(qm, .inr (3, [.int th, .int (nI n), .ref qd, .int (nI r), .int ak, .ref qk, .ref ql, .ref qy, .int cb, .ref qc, .int dn, .int kp, .int tr, .int md, .int wr, .ref qi, .int sm])), (ql, .inl (cAl, 64, .inl Ln)), (qy, .inl (cAy, 2560, .inl By))] H := hP.sub [2, 0, 1] rfl
  have hD : va_D A [(qm, .inr (3, [.int th, .int (nI n), .ref qd, .int (nI r), .int ak, .ref qk, .ref ql, .ref qy, .int cb, .ref qc, .int dn, .int kp, .int tr, .int md, .int wr, .ref qi, .int sm])), (ql, .inl (cAl, 64, .inl Ln)), (qy, .inl (cAy, 2560, .inl By))] := hD.sub [2, 0, 1] (by decide) rfl
  refine lv_istore_n (lv' := [(3, .int (irR (nI r) x)), (0, .ref qm), (1, .int x), (2, .int i)]) hx hb dX3_at_5 rfl hl (by decide) rfl (fun ls hl => ?_)
  refine lv_aload_n hx hb dX3_at_6 rfl (lv_at hl 1 rfl) ?_
  refine lv_aload_n hx hb dX3_at_7 rfl (lv_at hl 1 rfl) ?_
  refine va_get (D := (dC, dI)) (ci := 3) (v := .int dn) (C := RX3) (T := TX3) (N := 17) hx hb hts (by decide +kernel) hown hK hP 0 rfl rfl 10 (by decide) (hts (.fieldLink RX3 62 "HouseLogModel" "down" "Z") (by decide +kernel)) (fun _ h9 => h9) rfl dX3_at_8 ?_
  refine lv_iload_n hx hb dX3_at_11 rfl (lv_at hl 0 rfl) ?_
  refine lv_if_ne (tgt := 19) hx hb dX3_at_12 (by decide) (fun c_12 => ?_) (fun c_12 => ?_)
  · skip
    refine lv_iconst (v := 0) hx hb dX3_at_19 (by decide) ?_
    refine lv_iload_n hx hb dX3_at_20 rfl (lv_at hl 0 rfl) ?_
    refine lv_if_eq (tgt := 44) hx hb dX3_at_21 (by decide) (fun c_21 => ?_) (fun c_21 => ?_)
    · exact absurd c_21 c_12
    · skip
      obtain ⟨k, hk, rfl⟩ := in_lt (x := x) (r := r) (by omega) c_12
      refine lv_iload_n hx hb dX3_at_24 rfl (lv_at hl 3 rfl) ?_
      refine lv_iconst (v := 0) hx hb dX3_at_25 (by decide) ?_
      refine lv_aload_n hx hb dX3_at_26 rfl (lv_at hl 1 rfl) ?_
      refine va_get (D := (dC, dI)) (ci := 3) (v := .ref ql) (C := RX3) (T := TX3) (N := 17) hx hb hts (by decide +kernel) hown hK hP 0 rfl rfl 6 (by decide) (hts (.fieldLink RX3 16 "HouseLogModel" "lengths" "[I") (by decide +kernel)) (fun _ h9 => h9) rfl dX3_at_27 ?_
      refine lv_iload_n hx hb dX3_at_30 rfl (lv_at hl 2 rfl) ?_
      refine va_iald hx hb hK hP 1 0 rfl rfl (i := nI k) (vp_in_nI (n := k) (by omega) (by decide)) dX3_at_31 ?_
      refine W.eq (g2 := F0 m 32 ls (.int (Ln k) :: .int 0 :: .int i :: .int 0 :: .int dn :: .ref qm :: [])) (by rw [show (nI k : Int32).toNatClampNeg = k from nI_clamp (by omega)]) ?_
      refine lv_iconst (v := 1) hx hb dX3_at_32 (by decide) ?_
      refine lv_isub hx hb dX3_at_33 ?_
      refine hc_iS (As := [.int i, .int 0, .int ((Ln k) - 1)]) (rest := [.int 0, .int dn, .ref qm]) ⟨hx, hb, hml, hown, hts⟩ sx_T trivial (kX3_in l dC dI H.size i 0 ((Ln k) - 1) ) (va_cwS 3 hts gX3_at_X3_in rfl rfl rfl (by decide +kernel) ⟨Nat.le_of_ble_eq_true rfl, Nat.le_of_ble_eq_true rfl⟩) hK hP hD hS hA [0, 1, 2] rfl rfl rfl hl.1 rfl (Nat.le_of_ble_eq_true rfl) dX3_at_34 ⟨Nat.zero_le _, Nat.zero_le _⟩ (fun H locs hP hD hS => ?_)
      refine lv_if_ne (tgt := 44) hx hb dX3_at_37 (by decide) (fun c_37 => ?_) (fun c_37 => ?_)
      · skip
        refine lv_iconst (v := 0) hx hb dX3_at_44 (by decide) ?_
        refine hc_iV (As := [.int dn, .int 0, .int 0]) (rest := []) (wr := [(ql, .inl (cAl, 64, .inl Ln)), (qy, .inl (cAy, 2560, .inl By))]) ⟨hx, hb, hml, hown, hts⟩ sx_T trivial (kX3_fails l dC dI H.size qm qd qk ql qy qc qi n th (nI r) ak cb dn kp tr md wr sm dn 0 0 ) (cwV 3 hts gX3_at_X3_fails rfl rfl rfl (by decide +kernel) ⟨Nat.le_of_ble_eq_true rfl, Nat.le_of_ble_eq_true rfl⟩) hK hP hD hS hA [0] [1, 2] [] rfl rfl rfl rfl rfl (by decide) (ci := 3) rfl rfl rfl rfl hl.1 rfl (Nat.le_of_ble_eq_true rfl) dX3_at_45 ⟨Nat.zero_le _, Nat.zero_le _⟩ (fun H locs hP hD hS => ?_)
        have hP : va_P (dC, dI) hlCl [(qm, .inr (3, [.int (flI dn 0 0), .int (nI n), .ref qd, .int (nI r), .int ak, .ref qk, .ref ql, .ref qy, .int cb, .ref qc, .int dn, .int kp, .int tr, .int md, .int wr, .ref qi, .int sm])), (ql, .inl (cAl, 64, .inl Ln)), (qy, .inl (cAy, 2560, .inl By))] H := hP.sub [2, 0, 1] rfl
        have hD : va_D A [(qm, .inr (3, [.int (flI dn 0 0), .int (nI n), .ref qd, .int (nI r), .int ak, .ref qk, .ref ql, .ref qy, .int cb, .ref qc, .int dn, .int kp, .int tr, .int md, .int wr, .ref qi, .int sm])), (ql, .inl (cAl, 64, .inl Ln)), (qy, .inl (cAy, 2560, .inl By))] := hD.sub [2, 0, 1] (by decide) rfl
        refine lv_if_eq (tgt := 55) hx hb dX3_at_48 (by decide) (fun c_48 => ?_) (fun c_48 => ?_)
        · skip
          obtain ⟨j, hj, rfl⟩ := in_lt (x := i) (r := lz Ln k) (by have h9 := (hL k hk).2; omega) (by rw [← (hL k hk).1]; exact c_37)
          have hl40 := (hL k hk).2
          refine lv_aload_n hx hb dX3_at_55 rfl (lv_at hl 1 rfl) ?_
          refine va_get (D := (dC, dI)) (ci := 3) (v := .ref qy) (C := RX3) (T := TX3) (N := 17) hx hb hts (by decide +kernel) hown hK hP 0 rfl rfl 7 (by decide) (hts (.fieldLink RX3 19 "HouseLogModel" "bytes" "[I") (by decide +kernel)) (fun _ h9 => h9) rfl dX3_at_56 ?_
          refine lv_bipush (v := 40) hx hb dX3_at_59 (by decide) ?_
          refine lv_iload_n hx hb dX3_at_61 rfl (lv_at hl 2 rfl) ?_
          refine lv_imul hx hb dX3_at_62 ?_
          rw [show (40 * (nI k) : Int32) = nI (40 * k) from pk_mul 40 k]
          refine lv_iload_n hx hb dX3_at_63 rfl (lv_at hl 3 rfl) ?_
          refine lv_iadd hx hb dX3_at_64 ?_
          rw [show ((nI (40 * k)) + (nI j) : Int32) = nI (40 * k + j) from nI_add (40 * k) j]
          refine va_iald hx hb hK hP 2 1 rfl rfl (i := nI (40 * k + j)) (vp_in_nI (n := 40 * k + j) (by omega) (by decide)) dX3_at_65 ?_
          refine W.eq (g2 := F0 m 66 ls (.int (By (40 * k + j)) :: [])) (by rw [show (nI (40 * k + j) : Int32).toNatClampNeg = 40 * k + j from nI_clamp (by omega)]) ?_
          exact hr_i (v := By (40 * k + j)) hx hb hr hlocks (w1 := [(qm, .inr (3, [.int (flI dn 0 0), .int (nI n), .ref qd, .int (nI r), .int ak, .ref qk, .ref ql, .ref qy, .int cb, .ref qc, .int dn, .int kp, .int tr, .int md, .int wr, .ref qi, .int sm])), (ql, .inl (cAl, 64, .inl Ln)), (qy, .inl (cAy, 2560, .inl By))]) hP hD hK hS [0, 1, 2] [0, 1] rfl rfl rfl (by simp only [atRI, if_neg c_12, if_neg c_37, if_pos c_48, nI_clamp (show k < 2 ^ 31 by omega), nI_clamp (show j < 2 ^ 31 by omega)] <;> rfl) (by simp only [atRI, atRT, if_neg c_12, if_neg c_37, if_pos c_48, nI_clamp (show k < 2 ^ 31 by omega), nI_clamp (show j < 2 ^ 31 by omega)] <;> rfl) dX3_at_66
        · skip
          refine lv_iconst (v := 0) hx hb dX3_at_51 (by decide) ?_
          refine lv_goto (tgt := 66) hx hb dX3_at_52 (by decide) ?_
          exact hr_i (v := 0) hx hb hr hlocks (w1 := [(qm, .inr (3, [.int (flI dn 0 0), .int (nI n), .ref qd, .int (nI r), .int ak, .ref qk, .ref ql, .ref qy, .int cb, .ref qc, .int dn, .int kp, .int tr, .int md, .int wr, .ref qi, .int sm])), (ql, .inl (cAl, 64, .inl Ln)), (qy, .inl (cAy, 2560, .inl By))]) hP hD hK hS [0, 1, 2] [0, 1] rfl rfl rfl (by simp only [atRI, if_neg c_12, if_neg c_37, if_neg c_48, nI_clamp (show k < 2 ^ 31 by omega)] <;> rfl) (by simp only [atRI, atRT, if_neg c_12, if_neg c_37, if_neg c_48, nI_clamp (show k < 2 ^ 31 by omega)] <;> rfl) dX3_at_66
      · skip
        refine lv_iconst (v := 1) hx hb dX3_at_40 (by decide) ?_
        refine lv_goto (tgt := 45) hx hb dX3_at_41 (by decide) ?_
        refine hc_iV (As := [.int dn, .int 0, .int 1]) (rest := []) (wr := [(ql, .inl (cAl, 64, .inl Ln)), (qy, .inl (cAy, 2560, .inl By))]) ⟨hx, hb, hml, hown, hts⟩ sx_T trivial (kX3_fails l dC dI H.size qm qd qk ql qy qc qi n th (nI r) ak cb dn kp tr md wr sm dn 0 1 ) (cwV 3 hts gX3_at_X3_fails rfl rfl rfl (by decide +kernel) ⟨Nat.le_of_ble_eq_true rfl, Nat.le_of_ble_eq_true rfl⟩) hK hP hD hS hA [0] [1, 2] [] rfl rfl rfl rfl rfl (by decide) (ci := 3) rfl rfl rfl rfl hl.1 rfl (Nat.le_of_ble_eq_true rfl) dX3_at_45 ⟨Nat.zero_le _, Nat.zero_le _⟩ (fun H locs hP hD hS => ?_)
        have hP : va_P (dC, dI) hlCl [(qm, .inr (3, [.int (flI dn 0 1), .int (nI n), .ref qd, .int (nI r), .int ak, .ref qk, .ref ql, .ref qy, .int cb, .ref qc, .int dn, .int kp, .int tr, .int md, .int wr, .ref qi, .int sm])), (ql, .inl (cAl, 64, .inl Ln)), (qy, .inl (cAy, 2560, .inl By))] H := hP.sub [2, 0, 1] rfl
        have hD : va_D A [(qm, .inr (3, [.int (flI dn 0 1), .int (nI n), .ref qd, .int (nI r), .int ak, .ref qk, .ref ql, .ref qy, .int cb, .ref qc, .int dn, .int kp, .int tr, .int md, .int wr, .ref qi, .int sm])), (ql, .inl (cAl, 64, .inl Ln)), (qy, .inl (cAy, 2560, .inl By))] := hD.sub [2, 0, 1] (by decide) rfl
        refine lv_if_eq (tgt := 55) hx hb dX3_at_48 (by decide) (fun c_48 => ?_) (fun c_48 => ?_)
        · exact absurd (fl_iff.mp c_48).2.2 (by decide)
        · skip
          refine lv_iconst (v := 0) hx hb dX3_at_51 (by decide) ?_
          refine lv_goto (tgt := 66) hx hb dX3_at_52 (by decide) ?_
          exact hr_i (v := 0) hx hb hr hlocks (w1 := [(qm, .inr (3, [.int (flI dn 0 1), .int (nI n), .ref qd, .int (nI r), .int ak, .ref qk, .ref ql, .ref qy, .int cb, .ref qc, .int dn, .int kp, .int tr, .int md, .int wr, .ref qi, .int sm])), (ql, .inl (cAl, 64, .inl Ln)), (qy, .inl (cAy, 2560, .inl By))]) hP hD hK hS [0, 1, 2] [0, 1] rfl rfl rfl (by simp only [atRI, if_neg c_12, if_pos c_37, nI_clamp (show k < 2 ^ 31 by omega)] <;> rfl) (by simp only [atRI, atRT, if_neg c_12, if_pos c_37, nI_clamp (show k < 2 ^ 31 by omega)] <;> rfl) dX3_at_66
  · skip
    refine lv_iconst (v := 1) hx hb dX3_at_15 (by decide) ?_
    refine lv_goto (tgt := 20) hx hb dX3_at_16 (by decide) ?_
    refine lv_iload_n hx hb dX3_at_20 rfl (lv_at hl 0 rfl) ?_
    refine lv_if_eq (tgt := 44) hx hb dX3_at_21 (by decide) (fun c_21 => ?_) (fun c_21 => ?_)
    · skip
      refine lv_iconst (v := 0) hx hb dX3_at_44 (by decide) ?_
      refine hc_iV (As := [.int dn, .int 1, .int 0]) (rest := []) (wr := [(ql, .inl (cAl, 64, .inl Ln)), (qy, .inl (cAy, 2560, .inl By))]) ⟨hx, hb, hml, hown, hts⟩ sx_T trivial (kX3_fails l dC dI H.size qm qd qk ql qy qc qi n th (nI r) ak cb dn kp tr md wr sm dn 1 0 ) (cwV 3 hts gX3_at_X3_fails rfl rfl rfl (by decide +kernel) ⟨Nat.le_of_ble_eq_true rfl, Nat.le_of_ble_eq_true rfl⟩) hK hP hD hS hA [0] [1, 2] [] rfl rfl rfl rfl rfl (by decide) (ci := 3) rfl rfl rfl rfl hl.1 rfl (Nat.le_of_ble_eq_true rfl) dX3_at_45 ⟨Nat.zero_le _, Nat.zero_le _⟩ (fun H locs hP hD hS => ?_)
      have hP : va_P (dC, dI) hlCl [(qm, .inr (3, [.int (flI dn 1 0), .int (nI n), .ref qd, .int (nI r), .int ak, .ref qk, .ref ql, .ref qy, .int cb, .ref qc, .int dn, .int kp, .int tr, .int md, .int wr, .ref qi, .int sm])), (ql, .inl (cAl, 64, .inl Ln)), (qy, .inl (cAy, 2560, .inl By))] H := hP.sub [2, 0, 1] rfl
      have hD : va_D A [(qm, .inr (3, [.int (flI dn 1 0), .int (nI n), .ref qd, .int (nI r), .int ak, .ref qk, .ref ql, .ref qy, .int cb, .ref qc, .int dn, .int kp, .int tr, .int md, .int wr, .ref qi, .int sm])), (ql, .inl (cAl, 64, .inl Ln)), (qy, .inl (cAy, 2560, .inl By))] := hD.sub [2, 0, 1] (by decide) rfl
      refine lv_if_eq (tgt := 55) hx hb dX3_at_48 (by decide) (fun c_48 => ?_) (fun c_48 => ?_)
      · exact absurd (fl_iff.mp c_48).2.1 (by decide)
      · skip
        refine lv_iconst (v := 0) hx hb dX3_at_51 (by decide) ?_
        refine lv_goto (tgt := 66) hx hb dX3_at_52 (by decide) ?_
        exact hr_i (v := 0) hx hb hr hlocks (w1 := [(qm, .inr (3, [.int (flI dn 1 0), .int (nI n), .ref qd, .int (nI r), .int ak, .ref qk, .ref ql, .ref qy, .int cb, .ref qc, .int dn, .int kp, .int tr, .int md, .int wr, .ref qi, .int sm])), (ql, .inl (cAl, 64, .inl Ln)), (qy, .inl (cAy, 2560, .inl By))]) hP hD hK hS [0, 1, 2] [0, 1] rfl rfl rfl (by simp only [atRI, if_pos c_12] <;> rfl) (by simp only [atRI, atRT, if_pos c_12] <;> rfl) dX3_at_66
    · exact absurd c_12 c_21

def loRI (ak dn : Int32) (r : Nat) (K Ln : Nat → Int32) (x y : Int32) : Int32 := (if (irR (nI r) x) = 0 then 0 else (if (inI y 0 2) = 0 then 0 else (if (flR dn 0 0) = 0 then (if y = 0 then K x.toNatClampNeg else (if y = 1 then Ln x.toNatClampNeg else (if ak ≤ (x) then 0 else 1))) else 0)))
def loRT (dn : Int32) (r : Nat) (x y : Int32) : Int32 := (if (irR (nI r) x) = 0 then flI dn 1 0 else (if (inI y 0 2) = 0 then flI dn 1 0 else flI dn 0 0))
set_option maxHeartbeats 4000000 in
set_option maxRecDepth 100000 in
theorem kX3_look (l : Launch) (dC : Nat → ClassId) (dI : Nat → Nat → Nat) (sz : Nat) (qm qd qk ql qy qc qi : Nat) (n : Nat) (cAk cAl : ClassId) (th ak cb dn kp tr md wr sm : Int32) (r : Nat) (K Ln : Nat → Int32) (x y : Int32) (hr0 : r ≤ 64) : Mi_ l yX3_look wsX3_look 2 43 dC dI (fun _ => True) [.ref qm, .int x, .int y] [(qm, .inr (3, [.int th, .int (nI n), .ref qd, .int (nI r), .int ak, .ref qk, .ref ql, .ref qy, .int cb, .ref qc, .int dn, .int kp, .int tr, .int md, .int wr, .ref qi, .int sm])), (qk, .inl (cAk, 64, .inl K)), (ql, .inl (cAl, 64, .inl Ln))] [(cAk, .int), (cAl, .int)] sz (loRI ak dn r K Ln x y) [(qm, .inr (3, [.int (loRT dn r x y), .int (nI n), .ref qd, .int (nI r), .int ak, .ref qk, .ref ql, .ref qy, .int cb, .ref qc, .int dn, .int kp, .int tr, .int md, .int wr, .ref qi, .int sm])), (qk, .inl (cAk, 64, .inl K)), (ql, .inl (cAl, 64, .inl Ln))] := by
  refine hm_ (cc := cX3_look) (maxL := 3) (ret := (some .int)) (Qc := fun A => va_Qi (fun (r9 : Int32) (_ : Unit) => r9 = loRI ak dn r K Ln x y) (fun _ t9 => qw_ dC dI A [(qm, .inr (3, [.int (loRT dn r x y), .int (nI n), .ref qd, .int (nI r), .int ak, .ref qk, .ref ql, .ref qy, .int cb, .ref qc, .int dn, .int kp, .int tr, .int md, .int wr, .ref qi, .int sm])), (qk, .inl (cAk, 64, .inl K)), (ql, .inl (cAl, 64, .inl Ln))] [(cAk, .int), (cAl, .int)] t9) A) (by decide) rfl (Nat.le_of_ble_eq_true rfl) ?_
  intro p e s m below meth c A H locs ls hx hb hr hml hts hown hlocks hsz hP hK hD hE hA hS hl
  have hl : lv_has ls 3 [(0, .ref qm), (1, .int x), (2, .int y)] := hl
  have hown : s.vm.findClass RX3 = some m.cls := hown
  refine lv_aload_n hx hb dX3_look_0 rfl (lv_at hl 0 rfl) ?_
  refine lv_aload_n hx hb dX3_look_1 rfl (lv_at hl 0 rfl) ?_
  refine va_get (D := (dC, dI)) (ci := 3) (v := .int dn) (C := RX3) (T := TX3) (N := 17) hx hb hts (by decide +kernel) hown hK hP 0 rfl rfl 10 (by decide) (hts (.fieldLink RX3 62 "HouseLogModel" "down" "Z") (by decide +kernel)) (fun _ h9 => h9) rfl dX3_look_2 ?_
  refine lv_aload_n hx hb dX3_look_5 rfl (lv_at hl 0 rfl) ?_
  refine lv_iload_n hx hb dX3_look_6 rfl (lv_at hl 1 rfl) ?_
  refine hc_iV (As := [.int x]) (rest := [.int dn, .ref qm]) (wr := [(qk, .inl (cAk, 64, .inl K)), (ql, .inl (cAl, 64, .inl Ln))]) ⟨hx, hb, hml, hown, hts⟩ sx_T trivial (kX3_isRow l dC dI H.size qm qd qk ql qy qc qi n th (nI r) ak cb dn kp tr md wr sm x ) (cwV 1 hts gX3_look_X3_isRow rfl rfl rfl (by decide +kernel) ⟨Nat.le_of_ble_eq_true rfl, Nat.le_of_ble_eq_true rfl⟩) hK hP hD hS hA [0] [1, 2] [] rfl rfl rfl rfl rfl (by decide) (ci := 3) rfl rfl rfl rfl hl.1 rfl (Nat.le_of_ble_eq_true rfl) dX3_look_7 ⟨Nat.zero_le _, Nat.zero_le _⟩ (fun H locs hP hD hS => ?_)
  have hP : va_P (dC, dI) hlCl [(qm, .inr (3, [.int th, .int (nI n), .ref qd, .int (nI r), .int ak, .ref qk, .ref ql, .ref qy, .int cb, .ref qc, .int dn, .int kp, .int tr, .int md, .int wr, .ref qi, .int sm])), (qk, .inl (cAk, 64, .inl K)), (ql, .inl (cAl, 64, .inl Ln))] H := hP.sub [2, 0, 1] rfl
  have hD : va_D A [(qm, .inr (3, [.int th, .int (nI n), .ref qd, .int (nI r), .int ak, .ref qk, .ref ql, .ref qy, .int cb, .ref qc, .int dn, .int kp, .int tr, .int md, .int wr, .ref qi, .int sm])), (qk, .inl (cAk, 64, .inl K)), (ql, .inl (cAl, 64, .inl Ln))] := hD.sub [2, 0, 1] (by decide) rfl
  refine lv_if_eq (tgt := 22) hx hb dX3_look_10 (by decide) (fun c_10 => ?_) (fun c_10 => ?_)
  · skip
    refine lv_iconst (v := 1) hx hb dX3_look_22 (by decide) ?_
    refine lv_goto (tgt := 27) hx hb dX3_look_23 (by decide) ?_
    refine lv_iconst (v := 0) hx hb dX3_look_27 (by decide) ?_
    refine hc_iV (As := [.int dn, .int 1, .int 0]) (rest := []) (wr := [(qk, .inl (cAk, 64, .inl K)), (ql, .inl (cAl, 64, .inl Ln))]) ⟨hx, hb, hml, hown, hts⟩ sx_T trivial (kX3_fails l dC dI H.size qm qd qk ql qy qc qi n th (nI r) ak cb dn kp tr md wr sm dn 1 0 ) (cwV 3 hts gX3_look_X3_fails rfl rfl rfl (by decide +kernel) ⟨Nat.le_of_ble_eq_true rfl, Nat.le_of_ble_eq_true rfl⟩) hK hP hD hS hA [0] [1, 2] [] rfl rfl rfl rfl rfl (by decide) (ci := 3) rfl rfl rfl rfl hl.1 rfl (Nat.le_of_ble_eq_true rfl) dX3_look_28 ⟨Nat.zero_le _, Nat.zero_le _⟩ (fun H locs hP hD hS => ?_)
    have hP : va_P (dC, dI) hlCl [(qm, .inr (3, [.int (flI dn 1 0), .int (nI n), .ref qd, .int (nI r), .int ak, .ref qk, .ref ql, .ref qy, .int cb, .ref qc, .int dn, .int kp, .int tr, .int md, .int wr, .ref qi, .int sm])), (qk, .inl (cAk, 64, .inl K)), (ql, .inl (cAl, 64, .inl Ln))] H := hP.sub [2, 0, 1] rfl
    have hD : va_D A [(qm, .inr (3, [.int (flI dn 1 0), .int (nI n), .ref qd, .int (nI r), .int ak, .ref qk, .ref ql, .ref qy, .int cb, .ref qc, .int dn, .int kp, .int tr, .int md, .int wr, .ref qi, .int sm])), (qk, .inl (cAk, 64, .inl K)), (ql, .inl (cAl, 64, .inl Ln))] := hD.sub [2, 0, 1] (by decide) rfl
    refine lv_if_eq (tgt := 36) hx hb dX3_look_31 (by decide) (fun c_31 => ?_) (fun c_31 => ?_)
    · exact absurd (fl_iff.mp c_31).2.1 (by decide)
    · skip
      refine lv_iconst (v := 0) hx hb dX3_look_34 (by decide) ?_
      exact hr_i (v := 0) hx hb hr hlocks (w1 := [(qm, .inr (3, [.int (flI dn 1 0), .int (nI n), .ref qd, .int (nI r), .int ak, .ref qk, .ref ql, .ref qy, .int cb, .ref qc, .int dn, .int kp, .int tr, .int md, .int wr, .ref qi, .int sm])), (qk, .inl (cAk, 64, .inl K)), (ql, .inl (cAl, 64, .inl Ln))]) hP hD hK hS [0, 1, 2] [0, 1] rfl rfl rfl (by simp only [loRI, if_pos c_10] <;> rfl) (by simp only [loRI, loRT, if_pos c_10] <;> rfl) dX3_look_35
  · skip
    refine lv_iload_n hx hb dX3_look_13 rfl (lv_at hl 2 rfl) ?_
    refine lv_iconst (v := 0) hx hb dX3_look_14 (by decide) ?_
    refine lv_iconst (v := 2) hx hb dX3_look_15 (by decide) ?_
    refine hc_iS (As := [.int y, .int 0, .int 2]) (rest := [.int dn, .ref qm]) ⟨hx, hb, hml, hown, hts⟩ sx_T trivial (kX3_in l dC dI H.size y 0 2 ) (va_cwS 3 hts gX3_look_X3_in rfl rfl rfl (by decide +kernel) ⟨Nat.le_of_ble_eq_true rfl, Nat.le_of_ble_eq_true rfl⟩) hK hP hD hS hA [0, 1, 2] rfl rfl rfl hl.1 rfl (Nat.le_of_ble_eq_true rfl) dX3_look_16 ⟨Nat.zero_le _, Nat.zero_le _⟩ (fun H locs hP hD hS => ?_)
    refine lv_if_ne (tgt := 26) hx hb dX3_look_19 (by decide) (fun c_19 => ?_) (fun c_19 => ?_)
    · skip
      refine lv_iconst (v := 0) hx hb dX3_look_26 (by decide) ?_
      refine lv_iconst (v := 0) hx hb dX3_look_27 (by decide) ?_
      refine hc_iV (As := [.int dn, .int 0, .int 0]) (rest := []) (wr := [(qk, .inl (cAk, 64, .inl K)), (ql, .inl (cAl, 64, .inl Ln))]) ⟨hx, hb, hml, hown, hts⟩ sx_T trivial (kX3_fails l dC dI H.size qm qd qk ql qy qc qi n th (nI r) ak cb dn kp tr md wr sm dn 0 0 ) (cwV 3 hts gX3_look_X3_fails rfl rfl rfl (by decide +kernel) ⟨Nat.le_of_ble_eq_true rfl, Nat.le_of_ble_eq_true rfl⟩) hK hP hD hS hA [0] [1, 2] [] rfl rfl rfl rfl rfl (by decide) (ci := 3) rfl rfl rfl rfl hl.1 rfl (Nat.le_of_ble_eq_true rfl) dX3_look_28 ⟨Nat.zero_le _, Nat.zero_le _⟩ (fun H locs hP hD hS => ?_)
      have hP : va_P (dC, dI) hlCl [(qm, .inr (3, [.int (flI dn 0 0), .int (nI n), .ref qd, .int (nI r), .int ak, .ref qk, .ref ql, .ref qy, .int cb, .ref qc, .int dn, .int kp, .int tr, .int md, .int wr, .ref qi, .int sm])), (qk, .inl (cAk, 64, .inl K)), (ql, .inl (cAl, 64, .inl Ln))] H := hP.sub [2, 0, 1] rfl
      have hD : va_D A [(qm, .inr (3, [.int (flI dn 0 0), .int (nI n), .ref qd, .int (nI r), .int ak, .ref qk, .ref ql, .ref qy, .int cb, .ref qc, .int dn, .int kp, .int tr, .int md, .int wr, .ref qi, .int sm])), (qk, .inl (cAk, 64, .inl K)), (ql, .inl (cAl, 64, .inl Ln))] := hD.sub [2, 0, 1] (by decide) rfl
      refine lv_if_eq (tgt := 36) hx hb dX3_look_31 (by decide) (fun c_31 => ?_) (fun c_31 => ?_)
      · skip
        obtain ⟨k, hk, rfl⟩ := in_lt (x := x) (r := r) (by omega) c_10
        refine lv_iload_n hx hb dX3_look_36 rfl (lv_at hl 2 rfl) ?_
        refine lv_if_ne (tgt := 49) hx hb dX3_look_37 (by decide) (fun c_37 => ?_) (fun c_37 => ?_)
        · skip
          refine lv_iload_n hx hb dX3_look_49 rfl (lv_at hl 2 rfl) ?_
          refine lv_iconst (v := 1) hx hb dX3_look_50 (by decide) ?_
          refine lv_icmp_ne (tgt := 63) hx hb dX3_look_51 (by decide) (fun c_51 => ?_) (fun c_51 => ?_)
          · skip
            refine lv_iload_n hx hb dX3_look_63 rfl (lv_at hl 1 rfl) ?_
            refine lv_aload_n hx hb dX3_look_64 rfl (lv_at hl 0 rfl) ?_
            refine va_get (D := (dC, dI)) (ci := 3) (v := .int ak) (C := RX3) (T := TX3) (N := 17) hx hb hts (by decide +kernel) hown hK hP 0 rfl rfl 4 (by decide) (hts (.fieldLink RX3 82 "HouseLogModel" "acknowledged" "I") (by decide +kernel)) (fun _ h9 => h9) rfl dX3_look_65 ?_
            refine lv_icmp_ge (tgt := 75) hx hb dX3_look_68 (by decide) (fun c_68 => ?_) (fun c_68 => ?_)
            · skip
              refine lv_iconst (v := 0) hx hb dX3_look_75 (by decide) ?_
              exact hr_i (v := 0) hx hb hr hlocks (w1 := [(qm, .inr (3, [.int (flI dn 0 0), .int (nI n), .ref qd, .int (nI r), .int ak, .ref qk, .ref ql, .ref qy, .int cb, .ref qc, .int dn, .int kp, .int tr, .int md, .int wr, .ref qi, .int sm])), (qk, .inl (cAk, 64, .inl K)), (ql, .inl (cAl, 64, .inl Ln))]) hP hD hK hS [0, 1, 2] [0, 1] rfl rfl rfl (by simp only [loRI, if_neg c_10, if_neg c_19, if_pos c_31, if_neg c_37, if_neg c_51, if_pos c_68, nI_clamp (show k < 2 ^ 31 by omega)] <;> rfl) (by simp only [loRI, loRT, if_neg c_10, if_neg c_19, if_pos c_31, if_neg c_37, if_neg c_51, if_pos c_68, nI_clamp (show k < 2 ^ 31 by omega)] <;> rfl) dX3_look_76
            · skip
              refine lv_iconst (v := 1) hx hb dX3_look_71 (by decide) ?_
              refine lv_goto (tgt := 76) hx hb dX3_look_72 (by decide) ?_
              exact hr_i (v := 1) hx hb hr hlocks (w1 := [(qm, .inr (3, [.int (flI dn 0 0), .int (nI n), .ref qd, .int (nI r), .int ak, .ref qk, .ref ql, .ref qy, .int cb, .ref qc, .int dn, .int kp, .int tr, .int md, .int wr, .ref qi, .int sm])), (qk, .inl (cAk, 64, .inl K)), (ql, .inl (cAl, 64, .inl Ln))]) hP hD hK hS [0, 1, 2] [0, 1] rfl rfl rfl (by simp only [loRI, if_neg c_10, if_neg c_19, if_pos c_31, if_neg c_37, if_neg c_51, if_neg c_68, nI_clamp (show k < 2 ^ 31 by omega)] <;> rfl) (by simp only [loRI, loRT, if_neg c_10, if_neg c_19, if_pos c_31, if_neg c_37, if_neg c_51, if_neg c_68, nI_clamp (show k < 2 ^ 31 by omega)] <;> rfl) dX3_look_76
          · skip
            refine lv_aload_n hx hb dX3_look_54 rfl (lv_at hl 0 rfl) ?_
            refine va_get (D := (dC, dI)) (ci := 3) (v := .ref ql) (C := RX3) (T := TX3) (N := 17) hx hb hts (by decide +kernel) hown hK hP 0 rfl rfl 6 (by decide) (hts (.fieldLink RX3 16 "HouseLogModel" "lengths" "[I") (by decide +kernel)) (fun _ h9 => h9) rfl dX3_look_55 ?_
            refine lv_iload_n hx hb dX3_look_58 rfl (lv_at hl 1 rfl) ?_
            refine va_iald hx hb hK hP 2 1 rfl rfl (i := nI k) (vp_in_nI (n := k) (by omega) (by decide)) dX3_look_59 ?_
            refine W.eq (g2 := F0 m 60 ls (.int (Ln k) :: [])) (by rw [show (nI k : Int32).toNatClampNeg = k from nI_clamp (by omega)]) ?_
            refine lv_goto (tgt := 76) hx hb dX3_look_60 (by decide) ?_
            exact hr_i (v := Ln k) hx hb hr hlocks (w1 := [(qm, .inr (3, [.int (flI dn 0 0), .int (nI n), .ref qd, .int (nI r), .int ak, .ref qk, .ref ql, .ref qy, .int cb, .ref qc, .int dn, .int kp, .int tr, .int md, .int wr, .ref qi, .int sm])), (qk, .inl (cAk, 64, .inl K)), (ql, .inl (cAl, 64, .inl Ln))]) hP hD hK hS [0, 1, 2] [0, 1] rfl rfl rfl (by simp only [loRI, if_neg c_10, if_neg c_19, if_pos c_31, if_neg c_37, if_pos c_51, nI_clamp (show k < 2 ^ 31 by omega)] <;> rfl) (by simp only [loRI, loRT, if_neg c_10, if_neg c_19, if_pos c_31, if_neg c_37, if_pos c_51, nI_clamp (show k < 2 ^ 31 by omega)] <;> rfl) dX3_look_76
        · skip
          refine lv_aload_n hx hb dX3_look_40 rfl (lv_at hl 0 rfl) ?_
          refine va_get (D := (dC, dI)) (ci := 3) (v := .ref qk) (C := RX3) (T := TX3) (N := 17) hx hb hts (by decide +kernel) hown hK hP 0 rfl rfl 5 (by decide) (hts (.fieldLink RX3 13 "HouseLogModel" "kinds" "[I") (by decide +kernel)) (fun _ h9 => h9) rfl dX3_look_41 ?_
          refine lv_iload_n hx hb dX3_look_44 rfl (lv_at hl 1 rfl) ?_
          refine va_iald hx hb hK hP 1 0 rfl rfl (i := nI k) (vp_in_nI (n := k) (by omega) (by decide)) dX3_look_45 ?_
          refine W.eq (g2 := F0 m 46 ls (.int (K k) :: [])) (by rw [show (nI k : Int32).toNatClampNeg = k from nI_clamp (by omega)]) ?_
          refine lv_goto (tgt := 76) hx hb dX3_look_46 (by decide) ?_
          exact hr_i (v := K k) hx hb hr hlocks (w1 := [(qm, .inr (3, [.int (flI dn 0 0), .int (nI n), .ref qd, .int (nI r), .int ak, .ref qk, .ref ql, .ref qy, .int cb, .ref qc, .int dn, .int kp, .int tr, .int md, .int wr, .ref qi, .int sm])), (qk, .inl (cAk, 64, .inl K)), (ql, .inl (cAl, 64, .inl Ln))]) hP hD hK hS [0, 1, 2] [0, 1] rfl rfl rfl (by simp only [loRI, if_neg c_10, if_neg c_19, if_pos c_31, if_pos c_37, nI_clamp (show k < 2 ^ 31 by omega)] <;> rfl) (by simp only [loRI, loRT, if_neg c_10, if_neg c_19, if_pos c_31, if_pos c_37, nI_clamp (show k < 2 ^ 31 by omega)] <;> rfl) dX3_look_76
      · skip
        refine lv_iconst (v := 0) hx hb dX3_look_34 (by decide) ?_
        exact hr_i (v := 0) hx hb hr hlocks (w1 := [(qm, .inr (3, [.int (flI dn 0 0), .int (nI n), .ref qd, .int (nI r), .int ak, .ref qk, .ref ql, .ref qy, .int cb, .ref qc, .int dn, .int kp, .int tr, .int md, .int wr, .ref qi, .int sm])), (qk, .inl (cAk, 64, .inl K)), (ql, .inl (cAl, 64, .inl Ln))]) hP hD hK hS [0, 1, 2] [0, 1] rfl rfl rfl (by simp only [loRI, if_neg c_10, if_neg c_19, if_neg c_31] <;> rfl) (by simp only [loRI, loRT, if_neg c_10, if_neg c_19, if_neg c_31] <;> rfl) dX3_look_35
    · skip
      refine lv_iconst (v := 1) hx hb dX3_look_22 (by decide) ?_
      refine lv_goto (tgt := 27) hx hb dX3_look_23 (by decide) ?_
      refine lv_iconst (v := 0) hx hb dX3_look_27 (by decide) ?_
      refine hc_iV (As := [.int dn, .int 1, .int 0]) (rest := []) (wr := [(qk, .inl (cAk, 64, .inl K)), (ql, .inl (cAl, 64, .inl Ln))]) ⟨hx, hb, hml, hown, hts⟩ sx_T trivial (kX3_fails l dC dI H.size qm qd qk ql qy qc qi n th (nI r) ak cb dn kp tr md wr sm dn 1 0 ) (cwV 3 hts gX3_look_X3_fails rfl rfl rfl (by decide +kernel) ⟨Nat.le_of_ble_eq_true rfl, Nat.le_of_ble_eq_true rfl⟩) hK hP hD hS hA [0] [1, 2] [] rfl rfl rfl rfl rfl (by decide) (ci := 3) rfl rfl rfl rfl hl.1 rfl (Nat.le_of_ble_eq_true rfl) dX3_look_28 ⟨Nat.zero_le _, Nat.zero_le _⟩ (fun H locs hP hD hS => ?_)
      have hP : va_P (dC, dI) hlCl [(qm, .inr (3, [.int (flI dn 1 0), .int (nI n), .ref qd, .int (nI r), .int ak, .ref qk, .ref ql, .ref qy, .int cb, .ref qc, .int dn, .int kp, .int tr, .int md, .int wr, .ref qi, .int sm])), (qk, .inl (cAk, 64, .inl K)), (ql, .inl (cAl, 64, .inl Ln))] H := hP.sub [2, 0, 1] rfl
      have hD : va_D A [(qm, .inr (3, [.int (flI dn 1 0), .int (nI n), .ref qd, .int (nI r), .int ak, .ref qk, .ref ql, .ref qy, .int cb, .ref qc, .int dn, .int kp, .int tr, .int md, .int wr, .ref qi, .int sm])), (qk, .inl (cAk, 64, .inl K)), (ql, .inl (cAl, 64, .inl Ln))] := hD.sub [2, 0, 1] (by decide) rfl
      refine lv_if_eq (tgt := 36) hx hb dX3_look_31 (by decide) (fun c_31 => ?_) (fun c_31 => ?_)
      · exact absurd (fl_iff.mp c_31).2.1 (by decide)
      · skip
        refine lv_iconst (v := 0) hx hb dX3_look_34 (by decide) ?_
        exact hr_i (v := 0) hx hb hr hlocks (w1 := [(qm, .inr (3, [.int (flI dn 1 0), .int (nI n), .ref qd, .int (nI r), .int ak, .ref qk, .ref ql, .ref qy, .int cb, .ref qc, .int dn, .int kp, .int tr, .int md, .int wr, .ref qi, .int sm])), (qk, .inl (cAk, 64, .inl K)), (ql, .inl (cAl, 64, .inl Ln))]) hP hD hK hS [0, 1, 2] [0, 1] rfl rfl rfl (by simp only [loRI, if_neg c_10, if_pos c_19] <;> rfl) (by simp only [loRI, loRT, if_neg c_10, if_pos c_19] <;> rfl) dX3_look_35

def vS (sm : Int32) (D : Nat → Int32) : Nat → Int32
  | 0 => sm
  | i + 1 => srR (srR (vS sm D i) D 0 i) D 1 i
def vF (sm : Int32) (D : Nat → Int32) : Nat → Nat → Int32 × Int32
  | 0, i => (0, vS sm D i)
  | k + 1, i => if rtR D 0 i = 0 then (nI (1 + 2 * i + 0), srR (vS sm D i) D 0 i) else if rtR D 1 i = 0 then (nI (1 + 2 * i + 1), srR (srR (vS sm D i) D 0 i) D 1 i) else vF sm D k (i + 1)

set_option maxHeartbeats 4000000 in
set_option maxRecDepth 100000 in
theorem kX3_verify (l : Launch) (dC : Nat → ClassId) (dI : Nat → Nat → Nat) (sz : Nat) (qm qd qk ql qy qc qi : Nat) (n : Nat) (cAd : ClassId) (th rw cb dn kp tr md wr sm : Int32) (a : Nat) (D : Nat → Int32) (ha : a ≤ 64) (hB : hB_ D) : Mi_ l yX3_verify wsX3_verify 2 49 dC dI (fun _ => True) [.ref qm] [(qm, .inr (3, [.int th, .int (nI n), .ref qd, .int rw, .int (nI a), .ref qk, .ref ql, .ref qy, .int cb, .ref qc, .int dn, .int kp, .int tr, .int md, .int wr, .ref qi, .int sm])), (qd, .inl (cAd, 8192, .inl D))] [(cAd, .int)] sz (if flR dn 0 0 = 0 then (vF sm D a 0).1 else 0) [(qm, .inr (3, [.int (flI dn 0 0), .int (nI n), .ref qd, .int rw, .int (nI a), .ref qk, .ref ql, .ref qy, .int cb, .ref qc, .int dn, .int kp, .int tr, .int md, .int wr, .ref qi, .int (if flR dn 0 0 = 0 then (vF sm D a 0).2 else sm)])), (qd, .inl (cAd, 8192, .inl D))] := by
  refine hm_ (cc := cX3_verify) (maxL := 3) (ret := (some .int)) (Qc := fun A => va_Qi (fun (r9 : Int32) (_ : Unit) => r9 = (if flR dn 0 0 = 0 then (vF sm D a 0).1 else 0)) (fun _ t9 => qw_ dC dI A [(qm, .inr (3, [.int (flI dn 0 0), .int (nI n), .ref qd, .int rw, .int (nI a), .ref qk, .ref ql, .ref qy, .int cb, .ref qc, .int dn, .int kp, .int tr, .int md, .int wr, .ref qi, .int (if flR dn 0 0 = 0 then (vF sm D a 0).2 else sm)])), (qd, .inl (cAd, 8192, .inl D))] [(cAd, .int)] t9) A) (by decide) rfl (Nat.le_of_ble_eq_true rfl) ?_
  intro p e s m below meth c A H locs ls hx hb hr hml hts hown hlocks hsz hP hK hD hE hA hS hl
  have hl : lv_has ls 3 [(0, .ref qm)] := hl
  have hown : s.vm.findClass RX3 = some m.cls := hown
  refine lv_aload_n hx hb dX3_verify_0 rfl (lv_at hl 0 rfl) ?_
  refine lv_aload_n hx hb dX3_verify_1 rfl (lv_at hl 0 rfl) ?_
  refine va_get (D := (dC, dI)) (ci := 3) (v := .int dn) (C := RX3) (T := TX3) (N := 17) hx hb hts (by decide +kernel) hown hK hP 0 rfl rfl 10 (by decide) (hts (.fieldLink RX3 62 "HouseLogModel" "down" "Z") (by decide +kernel)) (fun _ h9 => h9) rfl dX3_verify_2 ?_
  refine lv_iconst (v := 0) hx hb dX3_verify_5 (by decide) ?_
  refine lv_iconst (v := 0) hx hb dX3_verify_6 (by decide) ?_
  refine hc_iV (As := [.int dn, .int 0, .int 0]) (rest := []) (wr := [(qd, .inl (cAd, 8192, .inl D))]) ⟨hx, hb, hml, hown, hts⟩ sx_T trivial (kX3_fails l dC dI H.size qm qd qk ql qy qc qi n th rw (nI a) cb dn kp tr md wr sm dn 0 0 ) (cwV 3 hts gX3_verify_X3_fails rfl rfl rfl (by decide +kernel) ⟨Nat.le_of_ble_eq_true rfl, Nat.le_of_ble_eq_true rfl⟩) hK hP hD hS hA [0] [1] [] rfl rfl rfl rfl rfl (by decide) (ci := 3) rfl rfl rfl rfl hl.1 rfl (Nat.le_of_ble_eq_true rfl) dX3_verify_7 ⟨Nat.zero_le _, Nat.zero_le _⟩ (fun H locs hP hD hS => ?_)
  have hP : va_P (dC, dI) hlCl [(qm, .inr (3, [.int (flI dn 0 0), .int (nI n), .ref qd, .int rw, .int (nI a), .ref qk, .ref ql, .ref qy, .int cb, .ref qc, .int dn, .int kp, .int tr, .int md, .int wr, .ref qi, .int sm])), (qd, .inl (cAd, 8192, .inl D))] H := hP.sub [1, 0] rfl
  have hD : va_D A [(qm, .inr (3, [.int (flI dn 0 0), .int (nI n), .ref qd, .int rw, .int (nI a), .ref qk, .ref ql, .ref qy, .int cb, .ref qc, .int dn, .int kp, .int tr, .int md, .int wr, .ref qi, .int sm])), (qd, .inl (cAd, 8192, .inl D))] := hD.sub [1, 0] (by decide) rfl
  refine lv_if_eq (tgt := 15) hx hb dX3_verify_10 (by decide) (fun c_10 => ?_) (fun c_10 => ?_)
  · skip
    refine lv_iconst (v := 0) hx hb dX3_verify_15 (by decide) ?_
    refine lv_istore_n (lv' := [(1, .int 0), (0, .ref qm)]) hx hb dX3_verify_16 rfl hl (by decide) rfl (fun ls hl => ?_)
    have loop : ∀ (k0 i : Nat) (H : Heap) (locs : List Loc) (ls : Array Slot), (i + k0 = a) → (vF sm D k0 i = (vF sm D a 0)) → va_P (dC, dI) hlCl [(qm, .inr (3, [.int (flI dn 0 0), .int (nI n), .ref qd, .int rw, .int (nI a), .ref qk, .ref ql, .ref qy, .int cb, .ref qc, .int dn, .int kp, .int tr, .int md, .int wr, .ref qi, .int (vS sm D i)])), (qd, .inl (cAd, 8192, .inl D))] H → va_D A [(qm, .inr (3, [.int (flI dn 0 0), .int (nI n), .ref qd, .int rw, .int (nI a), .ref qk, .ref ql, .ref qy, .int cb, .ref qc, .int dn, .int kp, .int tr, .int md, .int wr, .ref qi, .int (vS sm D i)])), (qd, .inl (cAd, 8192, .inl D))] → va_S A s.heap H locs → lv_has ls 3 [(1, .int (nI i)), (0, .ref qm)] → W p l e (rm_ 2 49) s m [.ref qm].toArray below meth c H locs 0 0 (MQ below ((fun A => va_Qi (fun (r9 : Int32) (_ : Unit) => r9 = (if flR dn 0 0 = 0 then (vF sm D a 0).1 else 0)) (fun _ t9 => qw_ dC dI A [(qm, .inr (3, [.int (flI dn 0 0), .int (nI n), .ref qd, .int rw, .int (nI a), .ref qk, .ref ql, .ref qy, .int cb, .ref qc, .int dn, .int kp, .int tr, .int md, .int wr, .ref qi, .int (if flR dn 0 0 = 0 then (vF sm D a 0).2 else sm)])), (qd, .inl (cAd, 8192, .inl D))] [(cAd, .int)] t9) A) A) [.ref qm].toArray s 0 0 A) (F0 m 17 ls []) := by
      intro k0
      induction k0 with
      | zero =>
        intro i H locs ls hi hF hP hD hS hl
        obtain rfl : a = i := by omega
        refine lv_iload_n hx hb dX3_verify_17 rfl (lv_at hl 0 rfl) ?_
        refine lv_aload_n hx hb dX3_verify_18 rfl (lv_at hl 1 rfl) ?_
        refine va_get (D := (dC, dI)) (ci := 3) (v := .int (nI a)) (C := RX3) (T := TX3) (N := 17) hx hb hts (by decide +kernel) hown hK hP 0 rfl rfl 4 (by decide) (hts (.fieldLink RX3 82 "HouseLogModel" "acknowledged" "I") (by decide +kernel)) (fun _ h9 => h9) rfl dX3_verify_19 ?_
        refine lv_icmp_ge (tgt := 61) hx hb dX3_verify_22 (by decide) (fun c_22 => ?_) (fun c_22 => ?_)
        · skip
          refine lv_iconst (v := 0) hx hb dX3_verify_61 (by decide) ?_
          exact hr_i (v := 0) hx hb hr hlocks (w1 := [(qm, .inr (3, [.int (flI dn 0 0), .int (nI n), .ref qd, .int rw, .int (nI a), .ref qk, .ref ql, .ref qy, .int cb, .ref qc, .int dn, .int kp, .int tr, .int md, .int wr, .ref qi, .int (vS sm D a)])), (qd, .inl (cAd, 8192, .inl D))]) hP hD hK hS [0, 1] [0] rfl rfl rfl (by rw [if_pos c_10, ← hF]; rfl) (by rw [if_pos c_10, ← hF]; rfl) dX3_verify_62
        · exact absurd (nI_le (a := a) (b := a) (Nat.le_refl _) (by omega)) c_22
      | succ k0 ih =>
        intro i H locs ls hi hF hP hD hS hl
        refine lv_iload_n hx hb dX3_verify_17 rfl (lv_at hl 0 rfl) ?_
        refine lv_aload_n hx hb dX3_verify_18 rfl (lv_at hl 1 rfl) ?_
        refine va_get (D := (dC, dI)) (ci := 3) (v := .int (nI a)) (C := RX3) (T := TX3) (N := 17) hx hb hts (by decide +kernel) hown hK hP 0 rfl rfl 4 (by decide) (hts (.fieldLink RX3 82 "HouseLogModel" "acknowledged" "I") (by decide +kernel)) (fun _ h9 => h9) rfl dX3_verify_19 ?_
        refine lv_icmp_ge (tgt := 61) hx hb dX3_verify_22 (by decide) (fun c_22 => ?_) (fun c_22 => ?_)
        · exact absurd c_22 (nI_ge (a := i) (b := a) (by omega) (by omega))
        · skip
          refine lv_iconst (v := 0) hx hb dX3_verify_25 (by decide) ?_
          refine lv_istore_n (lv' := [(2, .int 0), (1, .int (nI i)), (0, .ref qm)]) hx hb dX3_verify_26 rfl hl (by decide) rfl (fun ls hl => ?_)
          refine lv_iload_n hx hb dX3_verify_27 rfl (lv_at hl 0 rfl) ?_
          refine lv_iconst (v := 2) hx hb dX3_verify_28 (by decide) ?_
          refine lv_icmp_ge (tgt := 55) hx hb dX3_verify_29 (by decide) (fun c_29 => ?_) (fun c_29 => ?_)
          · exact absurd c_29 (by decide)
          · skip
            refine lv_aload_n hx hb dX3_verify_32 rfl (lv_at hl 2 rfl) ?_
            refine lv_iload_n hx hb dX3_verify_33 rfl (lv_at hl 0 rfl) ?_
            refine lv_iload_n hx hb dX3_verify_34 rfl (lv_at hl 1 rfl) ?_
            refine hc_iV (As := [.int 0, .int (nI i)]) (rest := []) (wr := []) ⟨hx, hb, hml, hown, hts⟩ sx_T trivial (kX3_isRight l dC dI H.size qm qd qk ql qy qc qi n cAd (flI dn 0 0) rw (nI a) cb dn kp tr md wr (vS sm D i) D 0 i (by omega) (by omega) ((hB _ (by omega)).1) ((hB _ (by omega)).2)) (cwV 2 hts gX3_verify_X3_isRight rfl rfl rfl (by decide +kernel) ⟨Nat.le_of_ble_eq_true rfl, Nat.le_of_ble_eq_true rfl⟩) hK hP hD hS hA [0, 1] [] [0] rfl rfl rfl rfl rfl (by decide) (ci := 3) rfl rfl rfl rfl hl.1 rfl (Nat.le_of_ble_eq_true rfl) dX3_verify_35 ⟨Nat.zero_le _, Nat.zero_le _⟩ (fun H locs hP hD hS => ?_)
            have hP : va_P (dC, dI) hlCl [(qm, .inr (3, [.int (flI dn 0 0), .int (nI n), .ref qd, .int rw, .int (nI a), .ref qk, .ref ql, .ref qy, .int cb, .ref qc, .int dn, .int kp, .int tr, .int md, .int wr, .ref qi, .int (srR (vS sm D i) D 0 i)])), (qd, .inl (cAd, 8192, .inl D))] H := hP
            have hD : va_D A [(qm, .inr (3, [.int (flI dn 0 0), .int (nI n), .ref qd, .int rw, .int (nI a), .ref qk, .ref ql, .ref qy, .int cb, .ref qc, .int dn, .int kp, .int tr, .int md, .int wr, .ref qi, .int (srR (vS sm D i) D 0 i)])), (qd, .inl (cAd, 8192, .inl D))] := hD
            refine lv_if_ne (tgt := 49) hx hb dX3_verify_38 (by decide) (fun c_38 => ?_) (fun c_38 => ?_)
            · skip
              refine lv_iinc (v := 1) (lv' := [(2, .int 1), (1, .int (nI i)), (0, .ref qm)]) hx hb dX3_verify_49 hl (k := 0) rfl (by decide) (by decide) rfl (fun ls hl => ?_)
              refine lv_goto (tgt := 27) hx hb dX3_verify_52 (by decide) ?_
              refine lv_iload_n hx hb dX3_verify_27 rfl (lv_at hl 0 rfl) ?_
              refine lv_iconst (v := 2) hx hb dX3_verify_28 (by decide) ?_
              refine lv_icmp_ge (tgt := 55) hx hb dX3_verify_29 (by decide) (fun c_29_1 => ?_) (fun c_29_1 => ?_)
              · exact absurd c_29_1 (by decide)
              · skip
                refine lv_aload_n hx hb dX3_verify_32 rfl (lv_at hl 2 rfl) ?_
                refine lv_iload_n hx hb dX3_verify_33 rfl (lv_at hl 0 rfl) ?_
                refine lv_iload_n hx hb dX3_verify_34 rfl (lv_at hl 1 rfl) ?_
                refine hc_iV (As := [.int 1, .int (nI i)]) (rest := []) (wr := []) ⟨hx, hb, hml, hown, hts⟩ sx_T trivial (kX3_isRight l dC dI H.size qm qd qk ql qy qc qi n cAd (flI dn 0 0) rw (nI a) cb dn kp tr md wr (srR (vS sm D i) D 0 i) D 1 i (by omega) (by omega) ((hB _ (by omega)).1) ((hB _ (by omega)).2)) (cwV 2 hts gX3_verify_X3_isRight rfl rfl rfl (by decide +kernel) ⟨Nat.le_of_ble_eq_true rfl, Nat.le_of_ble_eq_true rfl⟩) hK hP hD hS hA [0, 1] [] [0] rfl rfl rfl rfl rfl (by decide) (ci := 3) rfl rfl rfl rfl hl.1 rfl (Nat.le_of_ble_eq_true rfl) dX3_verify_35 ⟨Nat.zero_le _, Nat.zero_le _⟩ (fun H locs hP hD hS => ?_)
                have hP : va_P (dC, dI) hlCl [(qm, .inr (3, [.int (flI dn 0 0), .int (nI n), .ref qd, .int rw, .int (nI a), .ref qk, .ref ql, .ref qy, .int cb, .ref qc, .int dn, .int kp, .int tr, .int md, .int wr, .ref qi, .int (srR (srR (vS sm D i) D 0 i) D 1 i)])), (qd, .inl (cAd, 8192, .inl D))] H := hP
                have hD : va_D A [(qm, .inr (3, [.int (flI dn 0 0), .int (nI n), .ref qd, .int rw, .int (nI a), .ref qk, .ref ql, .ref qy, .int cb, .ref qc, .int dn, .int kp, .int tr, .int md, .int wr, .ref qi, .int (srR (srR (vS sm D i) D 0 i) D 1 i)])), (qd, .inl (cAd, 8192, .inl D))] := hD
                refine lv_if_ne (tgt := 49) hx hb dX3_verify_38 (by decide) (fun c_38_2 => ?_) (fun c_38_2 => ?_)
                · skip
                  refine lv_iinc (v := 2) (lv' := [(2, .int 2), (1, .int (nI i)), (0, .ref qm)]) hx hb dX3_verify_49 hl (k := 0) rfl (by decide) (by decide) rfl (fun ls hl => ?_)
                  refine lv_goto (tgt := 27) hx hb dX3_verify_52 (by decide) ?_
                  refine lv_iload_n hx hb dX3_verify_27 rfl (lv_at hl 0 rfl) ?_
                  refine lv_iconst (v := 2) hx hb dX3_verify_28 (by decide) ?_
                  refine lv_icmp_ge (tgt := 55) hx hb dX3_verify_29 (by decide) (fun c_29_3 => ?_) (fun c_29_3 => ?_)
                  · skip
                    refine lv_iinc (v := nI (i + 1)) (lv' := [(1, .int (nI (i + 1))), (2, .int 2), (0, .ref qm)]) hx hb dX3_verify_55 hl (k := 1) rfl (nI_add i 1) (by decide) rfl (fun ls hl => ?_)
                    refine lv_goto (tgt := 17) hx hb dX3_verify_58 (by decide) ?_
                    exact ih (i + 1) H locs ls (by omega) ((show vF sm D (k0 + 1) i = vF sm D k0 (i + 1) from (if_neg c_38).trans (if_neg c_38_2)).symm.trans hF) hP hD hS (lv_sub hl [0, 2] rfl)
                  · exact absurd (by decide) c_29_3
                · skip
                  refine lv_iconst (v := 1) hx hb dX3_verify_41 (by decide) ?_
                  refine lv_iconst (v := 2) hx hb dX3_verify_42 (by decide) ?_
                  refine lv_iload_n hx hb dX3_verify_43 rfl (lv_at hl 1 rfl) ?_
                  refine lv_imul hx hb dX3_verify_44 ?_
                  rw [show (2 * (nI i) : Int32) = nI (2 * i) from pk_mul 2 i]
                  refine lv_iadd hx hb dX3_verify_45 ?_
                  rw [show (1 + (nI (2 * i)) : Int32) = nI (1 + (2 * i)) from nI_add 1 (2 * i)]
                  refine lv_iload_n hx hb dX3_verify_46 rfl (lv_at hl 0 rfl) ?_
                  refine lv_iadd hx hb dX3_verify_47 ?_
                  rw [show ((nI (1 + (2 * i))) + 1 : Int32) = nI (1 + (2 * i) + 1) from nI_add (1 + (2 * i)) 1]
                  exact hr_i (v := nI (1 + (2 * i) + 1)) hx hb hr hlocks (w1 := [(qm, .inr (3, [.int (flI dn 0 0), .int (nI n), .ref qd, .int rw, .int (nI a), .ref qk, .ref ql, .ref qy, .int cb, .ref qc, .int dn, .int kp, .int tr, .int md, .int wr, .ref qi, .int (srR (srR (vS sm D i) D 0 i) D 1 i)])), (qd, .inl (cAd, 8192, .inl D))]) hP hD hK hS [0, 1] [0] rfl rfl rfl (by rw [if_pos c_10, ← hF]; simp only [vF, if_neg c_38, if_pos c_38_2]) (by rw [if_pos c_10, ← hF]; simp only [vF, if_neg c_38, if_pos c_38_2]) dX3_verify_48
            · skip
              refine lv_iconst (v := 1) hx hb dX3_verify_41 (by decide) ?_
              refine lv_iconst (v := 2) hx hb dX3_verify_42 (by decide) ?_
              refine lv_iload_n hx hb dX3_verify_43 rfl (lv_at hl 1 rfl) ?_
              refine lv_imul hx hb dX3_verify_44 ?_
              rw [show (2 * (nI i) : Int32) = nI (2 * i) from pk_mul 2 i]
              refine lv_iadd hx hb dX3_verify_45 ?_
              rw [show (1 + (nI (2 * i)) : Int32) = nI (1 + (2 * i)) from nI_add 1 (2 * i)]
              refine lv_iload_n hx hb dX3_verify_46 rfl (lv_at hl 0 rfl) ?_
              refine lv_iadd hx hb dX3_verify_47 ?_
              rw [show ((nI (1 + (2 * i))) + 0 : Int32) = nI (1 + (2 * i) + 0) from nI_add (1 + (2 * i)) 0]
              exact hr_i (v := nI (1 + (2 * i) + 0)) hx hb hr hlocks (w1 := [(qm, .inr (3, [.int (flI dn 0 0), .int (nI n), .ref qd, .int rw, .int (nI a), .ref qk, .ref ql, .ref qy, .int cb, .ref qc, .int dn, .int kp, .int tr, .int md, .int wr, .ref qi, .int (srR (vS sm D i) D 0 i)])), (qd, .inl (cAd, 8192, .inl D))]) hP hD hK hS [0, 1] [0] rfl rfl rfl (by rw [if_pos c_10, ← hF]; simp only [vF, if_pos c_38]) (by rw [if_pos c_10, ← hF]; simp only [vF, if_pos c_38]) dX3_verify_48
    exact loop a 0 H locs ls (by omega) (rfl) hP hD hS (lv_sub hl [0, 1] rfl)
  · skip
    refine lv_iconst (v := 0) hx hb dX3_verify_13 (by decide) ?_
    exact hr_i (v := 0) hx hb hr hlocks (w1 := [(qm, .inr (3, [.int (flI dn 0 0), .int (nI n), .ref qd, .int rw, .int (nI a), .ref qk, .ref ql, .ref qy, .int cb, .ref qc, .int dn, .int kp, .int tr, .int md, .int wr, .ref qi, .int sm])), (qd, .inl (cAd, 8192, .inl D))]) hP hD hK hS [0, 1] [0] rfl rfl rfl (by rw [if_neg c_10]) (by rw [if_neg c_10]) dX3_verify_14

def xB (By : Nat → Int32) (row : Nat) (s : Int32) : Nat → Int32
  | 0 => s
  | j + 1 => mixI (xB By row s j) (By (40 * row + j))
def xS (K Ln By : Nat → Int32) (a : Nat) : Nat → Int32
  | 0 => -1756908916
  | i + 1 => xB By (a + i) (mixI (mixI (xS K Ln By a i) (K (a + i))) (Ln (a + i))) (lz Ln (a + i))

def exRI (dn : Int32) (r : Nat) (K Ln By : Nat → Int32) (x y : Int32) : Int32 := (if (irR (nI r) x) = 0 then 0 else (if (irR (nI r) y) = 0 then 0 else (if x ≤ y then (if (flR dn 0 0) = 0 then xS K Ln By x.toNatClampNeg (y.toNatClampNeg + 1 - x.toNatClampNeg) else 0) else 0)))
def exRT (dn : Int32) (r : Nat) (x y : Int32) : Int32 := (if (irR (nI r) x) = 0 then flI dn 1 0 else (if (irR (nI r) y) = 0 then flI dn 1 0 else (if x ≤ y then flI dn 0 0 else flI dn 1 0)))
def exRS (dn sm : Int32) (r : Nat) (K Ln By : Nat → Int32) (x y : Int32) : Int32 := (if (irR (nI r) x) = 0 then sm else (if (irR (nI r) y) = 0 then sm else (if x ≤ y then (if (flR dn 0 0) = 0 then xS K Ln By x.toNatClampNeg (y.toNatClampNeg + 1 - x.toNatClampNeg) else sm) else sm)))
set_option maxHeartbeats 4000000 in
set_option maxRecDepth 100000 in
theorem kX3_extract (l : Launch) (dC : Nat → ClassId) (dI : Nat → Nat → Nat) (sz : Nat) (qm qd qk ql qy qc qi : Nat) (n : Nat) (cAk cAl cAy : ClassId) (th ak cb dn kp tr md wr sm : Int32) (r : Nat) (K Ln By : Nat → Int32) (x y : Int32) (hr0 : r ≤ 64) (hL : ∀ k, k < r → Ln k = nI (lz Ln k) ∧ lz Ln k ≤ 40) : Mi_ l yX3_extract wsX3_extract 2 43 dC dI (fun _ => True) [.ref qm, .int x, .int y] [(qm, .inr (3, [.int th, .int (nI n), .ref qd, .int (nI r), .int ak, .ref qk, .ref ql, .ref qy, .int cb, .ref qc, .int dn, .int kp, .int tr, .int md, .int wr, .ref qi, .int sm])), (qk, .inl (cAk, 64, .inl K)), (ql, .inl (cAl, 64, .inl Ln)), (qy, .inl (cAy, 2560, .inl By))] [(cAk, .int), (cAl, .int), (cAy, .int)] sz (exRI dn r K Ln By x y) [(qm, .inr (3, [.int (exRT dn r x y), .int (nI n), .ref qd, .int (nI r), .int ak, .ref qk, .ref ql, .ref qy, .int cb, .ref qc, .int dn, .int kp, .int tr, .int md, .int wr, .ref qi, .int (exRS dn sm r K Ln By x y)])), (qk, .inl (cAk, 64, .inl K)), (ql, .inl (cAl, 64, .inl Ln)), (qy, .inl (cAy, 2560, .inl By))] := by
  refine hm_ (cc := cX3_extract) (maxL := 5) (ret := (some .int)) (Qc := fun A => va_Qi (fun (r9 : Int32) (_ : Unit) => r9 = exRI dn r K Ln By x y) (fun _ t9 => qw_ dC dI A [(qm, .inr (3, [.int (exRT dn r x y), .int (nI n), .ref qd, .int (nI r), .int ak, .ref qk, .ref ql, .ref qy, .int cb, .ref qc, .int dn, .int kp, .int tr, .int md, .int wr, .ref qi, .int (exRS dn sm r K Ln By x y)])), (qk, .inl (cAk, 64, .inl K)), (ql, .inl (cAl, 64, .inl Ln)), (qy, .inl (cAy, 2560, .inl By))] [(cAk, .int), (cAl, .int), (cAy, .int)] t9) A) (by decide) rfl (Nat.le_of_ble_eq_true rfl) ?_
  intro p e s m below meth c A H locs ls hx hb hr hml hts hown hlocks hsz hP hK hD hE hA hS hl
  have hl : lv_has ls 5 [(0, .ref qm), (1, .int x), (2, .int y)] := hl
  have hown : s.vm.findClass RX3 = some m.cls := hown
  refine lv_aload_n hx hb dX3_extract_0 rfl (lv_at hl 0 rfl) ?_
  refine lv_aload_n hx hb dX3_extract_1 rfl (lv_at hl 0 rfl) ?_
  refine va_get (D := (dC, dI)) (ci := 3) (v := .int dn) (C := RX3) (T := TX3) (N := 17) hx hb hts (by decide +kernel) hown hK hP 0 rfl rfl 10 (by decide) (hts (.fieldLink RX3 62 "HouseLogModel" "down" "Z") (by decide +kernel)) (fun _ h9 => h9) rfl dX3_extract_2 ?_
  refine lv_aload_n hx hb dX3_extract_5 rfl (lv_at hl 0 rfl) ?_
  refine lv_iload_n hx hb dX3_extract_6 rfl (lv_at hl 1 rfl) ?_
  refine hc_iV (As := [.int x]) (rest := [.int dn, .ref qm]) (wr := [(qk, .inl (cAk, 64, .inl K)), (ql, .inl (cAl, 64, .inl Ln)), (qy, .inl (cAy, 2560, .inl By))]) ⟨hx, hb, hml, hown, hts⟩ sx_T trivial (kX3_isRow l dC dI H.size qm qd qk ql qy qc qi n th (nI r) ak cb dn kp tr md wr sm x ) (cwV 1 hts gX3_extract_X3_isRow rfl rfl rfl (by decide +kernel) ⟨Nat.le_of_ble_eq_true rfl, Nat.le_of_ble_eq_true rfl⟩) hK hP hD hS hA [0] [1, 2, 3] [] rfl rfl rfl rfl rfl (by decide) (ci := 3) rfl rfl rfl rfl hl.1 rfl (Nat.le_of_ble_eq_true rfl) dX3_extract_7 ⟨Nat.zero_le _, Nat.zero_le _⟩ (fun H locs hP hD hS => ?_)
  have hP : va_P (dC, dI) hlCl [(qm, .inr (3, [.int th, .int (nI n), .ref qd, .int (nI r), .int ak, .ref qk, .ref ql, .ref qy, .int cb, .ref qc, .int dn, .int kp, .int tr, .int md, .int wr, .ref qi, .int sm])), (qk, .inl (cAk, 64, .inl K)), (ql, .inl (cAl, 64, .inl Ln)), (qy, .inl (cAy, 2560, .inl By))] H := hP.sub [3, 0, 1, 2] rfl
  have hD : va_D A [(qm, .inr (3, [.int th, .int (nI n), .ref qd, .int (nI r), .int ak, .ref qk, .ref ql, .ref qy, .int cb, .ref qc, .int dn, .int kp, .int tr, .int md, .int wr, .ref qi, .int sm])), (qk, .inl (cAk, 64, .inl K)), (ql, .inl (cAl, 64, .inl Ln)), (qy, .inl (cAy, 2560, .inl By))] := hD.sub [3, 0, 1, 2] (by decide) rfl
  refine lv_if_eq (tgt := 26) hx hb dX3_extract_10 (by decide) (fun c_10 => ?_) (fun c_10 => ?_)
  · skip
    refine lv_iconst (v := 1) hx hb dX3_extract_26 (by decide) ?_
    refine lv_goto (tgt := 31) hx hb dX3_extract_27 (by decide) ?_
    refine lv_iconst (v := 0) hx hb dX3_extract_31 (by decide) ?_
    refine hc_iV (As := [.int dn, .int 1, .int 0]) (rest := []) (wr := [(qk, .inl (cAk, 64, .inl K)), (ql, .inl (cAl, 64, .inl Ln)), (qy, .inl (cAy, 2560, .inl By))]) ⟨hx, hb, hml, hown, hts⟩ sx_T trivial (kX3_fails l dC dI H.size qm qd qk ql qy qc qi n th (nI r) ak cb dn kp tr md wr sm dn 1 0 ) (cwV 3 hts gX3_extract_X3_fails rfl rfl rfl (by decide +kernel) ⟨Nat.le_of_ble_eq_true rfl, Nat.le_of_ble_eq_true rfl⟩) hK hP hD hS hA [0] [1, 2, 3] [] rfl rfl rfl rfl rfl (by decide) (ci := 3) rfl rfl rfl rfl hl.1 rfl (Nat.le_of_ble_eq_true rfl) dX3_extract_32 ⟨Nat.zero_le _, Nat.zero_le _⟩ (fun H locs hP hD hS => ?_)
    have hP : va_P (dC, dI) hlCl [(qm, .inr (3, [.int (flI dn 1 0), .int (nI n), .ref qd, .int (nI r), .int ak, .ref qk, .ref ql, .ref qy, .int cb, .ref qc, .int dn, .int kp, .int tr, .int md, .int wr, .ref qi, .int sm])), (qk, .inl (cAk, 64, .inl K)), (ql, .inl (cAl, 64, .inl Ln)), (qy, .inl (cAy, 2560, .inl By))] H := hP.sub [3, 0, 1, 2] rfl
    have hD : va_D A [(qm, .inr (3, [.int (flI dn 1 0), .int (nI n), .ref qd, .int (nI r), .int ak, .ref qk, .ref ql, .ref qy, .int cb, .ref qc, .int dn, .int kp, .int tr, .int md, .int wr, .ref qi, .int sm])), (qk, .inl (cAk, 64, .inl K)), (ql, .inl (cAl, 64, .inl Ln)), (qy, .inl (cAy, 2560, .inl By))] := hD.sub [3, 0, 1, 2] (by decide) rfl
    refine lv_if_eq (tgt := 40) hx hb dX3_extract_35 (by decide) (fun c_35 => ?_) (fun c_35 => ?_)
    · exact absurd (fl_iff.mp c_35).2.1 (by decide)
    · skip
      refine lv_iconst (v := 0) hx hb dX3_extract_38 (by decide) ?_
      exact hr_i (v := 0) hx hb hr hlocks (w1 := [(qm, .inr (3, [.int (flI dn 1 0), .int (nI n), .ref qd, .int (nI r), .int ak, .ref qk, .ref ql, .ref qy, .int cb, .ref qc, .int dn, .int kp, .int tr, .int md, .int wr, .ref qi, .int sm])), (qk, .inl (cAk, 64, .inl K)), (ql, .inl (cAl, 64, .inl Ln)), (qy, .inl (cAy, 2560, .inl By))]) hP hD hK hS [0, 1, 2, 3] [0, 1, 2] rfl rfl rfl (by simp only [exRI, if_pos c_10] <;> rfl) (by simp only [exRI, exRT, exRS, if_pos c_10] <;> rfl) dX3_extract_39
  · skip
    refine lv_aload_n hx hb dX3_extract_13 rfl (lv_at hl 0 rfl) ?_
    refine lv_iload_n hx hb dX3_extract_14 rfl (lv_at hl 2 rfl) ?_
    refine hc_iV (As := [.int y]) (rest := [.int dn, .ref qm]) (wr := [(qk, .inl (cAk, 64, .inl K)), (ql, .inl (cAl, 64, .inl Ln)), (qy, .inl (cAy, 2560, .inl By))]) ⟨hx, hb, hml, hown, hts⟩ sx_T trivial (kX3_isRow l dC dI H.size qm qd qk ql qy qc qi n th (nI r) ak cb dn kp tr md wr sm y ) (cwV 1 hts gX3_extract_X3_isRow rfl rfl rfl (by decide +kernel) ⟨Nat.le_of_ble_eq_true rfl, Nat.le_of_ble_eq_true rfl⟩) hK hP hD hS hA [0] [1, 2, 3] [] rfl rfl rfl rfl rfl (by decide) (ci := 3) rfl rfl rfl rfl hl.1 rfl (Nat.le_of_ble_eq_true rfl) dX3_extract_15 ⟨Nat.zero_le _, Nat.zero_le _⟩ (fun H locs hP hD hS => ?_)
    have hP : va_P (dC, dI) hlCl [(qm, .inr (3, [.int th, .int (nI n), .ref qd, .int (nI r), .int ak, .ref qk, .ref ql, .ref qy, .int cb, .ref qc, .int dn, .int kp, .int tr, .int md, .int wr, .ref qi, .int sm])), (qk, .inl (cAk, 64, .inl K)), (ql, .inl (cAl, 64, .inl Ln)), (qy, .inl (cAy, 2560, .inl By))] H := hP.sub [3, 0, 1, 2] rfl
    have hD : va_D A [(qm, .inr (3, [.int th, .int (nI n), .ref qd, .int (nI r), .int ak, .ref qk, .ref ql, .ref qy, .int cb, .ref qc, .int dn, .int kp, .int tr, .int md, .int wr, .ref qi, .int sm])), (qk, .inl (cAk, 64, .inl K)), (ql, .inl (cAl, 64, .inl Ln)), (qy, .inl (cAy, 2560, .inl By))] := hD.sub [3, 0, 1, 2] (by decide) rfl
    refine lv_if_eq (tgt := 26) hx hb dX3_extract_18 (by decide) (fun c_18 => ?_) (fun c_18 => ?_)
    · skip
      refine lv_iconst (v := 1) hx hb dX3_extract_26 (by decide) ?_
      refine lv_goto (tgt := 31) hx hb dX3_extract_27 (by decide) ?_
      refine lv_iconst (v := 0) hx hb dX3_extract_31 (by decide) ?_
      refine hc_iV (As := [.int dn, .int 1, .int 0]) (rest := []) (wr := [(qk, .inl (cAk, 64, .inl K)), (ql, .inl (cAl, 64, .inl Ln)), (qy, .inl (cAy, 2560, .inl By))]) ⟨hx, hb, hml, hown, hts⟩ sx_T trivial (kX3_fails l dC dI H.size qm qd qk ql qy qc qi n th (nI r) ak cb dn kp tr md wr sm dn 1 0 ) (cwV 3 hts gX3_extract_X3_fails rfl rfl rfl (by decide +kernel) ⟨Nat.le_of_ble_eq_true rfl, Nat.le_of_ble_eq_true rfl⟩) hK hP hD hS hA [0] [1, 2, 3] [] rfl rfl rfl rfl rfl (by decide) (ci := 3) rfl rfl rfl rfl hl.1 rfl (Nat.le_of_ble_eq_true rfl) dX3_extract_32 ⟨Nat.zero_le _, Nat.zero_le _⟩ (fun H locs hP hD hS => ?_)
      have hP : va_P (dC, dI) hlCl [(qm, .inr (3, [.int (flI dn 1 0), .int (nI n), .ref qd, .int (nI r), .int ak, .ref qk, .ref ql, .ref qy, .int cb, .ref qc, .int dn, .int kp, .int tr, .int md, .int wr, .ref qi, .int sm])), (qk, .inl (cAk, 64, .inl K)), (ql, .inl (cAl, 64, .inl Ln)), (qy, .inl (cAy, 2560, .inl By))] H := hP.sub [3, 0, 1, 2] rfl
      have hD : va_D A [(qm, .inr (3, [.int (flI dn 1 0), .int (nI n), .ref qd, .int (nI r), .int ak, .ref qk, .ref ql, .ref qy, .int cb, .ref qc, .int dn, .int kp, .int tr, .int md, .int wr, .ref qi, .int sm])), (qk, .inl (cAk, 64, .inl K)), (ql, .inl (cAl, 64, .inl Ln)), (qy, .inl (cAy, 2560, .inl By))] := hD.sub [3, 0, 1, 2] (by decide) rfl
      refine lv_if_eq (tgt := 40) hx hb dX3_extract_35 (by decide) (fun c_35 => ?_) (fun c_35 => ?_)
      · exact absurd (fl_iff.mp c_35).2.1 (by decide)
      · skip
        refine lv_iconst (v := 0) hx hb dX3_extract_38 (by decide) ?_
        exact hr_i (v := 0) hx hb hr hlocks (w1 := [(qm, .inr (3, [.int (flI dn 1 0), .int (nI n), .ref qd, .int (nI r), .int ak, .ref qk, .ref ql, .ref qy, .int cb, .ref qc, .int dn, .int kp, .int tr, .int md, .int wr, .ref qi, .int sm])), (qk, .inl (cAk, 64, .inl K)), (ql, .inl (cAl, 64, .inl Ln)), (qy, .inl (cAy, 2560, .inl By))]) hP hD hK hS [0, 1, 2, 3] [0, 1, 2] rfl rfl rfl (by simp only [exRI, if_neg c_10, if_pos c_18] <;> rfl) (by simp only [exRI, exRT, exRS, if_neg c_10, if_pos c_18] <;> rfl) dX3_extract_39
    · skip
      refine lv_iload_n hx hb dX3_extract_21 rfl (lv_at hl 1 rfl) ?_
      refine lv_iload_n hx hb dX3_extract_22 rfl (lv_at hl 2 rfl) ?_
      refine lv_icmp_le (tgt := 30) hx hb dX3_extract_23 (by decide) (fun c_23 => ?_) (fun c_23 => ?_)
      · skip
        refine lv_iconst (v := 0) hx hb dX3_extract_30 (by decide) ?_
        refine lv_iconst (v := 0) hx hb dX3_extract_31 (by decide) ?_
        refine hc_iV (As := [.int dn, .int 0, .int 0]) (rest := []) (wr := [(qk, .inl (cAk, 64, .inl K)), (ql, .inl (cAl, 64, .inl Ln)), (qy, .inl (cAy, 2560, .inl By))]) ⟨hx, hb, hml, hown, hts⟩ sx_T trivial (kX3_fails l dC dI H.size qm qd qk ql qy qc qi n th (nI r) ak cb dn kp tr md wr sm dn 0 0 ) (cwV 3 hts gX3_extract_X3_fails rfl rfl rfl (by decide +kernel) ⟨Nat.le_of_ble_eq_true rfl, Nat.le_of_ble_eq_true rfl⟩) hK hP hD hS hA [0] [1, 2, 3] [] rfl rfl rfl rfl rfl (by decide) (ci := 3) rfl rfl rfl rfl hl.1 rfl (Nat.le_of_ble_eq_true rfl) dX3_extract_32 ⟨Nat.zero_le _, Nat.zero_le _⟩ (fun H locs hP hD hS => ?_)
        have hP : va_P (dC, dI) hlCl [(qm, .inr (3, [.int (flI dn 0 0), .int (nI n), .ref qd, .int (nI r), .int ak, .ref qk, .ref ql, .ref qy, .int cb, .ref qc, .int dn, .int kp, .int tr, .int md, .int wr, .ref qi, .int sm])), (qk, .inl (cAk, 64, .inl K)), (ql, .inl (cAl, 64, .inl Ln)), (qy, .inl (cAy, 2560, .inl By))] H := hP.sub [3, 0, 1, 2] rfl
        have hD : va_D A [(qm, .inr (3, [.int (flI dn 0 0), .int (nI n), .ref qd, .int (nI r), .int ak, .ref qk, .ref ql, .ref qy, .int cb, .ref qc, .int dn, .int kp, .int tr, .int md, .int wr, .ref qi, .int sm])), (qk, .inl (cAk, 64, .inl K)), (ql, .inl (cAl, 64, .inl Ln)), (qy, .inl (cAy, 2560, .inl By))] := hD.sub [3, 0, 1, 2] (by decide) rfl
        refine lv_if_eq (tgt := 40) hx hb dX3_extract_35 (by decide) (fun c_35 => ?_) (fun c_35 => ?_)
        · skip
          obtain ⟨k1, hk1, rfl⟩ := in_lt (x := x) (r := r) (by omega) c_10
          obtain ⟨k2, hk2, rfl⟩ := in_lt (x := y) (r := r) (by omega) c_18
          have hk12 : k1 ≤ k2 := (nI_leI (by omega) (by omega)).mp c_23
          refine lv_aload_n hx hb dX3_extract_40 rfl (lv_at hl 0 rfl) ?_
          refine hc_vV (As := []) (rest := []) (wr := [(qk, .inl (cAk, 64, .inl K)), (ql, .inl (cAl, 64, .inl Ln)), (qy, .inl (cAy, 2560, .inl By))]) ⟨hx, hb, hml, hown, hts⟩ sx_T trivial (kX3_begin l dC dI H.size qm qd qk ql qy qc qi n (flI dn 0 0) (nI r) ak cb dn kp tr md wr sm ) (cwV 0 hts gX3_extract_X3_begin rfl rfl rfl (by decide +kernel) ⟨Nat.le_of_ble_eq_true rfl, Nat.le_of_ble_eq_true rfl⟩) hK hP hD hS hA [0] [1, 2, 3] [] rfl rfl rfl rfl rfl (by decide) (ci := 3) rfl rfl rfl rfl hl.1 rfl (Nat.le_of_ble_eq_true rfl) dX3_extract_41 ⟨Nat.zero_le _, Nat.zero_le _⟩ (fun H locs hP hD hS => ?_)
          have hP : va_P (dC, dI) hlCl [(qm, .inr (3, [.int (flI dn 0 0), .int (nI n), .ref qd, .int (nI r), .int ak, .ref qk, .ref ql, .ref qy, .int cb, .ref qc, .int dn, .int kp, .int tr, .int md, .int wr, .ref qi, .int (-1756908916)])), (qk, .inl (cAk, 64, .inl K)), (ql, .inl (cAl, 64, .inl Ln)), (qy, .inl (cAy, 2560, .inl By))] H := hP.sub [3, 0, 1, 2] rfl
          have hD : va_D A [(qm, .inr (3, [.int (flI dn 0 0), .int (nI n), .ref qd, .int (nI r), .int ak, .ref qk, .ref ql, .ref qy, .int cb, .ref qc, .int dn, .int kp, .int tr, .int md, .int wr, .ref qi, .int (-1756908916)])), (qk, .inl (cAk, 64, .inl K)), (ql, .inl (cAl, 64, .inl Ln)), (qy, .inl (cAy, 2560, .inl By))] := hD.sub [3, 0, 1, 2] (by decide) rfl
          refine lv_iload_n hx hb dX3_extract_44 rfl (lv_at hl 1 rfl) ?_
          refine lv_istore_n (lv' := [(3, .int (nI k1)), (0, .ref qm), (1, .int (nI k1)), (2, .int (nI k2))]) hx hb dX3_extract_45 rfl hl (by decide) rfl (fun ls hl => ?_)
          have loop : ∀ (k0 i : Nat) (H : Heap) (locs : List Loc) (ls : Array Slot), (i + k0 = k2 + 1 - k1) → va_P (dC, dI) hlCl [(qm, .inr (3, [.int (flI dn 0 0), .int (nI n), .ref qd, .int (nI r), .int ak, .ref qk, .ref ql, .ref qy, .int cb, .ref qc, .int dn, .int kp, .int tr, .int md, .int wr, .ref qi, .int (xS K Ln By k1 i)])), (qk, .inl (cAk, 64, .inl K)), (ql, .inl (cAl, 64, .inl Ln)), (qy, .inl (cAy, 2560, .inl By))] H → va_D A [(qm, .inr (3, [.int (flI dn 0 0), .int (nI n), .ref qd, .int (nI r), .int ak, .ref qk, .ref ql, .ref qy, .int cb, .ref qc, .int dn, .int kp, .int tr, .int md, .int wr, .ref qi, .int (xS K Ln By k1 i)])), (qk, .inl (cAk, 64, .inl K)), (ql, .inl (cAl, 64, .inl Ln)), (qy, .inl (cAy, 2560, .inl By))] → va_S A s.heap H locs → lv_has ls 5 [(3, .int (nI (k1 + i))), (0, .ref qm), (1, .int (nI k1)), (2, .int (nI k2))] → W p l e (rm_ 2 43) s m [.ref qm, .int (nI k1), .int (nI k2)].toArray below meth c H locs 0 0 (MQ below ((fun A => va_Qi (fun (r9 : Int32) (_ : Unit) => r9 = exRI dn r K Ln By (nI k1) (nI k2)) (fun _ t9 => qw_ dC dI A [(qm, .inr (3, [.int (exRT dn r (nI k1) (nI k2)), .int (nI n), .ref qd, .int (nI r), .int ak, .ref qk, .ref ql, .ref qy, .int cb, .ref qc, .int dn, .int kp, .int tr, .int md, .int wr, .ref qi, .int (exRS dn sm r K Ln By (nI k1) (nI k2))])), (qk, .inl (cAk, 64, .inl K)), (ql, .inl (cAl, 64, .inl Ln)), (qy, .inl (cAy, 2560, .inl By))] [(cAk, .int), (cAl, .int), (cAy, .int)] t9) A) A) [.ref qm, .int (nI k1), .int (nI k2)].toArray s 0 0 A) (F0 m 46 ls []) := by
            intro k0
            induction k0 with
            | zero =>
              intro i H locs ls hi hP hD hS hl
              obtain rfl : k2 + 1 - k1 = i := by omega
              refine lv_iload_n hx hb dX3_extract_46 rfl (lv_at hl 0 rfl) ?_
              refine lv_iload_n hx hb dX3_extract_47 rfl (lv_at hl 3 rfl) ?_
              refine lv_icmp_gt (tgt := 113) hx hb dX3_extract_48 (by decide) (fun c_48 => ?_) (fun c_48 => ?_)
              · skip
                refine lv_aload_n hx hb dX3_extract_113 rfl (lv_at hl 1 rfl) ?_
                refine va_get (D := (dC, dI)) (ci := 3) (v := .int (xS K Ln By k1 (k2 + 1 - k1))) (C := RX3) (T := TX3) (N := 17) hx hb hts (by decide +kernel) hown hK hP 0 rfl rfl 16 (by decide) (hts (.fieldLink RX3 39 "HouseLogModel" "sum" "I") (by decide +kernel)) (fun _ h9 => h9) rfl dX3_extract_114 ?_
                exact hr_i (v := xS K Ln By k1 (k2 + 1 - k1)) hx hb hr hlocks (w1 := [(qm, .inr (3, [.int (flI dn 0 0), .int (nI n), .ref qd, .int (nI r), .int ak, .ref qk, .ref ql, .ref qy, .int cb, .ref qc, .int dn, .int kp, .int tr, .int md, .int wr, .ref qi, .int (xS K Ln By k1 (k2 + 1 - k1))])), (qk, .inl (cAk, 64, .inl K)), (ql, .inl (cAl, 64, .inl Ln)), (qy, .inl (cAy, 2560, .inl By))]) hP hD hK hS [0, 1, 2, 3] [0, 1, 2] rfl rfl rfl (by simp only [exRI, if_neg c_10, if_neg c_18, if_pos c_23, if_pos c_35, nI_clamp (show k1 < 2 ^ 31 by omega), nI_clamp (show k2 < 2 ^ 31 by omega)] <;> rfl) (by simp only [exRI, exRT, exRS, if_neg c_10, if_neg c_18, if_pos c_23, if_pos c_35, nI_clamp (show k1 < 2 ^ 31 by omega), nI_clamp (show k2 < 2 ^ 31 by omega)] <;> rfl) dX3_extract_117
              · exact absurd (nI_lt (a := k2) (b := k1 + (k2 + 1 - k1)) (by omega) (by omega)) c_48
            | succ k0 ih =>
              intro i H locs ls hi hP hD hS hl
              refine lv_iload_n hx hb dX3_extract_46 rfl (lv_at hl 0 rfl) ?_
              refine lv_iload_n hx hb dX3_extract_47 rfl (lv_at hl 3 rfl) ?_
              refine lv_icmp_gt (tgt := 113) hx hb dX3_extract_48 (by decide) (fun c_48 => ?_) (fun c_48 => ?_)
              · exact absurd c_48 (nI_nlt (a := k2) (b := k1 + i) (by omega) (by omega))
              · skip
                refine lv_aload_n hx hb dX3_extract_51 rfl (lv_at hl 1 rfl) ?_
                refine lv_aload_n hx hb dX3_extract_52 rfl (lv_at hl 1 rfl) ?_
                refine va_get (D := (dC, dI)) (ci := 3) (v := .ref qk) (C := RX3) (T := TX3) (N := 17) hx hb hts (by decide +kernel) hown hK hP 0 rfl rfl 5 (by decide) (hts (.fieldLink RX3 13 "HouseLogModel" "kinds" "[I") (by decide +kernel)) (fun _ h9 => h9) rfl dX3_extract_53 ?_
                refine lv_iload_n hx hb dX3_extract_56 rfl (lv_at hl 0 rfl) ?_
                refine va_iald hx hb hK hP 1 0 rfl rfl (i := nI (k1 + i)) (vp_in_nI (n := k1 + i) (by omega) (by decide)) dX3_extract_57 ?_
                refine W.eq (g2 := F0 m 58 ls (.int (K (k1 + i)) :: .ref qm :: [])) (by rw [show (nI (k1 + i) : Int32).toNatClampNeg = k1 + i from nI_clamp (by omega)]) ?_
                refine hc_vV (As := [.int (K (k1 + i))]) (rest := []) (wr := [(qk, .inl (cAk, 64, .inl K)), (ql, .inl (cAl, 64, .inl Ln)), (qy, .inl (cAy, 2560, .inl By))]) ⟨hx, hb, hml, hown, hts⟩ sx_T trivial (kX3_goOn l dC dI H.size qm qd qk ql qy qc qi n (flI dn 0 0) (nI r) ak cb dn kp tr md wr (xS K Ln By k1 i) (K (k1 + i)) ) (cwV 1 hts gX3_extract_X3_goOn rfl rfl rfl (by decide +kernel) ⟨Nat.le_of_ble_eq_true rfl, Nat.le_of_ble_eq_true rfl⟩) hK hP hD hS hA [0] [1, 2, 3] [] rfl rfl rfl rfl rfl (by decide) (ci := 3) rfl rfl rfl rfl hl.1 rfl (Nat.le_of_ble_eq_true rfl) dX3_extract_58 ⟨Nat.zero_le _, Nat.zero_le _⟩ (fun H locs hP hD hS => ?_)
                have hP : va_P (dC, dI) hlCl [(qm, .inr (3, [.int (flI dn 0 0), .int (nI n), .ref qd, .int (nI r), .int ak, .ref qk, .ref ql, .ref qy, .int cb, .ref qc, .int dn, .int kp, .int tr, .int md, .int wr, .ref qi, .int (mixI (xS K Ln By k1 i) (K (k1 + i)))])), (qk, .inl (cAk, 64, .inl K)), (ql, .inl (cAl, 64, .inl Ln)), (qy, .inl (cAy, 2560, .inl By))] H := hP.sub [3, 0, 1, 2] rfl
                have hD : va_D A [(qm, .inr (3, [.int (flI dn 0 0), .int (nI n), .ref qd, .int (nI r), .int ak, .ref qk, .ref ql, .ref qy, .int cb, .ref qc, .int dn, .int kp, .int tr, .int md, .int wr, .ref qi, .int (mixI (xS K Ln By k1 i) (K (k1 + i)))])), (qk, .inl (cAk, 64, .inl K)), (ql, .inl (cAl, 64, .inl Ln)), (qy, .inl (cAy, 2560, .inl By))] := hD.sub [3, 0, 1, 2] (by decide) rfl
                refine lv_aload_n hx hb dX3_extract_61 rfl (lv_at hl 1 rfl) ?_
                refine lv_aload_n hx hb dX3_extract_62 rfl (lv_at hl 1 rfl) ?_
                refine va_get (D := (dC, dI)) (ci := 3) (v := .ref ql) (C := RX3) (T := TX3) (N := 17) hx hb hts (by decide +kernel) hown hK hP 0 rfl rfl 6 (by decide) (hts (.fieldLink RX3 16 "HouseLogModel" "lengths" "[I") (by decide +kernel)) (fun _ h9 => h9) rfl dX3_extract_63 ?_
                refine lv_iload_n hx hb dX3_extract_66 rfl (lv_at hl 0 rfl) ?_
                refine va_iald hx hb hK hP 2 1 rfl rfl (i := nI (k1 + i)) (vp_in_nI (n := k1 + i) (by omega) (by decide)) dX3_extract_67 ?_
                refine W.eq (g2 := F0 m 68 ls (.int (Ln (k1 + i)) :: .ref qm :: [])) (by rw [show (nI (k1 + i) : Int32).toNatClampNeg = k1 + i from nI_clamp (by omega)]) ?_
                refine hc_vV (As := [.int (Ln (k1 + i))]) (rest := []) (wr := [(qk, .inl (cAk, 64, .inl K)), (ql, .inl (cAl, 64, .inl Ln)), (qy, .inl (cAy, 2560, .inl By))]) ⟨hx, hb, hml, hown, hts⟩ sx_T trivial (kX3_goOn l dC dI H.size qm qd qk ql qy qc qi n (flI dn 0 0) (nI r) ak cb dn kp tr md wr (mixI (xS K Ln By k1 i) (K (k1 + i))) (Ln (k1 + i)) ) (cwV 1 hts gX3_extract_X3_goOn rfl rfl rfl (by decide +kernel) ⟨Nat.le_of_ble_eq_true rfl, Nat.le_of_ble_eq_true rfl⟩) hK hP hD hS hA [0] [1, 2, 3] [] rfl rfl rfl rfl rfl (by decide) (ci := 3) rfl rfl rfl rfl hl.1 rfl (Nat.le_of_ble_eq_true rfl) dX3_extract_68 ⟨Nat.zero_le _, Nat.zero_le _⟩ (fun H locs hP hD hS => ?_)
                have hP : va_P (dC, dI) hlCl [(qm, .inr (3, [.int (flI dn 0 0), .int (nI n), .ref qd, .int (nI r), .int ak, .ref qk, .ref ql, .ref qy, .int cb, .ref qc, .int dn, .int kp, .int tr, .int md, .int wr, .ref qi, .int (mixI (mixI (xS K Ln By k1 i) (K (k1 + i))) (Ln (k1 + i)))])), (qk, .inl (cAk, 64, .inl K)), (ql, .inl (cAl, 64, .inl Ln)), (qy, .inl (cAy, 2560, .inl By))] H := hP.sub [3, 0, 1, 2] rfl
                have hD : va_D A [(qm, .inr (3, [.int (flI dn 0 0), .int (nI n), .ref qd, .int (nI r), .int ak, .ref qk, .ref ql, .ref qy, .int cb, .ref qc, .int dn, .int kp, .int tr, .int md, .int wr, .ref qi, .int (mixI (mixI (xS K Ln By k1 i) (K (k1 + i))) (Ln (k1 + i)))])), (qk, .inl (cAk, 64, .inl K)), (ql, .inl (cAl, 64, .inl Ln)), (qy, .inl (cAy, 2560, .inl By))] := hD.sub [3, 0, 1, 2] (by decide) rfl
                refine lv_iconst (v := 0) hx hb dX3_extract_71 (by decide) ?_
                refine lv_istore (lv' := [(4, .int 0), (3, .int (nI (k1 + i))), (0, .ref qm), (1, .int (nI k1)), (2, .int (nI k2))]) hx hb dX3_extract_72 hl (by decide) rfl (fun ls hl => ?_)
                have hl40 := (hL (k1 + i) (by omega)).2
                have loopj : ∀ (kj j : Nat) (H : Heap) (locs : List Loc) (ls : Array Slot), (j + kj = lz Ln (k1 + i)) → va_P (dC, dI) hlCl [(qm, .inr (3, [.int (flI dn 0 0), .int (nI n), .ref qd, .int (nI r), .int ak, .ref qk, .ref ql, .ref qy, .int cb, .ref qc, .int dn, .int kp, .int tr, .int md, .int wr, .ref qi, .int (xB By (k1 + i) (mixI (mixI (xS K Ln By k1 i) (K (k1 + i))) (Ln (k1 + i))) j)])), (qk, .inl (cAk, 64, .inl K)), (ql, .inl (cAl, 64, .inl Ln)), (qy, .inl (cAy, 2560, .inl By))] H → va_D A [(qm, .inr (3, [.int (flI dn 0 0), .int (nI n), .ref qd, .int (nI r), .int ak, .ref qk, .ref ql, .ref qy, .int cb, .ref qc, .int dn, .int kp, .int tr, .int md, .int wr, .ref qi, .int (xB By (k1 + i) (mixI (mixI (xS K Ln By k1 i) (K (k1 + i))) (Ln (k1 + i))) j)])), (qk, .inl (cAk, 64, .inl K)), (ql, .inl (cAl, 64, .inl Ln)), (qy, .inl (cAy, 2560, .inl By))] → va_S A s.heap H locs → lv_has ls 5 [(4, .int (nI j)), (3, .int (nI (k1 + i))), (0, .ref qm), (1, .int (nI k1)), (2, .int (nI k2))] → W p l e (rm_ 2 43) s m [.ref qm, .int (nI k1), .int (nI k2)].toArray below meth c H locs 0 0 (MQ below ((fun A => va_Qi (fun (r9 : Int32) (_ : Unit) => r9 = exRI dn r K Ln By (nI k1) (nI k2)) (fun _ t9 => qw_ dC dI A [(qm, .inr (3, [.int (exRT dn r (nI k1) (nI k2)), .int (nI n), .ref qd, .int (nI r), .int ak, .ref qk, .ref ql, .ref qy, .int cb, .ref qc, .int dn, .int kp, .int tr, .int md, .int wr, .ref qi, .int (exRS dn sm r K Ln By (nI k1) (nI k2))])), (qk, .inl (cAk, 64, .inl K)), (ql, .inl (cAl, 64, .inl Ln)), (qy, .inl (cAy, 2560, .inl By))] [(cAk, .int), (cAl, .int), (cAy, .int)] t9) A) A) [.ref qm, .int (nI k1), .int (nI k2)].toArray s 0 0 A) (F0 m 74 ls []) := by
                  intro kj
                  induction kj with
                  | zero =>
                    intro j H locs ls hi hP hD hS hl
                    obtain rfl : lz Ln (k1 + i) = j := by omega
                    refine lv_iload hx hb dX3_extract_74 (lv_at hl 0 rfl) ?_
                    refine lv_aload_n hx hb dX3_extract_76 rfl (lv_at hl 2 rfl) ?_
                    refine va_get (D := (dC, dI)) (ci := 3) (v := .ref ql) (C := RX3) (T := TX3) (N := 17) hx hb hts (by decide +kernel) hown hK hP 0 rfl rfl 6 (by decide) (hts (.fieldLink RX3 16 "HouseLogModel" "lengths" "[I") (by decide +kernel)) (fun _ h9 => h9) rfl dX3_extract_77 ?_
                    refine lv_iload_n hx hb dX3_extract_80 rfl (lv_at hl 1 rfl) ?_
                    refine va_iald hx hb hK hP 2 1 rfl rfl (i := nI (k1 + i)) (vp_in_nI (n := k1 + i) (by omega) (by decide)) dX3_extract_81 ?_
                    refine W.eq (g2 := F0 m 82 ls (.int (Ln (k1 + i)) :: .int (nI (lz Ln (k1 + i))) :: [])) (by rw [show (nI (k1 + i) : Int32).toNatClampNeg = k1 + i from nI_clamp (by omega)]) ?_
                    refine W.eq (g2 := F0 m 82 ls (.int (nI (lz Ln (k1 + i))) :: .int (nI (lz Ln (k1 + i))) :: [])) (by rw [(hL (k1 + i) (by omega)).1]) ?_
                    refine lv_icmp_ge (tgt := 107) hx hb dX3_extract_82 (by decide) (fun c_82 => ?_) (fun c_82 => ?_)
                    · skip
                      refine lv_iinc (v := nI (k1 + i + 1)) (lv' := [(3, .int (nI (k1 + i + 1))), (4, .int (nI (lz Ln (k1 + i)))), (0, .ref qm), (1, .int (nI k1)), (2, .int (nI k2))]) hx hb dX3_extract_107 hl (k := 1) rfl (nI_add (k1 + i) 1) (by decide) rfl (fun ls hl => ?_)
                      refine lv_goto (tgt := 46) hx hb dX3_extract_110 (by decide) ?_
                      exact ih (i + 1) H locs ls (by omega)  hP hD hS (lv_sub hl [0, 2, 3, 4] rfl)
                    · exact absurd (nI_le (a := lz Ln (k1 + i)) (b := lz Ln (k1 + i)) (Nat.le_refl _) (by omega)) c_82
                  | succ kj ih =>
                    intro j H locs ls hi hP hD hS hl
                    refine lv_iload hx hb dX3_extract_74 (lv_at hl 0 rfl) ?_
                    refine lv_aload_n hx hb dX3_extract_76 rfl (lv_at hl 2 rfl) ?_
                    refine va_get (D := (dC, dI)) (ci := 3) (v := .ref ql) (C := RX3) (T := TX3) (N := 17) hx hb hts (by decide +kernel) hown hK hP 0 rfl rfl 6 (by decide) (hts (.fieldLink RX3 16 "HouseLogModel" "lengths" "[I") (by decide +kernel)) (fun _ h9 => h9) rfl dX3_extract_77 ?_
                    refine lv_iload_n hx hb dX3_extract_80 rfl (lv_at hl 1 rfl) ?_
                    refine va_iald hx hb hK hP 2 1 rfl rfl (i := nI (k1 + i)) (vp_in_nI (n := k1 + i) (by omega) (by decide)) dX3_extract_81 ?_
                    refine W.eq (g2 := F0 m 82 ls (.int (Ln (k1 + i)) :: .int (nI j) :: [])) (by rw [show (nI (k1 + i) : Int32).toNatClampNeg = k1 + i from nI_clamp (by omega)]) ?_
                    refine W.eq (g2 := F0 m 82 ls (.int (nI (lz Ln (k1 + i))) :: .int (nI j) :: [])) (by rw [(hL (k1 + i) (by omega)).1]) ?_
                    refine lv_icmp_ge (tgt := 107) hx hb dX3_extract_82 (by decide) (fun c_82 => ?_) (fun c_82 => ?_)
                    · exact absurd c_82 (nI_ge (a := j) (b := lz Ln (k1 + i)) (by omega) (by omega))
                    · skip
                      refine lv_aload_n hx hb dX3_extract_85 rfl (lv_at hl 2 rfl) ?_
                      refine lv_aload_n hx hb dX3_extract_86 rfl (lv_at hl 2 rfl) ?_
                      refine va_get (D := (dC, dI)) (ci := 3) (v := .ref qy) (C := RX3) (T := TX3) (N := 17) hx hb hts (by decide +kernel) hown hK hP 0 rfl rfl 7 (by decide) (hts (.fieldLink RX3 19 "HouseLogModel" "bytes" "[I") (by decide +kernel)) (fun _ h9 => h9) rfl dX3_extract_87 ?_
                      refine lv_bipush (v := 40) hx hb dX3_extract_90 (by decide) ?_
                      refine lv_iload_n hx hb dX3_extract_92 rfl (lv_at hl 1 rfl) ?_
                      refine lv_imul hx hb dX3_extract_93 ?_
                      rw [show (40 * (nI (k1 + i)) : Int32) = nI (40 * (k1 + i)) from pk_mul 40 (k1 + i)]
                      refine lv_iload hx hb dX3_extract_94 (lv_at hl 0 rfl) ?_
                      refine lv_iadd hx hb dX3_extract_96 ?_
                      rw [show ((nI (40 * (k1 + i))) + (nI j) : Int32) = nI (40 * (k1 + i) + j) from nI_add (40 * (k1 + i)) j]
                      refine va_iald hx hb hK hP 3 2 rfl rfl (i := nI (40 * (k1 + i) + j)) (vp_in_nI (n := 40 * (k1 + i) + j) (by omega) (by decide)) dX3_extract_97 ?_
                      refine W.eq (g2 := F0 m 98 ls (.int (By (40 * (k1 + i) + j)) :: .ref qm :: [])) (by rw [show (nI (40 * (k1 + i) + j) : Int32).toNatClampNeg = 40 * (k1 + i) + j from nI_clamp (by omega)]) ?_
                      refine hc_vV (As := [.int (By (40 * (k1 + i) + j))]) (rest := []) (wr := [(qk, .inl (cAk, 64, .inl K)), (ql, .inl (cAl, 64, .inl Ln)), (qy, .inl (cAy, 2560, .inl By))]) ⟨hx, hb, hml, hown, hts⟩ sx_T trivial (kX3_goOn l dC dI H.size qm qd qk ql qy qc qi n (flI dn 0 0) (nI r) ak cb dn kp tr md wr (xB By (k1 + i) (mixI (mixI (xS K Ln By k1 i) (K (k1 + i))) (Ln (k1 + i))) j) (By (40 * (k1 + i) + j)) ) (cwV 1 hts gX3_extract_X3_goOn rfl rfl rfl (by decide +kernel) ⟨Nat.le_of_ble_eq_true rfl, Nat.le_of_ble_eq_true rfl⟩) hK hP hD hS hA [0] [1, 2, 3] [] rfl rfl rfl rfl rfl (by decide) (ci := 3) rfl rfl rfl rfl hl.1 rfl (Nat.le_of_ble_eq_true rfl) dX3_extract_98 ⟨Nat.zero_le _, Nat.zero_le _⟩ (fun H locs hP hD hS => ?_)
                      have hP : va_P (dC, dI) hlCl [(qm, .inr (3, [.int (flI dn 0 0), .int (nI n), .ref qd, .int (nI r), .int ak, .ref qk, .ref ql, .ref qy, .int cb, .ref qc, .int dn, .int kp, .int tr, .int md, .int wr, .ref qi, .int (mixI (xB By (k1 + i) (mixI (mixI (xS K Ln By k1 i) (K (k1 + i))) (Ln (k1 + i))) j) (By (40 * (k1 + i) + j)))])), (qk, .inl (cAk, 64, .inl K)), (ql, .inl (cAl, 64, .inl Ln)), (qy, .inl (cAy, 2560, .inl By))] H := hP.sub [3, 0, 1, 2] rfl
                      have hD : va_D A [(qm, .inr (3, [.int (flI dn 0 0), .int (nI n), .ref qd, .int (nI r), .int ak, .ref qk, .ref ql, .ref qy, .int cb, .ref qc, .int dn, .int kp, .int tr, .int md, .int wr, .ref qi, .int (mixI (xB By (k1 + i) (mixI (mixI (xS K Ln By k1 i) (K (k1 + i))) (Ln (k1 + i))) j) (By (40 * (k1 + i) + j)))])), (qk, .inl (cAk, 64, .inl K)), (ql, .inl (cAl, 64, .inl Ln)), (qy, .inl (cAy, 2560, .inl By))] := hD.sub [3, 0, 1, 2] (by decide) rfl
                      refine lv_iinc (v := nI (j + 1)) (lv' := [(4, .int (nI (j + 1))), (3, .int (nI (k1 + i))), (0, .ref qm), (1, .int (nI k1)), (2, .int (nI k2))]) hx hb dX3_extract_101 hl (k := 0) rfl (nI_add j 1) (by decide) rfl (fun ls hl => ?_)
                      refine lv_goto (tgt := 74) hx hb dX3_extract_104 (by decide) ?_
                      exact ih (j + 1) H locs ls (by omega)  hP hD hS (lv_sub hl [0, 1, 2, 3, 4] rfl)
                exact loopj (lz Ln (k1 + i)) 0 H locs ls (by omega)  hP hD hS (lv_sub hl [0, 1, 2, 3, 4] rfl)
          exact loop (k2 + 1 - k1) 0 H locs ls (by omega)  hP hD hS (lv_sub hl [0, 1, 2, 3] rfl)
        · skip
          refine lv_iconst (v := 0) hx hb dX3_extract_38 (by decide) ?_
          exact hr_i (v := 0) hx hb hr hlocks (w1 := [(qm, .inr (3, [.int (flI dn 0 0), .int (nI n), .ref qd, .int (nI r), .int ak, .ref qk, .ref ql, .ref qy, .int cb, .ref qc, .int dn, .int kp, .int tr, .int md, .int wr, .ref qi, .int sm])), (qk, .inl (cAk, 64, .inl K)), (ql, .inl (cAl, 64, .inl Ln)), (qy, .inl (cAy, 2560, .inl By))]) hP hD hK hS [0, 1, 2, 3] [0, 1, 2] rfl rfl rfl (by simp only [exRI, if_neg c_10, if_neg c_18, if_pos c_23, if_neg c_35] <;> rfl) (by simp only [exRI, exRT, exRS, if_neg c_10, if_neg c_18, if_pos c_23, if_neg c_35] <;> rfl) dX3_extract_39
      · skip
        refine lv_iconst (v := 1) hx hb dX3_extract_26 (by decide) ?_
        refine lv_goto (tgt := 31) hx hb dX3_extract_27 (by decide) ?_
        refine lv_iconst (v := 0) hx hb dX3_extract_31 (by decide) ?_
        refine hc_iV (As := [.int dn, .int 1, .int 0]) (rest := []) (wr := [(qk, .inl (cAk, 64, .inl K)), (ql, .inl (cAl, 64, .inl Ln)), (qy, .inl (cAy, 2560, .inl By))]) ⟨hx, hb, hml, hown, hts⟩ sx_T trivial (kX3_fails l dC dI H.size qm qd qk ql qy qc qi n th (nI r) ak cb dn kp tr md wr sm dn 1 0 ) (cwV 3 hts gX3_extract_X3_fails rfl rfl rfl (by decide +kernel) ⟨Nat.le_of_ble_eq_true rfl, Nat.le_of_ble_eq_true rfl⟩) hK hP hD hS hA [0] [1, 2, 3] [] rfl rfl rfl rfl rfl (by decide) (ci := 3) rfl rfl rfl rfl hl.1 rfl (Nat.le_of_ble_eq_true rfl) dX3_extract_32 ⟨Nat.zero_le _, Nat.zero_le _⟩ (fun H locs hP hD hS => ?_)
        have hP : va_P (dC, dI) hlCl [(qm, .inr (3, [.int (flI dn 1 0), .int (nI n), .ref qd, .int (nI r), .int ak, .ref qk, .ref ql, .ref qy, .int cb, .ref qc, .int dn, .int kp, .int tr, .int md, .int wr, .ref qi, .int sm])), (qk, .inl (cAk, 64, .inl K)), (ql, .inl (cAl, 64, .inl Ln)), (qy, .inl (cAy, 2560, .inl By))] H := hP.sub [3, 0, 1, 2] rfl
        have hD : va_D A [(qm, .inr (3, [.int (flI dn 1 0), .int (nI n), .ref qd, .int (nI r), .int ak, .ref qk, .ref ql, .ref qy, .int cb, .ref qc, .int dn, .int kp, .int tr, .int md, .int wr, .ref qi, .int sm])), (qk, .inl (cAk, 64, .inl K)), (ql, .inl (cAl, 64, .inl Ln)), (qy, .inl (cAy, 2560, .inl By))] := hD.sub [3, 0, 1, 2] (by decide) rfl
        refine lv_if_eq (tgt := 40) hx hb dX3_extract_35 (by decide) (fun c_35 => ?_) (fun c_35 => ?_)
        · exact absurd (fl_iff.mp c_35).2.1 (by decide)
        · skip
          refine lv_iconst (v := 0) hx hb dX3_extract_38 (by decide) ?_
          exact hr_i (v := 0) hx hb hr hlocks (w1 := [(qm, .inr (3, [.int (flI dn 1 0), .int (nI n), .ref qd, .int (nI r), .int ak, .ref qk, .ref ql, .ref qy, .int cb, .ref qc, .int dn, .int kp, .int tr, .int md, .int wr, .ref qi, .int sm])), (qk, .inl (cAk, 64, .inl K)), (ql, .inl (cAl, 64, .inl Ln)), (qy, .inl (cAy, 2560, .inl By))]) hP hD hK hS [0, 1, 2, 3] [0, 1, 2] rfl rfl rfl (by simp only [exRI, if_neg c_10, if_neg c_18, if_neg c_23] <;> rfl) (by simp only [exRI, exRT, exRS, if_neg c_10, if_neg c_18, if_neg c_23] <;> rfl) dX3_extract_39
