set_option maxHeartbeats 4000000 in
set_option maxRecDepth 100000 in
theorem law_705 {p : Program} {l : Launch} {e : Env} {s : State} {m : MethodId} {below : List Frame} {meth : Method} {c : Code} {b L : Nat} {xs : Nat → Int32} {dC : Nat → ClassId} {dI : Nat → Nat → Nat} {n : Nat} {qh qs0 qb0 qa0 qs1 qb1 qa1 qsm qbm qam qbc qac qm qd qk ql qy qc qi qo : Nat} {cB0 cB1 cBm cBc cAd cAk cAl cAy cAc cAi cO : ClassId} (hC : lw_C p l s m c b L xs dC dI cB0 cB1 cBm cBc cAd cAk cAl cAy cAc cAi cO) {i cells slots : Nat} (kk : LI p l e s m below meth c b dC dI n qh qs0 qb0 qa0 qs1 qb1 qa1 qsm qbm qam qbc qac qm qd qk ql qy qc qi qo cB0 cB1 cBm cBc cAd cAk cAl cAy cAc cAi cO 33 (i + 4) cells slots) : LI p l e s m below meth c b dC dI n qh qs0 qb0 qa0 qs1 qb1 qa1 qsm qbm qam qbc qac qm qd qk ql qy qc qi qo cB0 cB1 cBm cBc cAd cAk cAl cAy cAc cAi cO 705 i cells slots := by
  obtain ⟨hx, hb, hml, hown, hts, hX, hbl, hLb, hE, hZ, hK, hlt⟩ := id hC
  intro c0 c1 mm co D K Ln By Co La r rm a cb tt dn kp md wr th sm ou H locs ls hR hP hD hS hl
  refine lv_iinc (v := nI (i + 4)) (lv' := [(4, .int (nI (i + 4))), (0, .ref b), (1, .ref qh), (2, .ref qm), (3, .ref qo)]) hx hb dL_law_705 hl (k := 4) rfl (nI_add i 4) (by decide) rfl (fun ls hl => ?_)
  refine lv_goto (tgt := 33) hx hb dL_law_708 (by decide) ?_
  exact kk c0 c1 mm co D K Ln By Co La r rm a cb tt dn kp md wr th sm ou H locs ls hR hP hD hS (lv_sub hl [1, 2, 3, 4, 0] rfl)
set_option maxHeartbeats 4000000 in
set_option maxRecDepth 100000 in
/-- a turn: whatever kind of call the script asks for, class and reference answer alike and stay in the relation -/
theorem law_turn {p : Program} {l : Launch} {e : Env} {s : State} {m : MethodId} {below : List Frame} {meth : Method} {c : Code} {b L : Nat} {xs : Nat → Int32} {dC : Nat → ClassId} {dI : Nat → Nat → Nat} {n : Nat} {qh qs0 qb0 qa0 qs1 qb1 qa1 qsm qbm qam qbc qac qm qd qk ql qy qc qi qo : Nat} {cB0 cB1 cBm cBc cAd cAk cAl cAy cAc cAi cO : ClassId} (hC : lw_C p l s m c b L xs dC dI cB0 cB1 cBm cBc cAd cAk cAl cAy cAc cAi cO) {i cells slots : Nat} (hi : i + 4 ≤ L) (hf1 : cells + 2 ≤ 601024) (hf2 : slots + 12 ≤ 7293000) (kk : LI p l e s m below meth c b dC dI n qh qs0 qb0 qa0 qs1 qb1 qa1 qsm qbm qam qbc qac qm qd qk ql qy qc qi qo cB0 cB1 cBm cBc cAd cAk cAl cAy cAc cAi cO 33 (i + 4) (cells + 2) (slots + 12)) : LI p l e s m below meth c b dC dI n qh qs0 qb0 qa0 qs1 qb1 qa1 qsm qbm qam qbc qac qm qd qk ql qy qc qi qo cB0 cB1 cBm cBc cAd cAk cAl cAy cAc cAi cO 42 i cells slots := by
  have k5 := law_705 hC kk
  obtain ⟨hx, hb, hml, hown, hts, hX, hbl, hLb, hE, hZ, hK, hlt⟩ := id hC
  intro c0 c1 mm co D K Ln By Co La r rm a cb tt dn kp md wr th sm ou H locs ls hR hP hD hS hl
  have hbA : ¬ (fun q : Nat => s.heap.size ≤ q) b := Nat.not_le.mpr hbl
  have hv0 : vp_in (nI i) L := vp_in_nI (by omega) (by omega)
  refine lv_aload_n hx hb dL_law_42 rfl (lv_at hl 0 rfl) ?_
  refine lv_iload hx hb dL_law_43 (lv_at hl 4 rfl) ?_
  refine va_sld hx hb hX hbl hbA hS hv0 dL_law_45 ?_
  refine lv_bipush (v := 15) hx hb dL_law_46 (by decide) ?_
  refine lv_iand hx hb dL_law_48 ?_
  rcases sw_ (xs (nI i).toNatClampNeg &&& 15) 11 (by decide) with hsw | ⟨jsw, hjsw, esw⟩
  · refine lv_tableOut (tgt := 705) hx hb dL_law_49 hsw (by decide) ?_
    refine W.widen (k := cells + 2) (n := slots + 12) (by omega) (by omega) ?_
    exact k5 c0 c1 mm co D K Ln By Co La r rm a cb tt dn kp md wr th sm ou H locs ls hR hP hD hS hl
  · obtain rfl | rfl | rfl | rfl | rfl | rfl | rfl | rfl | rfl | rfl | rfl | rfl : jsw = 0 ∨ jsw = 1 ∨ jsw = 2 ∨ jsw = 3 ∨ jsw = 4 ∨ jsw = 5 ∨ jsw = 6 ∨ jsw = 7 ∨ jsw = 8 ∨ jsw = 9 ∨ jsw = 10 ∨ jsw = 11 := by omega
    · refine lv_tableIn (tgt := 112) hx hb dL_law_49 (by rw [esw]; decide) (by rw [esw]; decide) (off := 63) (by rw [esw]; decide) (by decide) ?_
      exact law_c0 hC hi hf1 hf2 k5 c0 c1 mm co D K Ln By Co La r rm a cb tt dn kp md wr th sm ou H locs ls hR hP hD hS hl
    · refine lv_tableIn (tgt := 137) hx hb dL_law_49 (by rw [esw]; decide) (by rw [esw]; decide) (off := 88) (by rw [esw]; decide) (by decide) ?_
      exact law_c1 hC hi hf1 hf2 k5 c0 c1 mm co D K Ln By Co La r rm a cb tt dn kp md wr th sm ou H locs ls hR hP hD hS hl
    · refine lv_tableIn (tgt := 221) hx hb dL_law_49 (by rw [esw]; decide) (by rw [esw]; decide) (off := 172) (by rw [esw]; decide) (by decide) ?_
      exact law_c2 hC hi hf1 hf2 k5 c0 c1 mm co D K Ln By Co La r rm a cb tt dn kp md wr th sm ou H locs ls hR hP hD hS hl
    · refine lv_tableIn (tgt := 265) hx hb dL_law_49 (by rw [esw]; decide) (by rw [esw]; decide) (off := 216) (by rw [esw]; decide) (by decide) ?_
      exact law_c3 hC hi hf1 hf2 k5 c0 c1 mm co D K Ln By Co La r rm a cb tt dn kp md wr th sm ou H locs ls hR hP hD hS hl
    · refine lv_tableIn (tgt := 302) hx hb dL_law_49 (by rw [esw]; decide) (by rw [esw]; decide) (off := 253) (by rw [esw]; decide) (by decide) ?_
      exact law_c4 hC hi hf1 hf2 k5 c0 c1 mm co D K Ln By Co La r rm a cb tt dn kp md wr th sm ou H locs ls hR hP hD hS hl
    · refine lv_tableIn (tgt := 315) hx hb dL_law_49 (by rw [esw]; decide) (by rw [esw]; decide) (off := 266) (by rw [esw]; decide) (by decide) ?_
      exact law_c5 hC hi hf1 hf2 k5 c0 c1 mm co D K Ln By Co La r rm a cb tt dn kp md wr th sm ou H locs ls hR hP hD hS hl
    · refine lv_tableIn (tgt := 364) hx hb dL_law_49 (by rw [esw]; decide) (by rw [esw]; decide) (off := 315) (by rw [esw]; decide) (by decide) ?_
      exact law_c6 hC hi hf1 hf2 k5 c0 c1 mm co D K Ln By Co La r rm a cb tt dn kp md wr th sm ou H locs ls hR hP hD hS hl
    · refine lv_tableIn (tgt := 432) hx hb dL_law_49 (by rw [esw]; decide) (by rw [esw]; decide) (off := 383) (by rw [esw]; decide) (by decide) ?_
      exact law_c7 hC hi hf1 hf2 k5 c0 c1 mm co D K Ln By Co La r rm a cb tt dn kp md wr th sm ou H locs ls hR hP hD hS hl
    · refine lv_tableIn (tgt := 500) hx hb dL_law_49 (by rw [esw]; decide) (by rw [esw]; decide) (off := 451) (by rw [esw]; decide) (by decide) ?_
      exact law_c8 hC hi hf1 hf2 k5 c0 c1 mm co D K Ln By Co La r rm a cb tt dn kp md wr th sm ou H locs ls hR hP hD hS hl
    · refine lv_tableIn (tgt := 544) hx hb dL_law_49 (by rw [esw]; decide) (by rw [esw]; decide) (off := 495) (by rw [esw]; decide) (by decide) ?_
      exact law_c9 hC hi hf1 hf2 k5 c0 c1 mm co D K Ln By Co La r rm a cb tt dn kp md wr th sm ou H locs ls hR hP hD hS hl
    · refine lv_tableIn (tgt := 612) hx hb dL_law_49 (by rw [esw]; decide) (by rw [esw]; decide) (off := 563) (by rw [esw]; decide) (by decide) ?_
      exact law_c10 hC hi hf1 hf2 k5 c0 c1 mm co D K Ln By Co La r rm a cb tt dn kp md wr th sm ou H locs ls hR hP hD hS hl
    · refine lv_tableIn (tgt := 680) hx hb dL_law_49 (by rw [esw]; decide) (by rw [esw]; decide) (off := 631) (by rw [esw]; decide) (by decide) ?_
      exact law_c11 hC hi hf1 hf2 k5 c0 c1 mm co D K Ln By Co La r rm a cb tt dn kp md wr th sm ou H locs ls hR hP hD hS hl
set_option maxHeartbeats 4000000 in
set_option maxRecDepth 100000 in
theorem law_head {p : Program} {l : Launch} {e : Env} {s : State} {m : MethodId} {below : List Frame} {meth : Method} {c : Code} {b L : Nat} {xs : Nat → Int32} {dC : Nat → ClassId} {dI : Nat → Nat → Nat} {n : Nat} {qh qs0 qb0 qa0 qs1 qb1 qa1 qsm qbm qam qbc qac qm qd qk ql qy qc qi qo : Nat} {cB0 cB1 cBm cBc cAd cAk cAl cAy cAc cAi cO : ClassId} (hC : lw_C p l s m c b L xs dC dI cB0 cB1 cBm cBc cAd cAk cAl cAy cAc cAi cO) (hr : meth.sig.returnType = ret) (hlocks : meth.locks = false) {i cells slots : Nat} (h1 : i ≤ L + 4) (h3 : cells ≤ 601024) (h4 : slots ≤ 7293000) (kk : i + 4 ≤ L → LI p l e s m below meth c b dC dI n qh qs0 qb0 qa0 qs1 qb1 qa1 qsm qbm qam qbc qac qm qd qk ql qy qc qi qo cB0 cB1 cBm cBc cAd cAk cAl cAy cAc cAi cO 42 i cells slots) : LI p l e s m below meth c b dC dI n qh qs0 qb0 qa0 qs1 qb1 qa1 qsm qbm qam qbc qac qm qd qk ql qy qc qi qo cB0 cB1 cBm cBc cAd cAk cAl cAy cAc cAi cO 33 i cells slots := by
  obtain ⟨hx, hb, hml, hown, hts, hX, hbl, hLb, hE, hZ, hK, hlt⟩ := id hC
  intro c0 c1 mm co D K Ln By Co La r rm a cb tt dn kp md wr th sm ou H locs ls hR hP hD hS hl
  have hbA : ¬ (fun q : Nat => s.heap.size ≤ q) b := Nat.not_le.mpr hbl
  refine lv_iload hx hb dL_law_33 (lv_at hl 4 rfl) ?_
  refine lv_aload_n hx hb dL_law_35 rfl (lv_at hl 0 rfl) ?_
  refine va_slen hx hb hX hbl hbA hS dL_law_36 ?_
  refine lv_iconst (v := 4) hx hb dL_law_37 (by decide) ?_
  refine lv_isub hx hb dL_law_38 ?_
  refine lv_icmp_gt (tgt := 711) hx hb dL_law_39 (by decide) (fun c9 => ?_) (fun c9 => ?_)
  · refine lv_iconst (v := 1) hx hb dL_law_711 (by decide) ?_
    refine va_forget (fun q hq => hS.2.2 q hq) ?_
    refine W.widen (k := 601024) (n := 7293000) h3 h4 ?_
    exact lw_ret hx hb hr hlocks dL_law_712
  · exact kk (lw_head (by omega) hLb c9) c0 c1 mm co D K Ln By Co La r rm a cb tt dn kp md wr th sm ou H locs ls hR hP hD hS hl
set_option maxHeartbeats 4000000 in
set_option maxRecDepth 100000 in
/-- the loop -/
theorem law_loop {p : Program} {l : Launch} {e : Env} {s : State} {m : MethodId} {below : List Frame} {meth : Method} {c : Code} {b L : Nat} {xs : Nat → Int32} {dC : Nat → ClassId} {dI : Nat → Nat → Nat} {n : Nat} {qh qs0 qb0 qa0 qs1 qb1 qa1 qsm qbm qam qbc qac qm qd qk ql qy qc qi qo : Nat} {cB0 cB1 cBm cBc cAd cAk cAl cAy cAc cAi cO : ClassId} (hC : lw_C p l s m c b L xs dC dI cB0 cB1 cBm cBc cAd cAk cAl cAy cAc cAi cO) (hr : meth.sig.returnType = ret) (hlocks : meth.locks = false) : ∀ (k i cells slots : Nat), i ≤ L + 4 → L < i + 4 * k + 4 → cells + 2 * k ≤ 601024 → slots + 12 * k ≤ 7293000 → LI p l e s m below meth c b dC dI n qh qs0 qb0 qa0 qs1 qb1 qa1 qsm qbm qam qbc qac qm qd qk ql qy qc qi qo cB0 cB1 cBm cBc cAd cAk cAl cAy cAc cAi cO 33 i cells slots := by
  intro k
  induction k with
  | zero =>
    intro i cells slots h1 h2 h3 h4
    exact law_head hC hr hlocks h1 (by omega) (by omega) (fun h => absurd h (by omega))
  | succ k ih =>
    intro i cells slots h1 h2 h3 h4
    exact law_head hC hr hlocks h1 (by omega) (by omega) (fun h => law_turn hC h (by omega) (by omega) (ih (i + 4) (cells + 2) (slots + 12) (by omega) (by omega) (by omega) (by omega)))
