section PURE2
variable {n : Nat} {c0 c1 mm co D K Ln By Co : Nat → Int32} {r rm a cb tt : Nat} {dn kp : Int32}
theorem ic_in (x : Int32) : icI x = 0 ↔ inI x 0 1 = 0 := by
  unfold icI inI
  by_cases c1 : x = 0
  · subst c1; decide
  · by_cases c2 : x = 1
    · subst c2; decide
    · rw [if_neg c1, if_neg c2]
      by_cases d1 : x < 0
      · rw [if_pos d1]
      · rw [if_neg d1, if_pos]
        rw [Int32.lt_iff_toInt_lt] at d1 ⊢
        rw [Int32.toInt_zero] at d1
        have e1 : (1 : Int32).toInt = 1 := by decide
        have n0 : x.toInt ≠ 0 := fun z => c1 (Int32.toInt_inj.mp (z.trans Int32.toInt_zero.symm))
        have n1 : x.toInt ≠ 1 := fun z => c2 (Int32.toInt_inj.mp (z.trans e1.symm))
        rw [e1]
        omega
theorem ip_in (n : Nat) (hn : 4 ≤ n) (hn2 : n ≤ 64) (i : Int32) : ipI n i = 0 ↔ inI i 0 (nI (64 * n) - 1) = 0 := by
  unfold ipI inI
  rw [fp_, show (nI (64 * n) - 1 : Int32) = nI (64 * n - 1) from pk_sub (a := 64 * n) (b := 1) (by omega)]
  by_cases c1 : i < 0
  · simp [c1]
  · rw [if_neg c1, if_neg c1]
    obtain ⟨j, hj, e⟩ := nI_of c1
    have t1 : nI (n * 64) ≤ nI j ↔ n * 64 ≤ j := nI_leI (by omega) hj
    have t2 : nI (64 * n - 1) < nI j ↔ 64 * n - 1 < j := nI_ltI (by omega) hj
    rw [e]
    by_cases c2 : n * 64 ≤ j
    · rw [if_pos (t1.mpr c2), if_pos (t2.mpr (by omega))]
    · rw [if_neg (fun q => c2 (t1.mp q)), if_neg (fun q => by have := t2.mp q; omega)]
theorem mk_in (x : Int32) : inI x 1 255 = 0 ↔ (x < 1 ∨ ¬ x ≤ 255) := by
  unfold inI
  by_cases c1 : x < 1
  · simp [c1]
  · have e : (255 : Int32) < x ↔ ¬ x ≤ 255 := by
      rw [Int32.lt_iff_toInt_lt, Int32.le_iff_toInt_le]
      omega
    by_cases c2 : (255 : Int32) < x
    · simp [c1, c2, e.mp c2]
    · have : x ≤ 255 := Classical.byContradiction (fun q => c2 (e.mpr q))
      simp [c1, c2, this]
/-- behind the tests of copy and place -/
theorem dk_n {x i : Int32} (hn : 4 ≤ n) (hn2 : n ≤ 64) (h1 : ¬ inI x 0 1 = 0) (h2 : ¬ inI i 0 (nI (64 * n) - 1) = 0) : ∃ u j : Nat, u ≤ 1 ∧ j < n * 64 ∧ x = nI u ∧ i = nI j := by
  obtain ⟨u, hu, eu⟩ := in_nat (m := 1) (by decide) h1 rfl
  obtain ⟨j, hj, ej⟩ := in_nat (m := 64 * n - 1) (by omega) h2 (pk_sub (a := 64 * n) (b := 1) (by omega))
  exact ⟨u, j, hu, by omega, eu, ej⟩
theorem sim_disk (h : Rel n c0 c1 mm co D K Ln By Co r rm a cb tt dn kp) (x i : Int32) :
    nI (cdDk n x i) = dkRT n x i ∧ (cdDk n x i = 0 → dkI n c0 c1 (n * 64) x i = dkRI n D x i) := by
  obtain ⟨⟨hn4, hn64, hB⟩, h0, h1, -⟩ := h
  unfold cdDk dkRT dkI dkRI
  have i1 := ic_in x
  have i2 := ip_in n hn4 hn64 i
  by_cases k1 : inI x 0 1 = 0
  · simp only [if_pos k1, if_pos (i1.mpr k1)]
    refine ⟨?_, fun q => absurd q (by decide)⟩
    by_cases c2 : inI i 0 (nI (64 * n) - 1) = 0
    · rw [if_pos c2]; decide
    · rw [if_neg c2]; decide
  · have c1' : ¬ icI x = 0 := fun q => k1 (i1.mp q)
    simp only [if_neg k1, if_neg c1']
    by_cases c2 : inI i 0 (nI (64 * n) - 1) = 0
    · simp only [if_pos c2, if_pos (i2.mpr c2)]
      exact ⟨by decide, fun q => absurd q (by decide)⟩
    · have c2' : ¬ ipI n i = 0 := fun q => c2 (i2.mp q)
      simp only [if_neg c2, if_neg c2']
      refine ⟨by decide, fun _ => ?_⟩
      obtain ⟨u, j, hu, hj, eu, ej⟩ := dk_n hn4 hn64 k1 c2
      rw [eu, ej, nI_clamp (show u < 2 ^ 31 by omega), nI_clamp (show j < 2 ^ 31 by omega)]
      rcases (show u = 0 ∨ u = 1 by omega) with e | e
      · subst e
        rw [if_pos (show nI 0 = (0 : Int32) from rfl), gB_in c0 hj (by omega), h0 j hj]
      · subst e
        rw [if_neg (show ¬ nI 1 = (0 : Int32) by decide), gB_in c1 hj (by omega), h1 j hj]
theorem xor_b {x y : Nat} (hx : x < 256) (hy : y < 256) : ∃ z, z < 256 ∧ nI x ^^^ nI y = nI z := ⟨x ^^^ y, Nat.xor_lt_two_pow (n := 8) hx hy, nx_xor x y⟩
theorem sim_poke (h : Rel n c0 c1 mm co D K Ln By Co r rm a cb tt dn kp) (x i mk : Int32) :
    pkI n x i mk = pkRI n x i mk ∧ Rel n (pk0 c0 (n * 64) n x i mk) (pk1 c1 (n * 64) n x i mk) mm co (pkRD n D x i mk) K Ln By Co r rm a cb tt dn kp := by
  obtain ⟨⟨hn4, hn64, hB⟩, h0, h1, h2⟩ := h
  unfold pkI pkRI pk0 pk1 pkRD
  have i1 := ic_in x
  have i2 := ip_in n hn4 hn64 i
  have i3 := mk_in mk
  by_cases k1 : inI x 0 1 = 0
  · simp only [if_pos k1, if_pos (i1.mpr k1)]
    exact ⟨by trivial, ⟨hn4, hn64, hB⟩, h0, h1, h2⟩
  · have c1' : ¬ icI x = 0 := fun q => k1 (i1.mp q)
    simp only [if_neg k1, if_neg c1']
    by_cases c2 : inI i 0 (nI (64 * n) - 1) = 0
    · simp only [if_pos c2, if_pos (i2.mpr c2)]
      exact ⟨by trivial, ⟨hn4, hn64, hB⟩, h0, h1, h2⟩
    · have c2' : ¬ ipI n i = 0 := fun q => c2 (i2.mp q)
      simp only [if_neg c2, if_neg c2']
      by_cases d1 : mk < 1
      · simp only [if_pos d1, if_pos (i3.mpr (Or.inl d1))]
        exact ⟨by trivial, ⟨hn4, hn64, hB⟩, h0, h1, h2⟩
      · simp only [if_neg d1]
        by_cases d2 : mk ≤ 255
        · have c3 : ¬ inI mk 1 255 = 0 := fun q => (i3.mp q).elim d1 (fun q => q d2)
          simp only [if_pos d2, if_neg c3]
          obtain ⟨u, j, hu, hj, eu, ej⟩ := dk_n hn4 hn64 k1 c2
          have dm : ¬ mk < 0 := by
            rw [Int32.lt_iff_toInt_lt] at d1 ⊢
            have e1 : (1 : Int32).toInt = 1 := by decide
            rw [e1] at d1
            rw [Int32.toInt_zero]
            omega
          obtain ⟨y, hy, ey⟩ := nI_of2 (M := 255) (n := 255) (by decide) dm d2
          rw [eu, ej, nI_clamp (show u < 2 ^ 31 by omega), nI_clamp (show j < 2 ^ 31 by omega), ey]
          obtain ⟨z, hz, ez⟩ := xor_b (hB (4096 * u + j) (by omega)).2 (show y < 256 by omega)
          rw [← (hB (4096 * u + j) (by omega)).1] at ez
          have hB' : hB_ (upd D (4096 * u + j) (D (4096 * u + j) ^^^ nI y)) := by
            rw [hB_i]
            intro q hq
            unfold upd
            by_cases e : q = 4096 * u + j
            · rw [if_pos e]; exact ⟨z, hz, ez⟩
            · rw [if_neg e]; exact ⟨_, (hB q hq).2, (hB q hq).1⟩
          rcases (show u = 0 ∨ u = 1 by omega) with e | e
          · subst e
            simp only [if_pos (show nI 0 = (0 : Int32) from rfl)]
            refine ⟨by trivial, ⟨hn4, hn64, hB'⟩, fun q hq => ?_, fun q hq => ?_, h2⟩
            · rw [bv_s c0 _ hj (by omega), gB_in c0 hj (by omega), h0 j hj]
              unfold upd
              by_cases e : q = j
              · rw [if_pos e, if_pos (by omega), ez, pk_andN (by omega) (m := 255) 8 (by decide), Nat.mod_eq_of_lt (by omega)]
              · rw [if_neg e, if_neg (by omega), h0 q hq]
            · unfold upd
              rw [if_neg (by omega), h1 q hq]
          · subst e
            simp only [if_neg (show ¬ nI 1 = (0 : Int32) by decide)]
            refine ⟨by trivial, ⟨hn4, hn64, hB'⟩, fun q hq => ?_, fun q hq => ?_, h2⟩
            · unfold upd
              rw [if_neg (by omega), h0 q hq]
            · rw [bv_s c1 _ hj (by omega), gB_in c1 hj (by omega), h1 j hj]
              unfold upd
              by_cases e : q = j
              · rw [if_pos e, if_pos (by omega), ez, pk_andN (by omega) (m := 255) 8 (by decide), Nat.mod_eq_of_lt (by omega)]
              · rw [if_neg e, if_neg (by omega), h1 q hq]
        · have c3 : inI mk 1 255 = 0 := i3.mpr (Or.inr d2)
          simp only [if_neg d2, if_pos c3]
          exact ⟨by trivial, ⟨hn4, hn64, hB⟩, h0, h1, h2⟩
theorem ir_iff {r : Nat} (hr : r ≤ 64) (x : Int32) : irI (nI r) x = 0 ↔ irR (nI r) x = 0 := by
  unfold irI irR inI
  by_cases c1 : x < 0
  · simp [c1]
  · rw [if_neg c1, if_neg c1]
    obtain ⟨j, hj, e⟩ := nI_of c1
    have t1 : nI r ≤ nI j ↔ r ≤ j := nI_leI (by omega) hj
    have t2 : nI r - 1 < nI j ↔ r ≤ j := by
      rw [Int32.lt_iff_toInt_lt, show (nI r - 1 : Int32).toInt = (r : Int) - (1 : Nat) from pk_sub_toInt (a := r) (b := 1) (by omega) (by decide), nI_toInt hj]
      omega
    rw [e]
    by_cases c2 : r ≤ j
    · rw [if_pos (t1.mpr c2), if_pos (t2.mpr c2)]
    · rw [if_neg (fun q => c2 (t1.mp q)), if_neg (fun q => c2 (t2.mp q))]
theorem Rel.up (h : Rel n c0 c1 mm co D K Ln By Co r rm a cb tt dn kp) (e : dn = 0) : rm = r ∧ rwR mm K Ln By r a := h.2.2.2.2.2.1 e
theorem Rel.dwn (h : Rel n c0 c1 mm co D K Ln By Co r rm a cb tt dn kp) (e : ¬ dn = 0) : rm = 0 ∧ r = a := h.2.2.2.2.2.2 e
theorem ir_0 (x : Int32) : irR (nI 0) x = 0 := by
  refine Classical.byContradiction fun q => ?_
  obtain ⟨j, hj, -⟩ := in_lt (x := x) (r := 0) (by omega) q
  omega
theorem sim_look (h : Rel n c0 c1 mm co D K Ln By Co r rm a cb tt dn kp) (x y : Int32) :
    nI (cdLo (nI r) dn x y) = loRT dn rm x y ∧ (cdLo (nI r) dn x y = 0 → loI mm (n * 64) (nI r) (nI a) dn x y = loRI (nI a) dn rm K Ln x y) := by
  have hrm := h.rm_le
  have hn := h.1
  have hrn := h.2.2.2.2.1
  unfold cdLo loRT loI loRI
  by_cases e : dn = 0
  · obtain ⟨er, hR⟩ := h.up e
    subst er
    simp only [if_pos e]
    have i1 := ir_iff (r := rm) (by omega) x
    have f0 : flR dn 0 0 = 0 := fl_iff.mpr ⟨e, rfl, rfl⟩
    rw [if_pos f0]
    by_cases c1 : irR (nI rm) x = 0
    · simp only [if_pos c1, if_pos (i1.mpr c1)]
      exact ⟨by rw [e]; decide, fun q => absurd q (by decide)⟩
    · have c1' : ¬ irI (nI rm) x = 0 := fun q => c1 (i1.mp q)
      simp only [if_neg c1, if_neg c1']
      obtain ⟨k, hk, rfl⟩ := in_lt (x := x) (r := rm) (by omega) c1
      obtain ⟨g1, g2, -⟩ := hR k hk
      rw [nI_clamp (show k < 2 ^ 31 by omega), fp_, show (nI (k * 64) + 4 : Int32) = nI (k * 64 + 4) from nI_add (k * 64) 4, show (nI (k * 64) + 5 : Int32) = nI (k * 64 + 5) from nI_add (k * 64) 5, gB_in mm (by omega) (by omega), gB_in mm (by omega) (by omega), g1, g2]
      rcases sw_ y 2 (by decide) with hs | ⟨j, hj, ej⟩
      · have n0 : ¬ y = 0 := sw_ne 2 0 (by decide) (by decide) hs
        have n1 : ¬ y = 1 := sw_ne 2 1 (by decide) (by decide) hs
        have n2 : ¬ y = 2 := sw_ne 2 2 (by decide) (by decide) hs
        have ci : inI y 0 2 = 0 := by
          refine Classical.byContradiction fun q => ?_
          obtain ⟨j, hj, ej⟩ := in_nat (m := 2) (by decide) q rfl
          rw [ej, nI_toInt (by omega)] at hs
          omega
        simp only [if_neg n0, if_neg n1, if_neg n2, if_pos ci]
        exact ⟨by rw [e]; decide, fun q => absurd q (by decide)⟩
      · rcases (show j = 0 ∨ j = 1 ∨ j = 2 by omega) with q | q | q
        · subst q
          have ey : y = 0 := ej
          subst ey
          simp only [if_pos, if_neg (show ¬ inI 0 0 2 = 0 by decide)]
          exact ⟨by rw [e]; decide, fun _ => by trivial⟩
        · subst q
          have ey : y = 1 := ej
          subst ey
          simp only [if_neg (show ¬ (1 : Int32) = 0 by decide), if_pos, if_neg (show ¬ inI 1 0 2 = 0 by decide)]
          exact ⟨by rw [e]; decide, fun _ => by trivial⟩
        · subst q
          have ey : y = 2 := ej
          subst ey
          simp only [if_neg (show ¬ (2 : Int32) = 0 by decide), if_neg (show ¬ (2 : Int32) = 1 by decide), if_pos, if_neg (show ¬ inI 2 0 2 = 0 by decide)]
          exact ⟨by rw [e]; decide, fun _ => by trivial⟩
  · obtain ⟨er, -⟩ := h.dwn e
    subst er
    simp only [if_neg e, if_pos (ir_0 x)]
    refine ⟨?_, fun q => absurd q (by decide)⟩
    unfold flI
    rw [if_neg e]
    rfl
theorem sim_at (h : Rel n c0 c1 mm co D K Ln By Co r rm a cb tt dn kp) (x i : Int32) :
    nI (cdAt mm (n * 64) (nI r) dn x i) = atRT dn rm Ln x i ∧ (cdAt mm (n * 64) (nI r) dn x i = 0 → atI mm (n * 64) (nI r) dn x i = atRI dn rm Ln By x i) := by
  have hrm := h.rm_le
  have hn := h.1
  have hrn := h.2.2.2.2.1
  unfold cdAt atRT atI atRI
  by_cases e : dn = 0
  · obtain ⟨er, hR⟩ := h.up e
    subst er
    simp only [if_pos e]
    have i1 := ir_iff (r := rm) (by omega) x
    have f0 : flR dn 0 0 = 0 := fl_iff.mpr ⟨e, rfl, rfl⟩
    rw [if_pos f0]
    by_cases c1 : irR (nI rm) x = 0
    · simp only [if_pos c1, if_pos (i1.mpr c1)]
      exact ⟨by rw [e]; decide, fun q => absurd q (by decide)⟩
    · have c1' : ¬ irI (nI rm) x = 0 := fun q => c1 (i1.mp q)
      simp only [if_neg c1, if_neg c1']
      obtain ⟨k, hk, rfl⟩ := in_lt (x := x) (r := rm) (by omega) c1
      obtain ⟨g1, g2, g3, g4, g5, -⟩ := hR k hk
      rw [nI_clamp (show k < 2 ^ 31 by omega), fp_, show (nI (k * 64) + 5 : Int32) = nI (k * 64 + 5) from nI_add (k * 64) 5, show (nI (k * 64) + 6 : Int32) = nI (k * 64 + 6) from nI_add (k * 64) 6, gB_in mm (show k * 64 + 5 < n * 64 by omega) (by omega), g2, g3]
      by_cases d1 : i < 0
      · have ci : inI i 0 (nI (lz Ln k) - 1) = 0 := by unfold inI; rw [if_pos d1]
        simp only [if_pos d1, if_pos ci]
        exact ⟨by rw [e]; decide, fun q => absurd q (by decide)⟩
      · simp only [if_neg d1]
        obtain ⟨j, hj, ej⟩ := nI_of d1
        have t1 : nI j < nI (lz Ln k) ↔ j < lz Ln k := nI_ltI hj (by omega)
        by_cases d2 : j < lz Ln k
        · have ci : ¬ inI i 0 (nI (lz Ln k) - 1) = 0 := by
            rw [ej]
            unfold inI
            rw [if_neg (nI_pos (by omega)), if_neg]
            · decide
            · rw [Int32.lt_iff_toInt_lt, show (nI (lz Ln k) - 1 : Int32).toInt = (lz Ln k : Int) - (1 : Nat) from pk_sub_toInt (a := lz Ln k) (b := 1) (by omega) (by decide), nI_toInt hj]
              omega
          rw [ej] at ci ⊢
          simp only [if_pos (t1.mpr d2), if_neg ci]
          refine ⟨by rw [e]; decide, fun _ => ?_⟩
          rw [nI_clamp (show j < 2 ^ 31 by omega), nI_add, gB_in mm (by omega) (by omega), g5 j d2]
        · have ci : inI i 0 (nI (lz Ln k) - 1) = 0 := by
            refine Classical.byContradiction fun q => ?_
            obtain ⟨j', hj', ej'⟩ := in_lt (x := i) (r := lz Ln k) (by omega) q
            rw [ej] at ej'
            have := (nI_eq hj (by omega)).mp ej'
            omega
          rw [ej] at ci ⊢
          simp only [if_neg (fun q => d2 (t1.mp q)), if_pos ci]
          exact ⟨by rw [e]; decide, fun q => absurd q (by decide)⟩
  · obtain ⟨er, -⟩ := h.dwn e
    subst er
    simp only [if_neg e, if_pos (ir_0 x)]
    refine ⟨?_, fun q => absurd q (by decide)⟩
    unfold flI
    rw [if_neg e]
    rfl
end PURE2
