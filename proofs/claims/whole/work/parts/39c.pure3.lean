/-! The relation between the class's state and the model's, and each call's answers and states -/
/-- rows 0 .. r - 1 in memory; from a on they are laid whole -/
def rwR (mm K Ln By : Nat → Int32) (r a : Nat) : Prop := ∀ k, k < r → bv mm (k * 64 + 4) = K k ∧ bv mm (k * 64 + 5) = Ln k ∧ Ln k = nI (lz Ln k) ∧ lz Ln k ≤ 40 ∧ (∀ i, i < lz Ln k → bv mm (k * 64 + 6 + i) = By (40 * k + i)) ∧ (a ≤ k → ∀ i, i < 64 → bv mm (k * 64 + i) = ly k (K k) (lz Ln k) (fun j => By (40 * k + j)) i)
def Rel (n : Nat) (c0 c1 mm co D K Ln By Co : Nat → Int32) (r rm a cb tt : Nat) (dn kp : Int32) : Prop :=
  (4 ≤ n ∧ n ≤ 64 ∧ hB_ D) ∧ (∀ j, j < n * 64 → bv c0 j = D (4096 * 0 + j)) ∧ (∀ j, j < n * 64 → bv c1 j = D (4096 * 1 + j)) ∧ (cb ≤ 40 ∧ ∀ i, i < cb → bv co i = Co i) ∧ (a ≤ r ∧ r ≤ n ∧ tt ≤ 63 ∧ (kp = -1 ∨ 0 ≤ kp)) ∧ (dn = 0 → rm = r ∧ rwR mm K Ln By r a) ∧ (¬ dn = 0 → rm = 0 ∧ r = a)
section PURE
variable {n : Nat} {c0 c1 mm co D K Ln By Co : Nat → Int32} {r rm a cb tt : Nat} {dn kp : Int32}
theorem Rel.rm_le (h : Rel n c0 c1 mm co D K Ln By Co r rm a cb tt dn kp) : rm ≤ 64 := by
  obtain ⟨⟨h4, h64, -⟩, -, -, -, ⟨har, hrn, -⟩, hu, hd⟩ := h
  by_cases e : dn = 0
  · have := (hu e).1; omega
  · have := (hd e).1; omega
theorem Rel.hL (h : Rel n c0 c1 mm co D K Ln By Co r rm a cb tt dn kp) : ∀ k, k < rm → Ln k = nI (lz Ln k) ∧ lz Ln k ≤ 40 := by
  obtain ⟨-, -, -, -, -, hu, hd⟩ := h
  intro k hk
  by_cases e : dn = 0
  · obtain ⟨e1, e2⟩ := hu e
    have := e2 k (by omega)
    exact ⟨this.2.2.1, this.2.2.2.1⟩
  · have := (hd e).1; omega
theorem lt40 {cb : Nat} (h : cb ≤ 40) : (nI cb < 40 ↔ ¬ nI cb = 40) ∧ (nI cb < 40 ↔ cb < 40) := by
  have e1 : nI cb < 40 ↔ cb < 40 := nI_ltI (b := 40) (by omega) (by decide)
  have e2 : nI cb = 40 ↔ cb = 40 := nI_eq (b := 40) (by omega) (by decide)
  refine ⟨?_, e1⟩
  rw [e1, e2]
  omega
theorem sim_add (h : Rel n c0 c1 mm co D K Ln By Co r rm a cb tt dn kp) (b : Int32) :
    adI (nI cb) dn = adRI dn cb ∧ adN dn (nI cb) = nI (adRN dn cb) ∧ Rel n c0 c1 mm (adC co dn (nI cb) b) D K Ln By (adRC dn cb Co b) r rm a (adRN dn cb) tt dn kp := by
  obtain ⟨h0, h1, h2, ⟨hcb, hco⟩, h5⟩ := h
  obtain ⟨l1, l2⟩ := lt40 hcb
  unfold adI adRI adN adRN adC adRC
  by_cases e : dn = 0
  · simp only [if_pos e]
    by_cases c : nI cb < 40
    · have c' := l1.mp c
      simp only [if_pos c, if_neg c']
      have c2 := l2.mp c
      refine ⟨by trivial, nI_1 cb, h0, h1, h2, ⟨by omega, fun i hi => ?_⟩, h5⟩
      rw [bv_s co b (by omega) (by decide)]
      unfold upd
      by_cases ei : i = cb
      · rw [if_pos ei, if_pos ei]
      · rw [if_neg ei, if_neg ei]
        exact hco i (by omega)
    · have c' : nI cb = 40 := Classical.byContradiction (fun q => c (l1.mpr q))
      simp only [if_neg c, if_pos c']
      exact ⟨by trivial, by trivial, h0, h1, h2, ⟨hcb, hco⟩, h5⟩
  · simp only [if_neg e]
    exact ⟨by trivial, by trivial, h0, h1, h2, ⟨hcb, hco⟩, h5⟩
theorem in63 (x : Int32) : inI x 0 63 = 0 ↔ (x < 0 ∨ ¬ x < 64) := by
  unfold inI
  by_cases c1 : x < 0
  · simp [c1]
  · have e : (63 : Int32) < x ↔ ¬ x < 64 := by
      rw [Int32.lt_iff_toInt_lt, Int32.lt_iff_toInt_lt]
      have e1 : (63 : Int32).toInt = 63 := by decide
      have e2 : (64 : Int32).toInt = 64 := by decide
      rw [e1, e2]
      omega
    by_cases c2 : (63 : Int32) < x
    · simp [c1, c2, e.mp c2]
    · have : x < 64 := Classical.byContradiction (fun q => c2 (e.mpr q))
      simp [c1, c2, this]
theorem sim_cut (h : Rel n c0 c1 mm co D K Ln By Co r rm a cb tt dn kp) (keep tear : Int32) :
    cuI dn keep tear = cuRI dn keep tear ∧ cuK dn keep tear kp = cuRK dn kp keep tear ∧ cuT dn keep tear (nI tt) = cuRT dn (nI tt) keep tear ∧ ∃ tt', cuRT dn (nI tt) keep tear = nI tt' ∧ Rel n c0 c1 mm co D K Ln By Co r rm a cb tt' dn (cuRK dn kp keep tear) := by
  obtain ⟨h0, h1, h2, h3, ⟨har, hrn, htt, hkp⟩, h5⟩ := h
  unfold cuI cuRI cuK cuRK cuT cuRT
  by_cases e : dn = 0
  · simp only [if_pos e]
    by_cases c : keep < -1
    · simp only [if_pos c]
      exact ⟨by trivial, by trivial, by trivial, tt, rfl, h0, h1, h2, h3, ⟨har, hrn, htt, hkp⟩, h5⟩
    · simp only [if_neg c]
      have i6 := in63 tear
      by_cases d1 : tear < 0
      · simp only [if_pos d1, if_pos (i6.mpr (Or.inl d1))]
        exact ⟨trivial, trivial, trivial, tt, rfl, h0, h1, h2, h3, ⟨har, hrn, htt, hkp⟩, h5⟩
      · simp only [if_neg d1]
        by_cases d2 : tear < 64
        · have hn6 : ¬ inI tear 0 63 = 0 := fun q => (i6.mp q).elim d1 (fun q => q d2)
          simp only [if_pos d2, if_neg hn6]
          obtain ⟨j, hj, ej⟩ := pk_mu (L := 64) d1 (fun q => by
            have q' : (64 : Int32) ≤ tear := q
            rw [Int32.lt_iff_toInt_lt] at d2
            rw [Int32.le_iff_toInt_le] at q'
            omega) (by decide)
          refine ⟨trivial, trivial, trivial, j, ej.1, h0, h1, h2, h3, ⟨har, hrn, by omega, ?_⟩, h5⟩
          rw [Int32.lt_iff_toInt_lt] at c
          have e1 : (-1 : Int32).toInt = -1 := by decide
          rw [e1] at c
          by_cases q : keep = -1
          · exact Or.inl q
          · right
            rw [Int32.le_iff_toInt_le, Int32.toInt_zero]
            have : keep.toInt ≠ -1 := fun z => q (Int32.toInt_inj.mp (z.trans e1.symm))
            omega
        · have hn6 : inI tear 0 63 = 0 := i6.mpr (Or.inr d2)
          simp only [if_neg d2, if_pos hn6]
          exact ⟨trivial, trivial, trivial, tt, rfl, h0, h1, h2, h3, ⟨har, hrn, htt, hkp⟩, h5⟩
  · simp only [if_neg e]
    exact ⟨by trivial, by trivial, by trivial, tt, rfl, h0, h1, h2, h3, ⟨har, hrn, htt, hkp⟩, h5⟩
theorem sim_count (h : Rel n c0 c1 mm co D K Ln By Co r rm a cb tt dn kp) (md wr x : Int32) : coI n (nI cb) (nI r) (nI a) dn md wr x = coRI n (nI rm) (nI a) (nI cb) dn md wr x := by
  obtain ⟨⟨hn4, hn64, -⟩, -, -, -, ⟨har, hrn, -⟩, hu, -⟩ := h
  unfold coI coRI
  by_cases e : dn = 0
  · have er := (hu e).1
    simp only [if_pos e]
    rw [er]
    have key : rmI n (nI r) 0 = if nI r ≤ nI n - 2 then nI n - 2 - nI r else 0 := by
      unfold rmI
      rw [if_pos rfl, show (nI n - 2 : Int32) = nI (n - 2) from pk_sub (a := n) (b := 2) (by omega)]
      have t1 : (nI (n - 2) - nI r).toInt = ((n - 2 : Nat) : Int) - r := pk_sub_toInt (by omega) (by omega)
      have t2 : nI r ≤ nI (n - 2) ↔ r ≤ n - 2 := nI_leI (by omega) (by omega)
      by_cases c : r ≤ n - 2
      · rw [if_pos (t2.mpr c)]
        by_cases c2 : r = n - 2
        · rw [if_neg (by rw [Int32.lt_iff_toInt_lt, t1, Int32.toInt_zero]; omega), pk_sub c, c2, Nat.sub_self]
          rfl
        · rw [if_pos (by rw [Int32.lt_iff_toInt_lt, t1, Int32.toInt_zero]; omega)]
      · rw [if_neg (fun q => c (t2.mp q)), if_neg (by rw [Int32.lt_iff_toInt_lt, t1, Int32.toInt_zero]; omega)]
    rw [key]
  · simp only [if_neg e]
end PURE
