section PURE3
variable {n : Nat} {c0 c1 mm co D K Ln By Co : Nat → Int32} {r rm a cb tt : Nat} {dn kp : Int32}
theorem wF_e (hn64 : n ≤ 64) (hB : hB_ D) (h0 : ∀ j, j < n * 64 → bv c0 j = D (4096 * 0 + j)) (h1 : ∀ j, j < n * 64 → bv c1 j = D (4096 * 1 + j)) (sm : Int32) : ∀ k i, i + k ≤ n → wF c0 c1 (n * 64) k i = (vF sm D k i).1 := by
  intro k
  induction k with
  | zero => intro i _; rfl
  | succ k ih =>
    intro i hi
    have e0 := rt_e (f := c0) (D := D) (k := i) (u := 0) hn64 (by omega) (by omega) hB h0
    have e1 := rt_e (f := c1) (D := D) (k := i) (u := 1) hn64 (by omega) (by omega) hB h1
    show (if rtI c0 (n * 64) i = 0 then nI (2 * i + 1) else if rtI c1 (n * 64) i = 0 then nI (2 * i + 2) else wF c0 c1 (n * 64) k (i + 1)) = (if rtR D 0 i = 0 then (nI (1 + 2 * i + 0), srR (vS sm D i) D 0 i) else if rtR D 1 i = 0 then (nI (1 + 2 * i + 1), srR (srR (vS sm D i) D 0 i) D 1 i) else vF sm D k (i + 1)).1
    rw [e0, e1]
    by_cases q0 : rtR D 0 i = 0
    · rw [if_pos q0, if_pos q0, show 2 * i + 1 = 1 + 2 * i + 0 by omega]
    · rw [if_neg q0, if_neg q0]
      by_cases q1 : rtR D 1 i = 0
      · rw [if_pos q1, if_pos q1, show 2 * i + 2 = 1 + 2 * i + 1 by omega]
      · rw [if_neg q1, if_neg q1]
        exact ih (i + 1) (by omega)
theorem cdVe_t (dn : Int32) : nI (cdVe dn) = flI dn 0 0 := by
  unfold cdVe flI
  by_cases e : dn = 0
  · simp only [if_pos e]; rfl
  · simp only [if_neg e]; rfl
theorem sim_verify (h : Rel n c0 c1 mm co D K Ln By Co r rm a cb tt dn kp) (sm : Int32) : (if dn = 0 then wF c0 c1 (n * 64) a 0 else 0) = (if flR dn 0 0 = 0 then (vF sm D a 0).1 else 0) := by
  obtain ⟨⟨hn4, hn64, hB⟩, h0, h1, -, ⟨har, hrn, -⟩, -⟩ := h
  by_cases e : dn = 0
  · rw [if_pos e, if_pos (fl_iff.mpr ⟨e, rfl, rfl⟩)]
    exact wF_e hn64 hB h0 h1 sm a 0 (by omega)
  · rw [if_neg e, if_neg (fun q => e (fl_iff.mp q).1)]
theorem sb_e (hn64 : n ≤ 64) {k : Nat} (hk : k < n) (g1 : bv mm (k * 64 + 4) = K k) (g2 : bv mm (k * 64 + 5) = Ln k) (g3 : Ln k = nI (lz Ln k)) (g4 : lz Ln k ≤ 40) (g5 : ∀ i, i < lz Ln k → bv mm (k * 64 + 6 + i) = By (40 * k + i)) (s : Int32) :
    sbI mm (n * 64) s k = xB By k (mixI (mixI s (K k)) (Ln k)) (lz Ln k) := by
  have hN : n * 64 < 2 ^ 31 := by omega
  have key : ∀ t, t ≤ lz Ln k → sumB mm (n * 64) (k * 64 + 4) s (t + 2) = xB By k (mixI (mixI s (K k)) (Ln k)) t := by
    intro t
    induction t with
    | zero =>
      intro _
      show mixI (mixI s (gB mm (n * 64) (nI (k * 64 + 4 + 0)))) (gB mm (n * 64) (nI (k * 64 + 4 + 1))) = mixI (mixI s (K k)) (Ln k)
      rw [gB_in mm (by omega) hN, gB_in mm (by omega) hN, show k * 64 + 4 + 0 = k * 64 + 4 by omega, show k * 64 + 4 + 1 = k * 64 + 5 by omega, g1, g2]
    | succ t ih =>
      intro ht
      rw [show t + 1 + 2 = (t + 2) + 1 by omega, sumB_s, ih (by omega), gB_in mm (by omega) hN, show k * 64 + 4 + (t + 2) = k * 64 + 6 + t by omega, g5 t (by omega)]
      rfl
  unfold sbI
  rw [show lnN mm (n * 64) k = lz Ln k from by rw [lnN_in mm (by omega) hN]; exact lz_n (by rw [g2]; exact g3) (by omega), show k * 64 + 6 + lz Ln k - (k * 64 + 4) = lz Ln k + 2 by omega]
  exact key _ (Nat.le_refl _)
theorem eS_e (hn64 : n ≤ 64) (hrn : r ≤ n) (hR : rwR mm K Ln By r a) (b : Nat) : ∀ t, b + t ≤ r → eS mm (n * 64) b t = xS K Ln By b t := by
  intro t
  induction t with
  | zero => intro _; rfl
  | succ t ih =>
    intro ht
    obtain ⟨g1, g2, g3, g4, g5, -⟩ := hR (b + t) (by omega)
    show sbI mm (n * 64) (eS mm (n * 64) b t) (b + t) = xB By (b + t) (mixI (mixI (xS K Ln By b t) (K (b + t))) (Ln (b + t))) (lz Ln (b + t))
    rw [ih (by omega)]
    exact sb_e hn64 (by omega) g1 g2 g3 g4 g5 _
theorem sim_extract (h : Rel n c0 c1 mm co D K Ln By Co r rm a cb tt dn kp) (x y : Int32) :
    nI (cdEx r dn x y) = exRT dn rm x y ∧ (cdEx r dn x y = 0 → exI mm (n * 64) r dn x y = exRI dn rm K Ln By x y) := by
  have hrm := h.rm_le
  have hn := h.1
  have hrn := h.2.2.2.2.1
  unfold cdEx exRT exI exRI
  by_cases e : dn = 0
  · obtain ⟨er, hR⟩ := h.up e
    subst er
    simp only [if_pos e]
    have i1 := ir_iff (r := rm) (by omega) x
    have i2 := ir_iff (r := rm) (by omega) y
    have f0 : flR dn 0 0 = 0 := fl_iff.mpr ⟨e, rfl, rfl⟩
    rw [if_pos f0]
    by_cases q1 : irR (nI rm) x = 0
    · simp only [if_pos q1, if_pos (i1.mpr q1)]
      exact ⟨by rw [e]; decide, fun q => absurd q (by decide)⟩
    · have q1' : ¬ irI (nI rm) x = 0 := fun q => q1 (i1.mp q)
      simp only [if_neg q1, if_neg q1']
      by_cases q2 : irR (nI rm) y = 0
      · simp only [if_pos q2, if_pos (i2.mpr q2)]
        exact ⟨by rw [e]; decide, fun q => absurd q (by decide)⟩
      · have q2' : ¬ irI (nI rm) y = 0 := fun q => q2 (i2.mp q)
        simp only [if_neg q2, if_neg q2']
        by_cases q3 : x ≤ y
        · simp only [if_pos q3]
          refine ⟨by rw [e]; decide, fun _ => ?_⟩
          obtain ⟨k1, hk1, e1⟩ := in_lt (x := x) (r := rm) (by omega) q1
          obtain ⟨k2, hk2, e2⟩ := in_lt (x := y) (r := rm) (by omega) q2
          rw [e1, e2, nI_clamp (show k1 < 2 ^ 31 by omega), nI_clamp (show k2 < 2 ^ 31 by omega)]
          exact eS_e (by omega) (by omega) hR k1 _ (by omega)
        · simp only [if_neg q3]
          exact ⟨by rw [e]; decide, fun q => absurd q (by decide)⟩
  · obtain ⟨er, -⟩ := h.dwn e
    subst er
    simp only [if_neg e, if_pos (ir_0 x)]
    refine ⟨?_, fun q => absurd q (by decide)⟩
    unfold flI
    rw [if_neg e]
    rfl
theorem ly_e {k L : Nat} {kd : Int32} {y y' : Nat → Int32} (h : ∀ j, j < L → y j = y' j) (i : Nat) : ly k kd L y i = ly k kd L y' i := by
  have e : ∀ (S : Int32) (i : Nat), lyV k kd L y S i = lyV k kd L y' S i := by
    intro S i
    unfold lyV
    by_cases c1 : 10 + L ≤ i
    · rw [if_pos c1, if_pos c1]
    · rw [if_neg c1, if_neg c1]
      by_cases c2 : 6 + L ≤ i
      · rw [if_pos c2, if_pos c2]
      · rw [if_neg c2, if_neg c2]
        by_cases c3 : 6 ≤ i
        · rw [if_pos c3, if_pos c3, h (i - 6) (by omega)]
        · rw [if_neg c3, if_neg c3]
  unfold ly lyS
  rw [e, sm_e _ (fun i _ => e 0 i)]
theorem ly_4 (k L : Nat) (kd : Int32) (y : Nat → Int32) : ly k kd L y 4 = kd := by
  unfold ly lyV
  rw [if_neg (by omega), if_neg (by omega), if_neg (by omega), if_neg (by omega), if_pos rfl]
theorem ly_5 (k L : Nat) (kd : Int32) (y : Nat → Int32) : ly k kd L y 5 = nI L := by
  unfold ly lyV
  rw [if_neg (by omega), if_neg (by omega), if_neg (by omega), if_pos rfl]
theorem ly_6 (k L : Nat) (kd : Int32) (y : Nat → Int32) {i : Nat} (hi : i < L) : ly k kd L y (6 + i) = y i := by
  unfold ly lyV
  rw [if_neg (by omega), if_neg (by omega), if_pos (by omega), show 6 + i - 6 = i by omega]
theorem eb_v (By Co : Nat → Int32) (r : Nat) : ∀ t j, ebL By Co r t j = if 40 * r ≤ j ∧ j < 40 * r + t then Co (j - 40 * r) else By j := by
  intro t
  induction t with
  | zero => intro i; rw [if_neg (by omega)]; rfl
  | succ t ih =>
    intro j
    show upd (ebL By Co r t) (40 * r + t) (Co t) j = _
    unfold upd
    by_cases e : j = 40 * r + t
    · rw [if_pos e, if_pos (by omega), e, show 40 * r + t - 40 * r = t by omega]
    · rw [if_neg e, ih j]
      by_cases c1 : 40 * r ≤ j ∧ j < 40 * r + t
      · rw [if_pos c1, if_pos (by omega)]
      · rw [if_neg c1, if_neg (by omega)]
/-- a row is ended -/
theorem rw_end (hn64 : n ≤ 64) (hrn : r < n) (hcb : cb ≤ 40) (hco : ∀ i, i < cb → bv co i = Co i) {kd : Int32} (hkd : kd &&& 255 = kd) (hR : rwR mm K Ln By r a) :
    rwR (cmB mm (n * 64) co 40 r kd cb) (upd K r kd) (upd Ln r (nI cb)) (ebL By Co r cb) (r + 1) a := by
  have hv := cm_v mm co (N := n * 64) (M := 40) (k := r) (len := cb) (kd := kd) (by omega) (by decide) (by omega) hcb hcb hkd
  have hlr : lz (upd Ln r (nI cb)) r = cb := lz_n (by rw [pk_us]) (by omega)
  have hy : ∀ j, j < cb → bv co j = ebL By Co r cb (40 * r + j) := fun j hj => by rw [eb_v, if_pos (by omega), hco j hj, show 40 * r + j - 40 * r = j by omega]
  intro k hk
  by_cases e : k = r
  · subst e
    have hw : ∀ i, i < 64 → bv (cmB mm (n * 64) co 40 k kd cb) (k * 64 + i) = ly k kd cb (bv co) i := fun i hi => by rw [hv, if_pos (by omega), show k * 64 + i - k * 64 = i by omega]
    rw [hlr, pk_us, pk_us]
    refine ⟨by rw [hw 4 (by omega), ly_4], by rw [hw 5 (by omega), ly_5], rfl, hcb, fun i hi => ?_, fun _ i hi => ?_⟩
    · rw [show k * 64 + 6 + i = k * 64 + (6 + i) by omega, hw (6 + i) (by omega), ly_6 _ _ _ _ hi, hy i hi]
    · rw [hw i hi]
      exact ly_e hy i
  · obtain ⟨g1, g2, g3, g4, g5, g6⟩ := hR k (by omega)
    have hls : lz (upd Ln r (nI cb)) k = lz Ln k := by unfold lz; rw [pk_un e]
    have hw : ∀ i, i < 64 → bv (cmB mm (n * 64) co 40 r kd cb) (k * 64 + i) = bv mm (k * 64 + i) := fun i hi => by rw [hv, if_neg (by omega)]
    have hb : ∀ j, j < lz Ln k → ebL By Co r cb (40 * k + j) = By (40 * k + j) := fun j hj => by rw [eb_v, if_neg (by omega)]
    rw [hls, pk_un e, pk_un e]
    refine ⟨by rw [hw 4 (by omega)]; exact g1, by rw [hw 5 (by omega)]; exact g2, g3, g4, fun i hi => ?_, fun ha i hi => ?_⟩
    · rw [show k * 64 + 6 + i = k * 64 + (6 + i) by omega, hw (6 + i) (by omega), hb i hi, ← g5 i hi, show k * 64 + 6 + i = k * 64 + (6 + i) by omega]
    · rw [hw i hi, g6 ha i hi]
      exact ly_e (fun j hj => (hb j hj).symm) i
theorem kd_n {kd : Int32} (h : ¬ inI kd 1 9 = 0) : kd &&& 255 = kd := by
  unfold inI at h
  by_cases c1 : kd < 1
  · rw [if_pos c1] at h; exact absurd rfl h
  · rw [if_neg c1] at h
    by_cases c2 : (9 : Int32) < kd
    · rw [if_pos c2] at h; exact absurd rfl h
    · rw [Int32.lt_iff_toInt_lt] at c1 c2
      have e1 : (1 : Int32).toInt = 1 := by decide
      have e9 : (9 : Int32).toInt = 9 := by decide
      rw [e1] at c1
      rw [e9] at c2
      obtain ⟨m, hm, em⟩ := nI_of (x := kd) (by rw [Int32.lt_iff_toInt_lt, Int32.toInt_zero]; omega)
      rw [em, nI_toInt hm] at c2
      rw [em, pk_andN (by omega) (m := 255) 8 (by decide), Nat.mod_eq_of_lt (by omega)]
theorem rm_iff (hn4 : 4 ≤ n) (hn64 : n ≤ 64) (hr : r ≤ 64) (rel : Int32) : rmI n (nI r) rel = 0 ↔ ¬ (if rel = 0 then nI r < nI (n - 2) else nI r < nI n) := by
  have key : ∀ q : Nat, q ≤ 64 → ((if 0 < nI q - nI r then nI q - nI r else 0) = 0 ↔ ¬ nI r < nI q) := by
    intro q hq
    have t1 : (nI q - nI r).toInt = (q : Int) - r := pk_sub_toInt (by omega) (by omega)
    have t2 : nI r < nI q ↔ r < q := nI_ltI (by omega) (by omega)
    have t3 : (0 : Int32) < nI q - nI r ↔ r < q := by
      rw [Int32.lt_iff_toInt_lt, t1, Int32.toInt_zero]
      omega
    by_cases c : r < q
    · rw [if_pos (t3.mpr c)]
      have hne : ¬ nI q - nI r = 0 := fun z => by
        rw [z, Int32.toInt_zero] at t1
        omega
      exact ⟨fun z => absurd z hne, fun z => absurd (t2.mpr c) z⟩
    · rw [if_neg (fun z => c (t3.mp z))]
      exact ⟨fun _ z => c (t2.mp z), fun _ => rfl⟩
  unfold rmI
  by_cases c : rel = 0
  · rw [if_pos c, if_pos c, show (nI n - 2 : Int32) = nI (n - 2) from pk_sub (a := n) (b := 2) (by omega)]
    exact key (n - 2) (by omega)
  · rw [if_neg c, if_neg c]
    exact key n hn64
theorem sim_end (h : Rel n c0 c1 mm co D K Ln By Co r rm a cb tt dn kp) (kind rel : Int32) :
    nI (cdEn dn kind) = enRT dn kind ∧ (cdEn dn kind = 0 → enI n r dn kind rel = enRI n dn rm kind rel) ∧ enC n r cb dn kind rel = enRC n dn rm cb kind rel ∧
    Rel n c0 c1 (enM n mm co (n * 64) r cb dn kind rel) co D (enRK n dn rm K kind rel) (enRL n dn rm cb Ln kind rel) (enRB n dn rm cb By Co kind rel) Co (enR n r dn kind rel) (enRR n dn rm kind rel) a (enC n r cb dn kind rel) tt dn kp := by
  obtain ⟨⟨hn4, hn64, hB⟩, h0, h1, ⟨hcb, hco⟩, ⟨har, hrn, htt, hkp⟩, hu, hd⟩ := id h
  unfold cdEn enRT enI enRI enC enRC enM enRK enRL enRB enR enRR
  rw [inI_ik]
  by_cases q1 : inI kind 1 9 = 0
  · simp only [if_pos q1]
    refine ⟨?_, fun q => absurd q (by decide), by trivial, h⟩
    unfold flI
    rfl
  · simp only [if_neg q1]
    by_cases e : dn = 0
    · have f0 : flR 0 dn 0 = 0 := fl_iff.mpr ⟨rfl, e, rfl⟩
      simp only [if_pos e, if_pos f0]
      obtain ⟨er, hR⟩ := hu e
      subst er
      have i1 := rm_iff (n := n) (r := rm) hn4 hn64 (by omega) rel
      refine ⟨by rw [e]; decide, ?_⟩
      by_cases c : rel = 0
      · simp only [if_pos c] at i1 ⊢
        by_cases d : nI rm < nI (n - 2)
        · have d' : ¬ rmI n (nI rm) rel = 0 := fun q => (i1.mp q) d
          have d2 := (nI_ltI (a := rm) (b := n - 2) (by omega) (by omega)).mp d
          simp only [if_pos d, if_neg d']
          exact ⟨fun _ => rfl, by trivial, ⟨hn4, hn64, hB⟩, h0, h1, ⟨by omega, fun i hi => by omega⟩, ⟨by omega, by omega, htt, hkp⟩, fun _ => ⟨rfl, rw_end hn64 (by omega) hcb hco (kd_n q1) hR⟩, fun z => absurd e z⟩
        · have d' : rmI n (nI rm) rel = 0 := i1.mpr d
          simp only [if_neg d, if_pos d']
          exact ⟨fun _ => by trivial, by trivial, h⟩
      · simp only [if_neg c] at i1 ⊢
        by_cases d : nI rm < nI n
        · have d' : ¬ rmI n (nI rm) rel = 0 := fun q => (i1.mp q) d
          have d2 := (nI_ltI (a := rm) (b := n) (by omega) (by omega)).mp d
          simp only [if_pos d, if_neg d']
          exact ⟨fun _ => rfl, by trivial, ⟨hn4, hn64, hB⟩, h0, h1, ⟨by omega, fun i hi => by omega⟩, ⟨by omega, by omega, htt, hkp⟩, fun _ => ⟨rfl, rw_end hn64 (by omega) hcb hco (kd_n q1) hR⟩, fun z => absurd e z⟩
        · have d' : rmI n (nI rm) rel = 0 := i1.mpr d
          simp only [if_neg d, if_pos d']
          exact ⟨fun _ => by trivial, by trivial, h⟩
    · have f0 : ¬ flR 0 dn 0 = 0 := fun q => e (fl_iff.mp q).2.1
      simp only [if_neg e, if_neg f0]
      refine ⟨?_, fun q => absurd q (by decide), by trivial, h⟩
      unfold flI
      rw [if_pos rfl, if_neg e]
      rfl
end PURE3
