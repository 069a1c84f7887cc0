section PURE4
variable {n : Nat} {c0 c1 mm co D K Ln By Co : Nat → Int32} {r rm a cb tt : Nat} {dn kp : Int32}
/-- one write of a sector -/
theorem hB_wd {LA : Nat → Int32} {b t : Nat} (hB : hB_ D) (ht : t ≤ 64) (hL : ∀ j, j < 64 → ∃ x, x < 256 ∧ LA j = nI x) : hB_ (wdL D LA b t) := by
  rw [hB_i] at hB ⊢
  intro q hq
  rw [wd_v]
  by_cases c : b ≤ q ∧ q < b + t
  · rw [if_pos c]; exact hL _ (by omega)
  · rw [if_neg c]; exact hB q hq
theorem wd_own {c LA : Nat → Int32} {u k t : Nat} (hn64 : n ≤ 64) (hk : k < n) (ht : t ≤ 64) (hL : ∀ j, j < 64 → bv mm (k * 64 + j) = LA j) (h : ∀ j, j < n * 64 → bv c j = D (4096 * u + j)) :
    ∀ j, j < n * 64 → bv (tkB c (n * 64) mm (k * 64) t) j = wdL D LA (4096 * u + 64 * k) t (4096 * u + j) := by
  intro j hj
  rw [bv_tk c mm (by omega) t (by omega), wd_v]
  by_cases q : k * 64 ≤ j ∧ j < k * 64 + t
  · rw [if_pos q, if_pos (by omega), show 4096 * u + j - (4096 * u + 64 * k) = j - k * 64 by omega, ← hL _ (by omega), show k * 64 + (j - k * 64) = j by omega]
  · rw [if_neg q, if_neg (by omega), h j hj]
theorem wd_oth {c LA : Nat → Int32} {u v k t : Nat} (hn64 : n ≤ 64) (hk : k < n) (ht : t ≤ 64) (huv : u ≠ v) (hu : u ≤ 1) (hv : v ≤ 1) (h : ∀ j, j < n * 64 → bv c j = D (4096 * v + j)) :
    ∀ j, j < n * 64 → bv c j = wdL D LA (4096 * u + 64 * k) t (4096 * v + j) := by
  intro j hj
  rw [wd_v, if_neg (by omega), h j hj]
theorem wrRD_e (tt : Nat) (LA : Nat → Int32) (u k : Nat) : wrRD kp tt D LA u k = wdL D LA (4096 * u + 64 * k) (wtN kp tt) := by
  unfold wrRD wtN
  by_cases c : kp = 0
  · rw [if_pos c, if_pos c]
  · rw [if_neg c, if_neg c]
theorem ww_i (x : Int32) : (wwI x = 0 ↔ x = 0) ∧ (wrRI x = 0 ↔ x = 0) := by
  unfold wwI wrRI
  by_cases c : x = 0
  · simp [c]
  · by_cases c2 : x ≤ 0 <;> simp [c, c2]
theorem wc_e {x : Int32} (h : x = -1 ∨ 0 ≤ x) (hx : ¬ x = 0) : wcI x = wrRK x ∧ (wrRK x = -1 ∨ 0 ≤ wrRK x) := by
  unfold wcI wrRK
  rw [if_neg hx, if_neg hx]
  by_cases c : x ≤ 0
  · rw [if_pos c, if_pos c]
    have hx1 : x = -1 := by
      rcases h with q | q
      · exact q
      · exfalso
        rw [Int32.le_iff_toInt_le, Int32.toInt_zero] at c q
        exact hx (Int32.toInt_inj.mp (by rw [Int32.toInt_zero]; omega))
    exact ⟨hx1, Or.inl rfl⟩
  · rw [if_neg c, if_neg c]
    refine ⟨rfl, Or.inr ?_⟩
    have c' : ¬ x < 0 := fun q => c (by rw [Int32.lt_iff_toInt_lt] at q; rw [Int32.le_iff_toInt_le]; omega)
    obtain ⟨j, hj, e⟩ := nI_of c'
    rw [e] at c hx ⊢
    have j0 : 0 < j := by
      rcases Nat.eq_zero_or_pos j with z | z
      · subst z; exact absurd rfl hx
      · exact z
    rw [show (nI j - 1 : Int32) = nI (j - 1) from pk_sub (a := j) (b := 1) (by omega)]
    exact nI_pos' (by omega)
theorem wt_le (x : Int32) (htt : tt ≤ 63) : wtN x tt ≤ 64 := by
  unfold wtN
  split <;> omega
/-- the two syncs, from the i-th row on -/
def yOk (n : Nat) (x0 x1 E : Nat → Int32) (ct kp w w' : Int32) : Prop := (∀ j, j < n * 64 → bv x0 j = E (4096 * 0 + j)) ∧ (∀ j, j < n * 64 → bv x1 j = E (4096 * 1 + j)) ∧ ct = kp ∧ w = w' ∧ hB_ E ∧ (kp = -1 ∨ 0 ≤ kp)
theorem sy_e {La : Nat → Int32} {sm wr : Int32} (hn64 : n ≤ 64) (hrn : r ≤ n) (htt : tt ≤ 63) (hR : rwR mm K Ln By r a) : ∀ k i, a + i + k ≤ r →
    yOk n (ySt (n * 64) mm tt a c0 c1 kp wr i).1 (ySt (n * 64) mm tt a c0 c1 kp wr i).2.1 (syS K Ln By tt a D La sm kp wr i).1 (ySt (n * 64) mm tt a c0 c1 kp wr i).2.2.1 (syS K Ln By tt a D La sm kp wr i).2.2.2.1 (ySt (n * 64) mm tt a c0 c1 kp wr i).2.2.2 (syS K Ln By tt a D La sm kp wr i).2.2.2.2 →
    (yF (n * 64) mm tt a c0 c1 kp wr k i).1 = (syF K Ln By tt a D La sm kp wr k i).1 ∧ (yF (n * 64) mm tt a c0 c1 kp wr k i).1 ≤ 1 ∧
    yOk n (yF (n * 64) mm tt a c0 c1 kp wr k i).2.1 (yF (n * 64) mm tt a c0 c1 kp wr k i).2.2.1 (syF K Ln By tt a D La sm kp wr k i).2.1 (yF (n * 64) mm tt a c0 c1 kp wr k i).2.2.2.1 (syF K Ln By tt a D La sm kp wr k i).2.2.2.2.1 (yF (n * 64) mm tt a c0 c1 kp wr k i).2.2.2.2 (syF K Ln By tt a D La sm kp wr k i).2.2.2.2.2 := by
  intro k
  induction k with
  | zero => intro i _ h; exact ⟨rfl, Nat.zero_le _, h⟩
  | succ k ih =>
    intro i hi h
    have hS : ySt (n * 64) mm tt a c0 c1 kp wr (i + 1) = (tkB (ySt (n * 64) mm tt a c0 c1 kp wr i).1 (n * 64) mm ((a + i) * 64) (wtN (ySt (n * 64) mm tt a c0 c1 kp wr i).2.2.1 tt), tkB (ySt (n * 64) mm tt a c0 c1 kp wr i).2.1 (n * 64) mm ((a + i) * 64) (wtN (wcI (ySt (n * 64) mm tt a c0 c1 kp wr i).2.2.1) tt), wcI (wcI (ySt (n * 64) mm tt a c0 c1 kp wr i).2.2.1), (ySt (n * 64) mm tt a c0 c1 kp wr i).2.2.2 + 1 + 1) := rfl
    have hM : syS K Ln By tt a D La sm kp wr (i + 1) = (wrRD (wrRK (syS K Ln By tt a D La sm kp wr i).2.2.2.1) tt (wrRD (syS K Ln By tt a D La sm kp wr i).2.2.2.1 tt (syS K Ln By tt a D La sm kp wr i).1 (l4L K Ln By (syS K Ln By tt a D La sm kp wr i).2.1 (a + i)) 0 (a + i)) (l4L K Ln By (syS K Ln By tt a D La sm kp wr i).2.1 (a + i)) 1 (a + i), l4L K Ln By (syS K Ln By tt a D La sm kp wr i).2.1 (a + i), smL (l3L K Ln By (syS K Ln By tt a D La sm kp wr i).2.1 (a + i)) (6 + lz Ln (a + i)), wrRK (wrRK (syS K Ln By tt a D La sm kp wr i).2.2.2.1), (syS K Ln By tt a D La sm kp wr i).2.2.2.2 + 1 + 1) := rfl
    have gC : yF (n * 64) mm tt a c0 c1 kp wr (k + 1) i = if wwI (ySt (n * 64) mm tt a c0 c1 kp wr i).2.2.1 = 0 then (1, tkB (ySt (n * 64) mm tt a c0 c1 kp wr i).1 (n * 64) mm ((a + i) * 64) (wtN (ySt (n * 64) mm tt a c0 c1 kp wr i).2.2.1 tt), (ySt (n * 64) mm tt a c0 c1 kp wr i).2.1, -1, (ySt (n * 64) mm tt a c0 c1 kp wr i).2.2.2 + 1) else if wwI (wcI (ySt (n * 64) mm tt a c0 c1 kp wr i).2.2.1) = 0 then (1, tkB (ySt (n * 64) mm tt a c0 c1 kp wr i).1 (n * 64) mm ((a + i) * 64) (wtN (ySt (n * 64) mm tt a c0 c1 kp wr i).2.2.1 tt), tkB (ySt (n * 64) mm tt a c0 c1 kp wr i).2.1 (n * 64) mm ((a + i) * 64) (wtN (wcI (ySt (n * 64) mm tt a c0 c1 kp wr i).2.2.1) tt), -1, (ySt (n * 64) mm tt a c0 c1 kp wr i).2.2.2 + 1 + 1) else yF (n * 64) mm tt a c0 c1 kp wr k (i + 1) := rfl
    have gM : syF K Ln By tt a D La sm kp wr (k + 1) i = if wrRI (syS K Ln By tt a D La sm kp wr i).2.2.2.1 = 0 then (1, wrRD (syS K Ln By tt a D La sm kp wr i).2.2.2.1 tt (syS K Ln By tt a D La sm kp wr i).1 (l4L K Ln By (syS K Ln By tt a D La sm kp wr i).2.1 (a + i)) 0 (a + i), l4L K Ln By (syS K Ln By tt a D La sm kp wr i).2.1 (a + i), smL (l3L K Ln By (syS K Ln By tt a D La sm kp wr i).2.1 (a + i)) (6 + lz Ln (a + i)), -1, (syS K Ln By tt a D La sm kp wr i).2.2.2.2 + 1) else if wrRI (wrRK (syS K Ln By tt a D La sm kp wr i).2.2.2.1) = 0 then (1, wrRD (wrRK (syS K Ln By tt a D La sm kp wr i).2.2.2.1) tt (wrRD (syS K Ln By tt a D La sm kp wr i).2.2.2.1 tt (syS K Ln By tt a D La sm kp wr i).1 (l4L K Ln By (syS K Ln By tt a D La sm kp wr i).2.1 (a + i)) 0 (a + i)) (l4L K Ln By (syS K Ln By tt a D La sm kp wr i).2.1 (a + i)) 1 (a + i), l4L K Ln By (syS K Ln By tt a D La sm kp wr i).2.1 (a + i), smL (l3L K Ln By (syS K Ln By tt a D La sm kp wr i).2.1 (a + i)) (6 + lz Ln (a + i)), -1, (syS K Ln By tt a D La sm kp wr i).2.2.2.2 + 1 + 1) else syF K Ln By tt a D La sm kp wr k (i + 1) := rfl
    have ihh := ih (i + 1) (by omega)
    rw [hS, hM] at ihh
    rw [gC, gM]
    generalize hx : ySt (n * 64) mm tt a c0 c1 kp wr i = X at h ihh ⊢
    generalize hy : syS K Ln By tt a D La sm kp wr i = Y at h ihh ⊢
    obtain ⟨x0, x1, xc, xw⟩ := X
    obtain ⟨yD, yL, ys, yk, yw⟩ := Y
    obtain ⟨b0, b1, bc, bw, bB, bk⟩ := h
    dsimp only at b0 b1 bc bw bB bk ihh ⊢
    subst bc
    subst bw
    obtain ⟨g1, g2, g3, g4, g5, g6⟩ := hR (a + i) (by omega)
    have hLA : ∀ j, j < 64 → bv mm ((a + i) * 64 + j) = l4L K Ln By yL (a + i) j := fun j hj => by rw [g6 (by omega) j hj, l4_v g3 hj]
    have hLB : ∀ j, j < 64 → ∃ x, x < 256 ∧ l4L K Ln By yL (a + i) j = nI x := fun j hj => by rw [← hLA j hj]; exact bv_n mm _
    rw [wrRD_e, wrRD_e] at ihh
    rw [wrRD_e, wrRD_e]
    have t1 := wt_le (tt := tt) xc htt
    have m1 : hB_ (wdL yD (l4L K Ln By yL (a + i)) (4096 * 0 + 64 * (a + i)) (wtN xc tt)) := hB_wd bB t1 hLB
    have m2 := wd_own (u := 0) hn64 (show a + i < n by omega) t1 hLA b0
    have m3 := wd_oth (u := 0) (v := 1) (LA := l4L K Ln By yL (a + i)) hn64 (show a + i < n by omega) t1 (by omega) (by omega) (by omega) b1
    obtain ⟨w1, w2⟩ := ww_i xc
    by_cases q : xc = 0
    · rw [if_pos (w1.mpr q), if_pos (w2.mpr q)]
      exact ⟨rfl, Nat.le_refl _, m2, m3, rfl, rfl, m1, Or.inl rfl⟩
    · rw [if_neg (fun z => q (w1.mp z)), if_neg (fun z => q (w2.mp z))]
      obtain ⟨v1, v2⟩ := wc_e bk q
      rw [v1] at ihh ⊢
      have t2 := wt_le (tt := tt) (wrRK xc) htt
      have m4 : hB_ (wdL (wdL yD (l4L K Ln By yL (a + i)) (4096 * 0 + 64 * (a + i)) (wtN xc tt)) (l4L K Ln By yL (a + i)) (4096 * 1 + 64 * (a + i)) (wtN (wrRK xc) tt)) := hB_wd m1 t2 hLB
      have m5 := wd_own (u := 1) hn64 (show a + i < n by omega) t2 hLA m3
      have m6 := wd_oth (u := 1) (v := 0) (LA := l4L K Ln By yL (a + i)) hn64 (show a + i < n by omega) t2 (by omega) (by omega) (by omega) m2
      obtain ⟨w3, w4⟩ := ww_i (wrRK xc)
      by_cases q2 : wrRK xc = 0
      · rw [if_pos (w3.mpr q2), if_pos (w4.mpr q2)]
        exact ⟨rfl, Nat.le_refl _, m6, m5, rfl, rfl, m4, Or.inl rfl⟩
      · rw [if_neg (fun z => q2 (w3.mp z)), if_neg (fun z => q2 (w4.mp z))]
        obtain ⟨v3, v4⟩ := wc_e v2 q2
        exact ihh ⟨m6, m5, v3, rfl, m4, v4⟩
theorem sim_sync (h : Rel n c0 c1 mm co D K Ln By Co r rm a cb tt dn kp) (La : Nat → Int32) (sm wr : Int32) :
    (yT (n * 64) mm tt a r c0 c1 kp wr dn).1 = (syT K Ln By tt a rm D La sm kp wr dn).1 ∧ (yT (n * 64) mm tt a r c0 c1 kp wr dn).2.2.2.1 = (syT K Ln By tt a rm D La sm kp wr dn).2.2.2.2.1 ∧ (yT (n * 64) mm tt a r c0 c1 kp wr dn).2.2.2.2 = (syT K Ln By tt a rm D La sm kp wr dn).2.2.2.2.2 ∧
    (dn = 0 → rm = r ∧ (yT (n * 64) mm tt a r c0 c1 kp wr dn).1 ≤ 1) ∧ (¬ dn = 0 → (yT (n * 64) mm tt a r c0 c1 kp wr dn).1 = 2) ∧
    Rel n (yT (n * 64) mm tt a r c0 c1 kp wr dn).2.1 (yT (n * 64) mm tt a r c0 c1 kp wr dn).2.2.1 mm co (syT K Ln By tt a rm D La sm kp wr dn).2.1 K Ln By Co (if (yT (n * 64) mm tt a r c0 c1 kp wr dn).1 = 1 then a else r) (if (yT (n * 64) mm tt a r c0 c1 kp wr dn).1 = 1 then 0 else rm) (if (yT (n * 64) mm tt a r c0 c1 kp wr dn).1 = 0 then r else a) (if (yT (n * 64) mm tt a r c0 c1 kp wr dn).1 = 1 then 0 else cb) tt (if (yT (n * 64) mm tt a r c0 c1 kp wr dn).1 = 1 then 1 else dn) (syT K Ln By tt a rm D La sm kp wr dn).2.2.2.2.1 := by
  obtain ⟨⟨hn4, hn64, hB⟩, h0, h1, ⟨hcb, hco⟩, ⟨har, hrn, htt, hkp⟩, hu, hd⟩ := id h
  unfold yT syT
  by_cases e : dn = 0
  · have f0 : flR dn 0 0 = 0 := fl_iff.mpr ⟨e, rfl, rfl⟩
    simp only [if_pos e, if_pos f0]
    obtain ⟨er, hR⟩ := hu e
    subst er
    obtain ⟨k1, k2, b0, b1, bc, bw, bB, bk⟩ := sy_e (n := n) (c0 := c0) (c1 := c1) (mm := mm) (D := D) (K := K) (Ln := Ln) (By := By) (r := rm) (a := a) (tt := tt) (kp := kp) (La := La) (sm := sm) (wr := wr) hn64 hrn htt hR (rm - a) 0 (by omega) ⟨h0, h1, rfl, rfl, hB, hkp⟩
    generalize yF (n * 64) mm tt a c0 c1 kp wr (rm - a) 0 = X at k1 k2 b0 b1 bc bw ⊢
    generalize syF K Ln By tt a D La sm kp wr (rm - a) 0 = Y at k1 b0 b1 bc bw bB bk ⊢
    refine ⟨k1, bc, bw, fun _ => ⟨rfl, k2⟩, fun z => absurd e z, ⟨hn4, hn64, bB⟩, b0, b1, ?_⟩
    by_cases q : X.1 = 1
    · have q0 : ¬ X.1 = 0 := by omega
      simp only [if_pos q, if_neg q0]
      exact ⟨⟨by omega, fun i hi => by omega⟩, ⟨Nat.le_refl _, by omega, htt, bk⟩, fun z => absurd z (by decide), fun _ => ⟨by trivial, by trivial⟩⟩
    · have q0 : X.1 = 0 := by omega
      simp only [if_neg q, if_pos q0]
      exact ⟨⟨hcb, hco⟩, ⟨Nat.le_refl _, hrn, htt, bk⟩, fun _ => ⟨by trivial, fun k hk => ⟨(hR k hk).1, (hR k hk).2.1, (hR k hk).2.2.1, (hR k hk).2.2.2.1, (hR k hk).2.2.2.2.1, fun z => by omega⟩⟩, fun z => absurd e z⟩
  · have f0 : ¬ flR dn 0 0 = 0 := fun q => e (fl_iff.mp q).1
    simp only [if_neg e, if_neg f0]
    exact ⟨by trivial, by trivial, by trivial, fun z => absurd z e, fun _ => by trivial, h⟩
theorem fd_v (By D : Nat → Int32) (k b : Nat) : ∀ t j, fdL By D k b t j = if 40 * k ≤ j ∧ j < 40 * k + t then D (b + 6 + (j - 40 * k)) else By j := by
  intro t
  induction t with
  | zero => intro i; rw [if_neg (by omega)]; rfl
  | succ t ih =>
    intro j
    show upd (fdL By D k b t) (40 * k + t) (D (b + 6 + t)) j = _
    unfold upd
    by_cases e : j = 40 * k + t
    · rw [if_pos e, if_pos (by omega), e, show 40 * k + t - 40 * k = t by omega]
    · rw [if_neg e, ih j]
      by_cases q : 40 * k ≤ j ∧ j < 40 * k + t
      · rw [if_pos q, if_pos (by omega)]
      · rw [if_neg q, if_neg (by omega)]
/-- a row is found: sector i of g is that of copy w -/
theorem rw_find {g : Nat → Int32} {i w : Nat} (hn64 : n ≤ 64) (hi : i < n) (hw : w ≤ 1) (hB : hB_ D) (hg : ∀ j, j < 64 → bv g (i * 64 + j) = D (4096 * w + 64 * i + j)) (hl : lz D (4096 * w + 64 * i + 5) ≤ 40) (hR : rwR mm K Ln By i i) :
    rwR (tkB mm (n * 64) g (i * 64) 64) (upd K i (D (4096 * w + 64 * i + 4))) (upd Ln i (D (4096 * w + 64 * i + 5))) (fdL By D i (4096 * w + 64 * i) (lz D (4096 * w + 64 * i + 5))) (i + 1) (i + 1) := by
  have hv := bv_tk mm g (N := n * 64) (a := i * 64) (by omega) 64 (by omega)
  intro k hk
  by_cases e : k = i
  · subst e
    have hls : lz (upd Ln k (D (4096 * w + 64 * k + 5))) k = lz D (4096 * w + 64 * k + 5) := by unfold lz; rw [pk_us]
    rw [hls, pk_us, pk_us]
    refine ⟨by rw [hv, if_pos (by omega), hg 4 (by omega)], by rw [hv, if_pos (by omega), hg 5 (by omega)], (hB _ (by omega)).1, hl, fun j hj => ?_, fun z => by omega⟩
    rw [hv, if_pos (by omega), show k * 64 + 6 + j = k * 64 + (6 + j) by omega, hg (6 + j) (by omega), fd_v, if_pos (by omega)]
    congr 1
    omega
  · obtain ⟨g1, g2, g3, g4, g5, -⟩ := hR k (by omega)
    have hls : lz (upd Ln i (D (4096 * w + 64 * i + 5))) k = lz Ln k := by unfold lz; rw [pk_un e]
    rw [hls, pk_un e, pk_un e]
    refine ⟨by rw [hv, if_neg (by omega)]; exact g1, by rw [hv, if_neg (by omega)]; exact g2, g3, g4, fun j hj => ?_, fun z => by omega⟩
    rw [hv, if_neg (by omega), fd_v, if_neg (by omega)]
    exact g5 j hj
def zOk (n : Nat) (x : (Nat → Int32) × (Nat → Int32) × (Nat → Int32) × Int32) (y : (Nat → Int32) × (Nat → Int32) × (Nat → Int32) × (Nat → Int32) × Int32 × Int32) (i : Nat) : Prop := (∀ j, j < n * 64 → bv x.1 j = y.1 (4096 * 0 + j)) ∧ (∀ j, j < n * 64 → bv x.2.1 j = y.1 (4096 * 1 + j)) ∧ x.2.2.2 = y.2.2.2.2.2 ∧ hB_ y.1 ∧ rwR x.2.2.1 y.2.1 y.2.2.1 y.2.2.2.1 i i
theorem st_step {x0 x1 xm yD yK yL yB : Nat → Int32} {xd ye : Int32} {i : Nat} (hn64 : n ≤ 64) (hi : i < n) (h : zOk n (x0, x1, xm, xd) (yD, yK, yL, yB, ye, xd) i) (hq : ¬ (rtR yD 0 i = 0 ∧ rtR yD 1 i = 0)) :
    zOk n (fr0 x0 x1 (n * 64) i, fr1 x0 x1 (n * 64) i, frm x0 x1 xm (n * 64) i, frd x0 x1 (n * 64) i xd) (zD yD i, zK yD yK i, zL yD yL i, zB yD yB i, zE yD i ye, zM yD i xd) (i + 1) := by
  obtain ⟨b0, b1, -, bB, bR⟩ := h
  dsimp only at b0 b1 bB bR
  have e0 := rt_e (f := x0) (D := yD) (k := i) (u := 0) hn64 hi (by omega) bB b0
  have e1 := rt_e (f := x1) (D := yD) (k := i) (u := 1) hn64 hi (by omega) bB b1
  unfold fr0 fr1 frm frd zD zK zL zB zM zOk
  rw [e0, e1]
  by_cases q0 : rtR yD 0 i = 0
  · have q1 : ¬ rtR yD 1 i = 0 := fun z => hq ⟨q0, z⟩
    simp only [if_pos q0, if_neg q1]
    have hv := bv_tk x0 x1 (N := n * 64) (a := i * 64) (by omega) 64 (by omega)
    have hm := md_v yD (a := 4096 * 0 + 64 * i) (b := 4096 * (1 - 0) + 64 * i) (by omega) 64 (by omega)
    refine ⟨fun j hj => ?_, fun j hj => ?_, by trivial, hB_md bB (by omega) 64 (by omega), ?_⟩
    · rw [hv, hm]
      by_cases z : i * 64 ≤ j ∧ j < i * 64 + 64
      · rw [if_pos z, if_pos (by omega), b1 j hj]
        congr 1
        omega
      · rw [if_neg z, if_neg (by omega), b0 j hj]
    · rw [hm, if_neg (by omega), b1 j hj]
    · refine rw_find (w := 1) hn64 hi (by omega) bB (fun j hj => ?_) (rtR_le q1 (bB _ (by omega)).2) bR
      rw [hv, if_pos (by omega), b1 _ (by omega)]
      congr 1
      omega
  · simp only [if_neg q0]
    by_cases q1 : rtR yD 1 i = 0
    · simp only [if_pos q1]
      have hv := bv_tk x1 x0 (N := n * 64) (a := i * 64) (by omega) 64 (by omega)
      have hm := md_v yD (a := 4096 * 1 + 64 * i) (b := 4096 * (1 - 1) + 64 * i) (by omega) 64 (by omega)
      refine ⟨fun j hj => ?_, fun j hj => ?_, by trivial, hB_md bB (by omega) 64 (by omega), ?_⟩
      · rw [hm, if_neg (by omega), b0 j hj]
      · rw [hv, hm]
        by_cases z : i * 64 ≤ j ∧ j < i * 64 + 64
        · rw [if_pos z, if_pos (by omega), b0 j hj]
          congr 1
          omega
        · rw [if_neg z, if_neg (by omega), b1 j hj]
      · refine rw_find (w := 0) hn64 hi (by omega) bB (fun j hj => ?_) (rtR_le q0 (bB _ (by omega)).2) bR
        rw [b0 _ (by omega)]
        congr 1
        omega
    · simp only [if_neg q1]
      refine ⟨b0, b1, by trivial, bB, ?_⟩
      refine rw_find (w := 0) hn64 hi (by omega) bB (fun j hj => ?_) (rtR_le q0 (bB _ (by omega)).2) bR
      rw [b0 _ (by omega)]
      congr 1
      omega
theorem st_e {sm : Int32} (hn64 : n ≤ 64) : ∀ k i, i + k = n → zOk n (stS (n * 64) c0 c1 mm i) (zS D K Ln By sm i) i →
    stR (n * 64) c0 c1 mm k i = (zF D K Ln By sm k i).1 ∧ (zF D K Ln By sm k i).1 ≤ n ∧ zOk n (stS (n * 64) c0 c1 mm (zF D K Ln By sm k i).1) (zS D K Ln By sm (zF D K Ln By sm k i).1) (zF D K Ln By sm k i).1 := by
  intro k
  induction k with
  | zero => intro i hi h; exact ⟨rfl, by show i ≤ n; omega, h⟩
  | succ k ih =>
    intro i hi h
    have gC : stR (n * 64) c0 c1 mm (k + 1) i = if frI (stS (n * 64) c0 c1 mm i).1 (stS (n * 64) c0 c1 mm i).2.1 (n * 64) i = 0 then i else stR (n * 64) c0 c1 mm k (i + 1) := rfl
    have gM : zF D K Ln By sm (k + 1) i = if rtR (zS D K Ln By sm i).1 0 i = 0 then (if rtR (zS D K Ln By sm i).1 1 i = 0 then (i, zE (zS D K Ln By sm i).1 i (zS D K Ln By sm i).2.2.2.2.1) else zF D K Ln By sm k (i + 1)) else zF D K Ln By sm k (i + 1) := rfl
    have e0 := rt_e (f := (stS (n * 64) c0 c1 mm i).1) (D := (zS D K Ln By sm i).1) (k := i) (u := 0) hn64 (by omega) (by omega) h.2.2.2.1 h.1
    have e1 := rt_e (f := (stS (n * 64) c0 c1 mm i).2.1) (D := (zS D K Ln By sm i).1) (k := i) (u := 1) hn64 (by omega) (by omega) h.2.2.2.1 h.2.1
    have hfr : frI (stS (n * 64) c0 c1 mm i).1 (stS (n * 64) c0 c1 mm i).2.1 (n * 64) i = 0 ↔ rtR (zS D K Ln By sm i).1 0 i = 0 ∧ rtR (zS D K Ln By sm i).1 1 i = 0 := by
      unfold frI
      rw [e0, e1]
      by_cases q0 : rtR (zS D K Ln By sm i).1 0 i = 0
      · by_cases q1 : rtR (zS D K Ln By sm i).1 1 i = 0 <;> simp [q0, q1]
      · by_cases q1 : rtR (zS D K Ln By sm i).1 1 i = 0 <;> simp [q0, q1]
    by_cases q : rtR (zS D K Ln By sm i).1 0 i = 0 ∧ rtR (zS D K Ln By sm i).1 1 i = 0
    · rw [gC, gM, if_pos (hfr.mpr q), if_pos q.1, if_pos q.2]
      exact ⟨rfl, by show i ≤ n; omega, h⟩
    · have hstep : zOk n (stS (n * 64) c0 c1 mm (i + 1)) (zS D K Ln By sm (i + 1)) (i + 1) := by
        obtain ⟨X, hX⟩ : ∃ X, X = stS (n * 64) c0 c1 mm i := ⟨_, rfl⟩
        obtain ⟨Y, hY⟩ : ∃ Y, Y = zS D K Ln By sm i := ⟨_, rfl⟩
        have hS : stS (n * 64) c0 c1 mm (i + 1) = (fr0 X.1 X.2.1 (n * 64) i, fr1 X.1 X.2.1 (n * 64) i, frm X.1 X.2.1 X.2.2.1 (n * 64) i, frd X.1 X.2.1 (n * 64) i X.2.2.2) := by rw [hX]; rfl
        have hM : zS D K Ln By sm (i + 1) = (zD Y.1 i, zK Y.1 Y.2.1 i, zL Y.1 Y.2.2.1 i, zB Y.1 Y.2.2.2.1 i, zE Y.1 i Y.2.2.2.2.1, zM Y.1 i Y.2.2.2.2.2) := by rw [hY]; rfl
        rw [← hX, ← hY] at h
        rw [← hY] at q
        rw [hS, hM]
        obtain ⟨x0, x1, xm, xd⟩ := X
        obtain ⟨yD, yK, yL, yB, ye, yd⟩ := Y
        obtain ⟨b0, b1, bd, bB, bR⟩ := h
        dsimp only at bd
        subst bd
        exact st_step hn64 (by omega) ⟨b0, b1, rfl, bB, bR⟩ q
      have hr := ih (i + 1) (by omega) hstep
      have gM' : zF D K Ln By sm (k + 1) i = zF D K Ln By sm k (i + 1) := by
        rw [gM]
        by_cases q0 : rtR (zS D K Ln By sm i).1 0 i = 0
        · rw [if_pos q0, if_neg (fun z => q ⟨q0, z⟩)]
        · rw [if_neg q0]
      rw [gC, if_neg (fun z => q (hfr.mp z)), gM']
      exact hr
theorem sim_start (h : Rel n c0 c1 mm co D K Ln By Co r rm a cb tt dn kp) (sm : Int32) :
    stR (n * 64) c0 c1 mm n 0 = (zF D K Ln By sm n 0).1 ∧ (stS (n * 64) c0 c1 mm (zF D K Ln By sm n 0).1).2.2.2 = (zS D K Ln By sm (zF D K Ln By sm n 0).1).2.2.2.2.2 ∧
    Rel n (stS (n * 64) c0 c1 mm (zF D K Ln By sm n 0).1).1 (stS (n * 64) c0 c1 mm (zF D K Ln By sm n 0).1).2.1 (stS (n * 64) c0 c1 mm (zF D K Ln By sm n 0).1).2.2.1 co (zS D K Ln By sm (zF D K Ln By sm n 0).1).1 (zS D K Ln By sm (zF D K Ln By sm n 0).1).2.1 (zS D K Ln By sm (zF D K Ln By sm n 0).1).2.2.1 (zS D K Ln By sm (zF D K Ln By sm n 0).1).2.2.2.1 Co (zF D K Ln By sm n 0).1 (zF D K Ln By sm n 0).1 (zF D K Ln By sm n 0).1 cb tt 0 kp := by
  obtain ⟨⟨hn4, hn64, hB⟩, h0, h1, h3, ⟨har, hrn, htt, hkp⟩, -⟩ := h
  obtain ⟨k1, k2, b0, b1, bd, bB, bR⟩ := st_e (n := n) (c0 := c0) (c1 := c1) (mm := mm) (D := D) (K := K) (Ln := Ln) (By := By) (sm := sm) hn64 n 0 (by omega) ⟨h0, h1, rfl, hB, fun k hk => by omega⟩
  exact ⟨k1, bd, ⟨hn4, hn64, bB⟩, b0, b1, h3, ⟨Nat.le_refl _, k2, htt, hkp⟩, fun _ => ⟨rfl, bR⟩, fun z => absurd rfl z⟩
end PURE4
