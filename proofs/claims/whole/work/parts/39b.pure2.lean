/-! a row as it lies in its sector -/
def lyV (k : Nat) (kd : Int32) (L : Nat) (y : Nat → Int32) (S : Int32) (i : Nat) : Int32 := if 10 + L ≤ i then 0 else if 6 + L ≤ i then (S >>> (nI (24 - 8 * (i - (6 + L))) &&& 31)) &&& 255 else if 6 ≤ i then y (i - 6) else if i = 5 then nI L else if i = 4 then kd else (nI k >>> (nI (24 - 8 * i) &&& 31)) &&& 255
def lyS (k : Nat) (kd : Int32) (L : Nat) (y : Nat → Int32) : Int32 := smL (lyV k kd L y 0) (6 + L)
def ly (k : Nat) (kd : Int32) (L : Nat) (y : Nat → Int32) (i : Nat) : Int32 := lyV k kd L y (lyS k kd L y) i
theorem lyV_S {k L : Nat} {kd : Int32} {y : Nat → Int32} (S S' : Int32) {i : Nat} (hi : i < 6 + L) : lyV k kd L y S i = lyV k kd L y S' i := by
  unfold lyV
  have h1 : ¬ 10 + L ≤ i := by omega
  have h2 : ¬ 6 + L ≤ i := by omega
  simp only [if_neg h1, if_neg h2]
theorem sm_e {f g : Nat → Int32} : ∀ t, (∀ i, i < t → f i = g i) → smL f t = smL g t := by
  intro t
  induction t with
  | zero => intro _; rfl
  | succ t ih =>
    intro h
    show mixI (smL f t) (f t) = mixI (smL g t) (g t)
    rw [ih (fun i hi => h i (by omega)), h t (by omega)]
theorem zf_v (La : Nat → Int32) : ∀ t i, zfL La t i = if i < t then 0 else La i := by
  intro t
  induction t with
  | zero => intro i; rw [if_neg (by omega)]; rfl
  | succ t ih =>
    intro i
    show upd (zfL La t) t 0 i = _
    unfold upd
    by_cases e : i = t
    · rw [if_pos e, if_pos (by omega)]
    · rw [if_neg e, ih i]
      by_cases c1 : i < t
      · rw [if_pos c1, if_pos (by omega)]
      · rw [if_neg c1, if_neg (by omega)]
theorem nb_v (f : Nat → Int32) (k : Nat) : ∀ t i, nbL f k t i = if i < t then (nI k >>> (nI (24 - 8 * i) &&& 31)) &&& 255 else f i := by
  intro t
  induction t with
  | zero => intro i; rw [if_neg (by omega)]; rfl
  | succ t ih =>
    intro i
    show upd (nbL f k t) t _ i = _
    unfold upd
    by_cases e : i = t
    · rw [if_pos e, if_pos (by omega), e]
    · rw [if_neg e, ih i]
      by_cases c1 : i < t
      · rw [if_pos c1, if_pos (by omega)]
      · rw [if_neg c1, if_neg (by omega)]
theorem yb_v (f By : Nat → Int32) (k : Nat) : ∀ t i, ybL f By k t i = if 6 ≤ i ∧ i < 6 + t then By (40 * k + (i - 6)) else f i := by
  intro t
  induction t with
  | zero => intro i; rw [if_neg (by omega)]; rfl
  | succ t ih =>
    intro i
    show upd (ybL f By k t) (6 + t) (By (40 * k + t)) i = _
    unfold upd
    by_cases e : i = 6 + t
    · rw [if_pos e, if_pos (by omega), e, show 6 + t - 6 = t by omega]
    · rw [if_neg e, ih i]
      by_cases c1 : 6 ≤ i ∧ i < 6 + t
      · rw [if_pos c1, if_pos (by omega)]
      · rw [if_neg c1, if_neg (by omega)]
theorem sb_v (f : Nat → Int32) (s : Int32) (e : Nat) : ∀ t i, sbL f s e t i = if e ≤ i ∧ i < e + t then (s >>> (nI (24 - 8 * (i - e)) &&& 31)) &&& 255 else f i := by
  intro t
  induction t with
  | zero => intro i; rw [if_neg (by omega)]; rfl
  | succ t ih =>
    intro i
    show upd (sbL f s e t) (e + t) _ i = _
    unfold upd
    by_cases c : i = e + t
    · rw [if_pos c, if_pos (by omega), c, show e + t - e = t by omega]
    · rw [if_neg c, ih i]
      by_cases c1 : e ≤ i ∧ i < e + t
      · rw [if_pos c1, if_pos (by omega)]
      · rw [if_neg c1, if_neg (by omega)]
/-- the model's lay lays the row -/
theorem l3_v {K Ln By La : Nat → Int32} {k : Nat} (hL : Ln k = nI (lz Ln k)) (S : Int32) {i : Nat} (hi : i < 6 + lz Ln k) : l3L K Ln By La k i = lyV k (K k) (lz Ln k) (fun j => By (40 * k + j)) S i := by
  unfold l3L lyV
  rw [yb_v, if_neg (show ¬ 10 + lz Ln k ≤ i by omega), if_neg (show ¬ 6 + lz Ln k ≤ i by omega)]
  by_cases c1 : 6 ≤ i
  · rw [if_pos (by omega), if_pos c1]
  · rw [if_neg (by omega), if_neg c1]
    unfold l2L upd
    by_cases c2 : i = 5
    · rw [if_pos c2, if_pos c2, hL]
    · rw [if_neg c2, if_neg c2]
      by_cases c3 : i = 4
      · rw [if_pos c3, if_pos c3]
      · rw [if_neg c3, if_neg c3, nb_v, if_pos (by omega)]
theorem l4_v {K Ln By La : Nat → Int32} {k : Nat} (hL : Ln k = nI (lz Ln k)) {i : Nat} (hi : i < 64) : l4L K Ln By La k i = ly k (K k) (lz Ln k) (fun j => By (40 * k + j)) i := by
  have hS : smL (l3L K Ln By La k) (6 + lz Ln k) = lyS k (K k) (lz Ln k) (fun j => By (40 * k + j)) := sm_e _ (fun i hi => l3_v hL 0 hi)
  unfold l4L ly
  rw [hS, sb_v]
  by_cases c1 : 6 + lz Ln k ≤ i ∧ i < 6 + lz Ln k + 4
  · rw [if_pos c1]
    unfold lyV
    rw [if_neg (by omega), if_pos (by omega)]
  · rw [if_neg c1]
    by_cases c2 : i < 6 + lz Ln k
    · exact l3_v hL _ c2
    · unfold lyV
      rw [if_pos (by omega)]
      unfold l3L
      rw [yb_v, if_neg (by omega)]
      unfold l2L upd
      rw [if_neg (by omega), if_neg (by omega), nb_v, if_neg (by omega), zf_v, if_pos hi]
theorem bv_cp (f g : Nat → Int32) {N M a : Nat} (hN : N < 2 ^ 31) (hM : M < 2 ^ 31) : ∀ t, a + 6 + t ≤ N → t ≤ M → ∀ i, bv (cpB f N g M a t) i = if a + 6 ≤ i ∧ i < a + 6 + t then bv g (i - (a + 6)) else bv f i := by
  intro t
  induction t with
  | zero => intro _ _ i; rw [if_neg (by omega)]; rfl
  | succ t ih =>
    intro h hm i
    rw [cpB_s, show (nI a + 6 + nI t : Int32) = nI (a + 6 + t) from by rw [show (nI a + 6 : Int32) = nI (a + 6) from nI_add a 6, nI_add], bv_s _ _ (by omega) hN, gB_in g (by omega) hM]
    by_cases e : i = a + 6 + t
    · rw [if_pos e, if_pos (by omega), e, show a + 6 + t - (a + 6) = t by omega]
      obtain ⟨x, hx, ex⟩ := bv_n g t
      rw [ex, pk_andN (by omega) (m := 255) 8 (by decide), Nat.mod_eq_of_lt (by omega)]
    · rw [if_neg e, ih (by omega) (by omega) i]
      by_cases c1 : a + 6 ≤ i ∧ i < a + 6 + t
      · rw [if_pos c1, if_pos (by omega)]
      · rw [if_neg c1, if_neg (by omega)]
theorem bv_zr (f : Nat → Int32) {N a : Nat} (hN : N < 2 ^ 31) : ∀ t, a + t ≤ N → ∀ i, bv (zrB f N a t) i = if a ≤ i ∧ i < a + t then 0 else bv f i := by
  intro t
  induction t with
  | zero => intro _ i; rw [if_neg (by omega)]; rfl
  | succ t ih =>
    intro h i
    rw [zrB_s, bv_s _ _ (by omega) hN]
    by_cases e : i = a + t
    · rw [if_pos e, if_pos (by omega)]
      decide
    · rw [if_neg e, ih (by omega) i]
      by_cases c1 : a ≤ i ∧ i < a + t
      · rw [if_pos c1, if_pos (by omega)]
      · rw [if_neg c1, if_neg (by omega)]
theorem sum_l (f : Nat → Int32) {N : Nat} (hN : N < 2 ^ 31) (g : Nat → Int32) (a : Nat) : ∀ t, a + t ≤ N → (∀ i, i < t → bv f (a + i) = g i) → sumB f N a (-1756908916) t = smL g t := by
  intro t
  induction t with
  | zero => intro _ _; rfl
  | succ t ih =>
    intro h1 h2
    rw [sumB_s, ih (by omega) (fun i hi => h2 i (by omega)), gB_in f (by omega) hN, h2 t (by omega)]
    rfl
/-- the class's compose lays the row -/
theorem bv_c1 (f : Nat → Int32) {N k len : Nat} {kd : Int32} (hN : N < 2 ^ 31) (hk : k * 64 + 64 ≤ N) (hl : len ≤ 40) (hkd : kd &&& 255 = kd) (j : Nat) : bv (c1B f N k kd len) j = if j = k * 64 + 5 then nI len else if j = k * 64 + 4 then kd else if k * 64 ≤ j ∧ j < k * 64 + 4 then (nI k >>> (nI (24 - 8 * (j - k * 64)) &&& 31)) &&& 255 else bv f j := by
  unfold c1B
  rw [show (nI (k * 64) + 5 : Int32) = nI (k * 64 + 5) from nI_add (k * 64) 5, show (nI (k * 64) + 4 : Int32) = nI (k * 64 + 4) from nI_add (k * 64) 4, bv_s _ _ (by omega) hN, bv_s _ _ (by omega) hN, hkd,
    pk_andN (n := len) (by omega) (m := 255) 8 (by decide), Nat.mod_eq_of_lt (show len < 2 ^ 8 by omega), bv_sw _ _ (by omega) hN]
  by_cases c1 : j = k * 64 + 5
  · rw [if_pos c1, if_pos c1]
  · rw [if_neg c1, if_neg c1]
    by_cases c2 : j = k * 64 + 4
    · rw [if_pos c2, if_pos c2]
    · rw [if_neg c2, if_neg c2]
      by_cases c3 : j = k * 64 + 3
      · rw [if_pos c3, if_pos (by omega), c3, show 24 - 8 * (k * 64 + 3 - k * 64) = 0 by omega]
      · rw [if_neg c3]
        by_cases c4 : j = k * 64 + 2
        · rw [if_pos c4, if_pos (by omega), c4, show 24 - 8 * (k * 64 + 2 - k * 64) = 8 by omega]
        · rw [if_neg c4]
          by_cases c5 : j = k * 64 + 1
          · rw [if_pos c5, if_pos (by omega), c5, show 24 - 8 * (k * 64 + 1 - k * 64) = 16 by omega]
          · rw [if_neg c5]
            by_cases c6 : j = k * 64
            · rw [if_pos c6, if_pos (by omega), c6, show 24 - 8 * (k * 64 - k * 64) = 24 by omega]
            · rw [if_neg c6, if_neg (by omega)]
theorem cm_v (f g : Nat → Int32) {N M k len : Nat} {kd : Int32} (hN : N < 2 ^ 31) (hM : M < 2 ^ 31) (hk : k * 64 + 64 ≤ N) (hl : len ≤ 40) (hlM : len ≤ M) (hkd : kd &&& 255 = kd) (j : Nat) : bv (cmB f N g M k kd len) j = if k * 64 ≤ j ∧ j < k * 64 + 64 then ly k kd len (bv g) (j - k * 64) else bv f j := by
  obtain ⟨c2, e2⟩ : ∃ z, z = cpB (c1B f N k kd len) N g M (k * 64) len := ⟨_, rfl⟩
  have v2 : ∀ j, bv c2 j = if k * 64 + 6 ≤ j ∧ j < k * 64 + 6 + len then bv g (j - (k * 64 + 6)) else bv (c1B f N k kd len) j := fun j => by rw [e2]; exact bv_cp _ _ hN hM len (by omega) hlM j
  have w2 : ∀ i, i < 6 + len → bv c2 (k * 64 + i) = lyV k kd len (bv g) 0 i := fun i hi => by
    rw [v2]
    unfold lyV
    rw [if_neg (show ¬ 10 + len ≤ i by omega), if_neg (show ¬ 6 + len ≤ i by omega)]
    by_cases d1 : 6 ≤ i
    · rw [if_pos (by omega), if_pos d1, show k * 64 + i - (k * 64 + 6) = i - 6 by omega]
    · rw [if_neg (by omega), if_neg d1, bv_c1 f hN hk hl hkd]
      by_cases d2 : i = 5
      · rw [if_pos (by omega), if_pos d2]
      · rw [if_neg (by omega), if_neg d2]
        by_cases d3 : i = 4
        · rw [if_pos (by omega), if_pos d3]
        · rw [if_neg (by omega), if_neg d3, if_pos (by omega), show k * 64 + i - k * 64 = i by omega]
  have hln2 : lnN c2 N k = len := by
    rw [lnN_in c2 (by omega) hN]
    apply lz_n _ (by omega)
    rw [w2 5 (by omega)]
    unfold lyV
    rw [if_neg (by omega), if_neg (by omega), if_neg (by omega), if_pos rfl]
  have hS : rsI c2 N k = lyS k kd len (bv g) := by
    unfold rsI lyS
    rw [hln2, show k * 64 + 6 + len - k * 64 = 6 + len by omega]
    exact sum_l c2 hN _ (k * 64) (6 + len) (by omega) w2
  obtain ⟨c3, e3⟩ : ∃ z, z = c3B c2 N k := ⟨_, rfl⟩
  have v3 : ∀ j, bv c3 j = if k * 64 + (6 + len) ≤ j ∧ j < k * 64 + (10 + len) then (lyS k kd len (bv g) >>> (nI (24 - 8 * (j - (k * 64 + (6 + len)))) &&& 31)) &&& 255 else bv c2 j := fun j => by
    rw [e3]
    unfold c3B
    rw [hln2, hS, bv_sw _ _ (by omega) hN]
    by_cases d1 : j = k * 64 + 6 + len + 3
    · rw [if_pos d1, if_pos (by omega), show 24 - 8 * (j - (k * 64 + (6 + len))) = 0 by omega]
    · rw [if_neg d1]
      by_cases d2 : j = k * 64 + 6 + len + 2
      · rw [if_pos d2, if_pos (by omega), show 24 - 8 * (j - (k * 64 + (6 + len))) = 8 by omega]
      · rw [if_neg d2]
        by_cases d3 : j = k * 64 + 6 + len + 1
        · rw [if_pos d3, if_pos (by omega), show 24 - 8 * (j - (k * 64 + (6 + len))) = 16 by omega]
        · rw [if_neg d3]
          by_cases d4 : j = k * 64 + 6 + len
          · rw [if_pos d4, if_pos (by omega), show 24 - 8 * (j - (k * 64 + (6 + len))) = 24 by omega]
          · rw [if_neg d4, if_neg (by omega)]
  have hln3 : lnN c3 N k = len := by
    rw [lnN_in c3 (by omega) hN]
    apply lz_n _ (by omega)
    rw [v3, if_neg (by omega), w2 5 (by omega)]
    unfold lyV
    rw [if_neg (by omega), if_neg (by omega), if_neg (by omega), if_pos rfl]
  unfold cmB
  rw [← e2, ← e3]
  unfold c4B
  rw [hln3, bv_zr _ hN _ (by omega)]
  by_cases d1 : k * 64 ≤ j ∧ j < k * 64 + 64
  · rw [if_pos d1]
    obtain ⟨i, hi, ei⟩ : ∃ i, i < 64 ∧ j = k * 64 + i := ⟨j - k * 64, by omega, by omega⟩
    rw [ei, show k * 64 + i - k * 64 = i by omega]
    by_cases d2 : 10 + len ≤ i
    · rw [if_pos (by omega)]
      unfold ly lyV
      rw [if_pos d2]
    · rw [if_neg (by omega), v3]
      by_cases d3 : 6 + len ≤ i
      · rw [if_pos (by omega)]
        unfold ly lyV
        rw [if_neg d2, if_pos d3, show k * 64 + i - (k * 64 + (6 + len)) = i - (6 + len) by omega]
      · rw [if_neg (by omega), w2 i (by omega)]
        exact lyV_S _ _ (by omega)
  · rw [if_neg d1, if_neg (by omega), v3, if_neg (by omega), v2, if_neg (by omega), bv_c1 f hN hk hl hkd, if_neg (by omega), if_neg (by omega), if_neg (by omega)]
