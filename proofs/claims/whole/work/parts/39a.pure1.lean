-- the bits: a starting text of the kit (kit/laws/BITS.to-paste)
def bt (x : Int32) (i : Nat) : Bool := x.toBitVec.getLsbD i
theorem b_ext {x y : Int32} (h : ∀ i, i < 32 → bt x i = bt y i) : x = y := Int32.toBitVec_inj.mp (BitVec.eq_of_getLsbD_eq (fun i hi => h i hi))
theorem b_or (x y : Int32) (i : Nat) : bt (x ||| y) i = (bt x i || bt y i) := by unfold bt; rw [Int32.toBitVec_or, BitVec.getLsbD_or]
theorem b_and (x y : Int32) (i : Nat) : bt (x &&& y) i = (bt x i && bt y i) := by unfold bt; rw [Int32.toBitVec_and, BitVec.getLsbD_and]
theorem b_xor (x y : Int32) (i : Nat) : bt (x ^^^ y) i = (bt x i ^^ bt y i) := by unfold bt; rw [Int32.toBitVec_xor, BitVec.getLsbD_xor]
theorem b_big {x : Int32} {i : Nat} (h : 32 ≤ i) : bt x i = false := BitVec.getLsbD_of_ge _ _ h
theorem b_255 (i : Nat) : bt 255 i = decide (i < 8) := by
  rcases Nat.lt_or_ge i 32 with h | h
  · exact (by decide +kernel : ∀ i, i < 32 → bt 255 i = decide (i < 8)) i h
  · rw [b_big h, decide_eq_false (by omega)]
theorem b_65535 (i : Nat) : bt 65535 i = decide (i < 16) := by
  rcases Nat.lt_or_ge i 32 with h | h
  · exact (by decide +kernel : ∀ i, i < 32 → bt 65535 i = decide (i < 16)) i h
  · rw [b_big h, decide_eq_false (by omega)]
theorem b_m1 : ∀ i, i < 32 → bt (-1) i = true := by decide +kernel
theorem b_0 (i : Nat) : bt 0 i = false := BitVec.getLsbD_zero
theorem s_l : ∀ n, n < 32 → ((nI n &&& 31).toBitVec.smod 32).toNat = n := by decide +kernel
theorem s_u : ∀ n, n < 32 → (((nI n).toUInt32 &&& Int32.toUInt32 31).toBitVec % 32).toNat = n := by decide +kernel
theorem b_shl (n : Nat) (hn : n < 32) (x : Int32) {i : Nat} (hi : i < 32) : bt (x <<< (nI n &&& 31)) i = (decide (n ≤ i) && bt x (i - n)) := by
  unfold bt
  rw [Int32.toBitVec_shiftLeft]
  show (x.toBitVec <<< ((nI n &&& 31).toBitVec.smod 32).toNat).getLsbD i = _
  rw [s_l n hn, BitVec.getLsbD_shiftLeft]
  rcases Nat.lt_or_ge i n with h | h
  · simp [h, Nat.not_le.mpr h]
  · simp [hi, h, Nat.not_lt.mpr h]
theorem b_ushr (n : Nat) (hn : n < 32) (x : Int32) (i : Nat) : bt ((x.toUInt32 >>> ((nI n).toUInt32 &&& Int32.toUInt32 31)).toInt32) i = bt x (n + i) := by
  show (x.toUInt32 >>> ((nI n).toUInt32 &&& Int32.toUInt32 31)).toBitVec.getLsbD i = x.toUInt32.toBitVec.getLsbD (n + i)
  rw [UInt32.toBitVec_shiftRight]
  show (x.toUInt32.toBitVec >>> (((nI n).toUInt32 &&& Int32.toUInt32 31).toBitVec % 32).toNat).getLsbD i = _
  rw [s_u n hn, BitVec.getLsbD_ushiftRight]
theorem b_sshr (n : Nat) (hn : n < 32) (x : Int32) {i : Nat} (hi : i < 32) : bt (x >>> (nI n &&& 31)) i = if n + i < 32 then bt x (n + i) else bt x 31 := by
  unfold bt
  rw [Int32.toBitVec_shiftRight]
  show (x.toBitVec.sshiftRight ((nI n &&& 31).toBitVec.smod 32).toNat).getLsbD i = _
  rw [s_l n hn, BitVec.getLsbD_sshiftRight, BitVec.msb_eq_getLsbD_last]
  simp [hi]
theorem b_shl8 (x : Int32) {i : Nat} (hi : i < 32) : bt (x <<< ((8 : Int32) &&& 31)) i = (decide (8 ≤ i) && bt x (i - 8)) := b_shl 8 (by omega) x hi
theorem b_shl16 (x : Int32) {i : Nat} (hi : i < 32) : bt (x <<< ((16 : Int32) &&& 31)) i = (decide (16 ≤ i) && bt x (i - 16)) := b_shl 16 (by omega) x hi
theorem b_shl24 (x : Int32) {i : Nat} (hi : i < 32) : bt (x <<< ((24 : Int32) &&& 31)) i = (decide (24 ≤ i) && bt x (i - 24)) := b_shl 24 (by omega) x hi
theorem b_sshr8 (x : Int32) {i : Nat} (hi : i < 32) : bt (x >>> ((8 : Int32) &&& 31)) i = if 8 + i < 32 then bt x (8 + i) else bt x 31 := b_sshr 8 (by omega) x hi
theorem nx_and (a b : Nat) : nI a &&& nI b = nI (a &&& b) := by
  apply Int32.toBitVec_inj.1
  show BitVec.ofNat 32 a &&& BitVec.ofNat 32 b = BitVec.ofNat 32 (a &&& b)
  apply BitVec.eq_of_getLsbD_eq
  intro i hi
  simp [hi]
theorem nx_xor (a b : Nat) : nI a ^^^ nI b = nI (a ^^^ b) := by
  apply Int32.toBitVec_inj.1
  show BitVec.ofNat 32 a ^^^ BitVec.ofNat 32 b = BitVec.ofNat 32 (a ^^^ b)
  apply BitVec.eq_of_getLsbD_eq
  intro i hi
  simp [hi]
theorem bp_b (x : Int32) : x.toInt8.toInt32 &&& 255 = x &&& 255 := by
  apply Int32.toBitVec_inj.mp
  rw [Int32.toBitVec_and, Int32.toBitVec_and, Int8.toBitVec_toInt32, Int32.toBitVec_toInt8]
  apply BitVec.eq_of_getLsbD_eq
  intro i hi
  rw [BitVec.getLsbD_and, BitVec.getLsbD_and]
  have hm : ∀ i < 32, 8 ≤ i → (255 : Int32).toBitVec.getLsbD i = false := by decide
  rcases Nat.lt_or_ge i 8 with z | z
  · rw [BitVec.getLsbD_signExtend, BitVec.getLsbD_signExtend, if_pos z, if_pos hi]
    simp only [z, hi, decide_true, Bool.true_and]
  · rw [hm i hi z]; simp

/-- a byte of an int, by either shift -/
theorem sh_ (x : Int32) {n : Nat} (hn : n ≤ 24) : (x.toUInt32 >>> ((nI n).toUInt32 &&& Int32.toUInt32 31)).toInt32 &&& 255 = (x >>> (nI n &&& 31)) &&& 255 := by
  apply b_ext
  intro i hi
  rw [b_and, b_and, b_ushr n (by omega), b_sshr n (by omega) x hi, b_255]
  by_cases h : i < 8
  · rw [if_pos (by omega)]
  · simp [h]
/-- the bytes, as numbers 0 .. 255 -/
def bv (f : Nat → Int32) : Nat → Int32 := fun j => f j &&& 255
theorem bv_n (f : Nat → Int32) (j : Nat) : ∃ x : Nat, x < 256 ∧ bv f j = nI x := pk_andE _ (m := 255) 8 (by decide)
theorem gB_in (f : Nat → Int32) {N j : Nat} (hj : j < N) (hN : N < 2 ^ 31) : gB f N (nI j) = bv f j := by
  unfold gB bv
  rw [if_neg (nI_pos (by omega)), if_neg (nI_ge hj hN), nI_clamp (by omega)]
theorem sB_in (f : Nat → Int32) {N j : Nat} (x : Int32) (hj : j < N) (hN : N < 2 ^ 31) : sB f N (nI j) x = upd f j x.toInt8.toInt32 := by
  unfold sB
  rw [if_neg (nI_pos (by omega)), if_neg (nI_ge hj hN), nI_clamp (by omega)]
theorem bv_s (f : Nat → Int32) {N j : Nat} (x : Int32) (hj : j < N) (hN : N < 2 ^ 31) (i : Nat) : bv (sB f N (nI j) x) i = if i = j then x &&& 255 else bv f i := by
  rw [sB_in f x hj hN]
  unfold bv upd
  by_cases h : i = j
  · rw [if_pos h, if_pos h, bp_b]
  · rw [if_neg h, if_neg h]
theorem bv_sw (f : Nat → Int32) {N j : Nat} (x : Int32) (hj : j + 3 < N) (hN : N < 2 ^ 31) (i : Nat) : bv (swB f N (nI j) x) i = if i = j + 3 then (x >>> (nI 0 &&& 31)) &&& 255 else if i = j + 2 then (x >>> (nI 8 &&& 31)) &&& 255 else if i = j + 1 then (x >>> (nI 16 &&& 31)) &&& 255 else if i = j then (x >>> (nI 24 &&& 31)) &&& 255 else bv f i := by
  unfold swB
  rw [show (nI j + 1 : Int32) = nI (j + 1) from nI_add j 1, show (nI j + 2 : Int32) = nI (j + 2) from nI_add j 2, show (nI j + 3 : Int32) = nI (j + 3) from nI_add j 3,
    bv_s _ _ hj hN, bv_s _ _ (by omega) hN, bv_s _ _ (by omega) hN, bv_s _ _ (by omega) hN,
    show (x.toUInt32 >>> ((24 : Int32).toUInt32 &&& Int32.toUInt32 31)).toInt32 &&& 255 = (x >>> (nI 24 &&& 31)) &&& 255 from sh_ x (n := 24) (by omega),
    show (x.toUInt32 >>> ((16 : Int32).toUInt32 &&& Int32.toUInt32 31)).toInt32 &&& 255 = (x >>> (nI 16 &&& 31)) &&& 255 from sh_ x (n := 16) (by omega),
    show (x.toUInt32 >>> ((8 : Int32).toUInt32 &&& Int32.toUInt32 31)).toInt32 &&& 255 = (x >>> (nI 8 &&& 31)) &&& 255 from sh_ x (n := 8) (by omega),
    show (x >>> (nI 0 &&& 31)) = x from sb_shr0 x]
theorem wB_in (f : Nat → Int32) {N j : Nat} (hj : j + 3 < N) (hN : N < 2 ^ 31) : wB f N (nI j) = foI (bv f) j := by
  unfold wB foI
  rw [show (nI j + 1 : Int32) = nI (j + 1) from nI_add j 1, show (nI j + 2 : Int32) = nI (j + 2) from nI_add j 2, show (nI j + 3 : Int32) = nI (j + 3) from nI_add j 3,
    gB_in f (by omega) hN, gB_in f (by omega) hN, gB_in f (by omega) hN, gB_in f hj hN]
theorem foI_e {D E : Nat → Int32} {a b : Nat} (h : ∀ i, i < 4 → D (a + i) = E (b + i)) : foI D a = foI E b := by
  unfold foI
  rw [h 1 (by omega), h 2 (by omega), h 3 (by omega), show D a = E b from h 0 (by omega)]
theorem lnN_in (f : Nat → Int32) {N k : Nat} (hk : k * 64 + 5 < N) (hN : N < 2 ^ 31) : lnN f N k = lz (bv f) (k * 64 + 5) := by
  unfold lnN lz
  rw [fp_, show (nI (k * 64) + 5 : Int32) = nI (k * 64 + 5) from nI_add (k * 64) 5, gB_in f hk hN]
theorem sum_e (f : Nat → Int32) {N : Nat} (hN : N < 2 ^ 31) (D : Nat → Int32) (a b : Nat) : ∀ t, a + t ≤ N → (∀ i, i < t → bv f (a + i) = D (b + i)) → sumB f N a (-1756908916) t = smA D b t := by
  intro t
  induction t with
  | zero => intro _ _; rfl
  | succ t ih =>
    intro h1 h2
    rw [sumB_s, ih (by omega) (fun i hi => h2 i (by omega)), gB_in f (by omega) hN, h2 t (by omega)]
    rfl
theorem inI_ik (x : Int32) : ikI x = inI x 1 9 := rfl
/-- a sector is right for the class where it is for the model -/
theorem rt_e {f D : Nat → Int32} {n k u : Nat} (hn : n ≤ 64) (hk : k < n) (hu : u ≤ 1) (hB : hB_ D) (h : ∀ j, j < n * 64 → bv f j = D (4096 * u + j)) : rtI f (n * 64) k = rtR D u k := by
  have hN : n * 64 < 2 ^ 31 := by omega
  have h5 := hB (4096 * u + 64 * k + 5) (by omega)
  have e5 : bv f (k * 64 + 5) = D (4096 * u + 64 * k + 5) := by
    rw [h _ (by omega)]
    congr 1
    omega
  have e4 : bv f (k * 64 + 4) = D (4096 * u + 64 * k + 4) := by
    rw [h _ (by omega)]
    congr 1
    omega
  have el : lnN f (n * 64) k = lz D (4096 * u + 64 * k + 5) := by
    rw [lnN_in f (by omega) hN]
    unfold lz
    rw [e5]
  unfold rtI rtR rsI
  rw [sp_, el, fp_, show (nI (k * 64) + 4 : Int32) = nI (k * 64 + 4) from nI_add (k * 64) 4, show (nI (k * 64) + 5 : Int32) = nI (k * 64 + 5) from nI_add (k * 64) 5,
    wB_in f (by omega) hN, gB_in f (by omega) hN, gB_in f (by omega) hN, e4, e5, inI_ik,
    foI_e (D := bv f) (E := D) (a := k * 64) (b := 4096 * u + 64 * k) (fun i hi => by rw [h _ (by omega)]; congr 1; omega)]
  by_cases c1 : foI D (4096 * u + 64 * k) = nI k
  · rw [if_pos c1, if_pos c1]
    by_cases c2 : inI (D (4096 * u + 64 * k + 4)) 1 9 = 0
    · rw [if_pos c2, if_pos c2]
    · rw [if_neg c2, if_neg c2]
      rcases Nat.lt_or_ge 40 (lz D (4096 * u + 64 * k + 5)) with c3 | c3
      · rw [h5.1, if_pos (show (40 : Int32) < nI (lz D (4096 * u + 64 * k + 5)) from nI_lt (a := 40) c3 (by omega)), if_neg (show ¬ nI (lz D (4096 * u + 64 * k + 5)) ≤ 40 from nI_ge (b := lz D (4096 * u + 64 * k + 5)) (a := 40) c3 (by omega))]
      · rw [h5.1, if_neg (show ¬ (40 : Int32) < nI (lz D (4096 * u + 64 * k + 5)) from nI_nlt (a := 40) c3 (by omega)), if_pos (show nI (lz D (4096 * u + 64 * k + 5)) ≤ 40 from nI_le (a := lz D (4096 * u + 64 * k + 5)) (b := 40) c3 (by omega)),
          wB_in f (by omega) hN, foI_e (D := bv f) (E := D) (a := k * 64 + 6 + lz D (4096 * u + 64 * k + 5)) (b := 4096 * u + 64 * k + 6 + lz D (4096 * u + 64 * k + 5)) (fun i hi => by rw [h _ (by omega)]; congr 1; omega),
          show k * 64 + 6 + lz D (4096 * u + 64 * k + 5) - k * 64 = 6 + lz D (4096 * u + 64 * k + 5) by omega,
          sum_e f hN D (k * 64) (4096 * u + 64 * k) _ (by omega) (fun i hi => by rw [h _ (by omega)]; congr 1; omega)]
  · rw [if_neg c1, if_neg c1]
/-- what 'take' leaves -/
theorem bv_tk (f g : Nat → Int32) {N a : Nat} (hN : N < 2 ^ 31) : ∀ t, a + t ≤ N → ∀ i, bv (tkB f N g a t) i = if a ≤ i ∧ i < a + t then bv g i else bv f i := by
  intro t
  induction t with
  | zero => intro _ i; rw [if_neg (by omega)]; rfl
  | succ t ih =>
    intro h i
    rw [tkB_s, bv_s _ _ (by omega) hN, gB_in g (by omega) hN]
    by_cases e : i = a + t
    · rw [if_pos e, if_pos (by omega), e]
      obtain ⟨x, hx, ex⟩ := bv_n g (a + t)
      rw [ex, pk_andN (by omega) (m := 255) 8 (by decide), Nat.mod_eq_of_lt (by omega)]
    · rw [if_neg e, ih (by omega) i]
      by_cases c1 : a ≤ i ∧ i < a + t
      · rw [if_pos c1, if_pos (by omega)]
      · rw [if_neg c1, if_neg (by omega)]
theorem wd_v (D La : Nat → Int32) (a : Nat) : ∀ t i, wdL D La a t i = if a ≤ i ∧ i < a + t then La (i - a) else D i := by
  intro t
  induction t with
  | zero => intro i; rw [if_neg (by omega)]; rfl
  | succ t ih =>
    intro i
    show upd (wdL D La a t) (a + t) (La t) i = _
    unfold upd
    by_cases e : i = a + t
    · rw [if_pos e, if_pos (by omega), e, show a + t - a = t by omega]
    · rw [if_neg e, ih i]
      by_cases c1 : a ≤ i ∧ i < a + t
      · rw [if_pos c1, if_pos (by omega)]
      · rw [if_neg c1, if_neg (by omega)]
theorem md_v (D : Nat → Int32) {a b : Nat} (hab : a + 64 ≤ b ∨ b + 64 ≤ a) : ∀ t, t ≤ 64 → ∀ i, mdL D a b t i = if a ≤ i ∧ i < a + t then D (b + (i - a)) else D i := by
  intro t
  induction t with
  | zero => intro _ i; rw [if_neg (by omega)]; rfl
  | succ t ih =>
    intro ht i
    show upd (mdL D a b t) (a + t) (mdL D a b t (b + t)) i = _
    unfold upd
    by_cases e : i = a + t
    · rw [if_pos e, if_pos (by omega), ih (by omega), if_neg (by omega), e, show a + t - a = t by omega]
    · rw [if_neg e, ih (by omega) i]
      by_cases c1 : a ≤ i ∧ i < a + t
      · rw [if_pos c1, if_pos (by omega)]
      · rw [if_neg c1, if_neg (by omega)]
