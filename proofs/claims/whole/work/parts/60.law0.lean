/-! The law: a static call of a helper, the law's own reading of its script's first int, and what holds between two calls -/
theorem hcl_S {p : Program} {l : Launch} {e : Env} {R : Room} {s : State} {m : MethodId} {args : Array Value} {below : List Frame} {meth : Method} {c : Code} {H : Heap} {locs : List Loc} {cells slots : Nat} {Q : State → Prop} {cc bytes : ByteArray} {nL index maxL n pc fr lo mc ms : Nat} {Ts ws : List Cond} {own : String} {y : MethodName} {ret : Option FieldType} {hh : List (Nat × Nat × Nat × Nat)} {ls : Array Slot} {As rest st0 : List Value} {A : Nat → Prop} {dC : Nat → ClassId} {dI : Nat → Nat → Nat} {EX : State → Prop} {tys tysc : List (ClassId × FieldType)} {w0 wc wr w1 : va_W} {res : Int32}
    (S : CallFix p m c cc nL s args Ts own) (hE : sx_ EX) (he : EX s) (hZ : Zq_ A s) (hM : Li_ l y ws fr lo mc ms dC dI EX As wc tysc H.size res w1) (cw : vx_CSW R s args own index y bytes maxL ret hh ws (rx_ fr lo mc ms) mc ms n)
    (hK : va_K (dC, dI) hlCl tys s) (hP : va_P (dC, dI) hlCl w0 H) (hD : va_D A w0) (hS : va_S A s.heap H locs) (hA : ∀ q, s.heap.size ≤ q → A q) (isC isR isT : List Nat) (hC : isC.map (fun i => w0[i]?) = wc.map some) (hR : isR.map (fun i => w0[i]?) = wr.map some) (hT : isT.filterMap (fun i => tys[i]?) = tysc)
    (hnC : va_nd isC = true) (hnR : va_nd isR = true) (hdis : ∀ i ∈ isR, i ∉ isC)
    (hn : As.length = n) (hsize : ls.size = nL) (hst : st0 = As.reverse ++ rest) (hW : (rest.map fun v => v.category).sum ≤ 8) (hdg : decode cc pc = .ok (.invokestatic index, 3)) (hf : cells + mc ≤ R.cells ∧ slots + ms ≤ R.slots)
    (kk : ∀ (H1 : Heap) (locs1 : List Loc), va_P (dC, dI) hlCl (wr ++ w1) H1 → va_D A (wr ++ w1) → va_S A s.heap H1 locs1 → W p l e R s m args below meth c H1 locs1 (cells + mc) (slots + ms) Q (F0 m (pc + 3) ls (.int res :: rest))) :
    W p l e R s m args below meth c H locs cells slots Q (F0 m pc ls st0) := by
  have hPc := hP.sub isC (fm_ hC)
  have hDc := hD.sub isC hnC hC
  have hKc := hK.sub isT hT
  have hFc := va_free (wc := wc) hD hS hA isC hC
  refine va_calli (vx_runSW (As := As) (rest := rest) S hM cw ⟨fbX_ hE, puX_ hE hPc hKc hDc he hZ hS hFc⟩ rfl hn hsize hst (lv_room hW) hdg hf) hS (fun q _ h => hFc q h) hFc (fun r u t H1 locs1 ht hvm hw hB hz1 hk1 hS1 => ?_)
  obtain ⟨hP1, hK1, hD1⟩ := hB
  rw [ht] at hP1
  obtain ⟨hP2, hD2⟩ := va_join hP hD isC isR hC hR hnR hdis hk1 hFc hP1 hD1
  rw [hw]
  exact kk H1 locs1 hP2 hD2 hS1
def zC_ (b L : Nat) (xs : Nat → Int32) (sz : Nat) (U : State) : Prop := U.heap.size = sz ∧ b < sz ∧ va_X b L xs U U.heap
def fst_ (L : Nat) (xs : Nat → Int32) : Int32 := if 0 < L then xs 0 else 0
theorem kL_cell (l : Launch) (sz b L : Nat) (xs : Nat → Int32) (hL : L < 2 ^ 31) : Met l yL_cell wsL_cell (rm_ 0 0) (va_Pc [.ref b, .int 0] (zC_ b L xs sz)) (va_Qi (fun (r : Int32) (_ : Unit) => r = fst_ L xs) (fun _ _ => True) (va_A [] sz)) 0 0 (va_A [] sz) := by
  refine Met.ofW (cc := cL_cell) (maxL := 2) (ret := some .int) (by decide) rfl ?_
  intro p e s m args below meth c s₁ B hml hv
  obtain ⟨rfl, hsz, hbl, hX⟩ := hv
  have hx := B.exec
  have hb := B.bytes
  have hr := B.returns
  have hlocks := B.notSynchronized
  subst hsz
  have hS : va_S (va_A [] s.heap.size) s.heap s.heap [] := va_S.rf
  have hbA : ¬ va_A [] s.heap.size b := by
    rintro (⟨k, e9, h9⟩ | h9)
    · simp at h9
    · exact absurd h9 (Nat.not_le.mpr hbl)
  have hl := lv_entry ([.ref b, .int 0]) (n := 2) (Nat.le_of_ble_eq_true rfl)
  rw [lg_entry_eq]
  generalize (lg_sl ([.ref b, .int 0]) ++ List.replicate (2 - (lg_sl ([.ref b, .int 0])).length) Slot.unset).toArray = ls at hl ⊢
  have hl : lv_has ls 2 [(0, .ref b), (1, .int 0)] := hl
  refine lv_iload_n hx hb dL_cell_0 rfl (lv_at hl 1 rfl) ?_
  refine lv_aload_n hx hb dL_cell_1 rfl (lv_at hl 0 rfl) ?_
  refine va_slen hx hb hX hbl hbA hS dL_cell_2 ?_
  refine lv_icmp_ge (tgt := 12) hx hb dL_cell_3 (by decide) (fun c9 => ?_) (fun c9 => ?_)
  · have h0 : ¬ 0 < L := fun q => absurd c9 (Int32.not_le.mpr (nI_lt (a := 0) q hL))
    refine lv_iconst (v := 0) hx hb dL_cell_12 (by decide) ?_
    exact W.iret (v := 0) hx hb hr (fun t ht hW => ⟨⟨0, (), rfl, by unfold fst_; rw [if_neg h0], trivial⟩, hS.F ht⟩) hS.2.2 dL_cell_13 hlocks
  · have h0 : 0 < L := by
      rcases Nat.eq_zero_or_pos L with q | q
      · subst q; exact absurd (by decide) c9
      · exact q
    refine lv_aload_n hx hb dL_cell_6 rfl (lv_at hl 0 rfl) ?_
    refine lv_iload_n hx hb dL_cell_7 rfl (lv_at hl 1 rfl) ?_
    refine va_sld hx hb hX hbl hbA hS (i := 0) (vp_in_nI (n := 0) h0 hL) dL_cell_8 ?_
    refine lv_goto (tgt := 13) hx hb dL_cell_9 (by decide) ?_
    exact W.iret (v := xs (Int32.toNatClampNeg 0)) hx hb hr (fun t ht hW => ⟨⟨_, (), rfl, by unfold fst_; rw [if_pos h0]; rfl, trivial⟩, hS.F ht⟩) hS.2.2 dL_cell_13 hlocks
theorem hcl_cell {p : Program} {l : Launch} {e : Env} {R : Room} {s : State} {m : MethodId} {args : Array Value} {below : List Frame} {meth : Method} {c : Code} {H : Heap} {locs : List Loc} {cells slots : Nat} {Q : State → Prop} {cc bytes : ByteArray} {nL index maxL pc : Nat} {Ts : List Cond} {own : String} {ret : Option FieldType} {ls : Array Slot} {rest : List Value} {dC : Nat → ClassId} {dI : Nat → Nat → Nat} {w0 : va_W} {b L : Nat} {xs : Nat → Int32}
    (S : CallFix p m c cc nL s args Ts own) (cw : CallB R s args own index yL_cell bytes maxL ret wsL_cell (rm_ 0 0) 0 0 2 ∧ (Cond.static yL_cell).before args s = true) (hX : va_X b L xs s s.heap) (hbl : b < s.heap.size) (hL : L < 2 ^ 31)
    (hP : va_P (dC, dI) hlCl w0 H) (hD : va_D (fun q : Nat => s.heap.size ≤ q) w0) (hS : va_S (fun q : Nat => s.heap.size ≤ q) s.heap H locs) (isR : List Nat) (hR : isR.map (fun i => w0[i]?) = w0.map some) (hnR : va_nd isR = true)
    (hsize : ls.size = nL) (hW : (rest.map fun v => v.category).sum ≤ 8) (hdg : decode cc pc = .ok (.invokestatic index, 3)) (hf : cells ≤ R.cells ∧ slots ≤ R.slots)
    (kk : ∀ (H1 : Heap) (locs1 : List Loc), va_P (dC, dI) hlCl w0 H1 → va_D (fun q : Nat => s.heap.size ≤ q) w0 → va_S (fun q : Nat => s.heap.size ≤ q) s.heap H1 locs1 → W p l e R s m args below meth c H1 locs1 cells slots Q (F0 m (pc + 3) ls (.int (fst_ L xs) :: rest))) :
    W p l e R s m args below meth c H locs cells slots Q (F0 m pc ls (.int 0 :: .ref b :: rest)) := by
  have hA : ∀ q : Nat, s.heap.size ≤ q → (fun q : Nat => s.heap.size ≤ q) q := fun _ h => h
  have hFc := va_free (wc := []) hD hS hA [] rfl
  have hX1 : va_X b L xs s H := hX.kept (hS.2.1 b hbl (Nat.not_le.mpr hbl))
  refine va_calli (va_runS (As := [.ref b, .int 0]) (rest := rest) S (kL_cell l H.size b L xs hL) cw ⟨fun a U g mk q => ⟨q.1, q.2.1, q.2.2.1, va_X.moved (u := U) (U := U.calling g mk a) (Vm.Alike.refl U.vm) q.2.2.2⟩, fun U hU hW => ⟨rfl, by rw [hU], Nat.lt_of_lt_of_le hbl hS.1, by rw [hU]; exact va_X.moved hW.alike hX1⟩⟩ rfl rfl hsize rfl (lv_room hW) hdg hf) hS (fun q _ h => hFc q h) hFc (fun r u t H1 locs1 ht hvm hw hB hz1 hk1 hS1 => ?_)
  have hP1 : va_P (dC, dI) hlCl [] H1 := fun k q h => by simp at h
  have hD1 : va_D (va_A [] H.size) [] := ⟨fun i j p q h => by simp at h, fun k q h => by simp at h⟩
  obtain ⟨hP2, hD2⟩ := va_join (w1 := []) hP hD [] isR rfl hR hnR (fun _ _ h => by cases h) hk1 hFc hP1 hD1
  rw [List.append_nil] at hP2 hD2
  rw [hw]
  exact kk H1 locs1 hP2 hD2 hS1
theorem lw_head {i L : Nat} (hi : i ≤ 4000) (hL : L ≤ 2049) (h : ¬ (nI L - 4 < nI i)) : i + 4 ≤ L := by
  by_cases h4 : 4 ≤ L
  · have e : nI L - 4 = nI (L - 4) := pk_sub (a := L) (b := 4) (by omega)
    rw [e, nI_ltI (by omega) (by omega)] at h
    omega
  · refine absurd ?_ h
    have e : (nI i).toInt = (i : Int) := nI_toInt (by omega)
    rw [Int32.lt_iff_toInt_lt, e]
    have e2 : (nI L - 4).toInt < 0 := by
      rcases (show L = 0 ∨ L = 1 ∨ L = 2 ∨ L = 3 by omega) with rfl | rfl | rfl | rfl <;> decide
    omega
theorem updL_0 (f : Nat → Int64) (v : Int64) : vp_updL f 0 v (Int32.toNatClampNeg 0) = v := by
  unfold vp_updL
  rw [if_pos (by decide)]
theorem nI_z {k : Nat} (hk : k ≤ 3) (h : nI k = 0) : k = 0 := by
  rcases (show k = 0 ∨ k = 1 ∨ k = 2 ∨ k = 3 by omega) with rfl | rfl | rfl | rfl
  · rfl
  · exact absurd h (by decide)
  · exact absurd h (by decide)
  · exact absurd h (by decide)

/-- what the law stands on at every place of its loop -/
def lw_C (p : Program) (l : Launch) (s : State) (m : MethodId) (c : Code) (b L : Nat) (xs : Nat → Int32) (dC : Nat → ClassId) (dI : Nat → Nat → Nat) (cB0 cB1 cBm cBc cAd cAk cAl cAy cAc cAi cO : ClassId) : Prop := p.tables.exec = Jvm.exec ∧ c.code = code ∧ c.maxLocals = 7 ∧ s.vm.findClass RL = some m.cls ∧ (∀ w ∈ wsL_law, w.before #[Value.ref b] s = true) ∧ va_X b L xs s s.heap ∧ b < s.heap.size ∧ L ≤ 2049 ∧ zL_ s ∧ Zq_ (fun q : Nat => s.heap.size ≤ q) s ∧ va_K (dC, dI) hlCl [(cB0, .byte), (cB1, .byte), (cBm, .byte), (cBc, .byte), (cAd, .int), (cAk, .int), (cAl, .int), (cAy, .int), (cAc, .int), (cAi, .int), (cO, .long)] s ∧ l.stackTraces = false
/-- from a place of the loop on, whatever the two states are, if they stand in the relation: the law comes to its end -/
def LI (p : Program) (l : Launch) (e : Env) (s : State) (m : MethodId) (below : List Frame) (meth : Method) (c : Code) (b : Nat) (dC : Nat → ClassId) (dI : Nat → Nat → Nat) (n : Nat) (qh qs0 qb0 qa0 qs1 qb1 qa1 qsm qbm qam qbc qac qm qd qk ql qy qc qi qo : Nat) (cB0 cB1 cBm cBc cAd cAk cAl cAy cAc cAi cO : ClassId) (pc i cells slots : Nat) : Prop := ∀ (c0 c1 mm co D K Ln By Co La : Nat → Int32) (r rm a cb tt : Nat) (dn kp md wr th sm : Int32) (ou : Nat → Int64) (H : Heap) (locs : List Loc) (ls : Array Slot), Rel n c0 c1 mm co D K Ln By Co r rm a cb tt dn kp → va_P (dC, dI) hlCl [(qh, .inr (2, [.int (nI n), .ref qs0, .ref qs1, .ref qsm, .ref qbc, .int (nI cb), .int (nI r), .int (nI a), .int dn, .int kp, .int (nI tt), .int md, .int wr])), (qs0, .inr (1, [.ref qb0])), (qb0, .inr (0, [.ref qa0])), (qa0, .inl (cB0, (n * 64), .inl c0)), (qs1, .inr (1, [.ref qb1])), (qb1, .inr (0, [.ref qa1])), (qa1, .inl (cB1, (n * 64), .inl c1)), (qsm, .inr (1, [.ref qbm])), (qbm, .inr (0, [.ref qam])), (qam, .inl (cBm, (n * 64), .inl mm)), (qbc, .inr (0, [.ref qac])), (qac, .inl (cBc, 40, .inl co)), (qm, .inr (3, [.int th, .int (nI n), .ref qd, .int (nI rm), .int (nI a), .ref qk, .ref ql, .ref qy, .int (nI cb), .ref qc, .int dn, .int kp, .int (nI tt), .int md, .int wr, .ref qi, .int sm])), (qd, .inl (cAd, 8192, .inl D)), (qk, .inl (cAk, 64, .inl K)), (ql, .inl (cAl, 64, .inl Ln)), (qy, .inl (cAy, 2560, .inl By)), (qc, .inl (cAc, 40, .inl Co)), (qi, .inl (cAi, 64, .inl La)), (qo, .inl (cO, 1, .inr (.inl ou)))] H → va_D (fun q : Nat => s.heap.size ≤ q) [(qh, .inr (2, [.int (nI n), .ref qs0, .ref qs1, .ref qsm, .ref qbc, .int (nI cb), .int (nI r), .int (nI a), .int dn, .int kp, .int (nI tt), .int md, .int wr])), (qs0, .inr (1, [.ref qb0])), (qb0, .inr (0, [.ref qa0])), (qa0, .inl (cB0, (n * 64), .inl c0)), (qs1, .inr (1, [.ref qb1])), (qb1, .inr (0, [.ref qa1])), (qa1, .inl (cB1, (n * 64), .inl c1)), (qsm, .inr (1, [.ref qbm])), (qbm, .inr (0, [.ref qam])), (qam, .inl (cBm, (n * 64), .inl mm)), (qbc, .inr (0, [.ref qac])), (qac, .inl (cBc, 40, .inl co)), (qm, .inr (3, [.int th, .int (nI n), .ref qd, .int (nI rm), .int (nI a), .ref qk, .ref ql, .ref qy, .int (nI cb), .ref qc, .int dn, .int kp, .int (nI tt), .int md, .int wr, .ref qi, .int sm])), (qd, .inl (cAd, 8192, .inl D)), (qk, .inl (cAk, 64, .inl K)), (ql, .inl (cAl, 64, .inl Ln)), (qy, .inl (cAy, 2560, .inl By)), (qc, .inl (cAc, 40, .inl Co)), (qi, .inl (cAi, 64, .inl La)), (qo, .inl (cO, 1, .inr (.inl ou)))] → va_S (fun q : Nat => s.heap.size ≤ q) s.heap H locs → lv_has ls 7 [(0, .ref b), (1, .ref qh), (2, .ref qm), (3, .ref qo), (4, .int (nI i))] → W p l e room_1 s m #[Value.ref b] below meth c H locs cells slots (lw_Z below #[Value.ref b] s) (F0 m pc ls [])
