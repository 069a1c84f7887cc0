abbrev hlCl : List vw_C := [(RX0, TX0, 1), (RX1, TX1, 1), (RX2, TX2, 13), (RX3, TX3, 17)]
/-- a world at a method's start, and at its end; EX: words of the tables that no list of good words carries -/
def pw_ (dC : Nat → ClassId) (dI : Nat → Nat → Nat) (EX : State → Prop) (W : va_W) (tys : List (ClassId × FieldType)) (sz : Nat) (U : State) : Prop := U.heap.size = sz ∧ va_P (dC, dI) hlCl W U.heap ∧ va_K (dC, dI) hlCl tys U ∧ va_D (fun _ => True) W ∧ EX U
def qw_ (dC : Nat → ClassId) (dI : Nat → Nat → Nat) (A : Nat → Prop) (W : va_W) (tys : List (ClassId × FieldType)) (t : State) : Prop := va_P (dC, dI) hlCl W t.heap ∧ va_K (dC, dI) hlCl tys t ∧ va_D A W
def sx_ (EX : State → Prop) : Prop := (∀ U V : State, U.vm = V.vm → EX U → EX V) ∧ ∀ s U : State, s.WarmedH U.vm → EX s → EX U
theorem sx_T : sx_ (fun _ => True) := ⟨fun _ _ _ _ => trivial, fun _ _ _ _ => trivial⟩
abbrev rm_ (fr lo : Nat) : Room := { frames := fr, cells := 0, slots := 0, locals := lo }
/-- a contract: the answer is res, the world W becomes W1, nothing is made -/
def Mi_ (l : Launch) (y : MethodName) (ws : List Cond) (fr lo : Nat) (dC : Nat → ClassId) (dI : Nat → Nat → Nat) (EX : State → Prop) (av : List Value) (W : va_W) (tys : List (ClassId × FieldType)) (sz : Nat) (res : Int32) (W1 : va_W) : Prop :=
  Met l y ws (rm_ fr lo) (va_Pc av (pw_ dC dI EX W tys sz)) (va_Qi (fun (r : Int32) (_ : Unit) => r = res) (fun _ t => qw_ dC dI (va_A W sz) W1 tys t) (va_A W sz)) 0 0 (va_A W sz)
def Mv_ (l : Launch) (y : MethodName) (ws : List Cond) (fr lo : Nat) (dC : Nat → ClassId) (dI : Nat → Nat → Nat) (EX : State → Prop) (av : List Value) (W : va_W) (tys : List (ClassId × FieldType)) (sz : Nat) (W1 : va_W) : Prop :=
  Met l y ws (rm_ fr lo) (va_Pc av (pw_ dC dI EX W tys sz)) (va_Qv (fun (_ : Unit) => True) (fun _ t => qw_ dC dI (va_A W sz) W1 tys t) (va_A W sz)) 0 0 (va_A W sz)
def Mr_ (l : Launch) (y : MethodName) (ws : List Cond) (fr lo : Nat) (dC : Nat → ClassId) (dI : Nat → Nat → Nat) (EX : State → Prop) (av : List Value) (W : va_W) (tys : List (ClassId × FieldType)) (sz : Nat) (res : Nat) (W1 : va_W) : Prop :=
  Met l y ws (rm_ fr lo) (va_Pc av (pw_ dC dI EX W tys sz)) (va_Qr (fun (_ : Unit) => True) (fun _ a t => a = res ∧ qw_ dC dI (va_A W sz) W1 tys t) (va_A W sz)) 0 0 (va_A W sz)
theorem fm_ {α β : Type} {f : α → Option β} : ∀ {is : List α} {w : List β}, is.map f = w.map some → is.filterMap f = w
  | [], [], _ => rfl
  | [], _ :: _, h => by simp at h
  | _ :: _, [], h => by simp at h
  | i :: is, x :: w, h => by
    simp only [List.map_cons, List.cons.injEq] at h
    rw [List.filterMap_cons_some h.1, fm_ h.2]
theorem fb_ {dC : Nat → ClassId} {dI : Nat → Nat → Nat} {EX : State → Prop} {W : va_W} {tys : List (ClassId × FieldType)} {sz : Nat} {av : List Value} (hE : sx_ EX) : FrameBlind (va_Pc av (pw_ dC dI EX W tys sz)) := fun a U g mk q => by
  obtain ⟨q0, q1, qP, qK, qD, qE⟩ := q
  exact ⟨q0, q1, qP, va_K.moved (u := U) (U := U.calling g mk a) (Vm.Alike.refl U.vm) qK, qD, hE.1 U (U.calling g mk a) rfl qE⟩
theorem pu_ {dC : Nat → ClassId} {dI : Nat → Nat → Nat} {EX : State → Prop} {W : va_W} {tys : List (ClassId × FieldType)} {A : Nat → Prop} {s : State} {H : Heap} {av : List Value} (hE : sx_ EX) (hP : va_P (dC, dI) hlCl W H) (hK : va_K (dC, dI) hlCl tys s) (hD : va_D A W) (he : EX s) :
    ∀ U : State, U.heap = H → s.WarmedH U.vm → va_Pc av (pw_ dC dI EX W tys H.size) av.toArray U := fun U hU hW => ⟨rfl, by rw [hU], by rw [hU]; exact hP, va_K.moved hW.alike hK, hD.weaken (fun _ _ _ _ => trivial), hE.2 s U hW he⟩
section HC
variable {p : Program} {l : Launch} {e : Env} {R : Room} {s : State} {m : MethodId} {args : Array Value} {below : List Frame} {meth : Method} {c : Code} {H : Heap} {locs : List Loc} {cells slots : Nat} {Q : State → Prop}
variable {cc bytes : ByteArray} {nL index maxL n pc fr lo : Nat} {Ts ws : List Cond} {own C host : String} {y : MethodName} {ret : Option FieldType} {ls : Array Slot} {As rest st0 : List Value} {b : Nat} {A : Nat → Prop} {H0 : Heap} {dC : Nat → ClassId} {dI : Nat → Nat → Nat} {EX : State → Prop} {tys tysc : List (ClassId × FieldType)} {w0 wc wr w1 : va_W}
theorem hc_iV {res : Int32} (S : CallFix p m c cc nL s args Ts own) (hE : sx_ EX) (he : EX s) (hM : Mi_ l y ws fr lo dC dI EX (.ref b :: As) wc tysc H.size res w1) (cw : CallW R s args own C index y bytes maxL ret ws (rm_ fr lo) 0 0 n)
    (hK : va_K (dC, dI) hlCl tys s) (hP : va_P (dC, dI) hlCl w0 H) (hD : va_D A w0) (hS : va_S A H0 H locs) (hA : ∀ q, H0.size ≤ q → A q) (isC isR isT : List Nat) (hC : isC.map (fun i => w0[i]?) = wc.map some) (hR : isR.map (fun i => w0[i]?) = wr.map some) (hT : isT.filterMap (fun i => tys[i]?) = tysc)
    (hnC : va_nd isC = true) (hnR : va_nd isR = true) (hdis : ∀ i ∈ isR, i ∉ isC) {ci : Nat} {q : vw_C} {fs : List Value} (hc : hlCl[ci]? = some q) (hr0 : wc[0]? = some (b, .inr (ci, fs))) (hq1 : q.1 = C)
    (hn : As.length = n) (hsize : ls.size = nL) (hst : st0 = As.reverse ++ .ref b :: rest) (hW : (rest.map fun v => v.category).sum ≤ 8) (hdg : decode cc pc = .ok (.invokevirtual index, 3)) (hf : cells ≤ R.cells ∧ slots ≤ R.slots)
    (kk : ∀ (H1 : Heap) (locs1 : List Loc), va_P (dC, dI) hlCl (wr ++ w1) H1 → va_D A (wr ++ w1) → va_S A H0 H1 locs1 → W p l e R s m args below meth c H1 locs1 cells slots Q (F0 m (pc + 3) ls (.int res :: rest))) :
    W p l e R s m args below meth c H locs cells slots Q (F0 m pc ls st0) := by
  have hPc := hP.sub isC (fm_ hC)
  have hDc := hD.sub isC hnC hC
  have hKc := hK.sub isT hT
  have hFc := va_free (wc := wc) hD hS hA isC hC
  refine va_calli (va_runV (As := As) (rest := rest) S hM cw ⟨fb_ hE, by rw [← hq1]; exact va_recv hKc hPc hc hr0, pu_ hE hPc hKc hDc he⟩ rfl hn hsize hst (lv_room hW) hdg hf) hS (fun q _ h => hFc q h) hFc (fun r u t H1 locs1 ht hvm hw hB hz1 hk1 hS1 => ?_)
  obtain ⟨hP1, hK1, hD1⟩ := hB
  rw [ht] at hP1
  obtain ⟨hP2, hD2⟩ := va_join hP hD isC isR hC hR hnR hdis hk1 hFc hP1 hD1
  rw [hw]
  exact kk H1 locs1 hP2 hD2 hS1
theorem hc_vV (S : CallFix p m c cc nL s args Ts own) (hE : sx_ EX) (he : EX s) (hM : Mv_ l y ws fr lo dC dI EX (.ref b :: As) wc tysc H.size w1) (cw : CallW R s args own C index y bytes maxL ret ws (rm_ fr lo) 0 0 n)
    (hK : va_K (dC, dI) hlCl tys s) (hP : va_P (dC, dI) hlCl w0 H) (hD : va_D A w0) (hS : va_S A H0 H locs) (hA : ∀ q, H0.size ≤ q → A q) (isC isR isT : List Nat) (hC : isC.map (fun i => w0[i]?) = wc.map some) (hR : isR.map (fun i => w0[i]?) = wr.map some) (hT : isT.filterMap (fun i => tys[i]?) = tysc)
    (hnC : va_nd isC = true) (hnR : va_nd isR = true) (hdis : ∀ i ∈ isR, i ∉ isC) {ci : Nat} {q : vw_C} {fs : List Value} (hc : hlCl[ci]? = some q) (hr0 : wc[0]? = some (b, .inr (ci, fs))) (hq1 : q.1 = C)
    (hn : As.length = n) (hsize : ls.size = nL) (hst : st0 = As.reverse ++ .ref b :: rest) (hW : (rest.map fun v => v.category).sum ≤ 8) (hdg : decode cc pc = .ok (.invokevirtual index, 3)) (hf : cells ≤ R.cells ∧ slots ≤ R.slots)
    (kk : ∀ (H1 : Heap) (locs1 : List Loc), va_P (dC, dI) hlCl (wr ++ w1) H1 → va_D A (wr ++ w1) → va_S A H0 H1 locs1 → W p l e R s m args below meth c H1 locs1 cells slots Q (F0 m (pc + 3) ls rest)) :
    W p l e R s m args below meth c H locs cells slots Q (F0 m pc ls st0) := by
  have hPc := hP.sub isC (fm_ hC)
  have hDc := hD.sub isC hnC hC
  have hKc := hK.sub isT hT
  have hFc := va_free (wc := wc) hD hS hA isC hC
  refine va_callv (va_runV (As := As) (rest := rest) S hM cw ⟨fb_ hE, by rw [← hq1]; exact va_recv hKc hPc hc hr0, pu_ hE hPc hKc hDc he⟩ rfl hn hsize hst (lv_room hW) hdg hf) hS (fun q _ h => hFc q h) hFc (fun u t H1 locs1 ht hvm hw hB hz1 hk1 hS1 => ?_)
  obtain ⟨hP1, hK1, hD1⟩ := hB
  rw [ht] at hP1
  obtain ⟨hP2, hD2⟩ := va_join hP hD isC isR hC hR hnR hdis hk1 hFc hP1 hD1
  exact kk H1 locs1 hP2 hD2 hS1
theorem hc_rV {res : Nat} (S : CallFix p m c cc nL s args Ts own) (hE : sx_ EX) (he : EX s) (hM : Mr_ l y ws fr lo dC dI EX (.ref b :: As) wc tysc H.size res w1) (cw : CallW R s args own C index y bytes maxL ret ws (rm_ fr lo) 0 0 n)
    (hK : va_K (dC, dI) hlCl tys s) (hP : va_P (dC, dI) hlCl w0 H) (hD : va_D A w0) (hS : va_S A H0 H locs) (hA : ∀ q, H0.size ≤ q → A q) (isC isR isT : List Nat) (hC : isC.map (fun i => w0[i]?) = wc.map some) (hR : isR.map (fun i => w0[i]?) = wr.map some) (hT : isT.filterMap (fun i => tys[i]?) = tysc)
    (hnC : va_nd isC = true) (hnR : va_nd isR = true) (hdis : ∀ i ∈ isR, i ∉ isC) {ci : Nat} {q : vw_C} {fs : List Value} (hc : hlCl[ci]? = some q) (hr0 : wc[0]? = some (b, .inr (ci, fs))) (hq1 : q.1 = C)
    (hn : As.length = n) (hsize : ls.size = nL) (hst : st0 = As.reverse ++ .ref b :: rest) (hW : (rest.map fun v => v.category).sum ≤ 8) (hdg : decode cc pc = .ok (.invokevirtual index, 3)) (hf : cells ≤ R.cells ∧ slots ≤ R.slots)
    (kk : ∀ (H1 : Heap) (locs1 : List Loc), va_P (dC, dI) hlCl (wr ++ w1) H1 → va_D A (wr ++ w1) → va_S A H0 H1 locs1 → W p l e R s m args below meth c H1 locs1 cells slots Q (F0 m (pc + 3) ls (.ref res :: rest))) :
    W p l e R s m args below meth c H locs cells slots Q (F0 m pc ls st0) := by
  have hPc := hP.sub isC (fm_ hC)
  have hDc := hD.sub isC hnC hC
  have hKc := hK.sub isT hT
  have hFc := va_free (wc := wc) hD hS hA isC hC
  refine va_callr (va_runV (As := As) (rest := rest) S hM cw ⟨fb_ hE, by rw [← hq1]; exact va_recv hKc hPc hc hr0, pu_ hE hPc hKc hDc he⟩ rfl hn hsize hst (lv_room hW) hdg hf) hS (fun q _ h => hFc q h) hFc (fun u ra t H1 locs1 ht hvm hw hB hz1 hk1 hS1 => ?_)
  obtain ⟨hra, hP1, hK1, hD1⟩ := hB
  rw [ht] at hP1
  obtain ⟨hP2, hD2⟩ := va_join hP hD isC isR hC hR hnR hdis hk1 hFc hP1 hD1
  rw [hra]
  exact kk H1 locs1 hP2 hD2 hS1
theorem hc_iS {res : Int32} (S : CallFix p m c cc nL s args Ts own) (hE : sx_ EX) (he : EX s) (hM : Mi_ l y ws fr lo dC dI EX As [] [] H.size res []) (cw : CallB R s args own index y bytes maxL ret ws (rm_ fr lo) 0 0 n ∧ (Cond.static y).before args s = true)
    (hK : va_K (dC, dI) hlCl tys s) (hP : va_P (dC, dI) hlCl w0 H) (hD : va_D A w0) (hS : va_S A H0 H locs) (hA : ∀ q, H0.size ≤ q → A q) (isR : List Nat) (hR : isR.map (fun i => w0[i]?) = w0.map some) (hnR : va_nd isR = true)
    (hn : As.length = n) (hsize : ls.size = nL) (hst : st0 = As.reverse ++ rest) (hW : (rest.map fun v => v.category).sum ≤ 8) (hdg : decode cc pc = .ok (.invokestatic index, 3)) (hf : cells ≤ R.cells ∧ slots ≤ R.slots)
    (kk : ∀ (H1 : Heap) (locs1 : List Loc), va_P (dC, dI) hlCl w0 H1 → va_D A w0 → va_S A H0 H1 locs1 → W p l e R s m args below meth c H1 locs1 cells slots Q (F0 m (pc + 3) ls (.int res :: rest))) :
    W p l e R s m args below meth c H locs cells slots Q (F0 m pc ls st0) := by
  have hPc : va_P (dC, dI) hlCl [] H := hP.sub [] rfl
  have hDc : va_D A [] := hD.sub [] rfl rfl
  have hKc : va_K (dC, dI) hlCl [] s := hK.sub [] rfl
  have hFc := va_free (wc := []) hD hS hA [] rfl
  refine va_calli (va_runS (As := As) (rest := rest) S hM cw ⟨fb_ hE, pu_ hE hPc hKc hDc he⟩ rfl hn hsize hst (lv_room hW) hdg hf) hS (fun q _ h => hFc q h) hFc (fun r u t H1 locs1 ht hvm hw hB hz1 hk1 hS1 => ?_)
  obtain ⟨hP1, hK1, hD1⟩ := hB
  rw [ht] at hP1
  obtain ⟨hP2, hD2⟩ := va_join (w1 := []) hP hD [] isR rfl hR hnR (fun _ _ h => by cases h) hk1 hFc hP1 hD1
  rw [List.append_nil] at hP2 hD2
  rw [hw]
  exact kk H1 locs1 hP2 hD2 hS1
theorem hc_iN {res : Int32} (S : CallFix p m c cc nL s args Ts own) (hE : sx_ EX) (he : EX s) (hM : Mi_ l y ws fr lo dC dI EX As [] [] H.size res []) (cw : va_CN R s args own index y host bytes maxL ret ws (rm_ fr lo) 0 0 n ∧ (Cond.static y).before args s = true ∧ True)
    (hK : va_K (dC, dI) hlCl tys s) (hP : va_P (dC, dI) hlCl w0 H) (hD : va_D A w0) (hS : va_S A H0 H locs) (hA : ∀ q, H0.size ≤ q → A q) (isR : List Nat) (hR : isR.map (fun i => w0[i]?) = w0.map some) (hnR : va_nd isR = true)
    (hn : As.length = n) (hsize : ls.size = nL) (hst : st0 = As.reverse ++ rest) (hW : (rest.map fun v => v.category).sum ≤ 8) (hdg : decode cc pc = .ok (.invokestatic index, 3)) (hf : cells ≤ R.cells ∧ slots ≤ R.slots)
    (kk : ∀ (H1 : Heap) (locs1 : List Loc), va_P (dC, dI) hlCl w0 H1 → va_D A w0 → va_S A H0 H1 locs1 → W p l e R s m args below meth c H1 locs1 cells slots Q (F0 m (pc + 3) ls (.int res :: rest))) :
    W p l e R s m args below meth c H locs cells slots Q (F0 m pc ls st0) := by
  have hPc : va_P (dC, dI) hlCl [] H := hP.sub [] rfl
  have hDc : va_D A [] := hD.sub [] rfl rfl
  have hKc : va_K (dC, dI) hlCl [] s := hK.sub [] rfl
  have hFc := va_free (wc := []) hD hS hA [] rfl
  refine va_calli (va_runSN (As := As) (rest := rest) S hM cw ⟨fb_ hE, pu_ hE hPc hKc hDc he⟩ rfl hn hsize hst (lv_room hW) hdg hf) hS (fun q _ h => hFc q h) hFc (fun r u t H1 locs1 ht hvm hw hB hz1 hk1 hS1 => ?_)
  obtain ⟨hP1, hK1, hD1⟩ := hB
  rw [ht] at hP1
  obtain ⟨hP2, hD2⟩ := va_join (w1 := []) hP hD [] isR rfl hR hnR (fun _ _ h => by cases h) hk1 hFc hP1 hD1
  rw [List.append_nil] at hP2 hD2
  rw [hw]
  exact kk H1 locs1 hP2 hD2 hS1
/-- the ends -/
theorem hr_i {v res : Int32} {w w1 W1 : va_W} {tys0 : List (ClassId × FieldType)} (hx : p.tables.exec = Jvm.exec) (hb : c.code = cc) (hr : meth.sig.returnType = some .int) (hlocks : meth.locks = false) (hP : va_P (dC, dI) hlCl w H) (hD : va_D A w) (hK : va_K (dC, dI) hlCl tys0 s) (hS : va_S A s.heap H locs) (is it : List Nat) (hs : is.map (fun i => w[i]?) = w1.map some) (hnd : va_nd is = true) (ht0 : it.filterMap (fun i => tys0[i]?) = tys) (hv : v = res) (hw1 : W1 = w1) (hdg : decode cc pc = .ok (.ireturn, 1)) :
    W p l e R s m args below meth c H locs 0 0 (MQ below (va_Qi (fun (r : Int32) (_ : Unit) => r = res) (fun _ t => qw_ dC dI A W1 tys t) A) args s 0 0 A) (F0 m pc ls [.int v]) := by
  subst hw1
  have hP9 := hP.sub is (fm_ hs)
  have hD9 := hD.sub is hnd hs
  have hK9 := hK.sub it ht0
  exact W.iret (v := v) hx hb hr (fun t ht hW => ⟨⟨v, (), rfl, hv, by rw [ht]; exact hP9, va_K.moved hW.alike hK9, hD9⟩, hS.F ht⟩) hS.2.2 hdg hlocks
theorem hr_z {v res : Int32} {w w1 W1 : va_W} {tys0 : List (ClassId × FieldType)} (hx : p.tables.exec = Jvm.exec) (hb : c.code = cc) (hr : meth.sig.returnType = some .boolean) (hlocks : meth.locks = false) (hn : narrow .boolean (.int v) = .int v) (hP : va_P (dC, dI) hlCl w H) (hD : va_D A w) (hK : va_K (dC, dI) hlCl tys0 s) (hS : va_S A s.heap H locs) (is it : List Nat) (hs : is.map (fun i => w[i]?) = w1.map some) (hnd : va_nd is = true) (ht0 : it.filterMap (fun i => tys0[i]?) = tys) (hv : v = res) (hw1 : W1 = w1) (hdg : decode cc pc = .ok (.ireturn, 1)) :
    W p l e R s m args below meth c H locs 0 0 (MQ below (va_Qi (fun (r : Int32) (_ : Unit) => r = res) (fun _ t => qw_ dC dI A W1 tys t) A) args s 0 0 A) (F0 m pc ls [.int v]) := by
  subst hw1
  have hP9 := hP.sub is (fm_ hs)
  have hD9 := hD.sub is hnd hs
  have hK9 := hK.sub it ht0
  exact W.zret (v := v) hx hb hr hn (fun t ht hW => ⟨⟨v, (), rfl, hv, by rw [ht]; exact hP9, va_K.moved hW.alike hK9, hD9⟩, hS.F ht⟩) hS.2.2 hdg hlocks
theorem hr_v {w w1 W1 : va_W} {tys0 : List (ClassId × FieldType)} (hx : p.tables.exec = Jvm.exec) (hb : c.code = cc) (hr : meth.sig.returnType = none) (hlocks : meth.locks = false) (hP : va_P (dC, dI) hlCl w H) (hD : va_D A w) (hK : va_K (dC, dI) hlCl tys0 s) (hS : va_S A s.heap H locs) (is it : List Nat) (hs : is.map (fun i => w[i]?) = w1.map some) (hnd : va_nd is = true) (ht0 : it.filterMap (fun i => tys0[i]?) = tys) (hw1 : W1 = w1) (hdg : decode cc pc = .ok (.return_, 1)) :
    W p l e R s m args below meth c H locs 0 0 (MQ below (va_Qv (fun (_ : Unit) => True) (fun _ t => qw_ dC dI A W1 tys t) A) args s 0 0 A) (F0 m pc ls []) := by
  subst hw1
  have hP9 := hP.sub is (fm_ hs)
  have hD9 := hD.sub is hnd hs
  have hK9 := hK.sub it ht0
  exact W.vret hx hb hr (fun t ht hW => ⟨⟨(), rfl, trivial, by rw [ht]; exact hP9, va_K.moved hW.alike hK9, hD9⟩, hS.F ht⟩) hS.2.2 hdg hlocks
theorem hr_r {v res : Nat} {cn : String} {w w1 W1 : va_W} {tys0 : List (ClassId × FieldType)} (hx : p.tables.exec = Jvm.exec) (hb : c.code = cc) (hr : meth.sig.returnType = some (.object cn)) (hlocks : meth.locks = false) (hP : va_P (dC, dI) hlCl w H) (hD : va_D A w) (hK : va_K (dC, dI) hlCl tys0 s) (hS : va_S A s.heap H locs) (is it : List Nat) (hs : is.map (fun i => w[i]?) = w1.map some) (hnd : va_nd is = true) (ht0 : it.filterMap (fun i => tys0[i]?) = tys) (hv : v = res) (hw1 : W1 = w1) (hdg : decode cc pc = .ok (.areturn, 1)) :
    W p l e R s m args below meth c H locs 0 0 (MQ below (va_Qr (fun (_ : Unit) => True) (fun _ a t => a = res ∧ qw_ dC dI A W1 tys t) A) args s 0 0 A) (F0 m pc ls [.ref v]) := by
  subst hw1
  have hP9 := hP.sub is (fm_ hs)
  have hD9 := hD.sub is hnd hs
  have hK9 := hK.sub it ht0
  exact W.aret (v := .ref v) hx hb hr (Or.inl ⟨_, rfl⟩) (Or.inr ⟨_, rfl⟩) (fun t ht hW => ⟨⟨(), v, rfl, trivial, hv, by rw [ht]; exact hP9, va_K.moved hW.alike hK9, hD9⟩, hS.F ht⟩) hS.2.2 hdg hlocks
end HC
-- the heads: from a body to its contract
section HM
variable {l : Launch} {y : MethodName} {ws ws' : List Cond} {fr lo maxL sz : Nat} {cc : ByteArray} {ret : Option FieldType} {dC : Nat → ClassId} {dI : Nat → Nat → Nat} {EX : State → Prop} {av : List Value} {W0 W1 : va_W} {tys : List (ClassId × FieldType)}
def bd_ (l : Launch) (y : MethodName) (ws : List Cond) (fr lo maxL sz : Nat) (cc : ByteArray) (ret : Option FieldType) (dC : Nat → ClassId) (dI : Nat → Nat → Nat) (EX : State → Prop) (av : List Value) (W0 : va_W) (tys : List (ClassId × FieldType)) (Qc : (Nat → Prop) → Array Value → State → Outcome → State → Prop) : Prop :=
  ∀ (p : Program) (e : Env) (s : State) (m : MethodId) (below : List Frame) (meth : Method) (c : Code) (A : Nat → Prop) (H : Heap) (locs : List Loc) (ls : Array Slot), p.tables.exec = Jvm.exec → c.code = cc → meth.sig.returnType = ret → c.maxLocals = maxL → (∀ w ∈ ws, w.before av.toArray s = true) → s.vm.findClass y.cls = some m.cls → meth.locks = false → s.heap.size = sz → va_P (dC, dI) hlCl W0 H → va_K (dC, dI) hlCl tys s → va_D A W0 → EX s → (∀ q : Nat, s.heap.size ≤ q → A q) → va_S A s.heap H locs → lv_has ls maxL (lv_args 0 av) →
    W p l e (rm_ fr lo) s m av.toArray below meth c H locs 0 0 (MQ below (Qc A) av.toArray s 0 0 A) (F0 m 0 ls [])
theorem hm_ {Qc : (Nat → Prop) → Array Value → State → Outcome → State → Prop} (hy : plainName y.cls = true) (hw : ws = Cond.code y cc maxL ret :: ws') (hlen : (lg_sl av).length ≤ maxL) (body : bd_ l y ws fr lo maxL sz cc ret dC dI EX av W0 tys Qc) :
    Met l y ws (rm_ fr lo) (va_Pc av (pw_ dC dI EX W0 tys sz)) (Qc (va_A W0 sz)) 0 0 (va_A W0 sz) := by
  refine Met.ofW (cc := cc) (maxL := maxL) (ret := ret) hy hw ?_
  intro p e s m args below meth c s₁ B hml hv
  obtain ⟨rfl, hsz, hP, hK, hD0, he⟩ := hv
  have hts := atoms_spec (ws := ws) B.pre
  have hown : s.vm.findClass y.cls = some m.cls := findClass_of_methodNamed B.named
  rw [lg_entry_eq]
  exact body p e s m below meth c (va_A W0 sz) s.heap [] _ B.exec B.bytes B.returns hml hts hown B.notSynchronized hsz hP hK hD0.self he (fun q h => Or.inr (by rw [← hsz]; exact h)) va_S.rf (lv_entry av hlen)
end HM
