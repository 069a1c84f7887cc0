/-! Contracts of methods that may throw: a code cd tells which road is taken (0: it returns), ex the exception's class -/
def xE : List String := ["java/lang/IllegalStateException", "java/lang/IllegalArgumentException", "java/util/NoSuchElementException", "java/lang/ArrayIndexOutOfBoundsException"]
def xY : List String := ["java/lang/RuntimeException", "java/lang/Exception", "java/lang/Throwable", "java/lang/IndexOutOfBoundsException"]
def xT : List (Nat × String) := [(64, "no such kind"), (161, "the log is down"), (119, "no such copy"), (123, "no such place"), (131, "no such row"), (137, "no such byte"), (145, "no such rows"), (154, "no such what")]
def zX (U : State) : Prop := zN U ∧ (∀ E ∈ xE, va_Nw (.castable E E) U) ∧ (∀ Y ∈ xY, va_Nw (.declares (Bundle.initS Y)) U) ∧ ∀ q ∈ xT, ∃ sa, vk_R RX2 q.1 q.2 sa U
theorem sx_X : sx_ zX := by
  refine ⟨fun U V h q => ⟨sx_N.1 U V h q.1, fun E hE => va_Nw.same rfl h (q.2.1 E hE), fun Y hY => va_Nw.same rfl h (q.2.2.1 Y hY), fun t ht => ?_⟩, fun s U hW q => ⟨sx_N.2 s U hW q.1, fun E hE => va_Nw.warmC hW (q.2.1 E hE), fun Y hY => va_Nw.warmD hW (q.2.2.1 Y hY), fun t ht => ?_⟩⟩
  · obtain ⟨sa, h9⟩ := q.2.2.2 t ht
    exact ⟨sa, vk_R.same h.symm h9⟩
  · obtain ⟨sa, h9⟩ := q.2.2.2 t ht
    exact ⟨sa, vk_R.warm hW h9⟩
abbrev hx_C2 : List String := ["java/lang/RuntimeException", "java/lang/Exception"]
abbrev hx_C3 : List String := ["java/lang/IndexOutOfBoundsException", "java/lang/RuntimeException", "java/lang/Exception"]
theorem hat_S {args : Array Value} {s : State} (h1 : ∀ w ∈ (vx_atS RX2 163 "java/lang/IllegalStateException" hx_C2).filter goodWord, w.before args s = true) (hz : zX s) : ∀ w ∈ vx_atS RX2 163 "java/lang/IllegalStateException" hx_C2, w.before args s = true :=
  vx_hat (B := [.castable "java/lang/IllegalStateException" "java/lang/IllegalStateException", .declares (Bundle.initS "java/lang/RuntimeException"), .declares (Bundle.initS "java/lang/Exception"), .declares (Bundle.initS "java/lang/Throwable")]) h1 (by decide +kernel)
    (vx_c (va_Nw.use rfl (hz.2.1 _ (by decide))) (vx_c (va_Nw.use rfl (hz.2.2.1 _ (by decide))) (vx_c (va_Nw.use rfl (hz.2.2.1 _ (by decide))) (vx_c (va_Nw.use rfl (hz.2.2.1 _ (by decide))) vx_n))))
theorem hat_A {args : Array Value} {s : State} (h1 : ∀ w ∈ (vx_atS RX2 66 "java/lang/IllegalArgumentException" hx_C2).filter goodWord, w.before args s = true) (hz : zX s) : ∀ w ∈ vx_atS RX2 66 "java/lang/IllegalArgumentException" hx_C2, w.before args s = true :=
  vx_hat (B := [.castable "java/lang/IllegalArgumentException" "java/lang/IllegalArgumentException", .declares (Bundle.initS "java/lang/RuntimeException"), .declares (Bundle.initS "java/lang/Exception"), .declares (Bundle.initS "java/lang/Throwable")]) h1 (by decide +kernel)
    (vx_c (va_Nw.use rfl (hz.2.1 _ (by decide))) (vx_c (va_Nw.use rfl (hz.2.2.1 _ (by decide))) (vx_c (va_Nw.use rfl (hz.2.2.1 _ (by decide))) (vx_c (va_Nw.use rfl (hz.2.2.1 _ (by decide))) vx_n))))
theorem hat_I {args : Array Value} {s : State} (h1 : ∀ w ∈ hx_atA.filter goodWord, w.before args s = true) (hz : zX s) : ∀ w ∈ hx_atA, w.before args s = true :=
  vx_hat (B := [.castable "java/lang/ArrayIndexOutOfBoundsException" "java/lang/ArrayIndexOutOfBoundsException", .declares (Bundle.initS "java/lang/IndexOutOfBoundsException"), .declares (Bundle.initS "java/lang/RuntimeException"), .declares (Bundle.initS "java/lang/Exception"), .declares (Bundle.initS "java/lang/Throwable")]) h1 (by decide +kernel)
    (vx_c (va_Nw.use rfl (hz.2.1 _ (by decide))) (vx_c (va_Nw.use rfl (hz.2.2.1 _ (by decide))) (vx_c (va_Nw.use rfl (hz.2.2.1 _ (by decide))) (vx_c (va_Nw.use rfl (hz.2.2.1 _ (by decide))) (vx_c (va_Nw.use rfl (hz.2.2.1 _ (by decide))) vx_n)))))
theorem hat_N {args : Array Value} {s : State} (h1 : ∀ w ∈ hx_atN.filter goodWord, w.before args s = true) (hz : zX s) : ∀ w ∈ hx_atN, w.before args s = true :=
  vx_hat (B := [.castable "java/util/NoSuchElementException" "java/util/NoSuchElementException", .declares (Bundle.initS "java/lang/RuntimeException"), .declares (Bundle.initS "java/lang/Exception"), .declares (Bundle.initS "java/lang/Throwable")]) h1 (by decide +kernel)
    (vx_c (va_Nw.use rfl (hz.2.1 _ (by decide))) (vx_c (va_Nw.use rfl (hz.2.2.1 _ (by decide))) (vx_c (va_Nw.use rfl (hz.2.2.1 _ (by decide))) (vx_c (va_Nw.use rfl (hz.2.2.1 _ (by decide))) vx_n))))
theorem og_S : ∀ w ∈ Cond.classLink RX2 159 "java/lang/IllegalStateException" :: Cond.initialized "java/lang/IllegalStateException" :: vx_atS RX2 163 "java/lang/IllegalStateException" hx_C2, vx_ot w = true := by decide +kernel
theorem og_A : ∀ w ∈ Cond.classLink RX2 62 "java/lang/IllegalArgumentException" :: Cond.initialized "java/lang/IllegalArgumentException" :: vx_atS RX2 66 "java/lang/IllegalArgumentException" hx_C2, vx_ot w = true := by decide +kernel
theorem og_I : ∀ w ∈ Cond.classLink RX2 121 "java/lang/ArrayIndexOutOfBoundsException" :: Cond.initialized "java/lang/ArrayIndexOutOfBoundsException" :: vx_atS RX2 125 "java/lang/ArrayIndexOutOfBoundsException" hx_C3, vx_ot w = true := by decide +kernel
theorem og_N : ∀ w ∈ Cond.classLink RX2 129 hx_N :: Cond.initialized hx_N :: (hx_ownN RX2 133).filter vx_no, vx_ot w = true := by decide +kernel
abbrev rx_ (fr lo mc ms : Nat) : Room := { frames := fr, cells := mc, slots := ms, locals := lo }
def Zq_ (A : Nat → Prop) (U : State) : Prop := vx_Zq Bundle.tN "UNASSIGNED_STACK" Bundle.steD A U U.heap ∧ vx_Zq Bundle.tN "SUPPRESSED_SENTINEL" Bundle.listD A U U.heap
def pX_ (dC : Nat → ClassId) (dI : Nat → Nat → Nat) (EX : State → Prop) (W : va_W) (tys : List (ClassId × FieldType)) (sz : Nat) (U : State) : Prop := pw_ dC dI EX W tys sz U ∧ Zq_ (va_A W sz) U
def XC_ (dC : Nat → ClassId) (dI : Nat → Nat → Nat) (W1 : va_W) (tys : List (ClassId × FieldType)) (cd : Nat) (ex : Nat → String) (A : Nat → Prop) : String → State → State → Prop := vx_X (fun (_ : Unit) => True) (fun E _ t => (¬ cd = 0 ∧ E = ex cd) ∧ qw_ dC dI A W1 tys t) A
def Xi_ (l : Launch) (y : MethodName) (ws : List Cond) (fr lo mc ms : Nat) (dC : Nat → ClassId) (dI : Nat → Nat → Nat) (EX : State → Prop) (av : List Value) (W : va_W) (tys : List (ClassId × FieldType)) (sz : Nat) (cd : Nat) (ex : Nat → String) (res : Int32) (W1 : va_W) : Prop :=
  vx_Met l y ws (rx_ fr lo mc ms) (va_Pc av (pX_ dC dI EX W tys sz)) (va_Qi (fun (r : Int32) (_ : Unit) => cd = 0 ∧ r = res) (fun _ t => qw_ dC dI (va_A W sz) W1 tys t) (va_A W sz)) (XC_ dC dI W1 tys cd ex (va_A W sz)) mc ms (va_A W sz)
def Xv_ (l : Launch) (y : MethodName) (ws : List Cond) (fr lo mc ms : Nat) (dC : Nat → ClassId) (dI : Nat → Nat → Nat) (EX : State → Prop) (av : List Value) (W : va_W) (tys : List (ClassId × FieldType)) (sz : Nat) (cd : Nat) (ex : Nat → String) (W1 : va_W) : Prop :=
  vx_Met l y ws (rx_ fr lo mc ms) (va_Pc av (pX_ dC dI EX W tys sz)) (va_Qv (fun (_ : Unit) => cd = 0) (fun _ t => qw_ dC dI (va_A W sz) W1 tys t) (va_A W sz)) (XC_ dC dI W1 tys cd ex (va_A W sz)) mc ms (va_A W sz)
theorem fbX_ {dC : Nat → ClassId} {dI : Nat → Nat → Nat} {EX : State → Prop} {W : va_W} {tys : List (ClassId × FieldType)} {sz : Nat} {av : List Value} (hE : sx_ EX) : FrameBlind (va_Pc av (pX_ dC dI EX W tys sz)) := fun a U g mk q => by
  obtain ⟨q0, q1, q2⟩ := q
  have h := fb_ (av := av) hE a U g mk ⟨q0, q1⟩
  exact ⟨q0, h.2, vx_Zq.moved (u := U) (U := U.calling g mk a) (Vm.Alike.refl U.vm) q2.1, vx_Zq.moved (u := U) (U := U.calling g mk a) (Vm.Alike.refl U.vm) q2.2⟩
theorem Zq_.to {A B : Nat → Prop} {s U : State} {H : Heap} {locs : List Loc} (h : Zq_ A s) (hS : va_S A s.heap H locs) (hU : U.heap = H) (hW : s.WarmedH U.vm) (hBA : ∀ q, B q → A q) : Zq_ B U := by
  refine ⟨?_, ?_⟩
  · rw [hU]; exact vx_Zq.moved hW.alike ((h.1.kept hS.2.1).narrow hBA)
  · rw [hU]; exact vx_Zq.moved hW.alike ((h.2.kept hS.2.1).narrow hBA)
theorem puX_ {dC : Nat → ClassId} {dI : Nat → Nat → Nat} {EX : State → Prop} {W : va_W} {tys : List (ClassId × FieldType)} {A : Nat → Prop} {s : State} {H : Heap} {locs : List Loc} {av : List Value} (hE : sx_ EX) (hP : va_P (dC, dI) hlCl W H) (hK : va_K (dC, dI) hlCl tys s) (hD : va_D A W) (he : EX s) (hZ : Zq_ A s) (hS : va_S A s.heap H locs) (hF : ∀ q, va_A W H.size q → A q) :
    ∀ U : State, U.heap = H → s.WarmedH U.vm → va_Pc av (pX_ dC dI EX W tys H.size) av.toArray U := fun U hU hW => ⟨rfl, (pu_ (av := av) hE hP hK hD he U hU hW).2, hZ.to hS hU hW hF⟩
section HCX
variable {p : Program} {l : Launch} {e : Env} {R : Room} {s : State} {m : MethodId} {args : Array Value} {below : List Frame} {meth : Method} {c : Code} {H : Heap} {locs : List Loc} {cells slots : Nat} {Q : State → Prop}
variable {cc bytes : ByteArray} {nL index maxL n pc fr lo mc ms : Nat} {Ts ws : List Cond} {own C host : String} {y : MethodName} {ret : Option FieldType} {ls : Array Slot} {As rest st0 : List Value} {b : Nat} {A : Nat → Prop} {dC : Nat → ClassId} {dI : Nat → Nat → Nat} {EX : State → Prop} {tys tysc : List (ClassId × FieldType)} {w0 wc wr w1 : va_W} {cd : Nat} {ex : Nat → String}
theorem hcx_vV (S : CallFix p m c cc nL s args Ts own) (hE : sx_ EX) (he : EX s) (hZ : Zq_ A s) (hM : Xv_ l y ws fr lo mc ms dC dI EX (.ref b :: As) wc tysc H.size cd ex w1) (cw : CallW R s args own C index y bytes maxL ret ws (rx_ fr lo mc ms) mc ms n)
    (hK : va_K (dC, dI) hlCl tys s) (hP : va_P (dC, dI) hlCl w0 H) (hD : va_D A w0) (hS : va_S A s.heap H locs) (hA : ∀ q, s.heap.size ≤ q → A q) (isC isR isT : List Nat) (hC : isC.map (fun i => w0[i]?) = wc.map some) (hR : isR.map (fun i => w0[i]?) = wr.map some) (hT : isT.filterMap (fun i => tys[i]?) = tysc)
    (hnC : va_nd isC = true) (hnR : va_nd isR = true) (hdis : ∀ i ∈ isR, i ∉ isC) {ci : Nat} {q : vw_C} {fs : List Value} (hc : hlCl[ci]? = some q) (hr0 : wc[0]? = some (b, .inr (ci, fs))) (hq1 : q.1 = C)
    (hn : As.length = n) (hsize : ls.size = nL) (hst : st0 = As.reverse ++ .ref b :: rest) (hW : (rest.map fun v => v.category).sum ≤ 8) (hdg : decode cc pc = .ok (.invokevirtual index, 3)) (hf : cells + mc ≤ R.cells ∧ slots + ms ≤ R.slots)
    (kx : ¬ cd = 0 → ∀ (E : String) (ce : Cell) (q9 : Addr) (H1 : Heap) (locs1 : List Loc), E = ex cd → va_P (dC, dI) hlCl (wr ++ w1) H1 → va_D A (wr ++ w1) → va_S A s.heap H1 locs1 → H1[q9]? = some ce → ce.vm = .none → s.vm.findClass E = some ce.cls → vx_W p l e R s m args below meth c H1 locs1 (cells + mc) (slots + ms) Q (F0 m pc ls rest) q9)
    (kk : cd = 0 → ∀ (H1 : Heap) (locs1 : List Loc), va_P (dC, dI) hlCl (wr ++ w1) H1 → va_D A (wr ++ w1) → va_S A s.heap H1 locs1 → W p l e R s m args below meth c H1 locs1 (cells + mc) (slots + ms) Q (F0 m (pc + 3) ls rest)) :
    W p l e R s m args below meth c H locs cells slots Q (F0 m pc ls st0) := by
  have hPc := hP.sub isC (fm_ hC)
  have hDc := hD.sub isC hnC hC
  have hKc := hK.sub isT hT
  have hFc := va_free (wc := wc) hD hS hA isC hC
  refine vx_callv (vx_runV (As := As) (rest := rest) S hM cw ⟨fbX_ hE, by rw [← hq1]; exact va_recv hKc hPc hc hr0, puX_ hE hPc hKc hDc he hZ hS hFc⟩ rfl hn hsize hst (lv_room hW) hdg hf) hS (fun q _ h => hFc q h) hFc (fun q _ h => hFc q h) (fun E ce q9 u t H1 locs1 ht hvm hpx hB hz1 hk1 hS1 hce hcv hcl => ?_) (fun u t H1 locs1 ht hvm hw hB hz1 hk1 hS1 => ?_)
  · obtain ⟨⟨hcd, hE9⟩, hP1, hK1, hD1⟩ := hB
    rw [ht] at hP1
    obtain ⟨hP2, hD2⟩ := va_join hP hD isC isR hC hR hnR hdis hk1 hFc hP1 hD1
    exact kx hcd E ce q9 H1 locs1 hE9 hP2 hD2 hS1 hce hcv hcl
  · obtain ⟨hP1, hK1, hD1⟩ := hB
    rw [ht] at hP1
    obtain ⟨hP2, hD2⟩ := va_join hP hD isC isR hC hR hnR hdis hk1 hFc hP1 hD1
    exact kk hw H1 locs1 hP2 hD2 hS1
theorem hcx_iV {res : Int32} (S : CallFix p m c cc nL s args Ts own) (hE : sx_ EX) (he : EX s) (hZ : Zq_ A s) (hM : Xi_ l y ws fr lo mc ms dC dI EX (.ref b :: As) wc tysc H.size cd ex res w1) (cw : CallW R s args own C index y bytes maxL ret ws (rx_ fr lo mc ms) mc ms n)
    (hK : va_K (dC, dI) hlCl tys s) (hP : va_P (dC, dI) hlCl w0 H) (hD : va_D A w0) (hS : va_S A s.heap H locs) (hA : ∀ q, s.heap.size ≤ q → A q) (isC isR isT : List Nat) (hC : isC.map (fun i => w0[i]?) = wc.map some) (hR : isR.map (fun i => w0[i]?) = wr.map some) (hT : isT.filterMap (fun i => tys[i]?) = tysc)
    (hnC : va_nd isC = true) (hnR : va_nd isR = true) (hdis : ∀ i ∈ isR, i ∉ isC) {ci : Nat} {q : vw_C} {fs : List Value} (hc : hlCl[ci]? = some q) (hr0 : wc[0]? = some (b, .inr (ci, fs))) (hq1 : q.1 = C)
    (hn : As.length = n) (hsize : ls.size = nL) (hst : st0 = As.reverse ++ .ref b :: rest) (hW : (rest.map fun v => v.category).sum ≤ 8) (hdg : decode cc pc = .ok (.invokevirtual index, 3)) (hf : cells + mc ≤ R.cells ∧ slots + ms ≤ R.slots)
    (kx : ¬ cd = 0 → ∀ (E : String) (ce : Cell) (q9 : Addr) (H1 : Heap) (locs1 : List Loc), E = ex cd → va_P (dC, dI) hlCl (wr ++ w1) H1 → va_D A (wr ++ w1) → va_S A s.heap H1 locs1 → H1[q9]? = some ce → ce.vm = .none → s.vm.findClass E = some ce.cls → vx_W p l e R s m args below meth c H1 locs1 (cells + mc) (slots + ms) Q (F0 m pc ls rest) q9)
    (kk : cd = 0 → ∀ (H1 : Heap) (locs1 : List Loc), va_P (dC, dI) hlCl (wr ++ w1) H1 → va_D A (wr ++ w1) → va_S A s.heap H1 locs1 → W p l e R s m args below meth c H1 locs1 (cells + mc) (slots + ms) Q (F0 m (pc + 3) ls (.int res :: rest))) :
    W p l e R s m args below meth c H locs cells slots Q (F0 m pc ls st0) := by
  have hPc := hP.sub isC (fm_ hC)
  have hDc := hD.sub isC hnC hC
  have hKc := hK.sub isT hT
  have hFc := va_free (wc := wc) hD hS hA isC hC
  refine vx_calli (vx_runV (As := As) (rest := rest) S hM cw ⟨fbX_ hE, by rw [← hq1]; exact va_recv hKc hPc hc hr0, puX_ hE hPc hKc hDc he hZ hS hFc⟩ rfl hn hsize hst (lv_room hW) hdg hf) hS (fun q _ h => hFc q h) hFc (fun q _ h => hFc q h) (fun E ce q9 u t H1 locs1 ht hvm hpx hB hz1 hk1 hS1 hce hcv hcl => ?_) (fun r u t H1 locs1 ht hvm hw hB hz1 hk1 hS1 => ?_)
  · obtain ⟨⟨hcd, hE9⟩, hP1, hK1, hD1⟩ := hB
    rw [ht] at hP1
    obtain ⟨hP2, hD2⟩ := va_join hP hD isC isR hC hR hnR hdis hk1 hFc hP1 hD1
    exact kx hcd E ce q9 H1 locs1 hE9 hP2 hD2 hS1 hce hcv hcl
  · obtain ⟨hP1, hK1, hD1⟩ := hB
    rw [ht] at hP1
    obtain ⟨hP2, hD2⟩ := va_join hP hD isC isR hC hR hnR hdis hk1 hFc hP1 hD1
    rw [hw.2]
    exact kk hw.1 H1 locs1 hP2 hD2 hS1
/-- the ends of a body that may throw -/
theorem hrx_i {v res : Int32} {w w1 W1 : va_W} {tys0 : List (ClassId × FieldType)} {XC : String → State → State → Prop} (hx : p.tables.exec = Jvm.exec) (hb : c.code = cc) (hr : meth.sig.returnType = some .int) (hlocks : meth.locks = false) (hP : va_P (dC, dI) hlCl w H) (hD : va_D A w) (hK : va_K (dC, dI) hlCl tys0 s) (hS : va_S A s.heap H locs) (is it : List Nat) (hs : is.map (fun i => w[i]?) = w1.map some) (hnd : va_nd is = true) (ht0 : it.filterMap (fun i => tys0[i]?) = tys) (hcd : cd = 0) (hv : v = res) (hw1 : W1 = w1) (hk : cells ≤ mc) (hn : slots ≤ ms) (hdg : decode cc pc = .ok (.ireturn, 1)) :
    W p l e R s m args below meth c H locs cells slots (vx_MQ below (va_Qi (fun (r : Int32) (_ : Unit) => cd = 0 ∧ r = res) (fun _ t => qw_ dC dI A W1 tys t) A) XC args s mc ms A) (F0 m pc ls [.int v]) := by
  subst hw1
  have hP9 := hP.sub is (fm_ hs)
  have hD9 := hD.sub is hnd hs
  have hK9 := hK.sub it ht0
  refine W.widen hk hn (vx_ret ?_)
  exact W.iret (v := v) hx hb hr (fun t ht hW => ⟨⟨v, (), rfl, ⟨hcd, hv⟩, by rw [ht]; exact hP9, va_K.moved hW.alike hK9, hD9⟩, hS.F ht⟩) hS.2.2 hdg hlocks
theorem hrx_v {w w1 W1 : va_W} {tys0 : List (ClassId × FieldType)} {XC : String → State → State → Prop} (hx : p.tables.exec = Jvm.exec) (hb : c.code = cc) (hr : meth.sig.returnType = none) (hlocks : meth.locks = false) (hP : va_P (dC, dI) hlCl w H) (hD : va_D A w) (hK : va_K (dC, dI) hlCl tys0 s) (hS : va_S A s.heap H locs) (is it : List Nat) (hs : is.map (fun i => w[i]?) = w1.map some) (hnd : va_nd is = true) (ht0 : it.filterMap (fun i => tys0[i]?) = tys) (hcd : cd = 0) (hw1 : W1 = w1) (hk : cells ≤ mc) (hn : slots ≤ ms) (hdg : decode cc pc = .ok (.return_, 1)) :
    W p l e R s m args below meth c H locs cells slots (vx_MQ below (va_Qv (fun (_ : Unit) => cd = 0) (fun _ t => qw_ dC dI A W1 tys t) A) XC args s mc ms A) (F0 m pc ls []) := by
  subst hw1
  have hP9 := hP.sub is (fm_ hs)
  have hD9 := hD.sub is hnd hs
  have hK9 := hK.sub it ht0
  refine W.widen hk hn (vx_ret ?_)
  exact W.vret hx hb hr (fun t ht hW => ⟨⟨(), rfl, hcd, by rw [ht]; exact hP9, va_K.moved hW.alike hK9, hD9⟩, hS.F ht⟩) hS.2.2 hdg hlocks
/-- what a throw's end asks: the world stands -/
theorem hxc_ {w w1 W1 : va_W} {tys0 : List (ClassId × FieldType)} {E : String} (hP : va_P (dC, dI) hlCl w H) (hD : va_D A w) (hK : va_K (dC, dI) hlCl tys0 s) (hS : va_S A s.heap H locs) (is it : List Nat) (hs : is.map (fun i => w[i]?) = w1.map some) (hnd : va_nd is = true) (ht0 : it.filterMap (fun i => tys0[i]?) = tys) (hcd : ¬ cd = 0) (hE : E = ex cd) (hw1 : W1 = w1) :
    ∀ t : State, s.vm.Alike t.vm → H.size ≤ t.heap.size → (∀ q : Nat, q < H.size → t.heap[q]? = H[q]?) → XC_ dC dI W1 tys cd ex A E s t := by
  intro t ha hz hk
  subst hw1
  have hP9 := hP.sub is (fm_ hs)
  refine ⟨(), trivial, ⟨⟨hcd, hE⟩, hP9.kept (fun k q h => hk q.1 (vx_lt hP9 h)), va_K.moved ha (hK.sub it ht0), hD.sub is hnd hs⟩, ⟨Nat.le_trans hS.1 hz, fun q h1 h2 => ?_⟩⟩
  rw [hk q (Nat.lt_of_lt_of_le h1 hS.1)]
  exact hS.2.1 q h1 h2
theorem hxo_ {w w1 W1 : va_W} {tys0 : List (ClassId × FieldType)} {E : String} {ce : Cell} {q9 : Addr} {Qc : Array Value → State → Outcome → State → Prop} (hno : ∀ x ∈ c.exceptionTable.toList, False) (hlocks : meth.locks = false) (hce : H[q9]? = some ce) (hcv : ce.vm = .none) (hcl : s.vm.findClass E = some ce.cls) (hP : va_P (dC, dI) hlCl w H) (hD : va_D A w) (hK : va_K (dC, dI) hlCl tys0 s) (hS : va_S A s.heap H locs) (is it : List Nat) (hs : is.map (fun i => w[i]?) = w1.map some) (hnd : va_nd is = true) (ht0 : it.filterMap (fun i => tys0[i]?) = tys) (hcd : ¬ cd = 0) (hE : E = ex cd) (hw1 : W1 = w1) (hk : cells ≤ mc) (hn : slots ≤ ms) :
    vx_W p l e R s m args below meth c H locs cells slots (vx_MQ below Qc (XC_ dC dI W1 tys cd ex A) args s mc ms A) (F0 m pc ls rest) q9 :=
  vx_out (fun x hx => (hno x hx).elim) hlocks hce hcv hcl (fun t ht ha => hxc_ hP hD hK hS is it hs hnd ht0 hcd hE hw1 t ha (by rw [ht]; exact Nat.le_refl _) (fun q _ => by rw [ht])) hS.2.2 hk hn
end HCX
section HMX
variable {l : Launch} {y : MethodName} {ws ws' : List Cond} {fr lo mc ms maxL sz : Nat} {cc : ByteArray} {ret : Option FieldType} {dC : Nat → ClassId} {dI : Nat → Nat → Nat} {EX : State → Prop} {av : List Value} {W0 : va_W} {tys : List (ClassId × FieldType)}
def bdx_ (l : Launch) (y : MethodName) (ws : List Cond) (fr lo mc ms maxL sz : Nat) (cc : ByteArray) (ret : Option FieldType) (dC : Nat → ClassId) (dI : Nat → Nat → Nat) (EX : State → Prop) (av : List Value) (W0 : va_W) (tys : List (ClassId × FieldType)) (Qc : (Nat → Prop) → Array Value → State → Outcome → State → Prop) (XC : (Nat → Prop) → String → State → State → Prop) : Prop :=
  ∀ (p : Program) (e : Env) (s : State) (m : MethodId) (below : List Frame) (meth : Method) (c : Code) (A : Nat → Prop) (H : Heap) (locs : List Loc) (ls : Array Slot), p.tables.exec = Jvm.exec → c.code = cc → meth.sig.returnType = ret → c.maxLocals = maxL → (∀ w ∈ ws, w.before av.toArray s = true) → s.vm.findClass y.cls = some m.cls → meth.locks = false → s.heap.size = sz → va_P (dC, dI) hlCl W0 H → va_K (dC, dI) hlCl tys s → va_D A W0 → EX s → (∀ q : Nat, s.heap.size ≤ q → A q) → va_S A s.heap H locs → lv_has ls maxL (lv_args 0 av) → Zq_ A s → (∀ x ∈ c.exceptionTable.toList, False) →
    W p l e (rx_ fr lo mc ms) s m av.toArray below meth c H locs 0 0 (vx_MQ below (Qc A) (XC A) av.toArray s mc ms A) (F0 m 0 ls [])
theorem hmx_ {Qc : (Nat → Prop) → Array Value → State → Outcome → State → Prop} {XC : (Nat → Prop) → String → State → State → Prop} (hy : plainName y.cls = true) (hw : ws = Cond.code y cc maxL ret :: ws') (hlen : (lg_sl av).length ≤ maxL) (body : bdx_ l y ws fr lo mc ms maxL sz cc ret dC dI EX av W0 tys Qc XC) :
    vx_Met l y ws (rx_ fr lo mc ms) (va_Pc av (pX_ dC dI EX W0 tys sz)) (Qc (va_A W0 sz)) (XC (va_A W0 sz)) mc ms (va_A W0 sz) := by
  refine vx_ofW (cc := cc) (maxL := maxL) (ret := ret) hy hw ?_
  intro p e s m args below meth c s₁ B hml hno hv
  obtain ⟨rfl, ⟨hsz, hP, hK, hD0, he⟩, hZ⟩ := hv
  have hts := atoms_spec (ws := ws) B.pre
  have hown : s.vm.findClass y.cls = some m.cls := findClass_of_methodNamed B.named
  rw [lg_entry_eq]
  exact body p e s m below meth c (va_A W0 sz) s.heap [] _ B.exec B.bytes B.returns hml hts hown B.notSynchronized hsz hP hK hD0.self he (fun q h => Or.inr (by rw [← hsz]; exact h)) va_S.rf (lv_entry av hlen) hZ hno
end HMX
