section
-- ===== PART A: goes FIRST, ahead of the names: the tables' words, and 'selects' of the private methods out of them =====
/-- a private method of a class that the tables say can be made, by its rows of tables_1 -/
def lw_okq (q : MethodName × Nat) : Prop := (q.1.cls ≠ "java/lang/invoke/MethodHandle" ∧ q.1.cls ≠ "java/lang/invoke/VarHandle") ∧ Cond.instantiable q.1.cls q.2 ∈ tables_1 ∧ Cond.privateMethod q.1 ∈ tables_1 ∧ Cond.instanceMethod q.1 ∈ tables_1
theorem lw_p0 : lw_okq (⟨"HouseLog", "findRow", "(I)Z"⟩, 13) := ⟨⟨by decide +kernel, by decide +kernel⟩, List.mem_of_getElem? (i := 15) (by decide +kernel), List.mem_of_getElem? (i := 110) (by decide +kernel), List.mem_of_getElem? (i := 111) (by decide +kernel)⟩
theorem lw_p1 : lw_okq (⟨"HouseLog$Sectors", "sumPlace", "(I)I"⟩, 1) := ⟨⟨by decide +kernel, by decide +kernel⟩, List.mem_of_getElem? (i := 29) (by decide +kernel), List.mem_of_getElem? (i := 141) (by decide +kernel), List.mem_of_getElem? (i := 142) (by decide +kernel)⟩
theorem lw_p2 : lw_okq (⟨"HouseLog$Sectors", "rowSum", "(I)I"⟩, 1) := ⟨⟨by decide +kernel, by decide +kernel⟩, List.mem_of_getElem? (i := 29) (by decide +kernel), List.mem_of_getElem? (i := 145) (by decide +kernel), List.mem_of_getElem? (i := 146) (by decide +kernel)⟩
theorem lw_p3 : lw_okq (⟨"HouseLog", "mend", "(LHouseLog$Sectors;LHouseLog$Sectors;I)V"⟩, 13) := ⟨⟨by decide +kernel, by decide +kernel⟩, List.mem_of_getElem? (i := 15) (by decide +kernel), List.mem_of_getElem? (i := 155) (by decide +kernel), List.mem_of_getElem? (i := 156) (by decide +kernel)⟩
theorem lw_p4 : lw_okq (⟨"HouseLog", "isPlace", "(I)Z"⟩, 13) := ⟨⟨by decide +kernel, by decide +kernel⟩, List.mem_of_getElem? (i := 15) (by decide +kernel), List.mem_of_getElem? (i := 171) (by decide +kernel), List.mem_of_getElem? (i := 172) (by decide +kernel)⟩
theorem lw_p5 : lw_okq (⟨"HouseLog", "copyOf", "(I)LHouseLog$Sectors;"⟩, 13) := ⟨⟨by decide +kernel, by decide +kernel⟩, List.mem_of_getElem? (i := 15) (by decide +kernel), List.mem_of_getElem? (i := 175) (by decide +kernel), List.mem_of_getElem? (i := 176) (by decide +kernel)⟩
theorem lw_p6 : lw_okq (⟨"HouseLog", "roomFor", "(Z)I"⟩, 13) := ⟨⟨by decide +kernel, by decide +kernel⟩, List.mem_of_getElem? (i := 15) (by decide +kernel), List.mem_of_getElem? (i := 184) (by decide +kernel), List.mem_of_getElem? (i := 185) (by decide +kernel)⟩
theorem lw_p7 : lw_okq (⟨"java/lang/Throwable", "fillInStackTrace", "(I)Ljava/lang/Throwable;"⟩, 6) := ⟨⟨by decide +kernel, by decide +kernel⟩, List.mem_of_getElem? (i := 240) (by decide +kernel), List.mem_of_getElem? (i := 238) (by decide +kernel), List.mem_of_getElem? (i := 239) (by decide +kernel)⟩
theorem lw_p8 : lw_okq (⟨"HouseLog", "refuseIfDown", "()V"⟩, 13) := ⟨⟨by decide +kernel, by decide +kernel⟩, List.mem_of_getElem? (i := 15) (by decide +kernel), List.mem_of_getElem? (i := 269) (by decide +kernel), List.mem_of_getElem? (i := 270) (by decide +kernel)⟩
theorem lw_p9 : lw_okq (⟨"HouseLog", "writeWhole", "(LHouseLog$Sectors;I)Z"⟩, 13) := ⟨⟨by decide +kernel, by decide +kernel⟩, List.mem_of_getElem? (i := 15) (by decide +kernel), List.mem_of_getElem? (i := 305) (by decide +kernel), List.mem_of_getElem? (i := 306) (by decide +kernel)⟩
theorem lw_p10 : lw_okq (⟨"HouseLog", "goDown", "()V"⟩, 13) := ⟨⟨by decide +kernel, by decide +kernel⟩, List.mem_of_getElem? (i := 15) (by decide +kernel), List.mem_of_getElem? (i := 309) (by decide +kernel), List.mem_of_getElem? (i := 310) (by decide +kernel)⟩
theorem lw_p11 : lw_okq (⟨"HouseLog", "isRow", "(I)Z"⟩, 13) := ⟨⟨by decide +kernel, by decide +kernel⟩, List.mem_of_getElem? (i := 15) (by decide +kernel), List.mem_of_getElem? (i := 351) (by decide +kernel), List.mem_of_getElem? (i := 352) (by decide +kernel)⟩
theorem lw_p12 : lw_okq (⟨"HouseLogModel", "fails", "(ZZZ)Z"⟩, 17) := ⟨⟨by decide +kernel, by decide +kernel⟩, List.mem_of_getElem? (i := 406) (by decide +kernel), List.mem_of_getElem? (i := 480) (by decide +kernel), List.mem_of_getElem? (i := 481) (by decide +kernel)⟩
theorem lw_p13 : lw_okq (⟨"HouseLogModel", "lay", "(I)V"⟩, 17) := ⟨⟨by decide +kernel, by decide +kernel⟩, List.mem_of_getElem? (i := 406) (by decide +kernel), List.mem_of_getElem? (i := 488) (by decide +kernel), List.mem_of_getElem? (i := 489) (by decide +kernel)⟩
theorem lw_p14 : lw_okq (⟨"HouseLogModel", "begin", "()V"⟩, 17) := ⟨⟨by decide +kernel, by decide +kernel⟩, List.mem_of_getElem? (i := 406) (by decide +kernel), List.mem_of_getElem? (i := 492) (by decide +kernel), List.mem_of_getElem? (i := 493) (by decide +kernel)⟩
theorem lw_p15 : lw_okq (⟨"HouseLogModel", "goOn", "(I)V"⟩, 17) := ⟨⟨by decide +kernel, by decide +kernel⟩, List.mem_of_getElem? (i := 406) (by decide +kernel), List.mem_of_getElem? (i := 497) (by decide +kernel), List.mem_of_getElem? (i := 498) (by decide +kernel)⟩
def lw_privs_1 : List (MethodName × Nat) := [(⟨"HouseLog", "findRow", "(I)Z"⟩, 13), (⟨"HouseLog$Sectors", "sumPlace", "(I)I"⟩, 1), (⟨"HouseLog$Sectors", "rowSum", "(I)I"⟩, 1), (⟨"HouseLog", "mend", "(LHouseLog$Sectors;LHouseLog$Sectors;I)V"⟩, 13), (⟨"HouseLog", "isPlace", "(I)Z"⟩, 13), (⟨"HouseLog", "copyOf", "(I)LHouseLog$Sectors;"⟩, 13), (⟨"HouseLog", "roomFor", "(Z)I"⟩, 13), (⟨"java/lang/Throwable", "fillInStackTrace", "(I)Ljava/lang/Throwable;"⟩, 6), (⟨"HouseLog", "refuseIfDown", "()V"⟩, 13), (⟨"HouseLog", "writeWhole", "(LHouseLog$Sectors;I)Z"⟩, 13), (⟨"HouseLog", "goDown", "()V"⟩, 13), (⟨"HouseLog", "isRow", "(I)Z"⟩, 13), (⟨"HouseLogModel", "fails", "(ZZZ)Z"⟩, 17), (⟨"HouseLogModel", "lay", "(I)V"⟩, 17), (⟨"HouseLogModel", "begin", "()V"⟩, 17), (⟨"HouseLogModel", "goOn", "(I)V"⟩, 17)]
theorem lw_r1 : ∀ q ∈ lw_privs_1, lw_okq q := List.forall_mem_cons.mpr ⟨lw_p0, List.forall_mem_cons.mpr ⟨lw_p1, List.forall_mem_cons.mpr ⟨lw_p2, List.forall_mem_cons.mpr ⟨lw_p3, List.forall_mem_cons.mpr ⟨lw_p4, List.forall_mem_cons.mpr ⟨lw_p5, List.forall_mem_cons.mpr ⟨lw_p6, List.forall_mem_cons.mpr ⟨lw_p7, List.forall_mem_cons.mpr ⟨lw_p8, List.forall_mem_cons.mpr ⟨lw_p9, List.forall_mem_cons.mpr ⟨lw_p10, List.forall_mem_cons.mpr ⟨lw_p11, List.forall_mem_cons.mpr ⟨lw_p12, List.forall_mem_cons.mpr ⟨lw_p13, List.forall_mem_cons.mpr ⟨lw_p14, List.forall_mem_cons.mpr ⟨lw_p15, fun _ h => absurd h List.not_mem_nil⟩⟩⟩⟩⟩⟩⟩⟩⟩⟩⟩⟩⟩⟩⟩⟩
theorem lw_p16 : lw_okq (⟨"HouseLogModel", "write", "(II)Z"⟩, 17) := ⟨⟨by decide +kernel, by decide +kernel⟩, List.mem_of_getElem? (i := 406) (by decide +kernel), List.mem_of_getElem? (i := 502) (by decide +kernel), List.mem_of_getElem? (i := 503) (by decide +kernel)⟩
theorem lw_p17 : lw_okq (⟨"HouseLogModel", "from", "(II)I"⟩, 17) := ⟨⟨by decide +kernel, by decide +kernel⟩, List.mem_of_getElem? (i := 406) (by decide +kernel), List.mem_of_getElem? (i := 506) (by decide +kernel), List.mem_of_getElem? (i := 507) (by decide +kernel)⟩
theorem lw_p18 : lw_okq (⟨"HouseLogModel", "goDown", "()V"⟩, 17) := ⟨⟨by decide +kernel, by decide +kernel⟩, List.mem_of_getElem? (i := 406) (by decide +kernel), List.mem_of_getElem? (i := 510) (by decide +kernel), List.mem_of_getElem? (i := 511) (by decide +kernel)⟩
theorem lw_p19 : lw_okq (⟨"HouseLogModel", "isRight", "(II)Z"⟩, 17) := ⟨⟨by decide +kernel, by decide +kernel⟩, List.mem_of_getElem? (i := 406) (by decide +kernel), List.mem_of_getElem? (i := 522) (by decide +kernel), List.mem_of_getElem? (i := 523) (by decide +kernel)⟩
theorem lw_p20 : lw_okq (⟨"HouseLogModel", "four", "(I)I"⟩, 17) := ⟨⟨by decide +kernel, by decide +kernel⟩, List.mem_of_getElem? (i := 406) (by decide +kernel), List.mem_of_getElem? (i := 526) (by decide +kernel), List.mem_of_getElem? (i := 527) (by decide +kernel)⟩
theorem lw_p21 : lw_okq (⟨"HouseLogModel", "find", "(II)V"⟩, 17) := ⟨⟨by decide +kernel, by decide +kernel⟩, List.mem_of_getElem? (i := 406) (by decide +kernel), List.mem_of_getElem? (i := 530) (by decide +kernel), List.mem_of_getElem? (i := 531) (by decide +kernel)⟩
theorem lw_p22 : lw_okq (⟨"HouseLogModel", "mend", "(II)V"⟩, 17) := ⟨⟨by decide +kernel, by decide +kernel⟩, List.mem_of_getElem? (i := 406) (by decide +kernel), List.mem_of_getElem? (i := 534) (by decide +kernel), List.mem_of_getElem? (i := 535) (by decide +kernel)⟩
theorem lw_p23 : lw_okq (⟨"HouseLogModel", "isRow", "(I)Z"⟩, 17) := ⟨⟨by decide +kernel, by decide +kernel⟩, List.mem_of_getElem? (i := 406) (by decide +kernel), List.mem_of_getElem? (i := 550) (by decide +kernel), List.mem_of_getElem? (i := 551) (by decide +kernel)⟩
def lw_privs_2 : List (MethodName × Nat) := [(⟨"HouseLogModel", "write", "(II)Z"⟩, 17), (⟨"HouseLogModel", "from", "(II)I"⟩, 17), (⟨"HouseLogModel", "goDown", "()V"⟩, 17), (⟨"HouseLogModel", "isRight", "(II)Z"⟩, 17), (⟨"HouseLogModel", "four", "(I)I"⟩, 17), (⟨"HouseLogModel", "find", "(II)V"⟩, 17), (⟨"HouseLogModel", "mend", "(II)V"⟩, 17), (⟨"HouseLogModel", "isRow", "(I)Z"⟩, 17)]
theorem lw_r2 : ∀ q ∈ lw_privs_2, lw_okq q := List.forall_mem_cons.mpr ⟨lw_p16, List.forall_mem_cons.mpr ⟨lw_p17, List.forall_mem_cons.mpr ⟨lw_p18, List.forall_mem_cons.mpr ⟨lw_p19, List.forall_mem_cons.mpr ⟨lw_p20, List.forall_mem_cons.mpr ⟨lw_p21, List.forall_mem_cons.mpr ⟨lw_p22, List.forall_mem_cons.mpr ⟨lw_p23, fun _ h => absurd h List.not_mem_nil⟩⟩⟩⟩⟩⟩⟩⟩
def lw_privs : List (MethodName × Nat) := lw_privs_1 ++ (lw_privs_2)
def lw_tbl : List Cond := k2_sels lw_privs ++ tables_1
theorem lw_privs_ok : ∀ q ∈ lw_privs, lw_okq q := by
  show ∀ q ∈ lw_privs_1 ++ (lw_privs_2), lw_okq q
  exact List.forall_mem_append.mpr ⟨lw_r1, lw_r2⟩
/-! ===== BEGIN words of one list among another's, by their places ===== -/
theorem goodIn_r {big : List Cond} (ws : List Cond) (ps : List Nat) (hp : ws = ps.filterMap (fun i => big[i]?)) (h : ws.all goodWord = true) : GoodIn big ws := by
  intro w hw
  have h1 := List.all_eq_true.mp h w hw
  rw [hp] at hw
  obtain ⟨i, -, hi⟩ := List.mem_filterMap.mp hw
  have hm : w ∈ big := by first | exact List.mem_of_getElem? hi | exact List.getElem?_mem hi
  exact ⟨hm, good_of_word h1⟩
theorem goodIn_app {big a b : List Cond} (ha : GoodIn big a) (hb : GoodIn big b) : GoodIn big (a ++ b) := fun w h => (List.mem_append.mp h).elim (ha w) (hb w)
theorem goodIn_ca {big a b : List Cond} {c : Cond} (ha : GoodIn big (c :: a)) (hb : GoodIn big b) : GoodIn big (c :: (a ++ b)) := fun w h => (List.mem_cons.mp h).elim (fun e => ha w (List.mem_cons.mpr (Or.inl e))) (fun h => (List.mem_append.mp h).elim (fun h => ha w (List.mem_cons.mpr (Or.inr h))) (hb w))
theorem goodIn_sub {big ws : List Cond} (hm : ∀ w ∈ ws, w ∈ big) (h : ws.all goodWord = true) : GoodIn big ws := fun w hw => ⟨hm w hw, good_of_word (List.all_eq_true.mp h w hw)⟩
/-! ===== END ===== -/

/-! ===== BEGIN exceptions that leave a method, and their catching by the caller (launches without stack traces) ===== -/
section VXA
/-! The laws vx_back, vx_callV, vx_callS, vx_callSW, vx_throw0, vx_throwS follow proofs of the library, with one case more: JvmDerived/Free/Laws.lean (Back.of_free), Shelf42/LK1.lean (callV, callS), Shelf/KitTraced.lean (throwNew0V, throwNewS). -/
/-- where a method has thrown q: the class by its name, the cell, what was written, the world -/
def vx_T (XC : String → State → State → Prop) (st : State) (q : Addr) (t : State) (mc ms : Nat) (free : Addr → Prop) : Prop :=
  ∃ (E : String) (ce : Cell) (L : List Loc), XC E st t ∧ t.heap[q]? = some ce ∧ ce.vm = .none ∧ st.vm.findClass E = some ce.cls ∧ st.WarmedH t.vm ∧ st.sameButNew ({ t with vm := st.vm } : State) L mc ms ∧ ∀ z ∈ L, free z.base
def vx_Q (Qc : Array Value → State → Outcome → State → Prop) (XC : String → State → State → Prop) (mc ms : Nat) (free : Addr → Prop) : Array Value → State → Outcome → State → Prop := fun a st o t =>
  (Qc a st o t ∧ ∃ L, FrameEnd st o t L mc ms ∧ ∀ q ∈ L, free q.base) ∨ ∃ q, o = .threw q ∧ vx_T XC st q t mc ms free
/-- a callee that returns or throws -/
def vx_Met (l : Launch) (y : MethodName) (ws : List Cond) (rm : Room) (Pc : Array Value → State → Prop) (Qc : Array Value → State → Outcome → State → Prop) (XC : String → State → State → Prop) (mc ms : Nat) (free : Addr → Prop) : Prop :=
  MetFree l y (headSpec ws rm) Pc (fun _ _ _ _ _ => True) (vx_Q Qc XC mc ms free)
def vx_Post (XC : String → State → State → Prop) (mc ms : Nat) (free : Addr → Prop) : Pt → Array Value → Addr → Pt → Prop := fun A a q B =>
  ∃ (g : JFrame) (mk : MethodId) (t : State) (L : List Loc) (E : String) (ce : Cell), B.U.heap = t.heap ∧ B.U.vm = t.vm ∧ XC E (A.U.calling g mk a) t ∧ t.heap[q]? = some ce ∧ ce.vm = .none ∧ A.U.vm.findClass E = some ce.cls ∧ B.locs = A.locs ++ L ∧ (∀ z ∈ L, free z.base) ∧ B.cells = A.cells + mc ∧ B.slots = A.slots + ms
def vx_Back (l : Launch) (R : Room) (p : Program) (e : Env) (below : List Frame) (s : State) (sargs : Array Value) (y : MethodName) (len W9 : Nat)
    (Pre : Pt → Array Value → Prop) (Post : Pt → Array Value → Option Value → Pt → Prop) (PostX : Pt → Array Value → Addr → Pt → Prop) : Prop :=
  ∀ (m : MethodId) (meth : Method) (c : Code) (A : Pt) (g : JFrame) (ig : Instr) (mk : MethodId) (a : Array Value),
    Stand p l e R s m sargs below meth c A.U A.locs A.cells A.slots → g.method = m → g.locals.size = c.maxLocals → decode c.code g.pc = .ok (ig, len) →
    2 * g.monitorRoom + (g.stack.map fun v => v.category).sum ≤ W9 → A.U.methodNamed? y = some mk → Pre A a →
    (∃ (v : Option Value) (B : Pt), Stand p l e R s m sargs below meth c B.U B.locs B.cells B.slots ∧ Post A a v B ∧
      Steps p.tables e below (doInvoke e (A.U.setTop g) [] mk a).1 (B.U.setTop { g with pc := g.pc + len, stack := v.toList ++ g.stack })) ∨
    (∃ (q : Addr) (B : Pt), Stand p l e R s m sargs below meth c B.U B.locs B.cells B.slots ∧ PostX A a q B ∧
      Steps p.tables e below (doInvoke e (A.U.setTop g) [] mk a).1 ((B.U.setTop g).pushFrame (.throwing q)))
section Payer
variable {l : Launch} {R : Room} {p : Program} {e : Env} {below : List Frame} {s : State} {sargs : Array Value} {y : MethodName} {len W9 : Nat}
theorem vx_back {ws : List Cond} {rm : Room} {Pc : Array Value → State → Prop} {Qc : Array Value → State → Outcome → State → Prop} {XC : String → State → State → Prop} {mc ms : Nat} {free : Addr → Prop} {bytes : ByteArray} {maxL : Nat} {ret : Option FieldType}
    (hM : vx_Met l y ws rm Pc Qc XC mc ms free) (hblind : FrameBlind Pc) (hrc : rm.cells = mc) (hrs : rm.slots = ms)
    (hframes : rm.frames + 1 ≤ R.frames) (hlocals : W9 + (maxL + 11) + rm.locals ≤ R.locals)
    (hws : ∀ w ∈ ws, ∀ a' U, s.WarmedH U.vm → w.before a' U = true) (hcode : Cond.code y bytes maxL ret ∈ ws) (hinit : ∀ a' U, s.WarmedH U.vm → (Cond.initialized y.cls).before a' U = true) :
    vx_Back l R p e below s sargs y len W9 (PreOf R mc ms Pc) (PostOf Qc mc ms free) (vx_Post XC mc ms free) := by
  intro m meth c A g ig mk a X hg hsize hdg hW hn hp
  have h1 : (headSpec ws rm).pre.before a A.U = true := atoms_intro fun w hw => hws w hw _ _ X.warmed
  have h2 : (Cond.code y bytes maxL ret).before a A.U = true := hws _ hcode _ _ X.warmed
  have h3 : (Cond.initialized y.cls).before a A.U = true := hinit _ _ X.warmed
  have h4 : A.cells + (headSpec ws rm).room.cells ≤ R.cells := by rw [show (headSpec ws rm).room.cells = mc from hrc]; exact hp.1
  have h5 : A.slots + (headSpec ws rm).room.slots ≤ R.slots := by rw [show (headSpec ws rm).room.slots = ms from hrs]; exact hp.2.1
  have hPc : Pc a (A.U.calling g mk a) := hblind _ _ _ _ hp.2.2
  obtain ⟨U, Ls, c0, s0⟩ := A
  dsimp only [Pt.U, Pt.locs, Pt.cells, Pt.slots] at h1 h2 h3 h4 h5 X hn hPc ⊢
  obtain ⟨methY, cY, hmY, hcY, -, hlY, -, -, -, -⟩ := Cond.code_spec hn h2
  obtain ⟨kY, hkY, -⟩ := className_of_methodNamed hn
  have hinitY : kY.init = .initialized := Cond.initialized_spec (findClass_of_methodNamed hn) hkY h3
  have h : At U g.method c below := by rw [hg]; exact X.here
  have hlocals9 : W9 + (maxL + 11) + (headSpec ws rm).room.locals ≤ R.locals := hlocals
  have happ : (headSpec ws rm).appliesLoose y e.platform (U.calling g mk a) = true :=
    Spec.appliesLoose_calling (g := g) h hdg hn hkY hinitY
      (X.room_calling (g := g) (R' := (headSpec ws rm).room) hsize hmY hcY hframes (by rw [hlY]; omega) h4 h5) h1
  obtain ⟨mid, hmid⟩ := h.above
  have hfr : (U.setTop g).frames = (.java g :: mid) ++ below := by rw [State.frames_setTop' g h.top, hmid]; rfl
  obtain ⟨o, s₂, hsteps, -, hend, hq⟩ := Steps.callFree hM p X.admits X.cas X.clock (acts := []) hfr happ hPc trivial
  have hq' : vx_Q Qc XC mc ms free a (U.calling g mk a) o s₂ := hq
  rw [State.frames_setTop' g h.top] at hend
  obtain ⟨g₀, hg0⟩ := Option.isSome_iff_exists.mp h.top
  obtain ⟨r, hr⟩ := State.topJava?_eq_some.mp hg0
  have hr' : (({ U with heap := s₂.heap, slotsUsed := s₂.slotsUsed } : State).setVm s₂.vm).frames = .java g₀ :: r := hr
  rcases hq' with ⟨hqc, L, hfe, hL⟩ | ⟨q, rfl, E, ce, L, hx, hce, hcv, hcl, hW₂, hsm, hL⟩
  · obtain ⟨⟨v, rfl⟩, hW₂, e2, q2, q3, q4, q5, q6⟩ := id hfe
    have e3 : s₂ = ({ (U.calling g mk a).setFrames s₂.frames with heap := s₂.heap, slotsUsed := s₂.slotsUsed } : State).setVm s₂.vm := by
      have : s₂ = ({ s₂ with vm := (U.calling g mk a).vm } : State).setVm s₂.vm := rfl
      rw [e2] at this
      exact this
    obtain ⟨c₂, i₂, len₂, hc₂, hd₂, hf₂⟩ := hend
    have hW' : U.WarmedH s₂.vm := hW₂
    have hcc : c₂ = c := by
      have h1 : s₂.code? g.method = U.code? g.method := by
        rw [State.code?_eq, State.code?_eq, hW'.alike.method?]
      exact Option.some.inj (hc₂.symm.trans (h1.trans h.code))
    subst hcc
    have hlen : len₂ = len := by rw [hdg] at hd₂; cases hd₂; rfl
    subst hlen
    have hs₂ : s₂ = (({ U with heap := s₂.heap, slotsUsed := s₂.slotsUsed } : State).setVm s₂.vm).setTop { g with pc := g.pc + len₂, stack := v.toList ++ g.stack } := by
      refine e3.trans ?_
      rw [hf₂, State.calling_eq h.top, State.setFrames_setFrames, State.setTop_of_frames _ hr', hr]
      rfl
    have hsame : U.sameButNew ({ U with heap := s₂.heap, slotsUsed := s₂.slotsUsed } : State) L mc ms := by
      refine ⟨?_, q2, q3, q4, q5, q6⟩
      obtain ⟨t, ht, -⟩ := State.frames_cons hr
      show ({ U with heap := s₂.heap, slotsUsed := s₂.slotsUsed } : State) = { U.setFrames U.frames with heap := s₂.heap, slotsUsed := s₂.slotsUsed }
      rw [State.setFrames_self ht]
    subst hg
    refine Or.inl ⟨v, ⟨(({ U with heap := s₂.heap, slotsUsed := s₂.slotsUsed } : State).setVm s₂.vm), Ls ++ L, c0 + mc, s0 + ms⟩,
      ⟨X.admits, X.cas, X.clock, X.frames, X.room, X.hears, X.method, X.code, (X.here.setHeapUsed s₂.heap s₂.slotsUsed).setVm hW'.alike, X.tail, State.WarmedH.trans X.warmed hW', X.limits, X.bytes, X.same.trans (hsame.setVm s.vm)⟩,
      ⟨g, mk, s₂, L, rfl, rfl, hqc, rfl, hL, rfl, rfl⟩, ?_⟩
    show Steps p.tables e below _ ((({ U with heap := s₂.heap, slotsUsed := s₂.slotsUsed } : State).setVm s₂.vm).setTop { g with pc := g.pc + len₂, stack := v.toList ++ g.stack })
    rw [← hs₂]
    exact hsteps
  · obtain ⟨e2, q2, q3, q4, q5, q6⟩ := id hsm
    have e3 : s₂ = ({ (U.calling g mk a).setFrames s₂.frames with heap := s₂.heap, slotsUsed := s₂.slotsUsed } : State).setVm s₂.vm := by
      have : s₂ = ({ s₂ with vm := (U.calling g mk a).vm } : State).setVm s₂.vm := rfl
      rw [e2] at this
      exact this
    have hf₂ : s₂.frames = .throwing q :: .java g :: U.frames.tail := hend
    have hW' : U.WarmedH s₂.vm := hW₂
    have hs₂ : s₂ = ((({ U with heap := s₂.heap, slotsUsed := s₂.slotsUsed } : State).setVm s₂.vm).setTop g).pushFrame (.throwing q) := by
      refine e3.trans ?_
      rw [hf₂, State.calling_eq h.top, State.setFrames_setFrames, State.pushFrame, State.frames_setTop _ hr', State.setTop_of_frames _ hr', State.setFrames_setFrames, hr]
      rfl
    have hsame : U.sameButNew ({ U with heap := s₂.heap, slotsUsed := s₂.slotsUsed } : State) L mc ms := by
      refine ⟨?_, q2, q3, q4, q5, q6⟩
      obtain ⟨t, ht, -⟩ := State.frames_cons hr
      show ({ U with heap := s₂.heap, slotsUsed := s₂.slotsUsed } : State) = { U.setFrames U.frames with heap := s₂.heap, slotsUsed := s₂.slotsUsed }
      rw [State.setFrames_self ht]
    subst hg
    refine Or.inr ⟨q, ⟨(({ U with heap := s₂.heap, slotsUsed := s₂.slotsUsed } : State).setVm s₂.vm), Ls ++ L, c0 + mc, s0 + ms⟩,
      ⟨X.admits, X.cas, X.clock, X.frames, X.room, X.hears, X.method, X.code, (X.here.setHeapUsed s₂.heap s₂.slotsUsed).setVm hW'.alike, X.tail, State.WarmedH.trans X.warmed hW', X.limits, X.bytes, X.same.trans (hsame.setVm s.vm)⟩,
      ⟨g, mk, s₂, L, E, ce, rfl, rfl, hx, hce, hcv, hcl, rfl, hL, rfl, rfl⟩, ?_⟩
    show Steps p.tables e below _ (((({ U with heap := s₂.heap, slotsUsed := s₂.slotsUsed } : State).setVm s₂.vm).setTop g).pushFrame (.throwing q))
    rw [← hs₂]
    exact hsteps
end Payer
section Calls
variable {p : Program} {l : Launch} {e : Env} {R : Room} {s : State} {m : MethodId} {args : Array Value} {below : List Frame} {meth : Method} {c : Code} {T : State} {locs : List Loc} {cells slots : Nat}
theorem vx_callV (X : Stand p l e R s m args below meth c T locs cells slots) (hexec : p.tables.exec = Jvm.exec) {own C : String} {index : Nat} {y : MethodName} {bytes : ByteArray} {maxL : Nat} {ret : Option FieldType}
    (hown : s.vm.findClass own = some m.cls) (hlink : (Cond.methodLink own index y).before args s = true) (hinst : (Cond.instanceMethod y).before args s = true) (hsel : (Cond.selects C y y).before args s = true)
    (hcode : (Cond.code y bytes maxL ret).before args s = true) (hy : y.cls ≠ "java/lang/invoke/MethodHandle" ∧ y.cls ≠ "java/lang/invoke/VarHandle")
    {W9 : Nat} {Pre : Pt → Array Value → Prop} {Post : Pt → Array Value → Option Value → Pt → Prop} {PostX : Pt → Array Value → Addr → Pt → Prop} (hK : vx_Back l R p e below s args y 3 W9 Pre Post PostX)
    {b : Addr} {cellB : Cell} (hcell : T.heap[b]? = some cellB) (hobj : cellB.vm.isStatics = false) (hcls : s.vm.findClass C = some cellB.cls)
    {g : JFrame} (hg : g.method = m) (hsize : g.locals.size = c.maxLocals) {argsL rest : List Value} (hlen : ∀ sig, parseMethodDescriptor y.desc = some sig → argsL.length = sig.parameters.length)
    (hstack : g.stack = argsL.reverse ++ .ref b :: rest) (hW : 2 * g.monitorRoom + (rest.map fun v => v.category).sum ≤ W9) (hdg : decode c.code g.pc = .ok (.invokevirtual index, 3))
    (hpre : ∀ vm₁, s.WarmedH vm₁ → Pre ⟨T.setVm vm₁, locs, cells, slots⟩ (Value.ref b :: argsL).toArray) :
    (∃ (v : Option Value) (vm₁ : Vm) (B : Pt), s.WarmedH vm₁ ∧ Stand p l e R s m args below meth c B.U B.locs B.cells B.slots ∧ Post ⟨T.setVm vm₁, locs, cells, slots⟩ (Value.ref b :: argsL).toArray v B ∧
      ∀ target, Steps p.tables e below (B.U.setTop { g with pc := g.pc + 3, stack := v.toList ++ rest }) target → Steps p.tables e below (T.setTop g) target) ∨
    (∃ (q : Addr) (vm₁ : Vm) (B : Pt), s.WarmedH vm₁ ∧ Stand p l e R s m args below meth c B.U B.locs B.cells B.slots ∧ PostX ⟨T.setVm vm₁, locs, cells, slots⟩ (Value.ref b :: argsL).toArray q B ∧
      Steps p.tables e below (T.setTop g) ((B.U.setTop { g with stack := rest }).pushFrame (.throwing q))) := by
  obtain ⟨mk, methM, hnamed, hmethM, hstM, habM⟩ := Cond.instanceMethod_spec hinst
  obtain ⟨methM', cM, hmethM', -, -, -, -, -, -, hsigM⟩ := Cond.code_spec hnamed hcode
  cases hmethM.symm.trans hmethM'
  obtain ⟨c2, r2, m2, q1, q2, q3, q4, kP, hkP, hkPi⟩ := Cond.selects_spec hsel
  cases hcls.symm.trans q1
  cases (State.methodFound?_of_named hnamed hy).symm.trans q2
  cases hnamed.symm.trans q3
  have hselP : selectMethod e.platform s.vm cellB.cls mk = .method mk := by rw [Launch.admits_selectMethod X.admits]; exact q4
  obtain ⟨vm₁, X₁, hstep₁⟩ := X.invokevirtual hexec hown hlink hnamed hmethM hstM hkP hkPi hy (a := b) (cell := cellB) hcell
    (fun z h => by rw [h] at hobj; cases hobj) hselP hmethM habM hkP hkPi (g := g) hg (argsL := argsL) (rest := rest) (hlen _ hsigM) hstack hdg
  rcases hK m meth c ⟨T.setVm vm₁, locs, cells, slots⟩ { g with stack := rest } (.invokevirtual index) mk (Value.ref b :: argsL).toArray X₁ hg hsize hdg hW (X₁.named hnamed) (hpre vm₁ X₁.warmed) with ⟨v, B, X', hpost, hsteps⟩ | ⟨q, B, X', hpost, hsteps⟩
  · exact Or.inl ⟨v, vm₁, B, X₁.warmed, X', hpost, fun target h => hstep₁ _ fun acts => by rw [doInvoke_state]; exact hsteps.trans h⟩
  · exact Or.inr ⟨q, vm₁, B, X₁.warmed, X', hpost, hstep₁ _ fun acts => by rw [doInvoke_state]; exact hsteps⟩
theorem vx_callS (X : Stand p l e R s m args below meth c T locs cells slots) (hexec : p.tables.exec = Jvm.exec) {own : String} {index : Nat} {y : MethodName} {bytes : ByteArray} {maxL : Nat} {ret : Option FieldType}
    (hown : s.vm.findClass own = some m.cls) (hlink : (Cond.methodLink own index y).before args s = true) (hstat : (Cond.static y).before args s = true) (hinit : (Cond.initialized y.cls).before args s = true)
    (hcode : (Cond.code y bytes maxL ret).before args s = true) (hy : y.cls ≠ "java/lang/invoke/MethodHandle" ∧ y.cls ≠ "java/lang/invoke/VarHandle")
    {W9 : Nat} {Pre : Pt → Array Value → Prop} {Post : Pt → Array Value → Option Value → Pt → Prop} {PostX : Pt → Array Value → Addr → Pt → Prop} (hK : vx_Back l R p e below s args y 3 W9 Pre Post PostX)
    {g : JFrame} (hg : g.method = m) (hsize : g.locals.size = c.maxLocals) {argsL rest : List Value} (hlen : ∀ sig, parseMethodDescriptor y.desc = some sig → argsL.length = sig.parameters.length)
    (hstack : g.stack = argsL.reverse ++ rest) (hW : 2 * g.monitorRoom + (rest.map fun v => v.category).sum ≤ W9) (hdg : decode c.code g.pc = .ok (.invokestatic index, 3))
    (hpre : ∀ vm₁, s.WarmedH vm₁ → Pre ⟨T.setVm vm₁, locs, cells, slots⟩ argsL.toArray) :
    (∃ (v : Option Value) (vm₁ : Vm) (B : Pt), s.WarmedH vm₁ ∧ Stand p l e R s m args below meth c B.U B.locs B.cells B.slots ∧ Post ⟨T.setVm vm₁, locs, cells, slots⟩ argsL.toArray v B ∧
      ∀ target, Steps p.tables e below (B.U.setTop { g with pc := g.pc + 3, stack := v.toList ++ rest }) target → Steps p.tables e below (T.setTop g) target) ∨
    (∃ (q : Addr) (vm₁ : Vm) (B : Pt), s.WarmedH vm₁ ∧ Stand p l e R s m args below meth c B.U B.locs B.cells B.slots ∧ PostX ⟨T.setVm vm₁, locs, cells, slots⟩ argsL.toArray q B ∧
      Steps p.tables e below (T.setTop g) ((B.U.setTop { g with stack := rest }).pushFrame (.throwing q))) := by
  obtain ⟨mk, hnamed⟩ := Cond.code_named hcode
  obtain ⟨methM, cM, hmethM, -, -, -, -, -, -, hsigM⟩ := Cond.code_spec hnamed hcode
  have hstatic : methM.isStatic = true := Cond.static_spec hnamed hmethM hstat
  obtain ⟨kP, hkP, -⟩ := className_of_methodNamed hnamed
  have hinitP : kP.init = .initialized := Cond.initialized_spec (findClass_of_methodNamed hnamed) hkP hinit
  obtain ⟨vm₁, X₁, hstep₁⟩ := X.invokestatic hexec hown hlink hnamed hmethM hstatic hkP hinitP hy (g := g) hg (argsL := argsL) (rest := rest) (hlen _ hsigM) hstack hdg
  rcases hK m meth c ⟨T.setVm vm₁, locs, cells, slots⟩ { g with stack := rest } (.invokestatic index) mk argsL.toArray X₁ hg hsize hdg hW (X₁.named hnamed) (hpre vm₁ X₁.warmed) with ⟨v, B, X', hpost, hsteps⟩ | ⟨q, B, X', hpost, hsteps⟩
  · exact Or.inl ⟨v, vm₁, B, X₁.warmed, X', hpost, fun target h => hstep₁ _ fun acts => by rw [doInvoke_state]; exact hsteps.trans h⟩
  · exact Or.inr ⟨q, vm₁, B, X₁.warmed, X', hpost, hstep₁ _ fun acts => by rw [doInvoke_state]; exact hsteps⟩
end Calls
theorem vx_cls {s : State} {T : State} {vm₁ : Vm} {E : String} {k : ClassId} (hW : s.WarmedH vm₁) (h : (T.setVm vm₁).vm.findClass E = some k) : s.vm.findClass E = some k := by
  have h1 : vm₁.findClass E = some k := h
  rw [hW.alike.findClass] at h1
  exact h1
/-- the method's frame g, with q thrown over it -/
def vx_W (p : Program) (l : Launch) (e : Env) (R : Room) (s : State) (m : MethodId) (args : Array Value) (below : List Frame) (meth : Method) (c : Code) (H : Heap) (locs : List Loc) (cells slots : Nat) (Q : State → Prop) (g : JFrame) (q : Addr) : Prop :=
  ∀ T : State, T.heap = H → Stand p l e R s m args below meth c T locs cells slots → ∃ t, Steps p.tables e below ((T.setTop g).pushFrame (.throwing q)) t ∧ Q t
def vx_Run (p : Program) (l : Launch) (e : Env) (R : Room) (s : State) (m : MethodId) (args : Array Value) (below : List Frame) (meth : Method) (c : Code) (H : Heap) (locs : List Loc) (cells slots mc ms : Nat) (g : JFrame) (rest : List Value) (Qa : State → Outcome → State → Prop) (XC : String → State → State → Prop) (free : Addr → Prop) : Prop :=
  ∀ T : State, T.heap = H → Stand p l e R s m args below meth c T locs cells slots →
    (∃ (v : Option Value) (st₀ t T' : State) (L : List Loc), st₀.heap = H ∧ Stand p l e R s m args below meth c T' (locs ++ L) (cells + mc) (slots + ms) ∧ (∀ q ∈ L, free q.base) ∧ T'.heap = t.heap ∧ T'.vm = t.vm ∧ Qa st₀ (.returned v) t ∧
      Goes p e below T g T' { g with pc := g.pc + 3, stack := v.toList ++ rest }) ∨
    (∃ (q : Addr) (st₀ t T' : State) (L : List Loc) (E : String) (ce : Cell), st₀.heap = H ∧ Stand p l e R s m args below meth c T' (locs ++ L) (cells + mc) (slots + ms) ∧ (∀ z ∈ L, free z.base) ∧ T'.heap = t.heap ∧ T'.vm = t.vm ∧ XC E st₀ t ∧ t.heap[q]? = some ce ∧ ce.vm = .none ∧ s.vm.findClass E = some ce.cls ∧
      Steps p.tables e below (T.setTop g) ((T'.setTop { g with stack := rest }).pushFrame (.throwing q)))
def vx_X {S : Type} (px : S → Prop) (B : String → S → State → Prop) (A : Nat → Prop) : String → State → State → Prop := fun E st t => ∃ u : S, px u ∧ B E u t ∧ va_F A st t
section Runs
variable {p : Program} {l : Launch} {e : Env} {R : Room} {s : State} {m : MethodId} {args : Array Value} {below : List Frame} {meth : Method} {c : Code} {H : Heap} {locs : List Loc} {cells slots : Nat}
variable {y : MethodName} {bytes cc : ByteArray} {maxL nL mc ms n index : Nat} {ret : Option FieldType} {ws : List Cond} {rm : Room} {Pc : Array Value → State → Prop} {Qc : Array Value → State → Outcome → State → Prop} {XC : String → State → State → Prop} {free : Addr → Prop} {Ts : List Cond} {own C : String} {b : Addr} {As rest : List Value} {g : JFrame}
theorem vx_callBack (cb : CallB R s args own index y bytes maxL ret ws rm mc ms n) (hM : vx_Met l y ws rm Pc Qc XC mc ms free) (hbl : FrameBlind Pc) : vx_Back l R p e below s args y 3 8 (PreOf R mc ms Pc) (PostOf Qc mc ms free) (vx_Post XC mc ms free) := by
  obtain ⟨hrc, hrs, hfr, hlo, hws, hcw, -, hini, -⟩ := cb
  exact vx_back (bytes := bytes) (maxL := maxL) (ret := ret) hM hbl hrc hrs hfr hlo hws hcw (fun a' U hW => word_at hW (Or.inl (by first | rfl | simp [Cond.onTables, Cond.keeps, Cond.steady])) hini)
theorem vx_runV (S : CallFix p m c cc nL s args Ts own) (hM : vx_Met l y ws rm Pc Qc XC mc ms free) (cw : CallW R s args own C index y bytes maxL ret ws rm mc ms n) (hp : PreV s H C b Pc As)
    (hg : g.method = m) (hn : As.length = n) (hsize : g.locals.size = nL) (hstack : g.stack = As.reverse ++ .ref b :: rest) (hW : 2 * g.monitorRoom + (rest.map fun v => v.category).sum ≤ 8) (hdg : decode cc g.pc = .ok (.invokevirtual index, 3)) (hf : cells + mc ≤ R.cells ∧ slots + ms ≤ R.slots) :
    vx_Run p l e R s m args below meth c H locs cells slots mc ms g rest (Qc (Value.ref b :: As).toArray) XC free := by
  have hK : vx_Back l R p e below s args y 3 8 (PreOf R mc ms Pc) (PostOf Qc mc ms free) (vx_Post XC mc ms free) := vx_callBack cw.1 hM hp.1
  obtain ⟨⟨-, -, -, -, -, -, hcode, -, hy, hlen, hl⟩, hin, hse⟩ := cw
  obtain ⟨hx, hb, hml, ho, -⟩ := S
  obtain ⟨-, ⟨cellB, hcB, hoB, hclB⟩, hPc⟩ := hp
  intro T hT X
  rcases vx_callV X hx (C := C) (bytes := bytes) (maxL := maxL) (ret := ret) ho hl hin hse hcode hy hK (by rw [hT]; exact hcB) hoB hclB hg (hsize.trans hml.symm) (argsL := As) (rest := rest) (fun sig h => hn.trans (hlen sig h)) hstack hW (by rw [hb]; exact hdg)
    (fun vm₁ hW₁ => ⟨hf.1, hf.2, hPc (T.setVm vm₁) hT hW₁⟩) with ⟨v, vm₁, ⟨U', l2, c2, s2⟩, hW₁, X', ⟨g', mk, t, L, e1, e2, hq, h1, hL, h2, h3⟩, st⟩ | ⟨q, vm₁, ⟨U', l2, c2, s2⟩, hW₁, X', ⟨g', mk, t, L, E, ce, e1, e2, hq, hce, hcv, hcl, h1, hL, h2, h3⟩, st⟩
  · dsimp only [Pt.U, Pt.locs, Pt.cells, Pt.slots] at X' e1 e2 h1 h2 h3 st
    subst h1; subst h2; subst h3
    exact Or.inl ⟨v, (T.setVm vm₁).calling g' mk (Value.ref b :: As).toArray, t, U', L, hT, X', hL, e1, e2, hq, st⟩
  · dsimp only [Pt.U, Pt.locs, Pt.cells, Pt.slots] at X' e1 e2 h1 h2 h3 st hcl
    subst h1; subst h2; subst h3
    exact Or.inr ⟨q, (T.setVm vm₁).calling g' mk (Value.ref b :: As).toArray, t, U', L, E, ce, hT, X', hL, e1, e2, hq, hce, hcv, vx_cls hW₁ hcl, st⟩
theorem vx_runS (S : CallFix p m c cc nL s args Ts own) (hM : vx_Met l y ws rm Pc Qc XC mc ms free) (cw : CallB R s args own index y bytes maxL ret ws rm mc ms n ∧ (Cond.static y).before args s = true) (hp : PreS s H Pc As)
    (hg : g.method = m) (hn : As.length = n) (hsize : g.locals.size = nL) (hstack : g.stack = As.reverse ++ rest) (hW : 2 * g.monitorRoom + (rest.map fun v => v.category).sum ≤ 8) (hdg : decode cc g.pc = .ok (.invokestatic index, 3)) (hf : cells + mc ≤ R.cells ∧ slots + ms ≤ R.slots) :
    vx_Run p l e R s m args below meth c H locs cells slots mc ms g rest (Qc As.toArray) XC free := by
  have hK : vx_Back l R p e below s args y 3 8 (PreOf R mc ms Pc) (PostOf Qc mc ms free) (vx_Post XC mc ms free) := vx_callBack cw.1 hM hp.1
  obtain ⟨⟨-, -, -, -, -, -, hcode, hini, hy, hlen, hl⟩, hstt⟩ := cw
  obtain ⟨hx, hb, hml, ho, -⟩ := S
  intro T hT X
  rcases vx_callS X hx (bytes := bytes) (maxL := maxL) (ret := ret) ho hl hstt hini hcode hy hK hg (hsize.trans hml.symm) (argsL := As) (rest := rest) (fun sig h => hn.trans (hlen sig h)) hstack hW (by rw [hb]; exact hdg)
    (fun vm₁ hW₁ => ⟨hf.1, hf.2, hp.2 (T.setVm vm₁) hT hW₁⟩) with ⟨v, vm₁, ⟨U', l2, c2, s2⟩, hW₁, X', ⟨g', mk, t, L, e1, e2, hq, h1, hL, h2, h3⟩, st⟩ | ⟨q, vm₁, ⟨U', l2, c2, s2⟩, hW₁, X', ⟨g', mk, t, L, E, ce, e1, e2, hq, hce, hcv, hcl, h1, hL, h2, h3⟩, st⟩
  · dsimp only [Pt.U, Pt.locs, Pt.cells, Pt.slots] at X' e1 e2 h1 h2 h3 st
    subst h1; subst h2; subst h3
    exact Or.inl ⟨v, (T.setVm vm₁).calling g' mk As.toArray, t, U', L, hT, X', hL, e1, e2, hq, st⟩
  · dsimp only [Pt.U, Pt.locs, Pt.cells, Pt.slots] at X' e1 e2 h1 h2 h3 st hcl
    subst h1; subst h2; subst h3
    exact Or.inr ⟨q, (T.setVm vm₁).calling g' mk As.toArray, t, U', L, E, ce, hT, X', hL, e1, e2, hq, hce, hcv, vx_cls hW₁ hcl, st⟩
end Runs
section Rows
variable {p : Program} {l : Launch} {e : Env} {R : Room} {s : State} {m : MethodId} {args : Array Value} {below : List Frame} {meth : Method} {c : Code} {H : Heap} {locs : List Loc} {cells slots : Nat} {Q : State → Prop}
variable {mc ms : Nat} {free : Addr → Prop} {A0 A1 : Nat → Prop} {H0 : Heap} {a : Array Value} {pc : Nat} {ls : Array Slot} {st0 rest : List Value}
theorem vx_keep {st₀ t T' : State} {L : List Loc} (h0 : st₀.heap = H) (e1 : T'.heap = t.heap) (hS : va_S A0 H0 H locs) (hA : ∀ q, q < H.size → A1 q → A0 q) (hf : ∀ q, free q → A0 q) (hL : ∀ q ∈ L, free q.base) (hF : va_F A1 st₀ t) :
    H.size ≤ T'.heap.size ∧ (∀ q : Nat, q < H.size → ¬ A1 q → T'.heap[q]? = H[q]?) ∧ va_S A0 H0 T'.heap (locs ++ L) := by
  obtain ⟨hz, hk⟩ := hF
  rw [h0] at hz hk
  exact ⟨by rw [e1]; exact hz, fun q h1 h2 => by rw [e1]; exact hk q h1 h2,
    ⟨Nat.le_trans hS.1 (by rw [e1]; exact hz), fun q h1 h2 => by rw [e1, hk q (Nat.lt_of_lt_of_le h1 hS.1) (fun z => h2 (hA q (Nat.lt_of_lt_of_le h1 hS.1) z))]; exact hS.2.1 q h1 h2, fun q hq => by
      rcases List.mem_append.mp hq with h | h
      · exact hS.2.2 q h
      · exact hf _ (hL q h)⟩⟩
theorem vx_calli {S SX : Type} {post : Int32 → S → Prop} {px : SX → Prop} {B : S → State → Prop} {BX : String → SX → State → Prop} {AX : Nat → Prop} (hr : vx_Run p l e R s m args below meth c H locs cells slots mc ms (F0 m pc ls st0) rest (va_Qi post B A1 a) (vx_X px BX AX) free) (hS : va_S A0 H0 H locs) (hA : ∀ q, q < H.size → A1 q → A0 q) (hf : ∀ q, free q → A0 q) (hAX : ∀ q, q < H.size → AX q → A0 q)
    (kx : ∀ (E : String) (ce : Cell) (q9 : Addr) (u : SX) (t : State) (H1 : Heap) (locs1 : List Loc), t.heap = H1 → s.vm.Alike t.vm → px u → BX E u t → H.size ≤ H1.size → (∀ q : Nat, q < H.size → ¬ AX q → H1[q]? = H[q]?) → va_S A0 H0 H1 locs1 → H1[q9]? = some ce → ce.vm = .none → s.vm.findClass E = some ce.cls → vx_W p l e R s m args below meth c H1 locs1 (cells + mc) (slots + ms) Q (F0 m pc ls rest) q9)
    (kk : ∀ (r : Int32) (u : S) (t : State) (H1 : Heap) (locs1 : List Loc), t.heap = H1 → s.vm.Alike t.vm → post r u → B u t → H.size ≤ H1.size → (∀ q : Nat, q < H.size → ¬ A1 q → H1[q]? = H[q]?) → va_S A0 H0 H1 locs1 → W p l e R s m args below meth c H1 locs1 (cells + mc) (slots + ms) Q (F0 m (pc + 3) ls (.int r :: rest))) : W p l e R s m args below meth c H locs cells slots Q (F0 m pc ls st0) := by
  intro T hT X
  rcases hr T hT X with ⟨v, st₀, t, T', L, h0, X', hL, e1, e2, ⟨⟨r, u, hv, hp, hb⟩, hF⟩, st⟩ | ⟨q, st₀, t, T', L, E, ce, h0, X', hL, e1, e2, ⟨u, hp, hb, hF⟩, hce, hcv, hcl, st⟩
  · cases hv
    obtain ⟨k1, k2, k3⟩ := vx_keep h0 e1 hS hA hf hL hF
    obtain ⟨t2, a1, b1⟩ := kk r u t T'.heap (locs ++ L) e1.symm (by rw [← e2]; exact X'.warmed.alike) hp hb k1 k2 k3 T' rfl X'
    exact ⟨t2, st t2 a1, b1⟩
  · obtain ⟨k1, k2, k3⟩ := vx_keep h0 e1 hS hAX hf hL hF
    obtain ⟨t2, a1, b1⟩ := kx E ce q u t T'.heap (locs ++ L) e1.symm (by rw [← e2]; exact X'.warmed.alike) hp hb k1 k2 k3 (by rw [e1]; exact hce) hcv hcl T' rfl X'
    exact ⟨t2, st.trans a1, b1⟩
theorem vx_calll {S SX : Type} {post : Int64 → S → Prop} {px : SX → Prop} {B : S → State → Prop} {BX : String → SX → State → Prop} {AX : Nat → Prop} (hr : vx_Run p l e R s m args below meth c H locs cells slots mc ms (F0 m pc ls st0) rest (va_Ql post B A1 a) (vx_X px BX AX) free) (hS : va_S A0 H0 H locs) (hA : ∀ q, q < H.size → A1 q → A0 q) (hf : ∀ q, free q → A0 q) (hAX : ∀ q, q < H.size → AX q → A0 q)
    (kx : ∀ (E : String) (ce : Cell) (q9 : Addr) (u : SX) (t : State) (H1 : Heap) (locs1 : List Loc), t.heap = H1 → s.vm.Alike t.vm → px u → BX E u t → H.size ≤ H1.size → (∀ q : Nat, q < H.size → ¬ AX q → H1[q]? = H[q]?) → va_S A0 H0 H1 locs1 → H1[q9]? = some ce → ce.vm = .none → s.vm.findClass E = some ce.cls → vx_W p l e R s m args below meth c H1 locs1 (cells + mc) (slots + ms) Q (F0 m pc ls rest) q9)
    (kk : ∀ (r : Int64) (u : S) (t : State) (H1 : Heap) (locs1 : List Loc), t.heap = H1 → s.vm.Alike t.vm → post r u → B u t → H.size ≤ H1.size → (∀ q : Nat, q < H.size → ¬ A1 q → H1[q]? = H[q]?) → va_S A0 H0 H1 locs1 → W p l e R s m args below meth c H1 locs1 (cells + mc) (slots + ms) Q (F0 m (pc + 3) ls (.long r :: rest))) : W p l e R s m args below meth c H locs cells slots Q (F0 m pc ls st0) := by
  intro T hT X
  rcases hr T hT X with ⟨v, st₀, t, T', L, h0, X', hL, e1, e2, ⟨⟨r, u, hv, hp, hb⟩, hF⟩, st⟩ | ⟨q, st₀, t, T', L, E, ce, h0, X', hL, e1, e2, ⟨u, hp, hb, hF⟩, hce, hcv, hcl, st⟩
  · cases hv
    obtain ⟨k1, k2, k3⟩ := vx_keep h0 e1 hS hA hf hL hF
    obtain ⟨t2, a1, b1⟩ := kk r u t T'.heap (locs ++ L) e1.symm (by rw [← e2]; exact X'.warmed.alike) hp hb k1 k2 k3 T' rfl X'
    exact ⟨t2, st t2 a1, b1⟩
  · obtain ⟨k1, k2, k3⟩ := vx_keep h0 e1 hS hAX hf hL hF
    obtain ⟨t2, a1, b1⟩ := kx E ce q u t T'.heap (locs ++ L) e1.symm (by rw [← e2]; exact X'.warmed.alike) hp hb k1 k2 k3 (by rw [e1]; exact hce) hcv hcl T' rfl X'
    exact ⟨t2, st.trans a1, b1⟩
theorem vx_callf {S SX : Type} {post : UInt32 → S → Prop} {px : SX → Prop} {B : S → State → Prop} {BX : String → SX → State → Prop} {AX : Nat → Prop} (hr : vx_Run p l e R s m args below meth c H locs cells slots mc ms (F0 m pc ls st0) rest (va_Qf post B A1 a) (vx_X px BX AX) free) (hS : va_S A0 H0 H locs) (hA : ∀ q, q < H.size → A1 q → A0 q) (hf : ∀ q, free q → A0 q) (hAX : ∀ q, q < H.size → AX q → A0 q)
    (kx : ∀ (E : String) (ce : Cell) (q9 : Addr) (u : SX) (t : State) (H1 : Heap) (locs1 : List Loc), t.heap = H1 → s.vm.Alike t.vm → px u → BX E u t → H.size ≤ H1.size → (∀ q : Nat, q < H.size → ¬ AX q → H1[q]? = H[q]?) → va_S A0 H0 H1 locs1 → H1[q9]? = some ce → ce.vm = .none → s.vm.findClass E = some ce.cls → vx_W p l e R s m args below meth c H1 locs1 (cells + mc) (slots + ms) Q (F0 m pc ls rest) q9)
    (kk : ∀ (r : UInt32) (u : S) (t : State) (H1 : Heap) (locs1 : List Loc), t.heap = H1 → s.vm.Alike t.vm → post r u → B u t → H.size ≤ H1.size → (∀ q : Nat, q < H.size → ¬ A1 q → H1[q]? = H[q]?) → va_S A0 H0 H1 locs1 → W p l e R s m args below meth c H1 locs1 (cells + mc) (slots + ms) Q (F0 m (pc + 3) ls (.float r :: rest))) : W p l e R s m args below meth c H locs cells slots Q (F0 m pc ls st0) := by
  intro T hT X
  rcases hr T hT X with ⟨v, st₀, t, T', L, h0, X', hL, e1, e2, ⟨⟨r, u, hv, hp, hb⟩, hF⟩, st⟩ | ⟨q, st₀, t, T', L, E, ce, h0, X', hL, e1, e2, ⟨u, hp, hb, hF⟩, hce, hcv, hcl, st⟩
  · cases hv
    obtain ⟨k1, k2, k3⟩ := vx_keep h0 e1 hS hA hf hL hF
    obtain ⟨t2, a1, b1⟩ := kk r u t T'.heap (locs ++ L) e1.symm (by rw [← e2]; exact X'.warmed.alike) hp hb k1 k2 k3 T' rfl X'
    exact ⟨t2, st t2 a1, b1⟩
  · obtain ⟨k1, k2, k3⟩ := vx_keep h0 e1 hS hAX hf hL hF
    obtain ⟨t2, a1, b1⟩ := kx E ce q u t T'.heap (locs ++ L) e1.symm (by rw [← e2]; exact X'.warmed.alike) hp hb k1 k2 k3 (by rw [e1]; exact hce) hcv hcl T' rfl X'
    exact ⟨t2, st.trans a1, b1⟩
theorem vx_calld {S SX : Type} {post : UInt64 → S → Prop} {px : SX → Prop} {B : S → State → Prop} {BX : String → SX → State → Prop} {AX : Nat → Prop} (hr : vx_Run p l e R s m args below meth c H locs cells slots mc ms (F0 m pc ls st0) rest (va_Qd post B A1 a) (vx_X px BX AX) free) (hS : va_S A0 H0 H locs) (hA : ∀ q, q < H.size → A1 q → A0 q) (hf : ∀ q, free q → A0 q) (hAX : ∀ q, q < H.size → AX q → A0 q)
    (kx : ∀ (E : String) (ce : Cell) (q9 : Addr) (u : SX) (t : State) (H1 : Heap) (locs1 : List Loc), t.heap = H1 → s.vm.Alike t.vm → px u → BX E u t → H.size ≤ H1.size → (∀ q : Nat, q < H.size → ¬ AX q → H1[q]? = H[q]?) → va_S A0 H0 H1 locs1 → H1[q9]? = some ce → ce.vm = .none → s.vm.findClass E = some ce.cls → vx_W p l e R s m args below meth c H1 locs1 (cells + mc) (slots + ms) Q (F0 m pc ls rest) q9)
    (kk : ∀ (r : UInt64) (u : S) (t : State) (H1 : Heap) (locs1 : List Loc), t.heap = H1 → s.vm.Alike t.vm → post r u → B u t → H.size ≤ H1.size → (∀ q : Nat, q < H.size → ¬ A1 q → H1[q]? = H[q]?) → va_S A0 H0 H1 locs1 → W p l e R s m args below meth c H1 locs1 (cells + mc) (slots + ms) Q (F0 m (pc + 3) ls (.double r :: rest))) : W p l e R s m args below meth c H locs cells slots Q (F0 m pc ls st0) := by
  intro T hT X
  rcases hr T hT X with ⟨v, st₀, t, T', L, h0, X', hL, e1, e2, ⟨⟨r, u, hv, hp, hb⟩, hF⟩, st⟩ | ⟨q, st₀, t, T', L, E, ce, h0, X', hL, e1, e2, ⟨u, hp, hb, hF⟩, hce, hcv, hcl, st⟩
  · cases hv
    obtain ⟨k1, k2, k3⟩ := vx_keep h0 e1 hS hA hf hL hF
    obtain ⟨t2, a1, b1⟩ := kk r u t T'.heap (locs ++ L) e1.symm (by rw [← e2]; exact X'.warmed.alike) hp hb k1 k2 k3 T' rfl X'
    exact ⟨t2, st t2 a1, b1⟩
  · obtain ⟨k1, k2, k3⟩ := vx_keep h0 e1 hS hAX hf hL hF
    obtain ⟨t2, a1, b1⟩ := kx E ce q u t T'.heap (locs ++ L) e1.symm (by rw [← e2]; exact X'.warmed.alike) hp hb k1 k2 k3 (by rw [e1]; exact hce) hcv hcl T' rfl X'
    exact ⟨t2, st.trans a1, b1⟩
theorem vx_callv {S SX : Type} {post : S → Prop} {px : SX → Prop} {B : S → State → Prop} {BX : String → SX → State → Prop} {AX : Nat → Prop} (hr : vx_Run p l e R s m args below meth c H locs cells slots mc ms (F0 m pc ls st0) rest (va_Qv post B A1 a) (vx_X px BX AX) free) (hS : va_S A0 H0 H locs) (hA : ∀ q, q < H.size → A1 q → A0 q) (hf : ∀ q, free q → A0 q) (hAX : ∀ q, q < H.size → AX q → A0 q)
    (kx : ∀ (E : String) (ce : Cell) (q9 : Addr) (u : SX) (t : State) (H1 : Heap) (locs1 : List Loc), t.heap = H1 → s.vm.Alike t.vm → px u → BX E u t → H.size ≤ H1.size → (∀ q : Nat, q < H.size → ¬ AX q → H1[q]? = H[q]?) → va_S A0 H0 H1 locs1 → H1[q9]? = some ce → ce.vm = .none → s.vm.findClass E = some ce.cls → vx_W p l e R s m args below meth c H1 locs1 (cells + mc) (slots + ms) Q (F0 m pc ls rest) q9)
    (kk : ∀ (u : S) (t : State) (H1 : Heap) (locs1 : List Loc), t.heap = H1 → s.vm.Alike t.vm → post u → B u t → H.size ≤ H1.size → (∀ q : Nat, q < H.size → ¬ A1 q → H1[q]? = H[q]?) → va_S A0 H0 H1 locs1 → W p l e R s m args below meth c H1 locs1 (cells + mc) (slots + ms) Q (F0 m (pc + 3) ls (rest))) : W p l e R s m args below meth c H locs cells slots Q (F0 m pc ls st0) := by
  intro T hT X
  rcases hr T hT X with ⟨v, st₀, t, T', L, h0, X', hL, e1, e2, ⟨⟨u, hv, hp, hb⟩, hF⟩, st⟩ | ⟨q, st₀, t, T', L, E, ce, h0, X', hL, e1, e2, ⟨u, hp, hb, hF⟩, hce, hcv, hcl, st⟩
  · cases hv
    obtain ⟨k1, k2, k3⟩ := vx_keep h0 e1 hS hA hf hL hF
    obtain ⟨t2, a1, b1⟩ := kk u t T'.heap (locs ++ L) e1.symm (by rw [← e2]; exact X'.warmed.alike) hp hb k1 k2 k3 T' rfl X'
    exact ⟨t2, st t2 a1, b1⟩
  · obtain ⟨k1, k2, k3⟩ := vx_keep h0 e1 hS hAX hf hL hF
    obtain ⟨t2, a1, b1⟩ := kx E ce q u t T'.heap (locs ++ L) e1.symm (by rw [← e2]; exact X'.warmed.alike) hp hb k1 k2 k3 (by rw [e1]; exact hce) hcv hcl T' rfl X'
    exact ⟨t2, st.trans a1, b1⟩
end Rows
section Ends
variable {p : Program} {l : Launch} {e : Env} {R : Room} {s : State} {m : MethodId} {args : Array Value} {below : List Frame} {meth : Method} {c : Code} {H : Heap} {locs : List Loc} {cells slots : Nat} {Q : State → Prop}
variable {mc ms : Nat} {free : Addr → Prop} {A0 A1 : Nat → Prop} {H0 : Heap} {a : Array Value} {ls : Array Slot} {st0 rest : List Value}
variable {Qc : Array Value → State → Outcome → State → Prop} {XC : String → State → State → Prop}
/-- what a body that may throw owes at its end -/
def vx_MQ (below : List Frame) (Qc : Array Value → State → Outcome → State → Prop) (XC : String → State → State → Prop) (a : Array Value) (s : State) (mc ms : Nat) (free : Addr → Prop) : State → Prop := fun t =>
  ∃ o, t.status = .running ∧ Ended t below o ∧ vx_Q Qc XC mc ms free a s o t
theorem vx_ret {g : JFrame} {mc ms : Nat} (k : W p l e R s m args below meth c H locs cells slots (MQ below Qc args s mc ms free) g) : W p l e R s m args below meth c H locs cells slots (vx_MQ below Qc XC args s mc ms free) g := by
  intro T hT X
  obtain ⟨t, a1, o, b1, b2, b3, b4⟩ := k T hT X
  exact ⟨t, a1, o, b1, b2, Or.inl ⟨b3, b4⟩⟩
/-- not caught here: it goes on to the caller -/
theorem vx_widen {g : JFrame} {q : Addr} {k n : Nat} (h1 : cells ≤ k) (h2 : slots ≤ n) (kk : vx_W p l e R s m args below meth c H locs k n Q g q) : vx_W p l e R s m args below meth c H locs cells slots Q g q := fun T hT X => kk T hT (stand_widen X h1 h2)
theorem vx_out {pc : Nat} {E : String} {ce : Cell} {q : Addr} {mc ms : Nat} (hout : ∀ x ∈ c.exceptionTable.toList, covers x pc = false) (hlocks : meth.locks = false) (hcell : H[q]? = some ce) (hv : ce.vm = .none) (hcl : s.vm.findClass E = some ce.cls)
    (hx : ∀ t : State, t.heap = H → s.vm.Alike t.vm → XC E s t) (hf : ∀ z ∈ locs, free z.base) (hc : cells ≤ mc) (hs : slots ≤ ms) :
    vx_W p l e R s m args below meth c H locs cells slots (vx_MQ below Qc XC args s mc ms free) (F0 m pc ls rest) q := by
  intro T hT X
  obtain ⟨st1, hrun, hend, hW, hsm⟩ := X.leaveThrown q (g := F0 m pc ls rest) rfl rfl rfl hout hlocks
  have hcell9 : (T.setFrames (.throwing q :: below)).heap[q]? = some ce := by
    show T.heap[q]? = some ce
    rw [hT]; exact hcell
  exact ⟨_, st1, .threw q, hrun, hend, Or.inr ⟨q, rfl, E, ce, locs, hx _ hT hW.alike, hcell9, hv, hcl, hW, hsm.mono hc hs, hf⟩⟩
theorem vx_frame {U : State} {k n : Nat} (h : s.sameButNew ({ U with vm := s.vm } : State) locs k n) : s.heap.size ≤ U.heap.size ∧ ∀ q : Nat, q < s.heap.size → (∀ z ∈ locs, z.base ≠ q) → U.heap[q]? = s.heap[q]? := by
  obtain ⟨-, h2, -, -, -, h6⟩ := h
  refine ⟨h2, fun q hq hz => ?_⟩
  obtain ⟨c9, e1, e2, e3, e4⟩ := h6 q _ (Array.getElem?_eq_getElem hq)
  have hs : c9.slots = (s.heap[q]).slots := Array.ext_getElem? fun i => e4 i fun hm => hz _ hm rfl
  have h9 : c9 = s.heap[q] := by
    rw [hs] at e2
    exact e2
  have e5 : U.heap[q]? = some c9 := e1
  rw [e5, h9, Array.getElem?_eq_getElem hq]
/-- the words of a throw but the four that speak of the heap -/
def vx_no (w : Cond) : Bool := decide (w ≠ .isRef (.static Bundle.tN "UNASSIGNED_STACK" Bundle.steD)) && decide (w ≠ .isRef (.static Bundle.tN "SUPPRESSED_SENTINEL" Bundle.listD)) && decide (w ≠ .laysStatic Bundle.tN "UNASSIGNED_STACK" Bundle.steD) && decide (w ≠ .laysStatic Bundle.tN "SUPPRESSED_SENTINEL" Bundle.listD)
def vx_at0 (own : String) (ic : Nat) (X : String) (names : List String) : List Cond := (Bundle.ownAtoms0 own ic X names).filter vx_no
def vx_atS (own : String) (ic : Nat) (X : String) (names : List String) : List Cond := (Bundle.ownAtoms own ic X names).filter vx_no
/-- a word that the tables alone decide, or a good one -/
def vx_ot (w : Cond) : Bool := w.onTables || goodWord w
theorem vx_ot_at {args a' : Array Value} {s U : State} {w : Cond} (hW : s.WarmedH U.vm) (hvm : s.vm = U.vm) (hg : vx_ot w = true) (h : w.before args s = true) : w.before a' U = true := by
  simp only [vx_ot, Bool.or_eq_true] at hg
  rcases hg with hg | hg
  · exact va_tabs hg hvm h
  · exact word_at hW (good_of_word hg) h
/-- a list's words: the good ones out of the method's own list, the others by premises of their own -/
theorem vx_hat {args : Array Value} {s : State} {L B : List Cond} (h1 : ∀ w ∈ L.filter goodWord, w.before args s = true) (h2 : ∀ w ∈ L.filter (fun w => !goodWord w), w ∈ B) (h3 : ∀ w ∈ B, w.before args s = true) : ∀ w ∈ L, w.before args s = true := by
  intro w hw
  by_cases g : goodWord w = true
  · exact h1 w (List.mem_filter.mpr ⟨hw, g⟩)
  · refine h3 w (h2 w (List.mem_filter.mpr ⟨hw, ?_⟩))
    show (!goodWord w) = true
    cases hgw : goodWord w
    · rfl
    · exact absurd hgw g
theorem vx_c {args : Array Value} {s : State} {w : Cond} {B : List Cond} (h : w.before args s = true) (t : ∀ w ∈ B, w.before args s = true) : ∀ w' ∈ w :: B, w'.before args s = true := fun w' h' => (List.mem_cons.mp h').elim (fun e => by rw [e]; exact h) (t w')
theorem vx_n {args : Array Value} {s : State} : ∀ w ∈ ([] : List Cond), w.before args s = true := fun _ h => nomatch h
theorem vx_own {args : Array Value} {s : State} {L : List Cond} (h1 : ∀ w ∈ L.filter vx_no, w.before args s = true)
    (hU : (Cond.isRef (.static Bundle.tN "UNASSIGNED_STACK" Bundle.steD)).before args s = true) (hN : (Cond.isRef (.static Bundle.tN "SUPPRESSED_SENTINEL" Bundle.listD)).before args s = true)
    (lU : (Cond.laysStatic Bundle.tN "UNASSIGNED_STACK" Bundle.steD).before args s = true) (lN : (Cond.laysStatic Bundle.tN "SUPPRESSED_SENTINEL" Bundle.listD).before args s = true) : ∀ w ∈ L, w.before args s = true := by
  intro w hw
  by_cases e1 : w = .isRef (.static Bundle.tN "UNASSIGNED_STACK" Bundle.steD)
  · rw [e1]; exact hU
  · by_cases e2 : w = .isRef (.static Bundle.tN "SUPPRESSED_SENTINEL" Bundle.listD)
    · rw [e2]; exact hN
    · by_cases e3 : w = .laysStatic Bundle.tN "UNASSIGNED_STACK" Bundle.steD
      · rw [e3]; exact lU
      · by_cases e4 : w = .laysStatic Bundle.tN "SUPPRESSED_SENTINEL" Bundle.listD
        · rw [e4]; exact lN
        · exact h1 w (List.mem_filter.mpr ⟨hw, by unfold vx_no; rw [decide_eq_true e1, decide_eq_true e2, decide_eq_true e3, decide_eq_true e4]; rfl⟩)
/-- where a static field lies, its class's statics cell in H -/
def vx_L (C n d : String) (A : Nat → Prop) (U : State) (H : Heap) : Prop := ∃ (c : ClassId) (k : Class) (i : Nat) (f : Field) (a : Nat) (cell : Cell), U.vm.findClass C = some c ∧ U.fieldFound? C n d = some (c, k, i, f) ∧ f.isStatic = true ∧ k.statics = some a ∧ H[a]? = some cell ∧ cell.vm.isStatics = true ∧ cell.cls = c ∧ f.slot < cell.slots.size ∧ k.staticTypes[f.slot]? = some f.type ∧ ¬ A a
theorem vx_L.moved {C n d : String} {A : Nat → Prop} {u U : State} {H : Heap} (hvm : u.vm.Alike U.vm) (h : vx_L C n d A u H) : vx_L C n d A U H := by
  obtain ⟨c, k, i, f, a, cell, h1, h2, h3, h4, h5, h6, h7, h8, h9, h10⟩ := h
  obtain ⟨k', hi', he⟩ := State.fieldFound?_setVm hvm h2
  exact ⟨c, k', i, f, a, cell, by rw [hvm.findClass]; exact h1, hi', h3, by rw [he]; exact h4, h5, h6, h7, h8, by rw [he]; exact h9, h10⟩
theorem vx_L.kept {C n d : String} {A : Nat → Prop} {U : State} {H H1 : Heap} (h : vx_L C n d A U H) (hq : ∀ a : Nat, a < H.size → ¬ A a → H1[a]? = H[a]?) : vx_L C n d A U H1 := by
  obtain ⟨c, k, i, f, a, cell, h1, h2, h3, h4, h5, h6, h7, h8, h9, h10⟩ := h
  exact ⟨c, k, i, f, a, cell, h1, h2, h3, h4, by rw [hq a (Array.getElem?_eq_some_iff.mp h5).1 h10]; exact h5, h6, h7, h8, h9, h10⟩
theorem vx_L.narrow {C n d : String} {A B : Nat → Prop} {U : State} {H : Heap} (h : vx_L C n d A U H) (hAB : ∀ q, B q → A q) : vx_L C n d B U H := by
  obtain ⟨c, k, i, f, a, cell, h1, h2, h3, h4, h5, h6, h7, h8, h9, h10⟩ := h
  exact ⟨c, k, i, f, a, cell, h1, h2, h3, h4, h5, h6, h7, h8, h9, fun z => h10 (hAB _ z)⟩
theorem vx_L.word {C n d : String} {A : Nat → Prop} {s : State} {args : Array Value} (h : vx_L C n d A s s.heap) : (Cond.laysStatic C n d).before args s = true := by
  obtain ⟨c, k, i, f, a, cell, h1, h2, h3, h4, h5, h6, h7, h8, h9, -⟩ := h
  show (Cond.laysStatic C n d).holds args s none s [] = true
  exact Cond.laysStatic_of h1 h2 h3 h4 h5 h6 h7 h8 h9
/-- .. and what it holds: null or some reference -/
def vx_Zq (C n d : String) (A : Nat → Prop) (U : State) (H : Heap) : Prop := va_Zq C n d A U H ∧ vx_L C n d A U H
theorem vx_Zq.moved {C n d : String} {A : Nat → Prop} {u U : State} {H : Heap} (hvm : u.vm.Alike U.vm) (h : vx_Zq C n d A u H) : vx_Zq C n d A U H := ⟨va_Zq.moved hvm h.1, vx_L.moved hvm h.2⟩
theorem vx_Zq.kept {C n d : String} {A : Nat → Prop} {U : State} {H H1 : Heap} (h : vx_Zq C n d A U H) (hq : ∀ a : Nat, a < H.size → ¬ A a → H1[a]? = H[a]?) : vx_Zq C n d A U H1 := ⟨va_Zq.kept h.1 hq, vx_L.kept h.2 hq⟩
theorem vx_Zq.narrow {C n d : String} {A B : Nat → Prop} {U : State} {H : Heap} (h : vx_Zq C n d A U H) (hAB : ∀ q, B q → A q) : vx_Zq C n d B U H := ⟨va_Zq.narrow h.1 hAB, vx_L.narrow h.2 hAB⟩
theorem vx_Zqof {args : Array Value} {s : State} {C n d : String} {A : Nat → Prop} (hl : (Cond.laysStatic C n d).before args s = true) (hini : (Cond.initialized C).before args s = true) (h : (Cond.isRef (.static C n d)).before args s = true) (hA : ∀ a : Nat, a < s.heap.size → ¬ A a) : vx_Zq C n d A s s.heap := by
  refine ⟨va_Zqof hl hini h hA, ?_⟩
  obtain ⟨c, k, i, f, a, cell, h1, h2, h3, h4, h5, h6, h7, h8, h9⟩ := Cond.laysStatic_spec hl
  exact ⟨c, k, i, f, a, cell, h1, h2, h3, h4, h5, h6, h7, h8, h9, hA a (Array.getElem?_eq_some_iff.mp h5).1⟩
theorem vx_isRef {C n d : String} {v : Value} {A : Nat → Prop} {s : State} {args : Array Value} (h : va_Z C n d v A s s.heap) (hv : v.isRef = true) : (Cond.isRef (.static C n d)).before args s = true := by
  obtain ⟨cf, kf, fi, f, a, cell, h1, h2, h3, h4, h5, h6, h7, -⟩ := h
  have he : (Term.static C n d).eval args s none [] s = some v := by
    simp [Term.eval, State.fieldNamed?, h1, h2, h4, h5, h6, h7]
  simp only [Cond.before, Cond.holds, Cond.value, he]
  cases v <;> simp_all [Value.isRef]
theorem vx_isRefq {C n d : String} {A : Nat → Prop} {s : State} {args : Array Value} (h : va_Zq C n d A s s.heap) : (Cond.isRef (.static C n d)).before args s = true := by
  rcases h with h | ⟨t, h⟩
  · exact vx_isRef h rfl
  · exact vx_isRef h rfl
/-- the same frame, seen from here: as if the method were called anew in this heap -/
theorem vx_rebase {T : State} (X : Stand p l e R s m args below meth c T locs cells slots) {R' : Room} (hf : R'.frames ≤ R.frames) (hl : R'.locals ≤ R.locals) (hc : cells + R'.cells ≤ R.cells) (hs : slots + R'.slots ≤ R.slots) :
    Stand p l e R' ((T.setVm s.vm).setFrames (.invoking m args :: below)) m args below meth c T [] 0 0 := by
  have htop : (T.setVm s.vm).topJava?.isSome := X.here.top
  have hF : ((T.setVm s.vm).setFrames (.invoking m args :: below)).frames = .invoking m args :: below := State.frames_setFrames _ (State.cur_lt_of_top htop)
  obtain ⟨g₀, hg0⟩ := Option.isSome_iff_exists.mp htop
  obtain ⟨r, hr⟩ := State.topJava?_eq_some.mp hg0
  have hl9 : e.platform.stackLimits (T.setVm s.vm).me = e.platform.stackLimits s.me := X.limits
  have hb9 : (T.setVm s.vm).me.stackBytes = s.me.stackBytes := X.bytes
  refine ⟨X.admits, X.cas, X.clock, hF, ?_, X.hears, X.method, X.code, X.here, X.tail, X.warmed, ?_, ?_, ?_⟩
  · have h := X.room
    have hU : ((T.setVm s.vm).setFrames (.invoking m args :: below)).localsInUse = s.localsInUse := by
      rw [State.localsInUse_invoking hF (meth := meth) (c := c) X.method X.code, State.localsInUse_invoking X.frames X.method X.code]
    simp only [State.hasRoom, Bool.and_eq_true, decide_eq_true_eq] at h ⊢
    obtain ⟨⟨⟨⟨h1, h2, h3, h4, h5, h6⟩, h7⟩, h8⟩, h9⟩ := h
    rw [X.frames, List.length_cons] at h2 h3
    have q1 := X.heapSize
    have q2 := X.used
    simp only [hF, hU, List.length_cons, State.stackLimits_setFrames, State.stackBytes_setFrames, hl9, hb9]
    refine ⟨⟨⟨⟨by omega, by omega, by omega, by omega, by omega, h6⟩, ?_⟩, ?_⟩, X.book⟩
    · show T.heap.size + R'.cells ≤ e.platform.maxCells
      omega
    · show T.slotsUsed + R'.slots ≤ e.platform.maxSlots
      omega
  · rw [State.stackLimits_setFrames]; rfl
  · rw [State.stackBytes_setFrames]; rfl
  · refine ⟨?_, Nat.le_refl _, Nat.le_refl _, ?_, ?_, fun a c9 h9 => ⟨c9, h9, rfl, rfl, fun _ _ => rfl⟩⟩
    · obtain ⟨t, ht, -⟩ := State.frames_cons hr
      show T.setVm s.vm = { ((T.setVm s.vm).setFrames (.invoking m args :: below)).setFrames (T.setVm s.vm).frames with heap := T.heap, slotsUsed := T.slotsUsed }
      rw [State.setFrames_setFrames, State.setFrames_self ht]
      rfl
    · show T.slotsUsed = T.slotsUsed + ((T.heap.toList.drop T.heap.size).map (·.slots.size)).sum
      rw [List.drop_eq_nil_of_le (Nat.le_of_eq Array.length_toList)]
      rfl
    · show ((T.heap.toList.drop T.heap.size).map (·.slots.size)).sum ≤ 0
      rw [List.drop_eq_nil_of_le (Nat.le_of_eq Array.length_toList)]
      exact Nat.le_refl _
/-- 'throw new E()': new; dup; invokespecial; athrow -/
theorem vx_throw0 {cc : ByteArray} {pc : Nat} (hexec : p.tables.exec = Jvm.exec) (hb : c.code = cc) (hl : l.stackTraces = false) {own cls : String} {names : List String} {ik ic mc ms : Nat} {A : Nat → Prop}
    (hown : s.vm.findClass own = some m.cls) (hcls : Bundle.fit cls = true) (hnames : ∀ n ∈ names, Bundle.fit n = true)
    (hk : (Cond.classLink own ik cls).before args s = true) (hini : (Cond.initialized cls).before args s = true) (hat : ∀ w ∈ vx_at0 own ic cls names, w.before args s = true)
    (hgood : ∀ w ∈ Cond.classLink own ik cls :: Cond.initialized cls :: vx_at0 own ic cls names, vx_ot w = true)
    (hU : vx_Zq Bundle.tN "UNASSIGNED_STACK" Bundle.steD A s s.heap) (hN : vx_Zq Bundle.tN "SUPPRESSED_SENTINEL" Bundle.listD A s s.heap) (hS : va_S A s.heap H locs) (hsize : ls.size = c.maxLocals)
    (d0 : decode cc pc = .ok (.new ik, 3)) (d3 : decode cc (pc + 3) = .ok (.dup, 1)) (d4 : decode cc (pc + 4) = .ok (.invokespecial ic, 3)) (d7 : decode cc (pc + 7) = .ok (.athrow, 1))
    (hout : ∀ x ∈ c.exceptionTable.toList, covers x (pc + 7) = false)
    (hRframes : names.length + 3 < R.frames) (hRlocals : (rest.map fun v => v.category).sum + (13 * (names.length + 1) + 42) ≤ R.locals) (hRcells : cells + 1 ≤ R.cells) (hRslots : slots + 6 ≤ R.slots) (hlocks : meth.locks = false)
    (hx : ∀ t : State, s.vm.Alike t.vm → H.size ≤ t.heap.size → (∀ q : Nat, q < H.size → t.heap[q]? = H[q]?) → XC cls s t)
    (hf : ∀ z ∈ locs, free z.base) (hc : cells + 1 ≤ mc) (hs : slots + 6 ≤ ms) :
    W p l e R s m args below meth c H locs cells slots (vx_MQ below Qc XC args s mc ms free) (F0 m pc ls rest) := by
  intro T hT X
  have htr : e.platform.stackTraces = false := (show e.platform.stackTraces = l.stackTraces by rw [X.admits.platform]).trans hl
  have Y := vx_rebase X (R' := { frames := R.frames, locals := R.locals, cells := 1, slots := 6 }) (Nat.le_refl _) (Nat.le_refl _) hRcells hRslots
  obtain ⟨s', hA⟩ : ∃ z, z = (T.setVm s.vm).setFrames (.invoking m args :: below) := ⟨_, rfl⟩
  rw [← hA] at Y
  have hvm : s'.vm = s.vm := by rw [hA]; rfl
  have hhp : s'.heap = H := by rw [hA]; exact hT
  have hW0 : s.WarmedH s'.vm := by rw [hvm]; exact State.WarmedH.refl s
  have hat' : ∀ w ∈ vx_at0 own ic cls names, w.before args s' = true := fun w hw => vx_ot_at hW0 hvm.symm (hgood w (List.mem_cons_of_mem _ (List.mem_cons_of_mem _ hw))) (hat w hw)
  have hk' : (Cond.classLink own ik cls).before args s' = true := vx_ot_at hW0 hvm.symm (hgood _ List.mem_cons_self) hk
  have hini' : (Cond.initialized cls).before args s' = true := vx_ot_at hW0 hvm.symm (hgood _ (List.mem_cons_of_mem _ List.mem_cons_self)) hini
  have hU' : vx_Zq Bundle.tN "UNASSIGNED_STACK" Bundle.steD A s' s'.heap := by rw [hhp]; exact vx_Zq.moved hW0.alike (hU.kept hS.2.1)
  have hN' : vx_Zq Bundle.tN "SUPPRESSED_SENTINEL" Bundle.listD A s' s'.heap := by rw [hhp]; exact vx_Zq.moved hW0.alike (hN.kept hS.2.1)
  have h : ∀ w ∈ Bundle.ownAtoms0 own ic cls names, w.before args s' = true := vx_own hat' (vx_isRefq hU'.1) (vx_isRefq hN'.1) hU'.2.word hN'.2.word
  have hown' : s'.vm.findClass own = some m.cls := by rw [hvm]; exact hown
  have hins : (Cond.instantiable cls 6).before args s' = true := h _ (by simp [Bundle.ownAtoms0])
  obtain ⟨vm₁, cX, kX, hfX, hkX, -, -, X₁, st1⟩ := Y.newCold hexec (own := own) (C := cls) (index := ik) (n := 6) hown' hk' hins hini'
    (g := F0 m pc ls rest) rfl (by rw [hb]; exact d0) (Nat.le_refl _) (Nat.le_refl _)
  generalize hT1 : (T.setVm vm₁).pushCell { cls := cX, slots := kX.instanceTypes.map defaultValue, vm := .none } = T1 at X₁ st1
  have hcat : (Value.ref T.heap.size).category = 1 := rfl
  have hcellA : T1.heap[T.heap.size]? = some (freshCell cX kX) := by rw [← hT1]; exact State.heap_pushCell_size _ _
  have d3' : decode c.code (pc + 3) = .ok (.dup, 1) := by rw [hb]; exact d3
  obtain ⟨U, hsteps, hrun, hend, hW, hsame, ce, hce, hO⟩ := X₁.ctorThrow0 hexec htr (own := own) (cls := cls) (names := names) (ic := ic) hown' hcls hnames h (fun x hx => nomatch hx) hfX hkX hcellA (by rw [hhp, hT]; exact Nat.le_refl _)
    (g := { method := m, pc := pc + 4, locals := ls, stack := .ref T.heap.size :: .ref T.heap.size :: rest, locked := none }) rfl hsize rfl rfl (rest := rest) rfl
    (by rw [hb]; exact d4) (by rw [hb]; exact d7) hout hRframes (by simp only [List.map_cons, List.sum_cons, hcat]; omega) hlocks
  obtain ⟨f1, f2⟩ := vx_frame hsame
  rw [hhp] at f1 f2
  have hWs : s.WarmedH U.vm := State.WarmedH.trans hW0 hW
  have hcl : s.vm.findClass cls = some ce.cls := by
    have h9 := hO.cls
    rw [hvm] at h9
    exact h9
  have hall : s.sameButNew ({ U with vm := s.vm } : State) locs mc ms := by
    subst hA
    obtain ⟨e1, e2⟩ := hsame
    rw [State.setFrames_setFrames] at e1
    have h2 : (T.setVm s.vm).sameButNew ({ U with vm := s.vm } : State) [] (0 + 1) (0 + 6) := ⟨e1, e2⟩
    have h3 := X.same.trans h2
    rw [List.append_nil] at h3
    exact h3.mono hc hs
  refine ⟨U, ?_, .threw T.heap.size, hrun, hend, Or.inr ⟨T.heap.size, rfl, cls, ce, locs, hx U hWs.alike f1 (fun q hq => f2 q hq (fun z hz => nomatch hz)), hce, hO.vm, hcl, hWs, hall, hf⟩⟩
  refine st1 _ ?_
  show Steps p.tables e below (T1.setTop { method := m, pc := pc + 3, locals := ls, stack := .ref T.heap.size :: rest, locked := none }) _
  jvm_step X₁.here [X₁.here.top, hexec, d3', Value.category]
  exact hsteps
/-- 'throw new E("text")': new; dup; ldc; invokespecial; athrow -/
theorem vx_throwS {cc : ByteArray} {pc : Nat} (hexec : p.tables.exec = Jvm.exec) (hb : c.code = cc) (hl : l.stackTraces = false) {own cls text : String} {names : List String} {ik is ic mc ms sa : Nat} {A : Nat → Prop}
    (hown : s.vm.findClass own = some m.cls) (hcls : Bundle.fit cls = true) (hnames : ∀ n ∈ names, Bundle.fit n = true)
    (hk : (Cond.classLink own ik cls).before args s = true) (hini : (Cond.initialized cls).before args s = true) (hstr : vk_R own is text sa s) (hat : ∀ w ∈ vx_atS own ic cls names, w.before args s = true)
    (hgood : ∀ w ∈ Cond.classLink own ik cls :: Cond.initialized cls :: vx_atS own ic cls names, vx_ot w = true)
    (hU : vx_Zq Bundle.tN "UNASSIGNED_STACK" Bundle.steD A s s.heap) (hN : vx_Zq Bundle.tN "SUPPRESSED_SENTINEL" Bundle.listD A s s.heap) (hS : va_S A s.heap H locs) (hsize : ls.size = c.maxLocals)
    (d0 : decode cc pc = .ok (.new ik, 3)) (d3 : decode cc (pc + 3) = .ok (.dup, 1)) (d4 : decode cc (pc + 4) = .ok (.ldc is, 2)) (d6 : decode cc (pc + 6) = .ok (.invokespecial ic, 3)) (d9 : decode cc (pc + 9) = .ok (.athrow, 1))
    (hout : ∀ x ∈ c.exceptionTable.toList, covers x (pc + 9) = false)
    (hRframes : names.length + 3 < R.frames) (hRlocals : (rest.map fun v => v.category).sum + (13 * (names.length + 1) + 43) ≤ R.locals) (hRcells : cells + 1 ≤ R.cells) (hRslots : slots + 6 ≤ R.slots) (hlocks : meth.locks = false)
    (hx : ∀ t : State, s.vm.Alike t.vm → H.size ≤ t.heap.size → (∀ q : Nat, q < H.size → t.heap[q]? = H[q]?) → XC cls s t)
    (hf : ∀ z ∈ locs, free z.base) (hc : cells + 1 ≤ mc) (hs : slots + 6 ≤ ms) :
    W p l e R s m args below meth c H locs cells slots (vx_MQ below Qc XC args s mc ms free) (F0 m pc ls rest) := by
  intro T hT X
  have htr : e.platform.stackTraces = false := (show e.platform.stackTraces = l.stackTraces by rw [X.admits.platform]).trans hl
  have Y := vx_rebase X (R' := { frames := R.frames, locals := R.locals, cells := 1, slots := 6 }) (Nat.le_refl _) (Nat.le_refl _) hRcells hRslots
  obtain ⟨s', hA⟩ : ∃ z, z = (T.setVm s.vm).setFrames (.invoking m args :: below) := ⟨_, rfl⟩
  rw [← hA] at Y
  have hvm : s'.vm = s.vm := by rw [hA]; rfl
  have hhp : s'.heap = H := by rw [hA]; exact hT
  have hW0 : s.WarmedH s'.vm := by rw [hvm]; exact State.WarmedH.refl s
  have hat' : ∀ w ∈ vx_atS own ic cls names, w.before args s' = true := fun w hw => vx_ot_at hW0 hvm.symm (hgood w (List.mem_cons_of_mem _ (List.mem_cons_of_mem _ hw))) (hat w hw)
  have hk' : (Cond.classLink own ik cls).before args s' = true := vx_ot_at hW0 hvm.symm (hgood _ List.mem_cons_self) hk
  have hini' : (Cond.initialized cls).before args s' = true := vx_ot_at hW0 hvm.symm (hgood _ (List.mem_cons_of_mem _ List.mem_cons_self)) hini
  have hU' : vx_Zq Bundle.tN "UNASSIGNED_STACK" Bundle.steD A s' s'.heap := by rw [hhp]; exact vx_Zq.moved hW0.alike (hU.kept hS.2.1)
  have hN' : vx_Zq Bundle.tN "SUPPRESSED_SENTINEL" Bundle.listD A s' s'.heap := by rw [hhp]; exact vx_Zq.moved hW0.alike (hN.kept hS.2.1)
  have h : ∀ w ∈ Bundle.ownAtoms own ic cls names, w.before args s' = true := vx_own hat' (vx_isRefq hU'.1) (vx_isRefq hN'.1) hU'.2.word hN'.2.word
  have hown' : s'.vm.findClass own = some m.cls := by rw [hvm]; exact hown
  have hins : (Cond.instantiable cls 6).before args s' = true := h _ (by simp [Bundle.ownAtoms])
  obtain ⟨vm₁, cX, kX, hfX, hkX, -, -, X₁, st1⟩ := Y.newCold hexec (own := own) (C := cls) (index := ik) (n := 6) hown' hk' hins hini'
    (g := F0 m pc ls rest) rfl (by rw [hb]; exact d0) (Nat.le_refl _) (Nat.le_refl _)
  generalize hT1 : (T.setVm vm₁).pushCell { cls := cX, slots := kX.instanceTypes.map defaultValue, vm := .none } = T1 at X₁ st1
  have hcat : (Value.ref T.heap.size).category = 1 := rfl
  have hcellA : T1.heap[T.heap.size]? = some (freshCell cX kX) := by rw [← hT1]; exact State.heap_pushCell_size _ _
  have d3' : decode c.code (pc + 3) = .ok (.dup, 1) := by rw [hb]; exact d3
  have d4' : decode c.code (pc + 4) = .ok (.ldc is, 2) := by rw [hb]; exact d4
  have hstr' : vk_R own is text sa s' := vk_R.warm hW0 hstr
  obtain ⟨U, hsteps, hrun, hend, hW, hsame, ce, hce, hO⟩ := X₁.ctorThrowS hexec htr (own := own) (cls := cls) (names := names) (ic := ic) hown' hcls hnames h (fun x hx => nomatch hx) hfX hkX hcellA (by rw [hhp, hT]; exact Nat.le_refl _) (msg := .ref sa) rfl
    (g := { method := m, pc := pc + 6, locals := ls, stack := .ref sa :: .ref T.heap.size :: .ref T.heap.size :: rest, locked := none }) rfl hsize rfl rfl (rest := rest) rfl
    (by rw [hb]; exact d6) (by rw [hb]; exact d9) hout hRframes (by simp only [List.map_cons, List.sum_cons, hcat]; omega) hlocks
  obtain ⟨f1, f2⟩ := vx_frame hsame
  rw [hhp] at f1 f2
  have hWs : s.WarmedH U.vm := State.WarmedH.trans hW0 hW
  have hcl : s.vm.findClass cls = some ce.cls := by
    have h9 := hO.cls
    rw [hvm] at h9
    exact h9
  have hall : s.sameButNew ({ U with vm := s.vm } : State) locs mc ms := by
    subst hA
    obtain ⟨e1, e2⟩ := hsame
    rw [State.setFrames_setFrames] at e1
    have h2 : (T.setVm s.vm).sameButNew ({ U with vm := s.vm } : State) [] (0 + 1) (0 + 6) := ⟨e1, e2⟩
    have h3 := X.same.trans h2
    rw [List.append_nil] at h3
    exact h3.mono hc hs
  refine ⟨U, ?_, .threw T.heap.size, hrun, hend, Or.inr ⟨T.heap.size, rfl, cls, ce, locs, hx U hWs.alike f1 (fun q hq => f2 q hq (fun z hz => nomatch hz)), hce, hO.vm, hcl, hWs, hall, hf⟩⟩
  refine st1 _ ?_
  show Steps p.tables e below (T1.setTop { method := m, pc := pc + 3, locals := ls, stack := .ref T.heap.size :: rest, locked := none }) _
  jvm_step X₁.here [X₁.here.top, hexec, d3', Value.category]
  exact X₁.ldcString hexec (own := own) (text := text) (index := is) (a := sa) hown' hstr'.1 hstr'.2
    (g := { method := m, pc := pc + 4, locals := ls, stack := .ref T.heap.size :: .ref T.heap.size :: rest, locked := none }) rfl d4' _ hsteps
/-- 'throw new E("text")', the text by a wide index -/
theorem vx_throwSW {cc : ByteArray} {pc : Nat} (hexec : p.tables.exec = Jvm.exec) (hb : c.code = cc) (hl : l.stackTraces = false) {own cls text : String} {names : List String} {ik is ic mc ms sa : Nat} {A : Nat → Prop}
    (hown : s.vm.findClass own = some m.cls) (hcls : Bundle.fit cls = true) (hnames : ∀ n ∈ names, Bundle.fit n = true)
    (hk : (Cond.classLink own ik cls).before args s = true) (hini : (Cond.initialized cls).before args s = true) (hstr : vk_R own is text sa s) (hat : ∀ w ∈ vx_atS own ic cls names, w.before args s = true)
    (hgood : ∀ w ∈ Cond.classLink own ik cls :: Cond.initialized cls :: vx_atS own ic cls names, vx_ot w = true)
    (hU : vx_Zq Bundle.tN "UNASSIGNED_STACK" Bundle.steD A s s.heap) (hN : vx_Zq Bundle.tN "SUPPRESSED_SENTINEL" Bundle.listD A s s.heap) (hS : va_S A s.heap H locs) (hsize : ls.size = c.maxLocals)
    (d0 : decode cc pc = .ok (.new ik, 3)) (d3 : decode cc (pc + 3) = .ok (.dup, 1)) (d4 : decode cc (pc + 4) = .ok (.ldc_w is, 3)) (d7 : decode cc (pc + 7) = .ok (.invokespecial ic, 3)) (d10 : decode cc (pc + 10) = .ok (.athrow, 1))
    (hout : ∀ x ∈ c.exceptionTable.toList, covers x (pc + 10) = false)
    (hRframes : names.length + 3 < R.frames) (hRlocals : (rest.map fun v => v.category).sum + (13 * (names.length + 1) + 43) ≤ R.locals) (hRcells : cells + 1 ≤ R.cells) (hRslots : slots + 6 ≤ R.slots) (hlocks : meth.locks = false)
    (hx : ∀ t : State, s.vm.Alike t.vm → H.size ≤ t.heap.size → (∀ q : Nat, q < H.size → t.heap[q]? = H[q]?) → XC cls s t)
    (hf : ∀ z ∈ locs, free z.base) (hc : cells + 1 ≤ mc) (hs : slots + 6 ≤ ms) :
    W p l e R s m args below meth c H locs cells slots (vx_MQ below Qc XC args s mc ms free) (F0 m pc ls rest) := by
  intro T hT X
  have htr : e.platform.stackTraces = false := (show e.platform.stackTraces = l.stackTraces by rw [X.admits.platform]).trans hl
  have Y := vx_rebase X (R' := { frames := R.frames, locals := R.locals, cells := 1, slots := 6 }) (Nat.le_refl _) (Nat.le_refl _) hRcells hRslots
  obtain ⟨s', hA⟩ : ∃ z, z = (T.setVm s.vm).setFrames (.invoking m args :: below) := ⟨_, rfl⟩
  rw [← hA] at Y
  have hvm : s'.vm = s.vm := by rw [hA]; rfl
  have hhp : s'.heap = H := by rw [hA]; exact hT
  have hW0 : s.WarmedH s'.vm := by rw [hvm]; exact State.WarmedH.refl s
  have hat' : ∀ w ∈ vx_atS own ic cls names, w.before args s' = true := fun w hw => vx_ot_at hW0 hvm.symm (hgood w (List.mem_cons_of_mem _ (List.mem_cons_of_mem _ hw))) (hat w hw)
  have hk' : (Cond.classLink own ik cls).before args s' = true := vx_ot_at hW0 hvm.symm (hgood _ List.mem_cons_self) hk
  have hini' : (Cond.initialized cls).before args s' = true := vx_ot_at hW0 hvm.symm (hgood _ (List.mem_cons_of_mem _ List.mem_cons_self)) hini
  have hU' : vx_Zq Bundle.tN "UNASSIGNED_STACK" Bundle.steD A s' s'.heap := by rw [hhp]; exact vx_Zq.moved hW0.alike (hU.kept hS.2.1)
  have hN' : vx_Zq Bundle.tN "SUPPRESSED_SENTINEL" Bundle.listD A s' s'.heap := by rw [hhp]; exact vx_Zq.moved hW0.alike (hN.kept hS.2.1)
  have h : ∀ w ∈ Bundle.ownAtoms own ic cls names, w.before args s' = true := vx_own hat' (vx_isRefq hU'.1) (vx_isRefq hN'.1) hU'.2.word hN'.2.word
  have hown' : s'.vm.findClass own = some m.cls := by rw [hvm]; exact hown
  have hins : (Cond.instantiable cls 6).before args s' = true := h _ (by simp [Bundle.ownAtoms])
  obtain ⟨vm₁, cX, kX, hfX, hkX, -, -, X₁, st1⟩ := Y.newCold hexec (own := own) (C := cls) (index := ik) (n := 6) hown' hk' hins hini'
    (g := F0 m pc ls rest) rfl (by rw [hb]; exact d0) (Nat.le_refl _) (Nat.le_refl _)
  generalize hT1 : (T.setVm vm₁).pushCell { cls := cX, slots := kX.instanceTypes.map defaultValue, vm := .none } = T1 at X₁ st1
  have hcat : (Value.ref T.heap.size).category = 1 := rfl
  have hcellA : T1.heap[T.heap.size]? = some (freshCell cX kX) := by rw [← hT1]; exact State.heap_pushCell_size _ _
  have d3' : decode c.code (pc + 3) = .ok (.dup, 1) := by rw [hb]; exact d3
  have d4' : decode c.code (pc + 4) = .ok (.ldc_w is, 3) := by rw [hb]; exact d4
  have hstr' : vk_R own is text sa s' := vk_R.warm hW0 hstr
  obtain ⟨U, hsteps, hrun, hend, hW, hsame, ce, hce, hO⟩ := X₁.ctorThrowS hexec htr (own := own) (cls := cls) (names := names) (ic := ic) hown' hcls hnames h (fun x hx => nomatch hx) hfX hkX hcellA (by rw [hhp, hT]; exact Nat.le_refl _) (msg := .ref sa) rfl
    (g := { method := m, pc := pc + 7, locals := ls, stack := .ref sa :: .ref T.heap.size :: .ref T.heap.size :: rest, locked := none }) rfl hsize rfl rfl (rest := rest) rfl
    (by rw [hb]; exact d7) (by rw [hb]; exact d10) hout hRframes (by simp only [List.map_cons, List.sum_cons, hcat]; omega) hlocks
  obtain ⟨f1, f2⟩ := vx_frame hsame
  rw [hhp] at f1 f2
  have hWs : s.WarmedH U.vm := State.WarmedH.trans hW0 hW
  have hcl : s.vm.findClass cls = some ce.cls := by
    have h9 := hO.cls
    rw [hvm] at h9
    exact h9
  have hall : s.sameButNew ({ U with vm := s.vm } : State) locs mc ms := by
    subst hA
    obtain ⟨e1, e2⟩ := hsame
    rw [State.setFrames_setFrames] at e1
    have h2 : (T.setVm s.vm).sameButNew ({ U with vm := s.vm } : State) [] (0 + 1) (0 + 6) := ⟨e1, e2⟩
    have h3 := X.same.trans h2
    rw [List.append_nil] at h3
    exact h3.mono hc hs
  refine ⟨U, ?_, .threw T.heap.size, hrun, hend, Or.inr ⟨T.heap.size, rfl, cls, ce, locs, hx U hWs.alike f1 (fun q hq => f2 q hq (fun z hz => nomatch hz)), hce, hO.vm, hcl, hWs, hall, hf⟩⟩
  refine st1 _ ?_
  show Steps p.tables e below (T1.setTop { method := m, pc := pc + 3, locals := ls, stack := .ref T.heap.size :: rest, locked := none }) _
  jvm_step X₁.here [X₁.here.top, hexec, d3', Value.category]
  exact X₁.ldcStringW hexec (own := own) (text := text) (index := is) (a := sa) hown' hstr'.1 hstr'.2
    (g := { method := m, pc := pc + 4, locals := ls, stack := .ref T.heap.size :: .ref T.heap.size :: rest, locked := none }) rfl d4' _ hsteps
end Ends
section Bodies
variable {l : Launch}
theorem vx_ofW {y : MethodName} {ws ws' : List Cond} {rm : Room} {Pc : Array Value → State → Prop} {Qc : Array Value → State → Outcome → State → Prop} {XC : String → State → State → Prop} {mc ms : Nat} {free : Addr → Prop} {cc : ByteArray} {maxL : Nat} {ret : Option FieldType}
    (hy : plainName y.cls = true) (hw : ws = Cond.code y cc maxL ret :: ws')
    (body : ∀ p e s m args below meth c s₁, BodyLoose p l y (headSpec ws rm) cc maxL ret e s m args below meth c s₁ → c.maxLocals = maxL → (∀ x ∈ c.exceptionTable.toList, False) → Pc args s →
      W p l e (headSpec ws rm).room s m args below meth c s.heap [] 0 0 (vx_MQ below Qc XC args s mc ms free) (entryFrame m args maxL)) : vx_Met l y ws rm Pc Qc XC mc ms free := by
  refine MetFree.of_bodyS (code := cc) (maxLocals := maxL) (ret := ret) hy ?_ ?_
  · intro args s m h hn
    obtain ⟨meth, c, h1, h2, h3, h4, h5, h6, -, -⟩ := Cond.code_spec hn (atoms_spec (ws := ws) h _ (by rw [hw]; exact List.mem_cons_self))
    exact ⟨meth, c, h1, h2, h3, h4, h5, h6⟩
  · intro p e s m args below meth c s₁ B hml hP _
    have hh0 : s₁.heap = s.heap := by rw [B.state]; rfl
    have ht : ∀ x ∈ c.exceptionTable.toList, False := by
      obtain ⟨meth9, c9, h1, h2, -, -, -, -, h7, -⟩ := Cond.code_spec B.named (atoms_spec (ws := ws) B.pre _ (by rw [hw]; exact List.mem_cons_self))
      cases Option.some.inj (h1.symm.trans B.method)
      cases Option.some.inj (h2.symm.trans (Stand.of_body B).code)
      intro x hx
      rw [Array.isEmpty_iff.mp h7] at hx
      cases hx
    obtain ⟨t, a1, o, b1, b2, b3⟩ := body p e s m args below meth c s₁ B hml ht hP s₁ hh0 (Stand.of_body B)
    exact ⟨t, o, a1, b1, b2, b3⟩
/-- the table of a body with handlers -/
theorem vx_table {p : Program} {x y : MethodName} {S : Spec} {cc bytes : ByteArray} {maxL maxL' : Nat} {ret ret' : Option FieldType} {e : Env} {s s₁ : State} {m : MethodId} {args : Array Value} {below : List Frame} {meth : Method} {c : Code} {hh : List (Nat × Nat × Nat × Nat)}
    (B : BodyLoose p l y S cc maxL ret e s m args below meth c s₁) (h : (Cond.codeWith y bytes maxL' ret' hh).before args s = true) : c.exceptionTable.toList = tableOf hh := by
  obtain ⟨m9, meth9, c9, hn9, h1, h2, -, -, h6, -⟩ := Cond.codeWith_spec h
  cases Option.some.inj (hn9.symm.trans B.named)
  cases Option.some.inj (h1.symm.trans B.method)
  cases Option.some.inj (h2.symm.trans (Stand.of_body B).code)
  rw [← h6, table_eq]
end Bodies
end VXA
/-! ===== END ===== -/
/-! ===== BEGIN a static call of a method with an exception table ===== -/
section VXS
variable {p : Program} {l : Launch} {e : Env} {R : Room} {s : State} {m : MethodId} {args : Array Value} {below : List Frame} {meth : Method} {c : Code} {T : State} {H : Heap} {locs : List Loc} {cells slots : Nat}
abbrev vx_CSW (R : Room) (s : State) (args : Array Value) (own : String) (index : Nat) (y : MethodName) (bytes : ByteArray) (maxL : Nat) (ret : Option FieldType) (hh : List (Nat × Nat × Nat × Nat)) (ws : List Cond) (rm : Room) (mc ms n : Nat) : Prop :=
  (rm.cells = mc ∧ rm.slots = ms ∧ rm.frames + 1 ≤ R.frames ∧ 8 + (maxL + 11) + rm.locals ≤ R.locals ∧ (∀ w ∈ ws, ∀ (a' : Array Value) (U : State), s.WarmedH U.vm → w.before a' U = true) ∧ Cond.codeWith y bytes maxL ret hh ∈ ws) ∧
  (Cond.codeWith y bytes maxL ret hh).before args s = true ∧ (Cond.initialized y.cls).before args s = true ∧ (y.cls ≠ "java/lang/invoke/MethodHandle" ∧ y.cls ≠ "java/lang/invoke/VarHandle") ∧
  (∀ sig, parseMethodDescriptor y.desc = some sig → n = sig.parameters.length) ∧ (Cond.methodLink own index y).before args s = true ∧ (Cond.static y).before args s = true
theorem vx_cwSW {own : String} {index maxL mc ms : Nat} {y : MethodName} {bytes : ByteArray} {ret : Option FieldType} {hh : List (Nat × Nat × Nat × Nat)} {Ts ws ws' : List Cond} {rm : Room} (n : Nat) (ht : ∀ w ∈ Ts, w.before args s = true) (hT : GoodIn Ts (va_wsS own index y ws)) (hw : ws = Cond.codeWith y bytes maxL ret hh :: ws') (hrc : rm.cells = mc) (hrs : rm.slots = ms)
    (hd : y.cls ≠ "java/lang/invoke/MethodHandle" ∧ y.cls ≠ "java/lang/invoke/VarHandle" ∧ (parseMethodDescriptor y.desc).map (fun d => d.parameters.length) = some n) (hR : rm.frames + 1 ≤ R.frames ∧ 8 + (maxL + 11) + rm.locals ≤ R.locals) :
    vx_CSW R s args own index y bytes maxL ret hh ws rm mc ms n := by
  have ok : ∀ w ∈ va_wsS own index y ws, w.before args s = true := fun w h => ht w (hT w h).1
  have hG : GoodIn Ts ws := fun w h => hT w (by unfold va_wsS; exact List.mem_append_right _ h)
  have hc : Cond.codeWith y bytes maxL ret hh ∈ ws := by rw [hw]; exact List.mem_cons_self
  refine ⟨⟨hrc, hrs, hR.1, hR.2, pay_in ht hG, hc⟩, ht _ (hG _ hc).1, ok _ (by simp [va_wsS]), ⟨hd.1, hd.2.1⟩, fun sig h => ?_, ok _ (by simp [va_wsS]), ok _ (by simp [va_wsS])⟩
  have h2 := hd.2.2
  rw [h] at h2
  exact (Option.some.inj h2).symm
theorem vx_callSW (X : Stand p l e R s m args below meth c T locs cells slots) (hexec : p.tables.exec = Jvm.exec) {own : String} {index : Nat} {y : MethodName} {bytes : ByteArray} {maxL : Nat} {ret : Option FieldType} {hh : List (Nat × Nat × Nat × Nat)}
    (hown : s.vm.findClass own = some m.cls) (hlink : (Cond.methodLink own index y).before args s = true) (hstat : (Cond.static y).before args s = true) (hinit : (Cond.initialized y.cls).before args s = true)
    (hcode : (Cond.codeWith y bytes maxL ret hh).before args s = true) (hy : y.cls ≠ "java/lang/invoke/MethodHandle" ∧ y.cls ≠ "java/lang/invoke/VarHandle")
    {W9 : Nat} {Pre : Pt → Array Value → Prop} {Post : Pt → Array Value → Option Value → Pt → Prop} (hK : Back l R p e below s args y 3 W9 Pre Post)
    {g : JFrame} (hg : g.method = m) (hsize : g.locals.size = c.maxLocals) {argsL rest : List Value} (hlen : ∀ sig, parseMethodDescriptor y.desc = some sig → argsL.length = sig.parameters.length)
    (hstack : g.stack = argsL.reverse ++ rest) (hW : 2 * g.monitorRoom + (rest.map fun v => v.category).sum ≤ W9) (hdg : decode c.code g.pc = .ok (.invokestatic index, 3))
    (hpre : ∀ vm₁, s.WarmedH vm₁ → Pre ⟨T.setVm vm₁, locs, cells, slots⟩ argsL.toArray) :
    ∃ (v : Option Value) (vm₁ : Vm) (B : Pt), s.WarmedH vm₁ ∧ Stand p l e R s m args below meth c B.U B.locs B.cells B.slots ∧ Post ⟨T.setVm vm₁, locs, cells, slots⟩ argsL.toArray v B ∧
      ∀ target, Steps p.tables e below (B.U.setTop { g with pc := g.pc + 3, stack := v.toList ++ rest }) target → Steps p.tables e below (T.setTop g) target := by
  obtain ⟨mk, methM, cM, hnamed, hmethM, -, -, -, -, -, -, hsigM⟩ := Cond.codeWith_spec hcode
  have hstatic : methM.isStatic = true := Cond.static_spec hnamed hmethM hstat
  obtain ⟨kP, hkP, -⟩ := className_of_methodNamed hnamed
  have hinitP : kP.init = .initialized := Cond.initialized_spec (findClass_of_methodNamed hnamed) hkP hinit
  obtain ⟨vm₁, X₁, hstep₁⟩ := X.invokestatic hexec hown hlink hnamed hmethM hstatic hkP hinitP hy (g := g) hg (argsL := argsL) (rest := rest) (hlen _ hsigM) hstack hdg
  obtain ⟨v, B, X', hpost, hsteps⟩ := hK m meth c ⟨T.setVm vm₁, locs, cells, slots⟩ { g with stack := rest } (.invokestatic index) mk argsL.toArray X₁ hg hsize hdg hW (X₁.named hnamed) (hpre vm₁ X₁.warmed)
  exact ⟨v, vm₁, B, X₁.warmed, X', hpost, fun target h => hstep₁ _ fun acts => by rw [doInvoke_state]; exact hsteps.trans h⟩
theorem vx_runSW {y : MethodName} {bytes cc : ByteArray} {maxL nL mc ms n index : Nat} {ret : Option FieldType} {hh : List (Nat × Nat × Nat × Nat)} {ws : List Cond} {rm : Room} {Pc : Array Value → State → Prop} {Qc : Array Value → State → Outcome → State → Prop} {free : Addr → Prop} {Ts : List Cond} {own : String} {As rest : List Value} {g : JFrame}
    (S : CallFix p m c cc nL s args Ts own) (hM : Met l y ws rm Pc Qc mc ms free) (cw : vx_CSW R s args own index y bytes maxL ret hh ws rm mc ms n) (hp : PreS s H Pc As)
    (hg : g.method = m) (hn : As.length = n) (hsize : g.locals.size = nL) (hstack : g.stack = As.reverse ++ rest) (hW : 2 * g.monitorRoom + (rest.map fun v => v.category).sum ≤ 8) (hdg : decode cc g.pc = .ok (.invokestatic index, 3)) (hf : cells + mc ≤ R.cells ∧ slots + ms ≤ R.slots) :
    va_Run p l e R s m args below meth c H locs cells slots mc ms g rest (Qc As.toArray) (free) := by
  obtain ⟨⟨hrc, hrs, hfr, hlo, hws, hcw⟩, hcode, hini, hy, hlen, hl, hstt⟩ := cw
  have hK : Back l R p e below s args y 3 8 (PreOf R mc ms Pc) (PostOf Qc mc ms free) := va_backW (hh := hh) (bytes := bytes) (maxL := maxL) (ret := ret) hM hp.1 hrc hrs hfr hlo hws hcw (fun a' U hW => word_at hW (Or.inl (by first | rfl | simp [Cond.onTables, Cond.keeps, Cond.steady])) hini)
  obtain ⟨hx, hb, hml, ho, -⟩ := S
  intro T hT X
  obtain ⟨v, vm₁, ⟨U', l2, c2, s2⟩, hW₁, X', ⟨g', mk, t, L, e1, e2, hq, h1, hL, h2, h3⟩, st⟩ := vx_callSW X hx (hh := hh) (bytes := bytes) (maxL := maxL) (ret := ret) ho hl hstt hini hcode hy hK hg (hsize.trans hml.symm) (argsL := As) (rest := rest) (fun sig h => hn.trans (hlen sig h)) hstack hW (by rw [hb]; exact hdg)
    (fun vm₁ hW₁ => ⟨hf.1, hf.2, hp.2 (T.setVm vm₁) hT hW₁⟩)
  dsimp only [Pt.U, Pt.locs, Pt.cells, Pt.slots] at X' e1 e2 h1 h2 h3 st
  subst h1; subst h2; subst h3
  exact ⟨v, (T.setVm vm₁).calling g' mk As.toArray, t, U', L, hT, X', hL, e1, e2, hq, st⟩
/-- a thing of a world lies in the heap -/
theorem vx_lt {D : va_G} {cl : List vw_C} {ws : va_W} {H1 : Heap} (h : va_P D cl ws H1) {k : Nat} {q : Nat × va_E} (hk : ws[k]? = some q) : q.1 < H1.size := (h k q hk).lt
end VXS
/-! ===== END ===== -/
/-! ===== BEGIN methods with a table of their own: called by a name, returning or throwing ===== -/
section VXH
/-! vx_backW, vx_callVX, vx_callSX, vx_callVW, vx_runVW, vx_runVX, vx_runSX, vx_ofWH follow the same proofs as their sisters above (Free/Laws.lean, Shelf42/LK1.lean); vx_outP calls Shelf42/NT130.lean (outThrough). -/
section
variable {l : Launch} {R : Room} {p : Program} {e : Env} {below : List Frame} {s : State} {sargs : Array Value} {y : MethodName} {len W9 : Nat}
theorem vx_backW {ws : List Cond} {rm : Room} {Pc : Array Value → State → Prop} {Qc : Array Value → State → Outcome → State → Prop} {XC : String → State → State → Prop} {mc ms : Nat} {free : Addr → Prop} {bytes : ByteArray} {maxL : Nat} {ret : Option FieldType} {hh : List (Nat × Nat × Nat × Nat)}
    (hM : vx_Met l y ws rm Pc Qc XC mc ms free) (hblind : FrameBlind Pc) (hrc : rm.cells = mc) (hrs : rm.slots = ms)
    (hframes : rm.frames + 1 ≤ R.frames) (hlocals : W9 + (maxL + 11) + rm.locals ≤ R.locals)
    (hws : ∀ w ∈ ws, ∀ a' U, s.WarmedH U.vm → w.before a' U = true) (hcode : Cond.codeWith y bytes maxL ret hh ∈ ws) (hinit : ∀ a' U, s.WarmedH U.vm → (Cond.initialized y.cls).before a' U = true) :
    vx_Back l R p e below s sargs y len W9 (PreOf R mc ms Pc) (PostOf Qc mc ms free) (vx_Post XC mc ms free) := by
  intro m meth c A g ig mk a X hg hsize hdg hW hn hp
  have h1 : (headSpec ws rm).pre.before a A.U = true := atoms_intro fun w hw => hws w hw _ _ X.warmed
  have h2 : (Cond.codeWith y bytes maxL ret hh).before a A.U = true := hws _ hcode _ _ X.warmed
  have h3 : (Cond.initialized y.cls).before a A.U = true := hinit _ _ X.warmed
  have h4 : A.cells + (headSpec ws rm).room.cells ≤ R.cells := by rw [show (headSpec ws rm).room.cells = mc from hrc]; exact hp.1
  have h5 : A.slots + (headSpec ws rm).room.slots ≤ R.slots := by rw [show (headSpec ws rm).room.slots = ms from hrs]; exact hp.2.1
  have hPc : Pc a (A.U.calling g mk a) := hblind _ _ _ _ hp.2.2
  obtain ⟨U, Ls, c0, s0⟩ := A
  dsimp only [Pt.U, Pt.locs, Pt.cells, Pt.slots] at h1 h2 h3 h4 h5 X hn hPc ⊢
  obtain ⟨m9, methY, cY, hn9, hmY, hcY, -, hlY, -⟩ := Cond.codeWith_spec h2
  cases Option.some.inj (hn9.symm.trans hn)
  obtain ⟨kY, hkY, -⟩ := className_of_methodNamed hn
  have hinitY : kY.init = .initialized := Cond.initialized_spec (findClass_of_methodNamed hn) hkY h3
  have h : At U g.method c below := by rw [hg]; exact X.here
  have hlocals9 : W9 + (maxL + 11) + (headSpec ws rm).room.locals ≤ R.locals := hlocals
  have happ : (headSpec ws rm).appliesLoose y e.platform (U.calling g mk a) = true :=
    Spec.appliesLoose_calling (g := g) h hdg hn hkY hinitY
      (X.room_calling (g := g) (R' := (headSpec ws rm).room) hsize hmY hcY hframes (by rw [hlY]; omega) h4 h5) h1
  obtain ⟨mid, hmid⟩ := h.above
  have hfr : (U.setTop g).frames = (.java g :: mid) ++ below := by rw [State.frames_setTop' g h.top, hmid]; rfl
  obtain ⟨o, s₂, hsteps, -, hend, hq⟩ := Steps.callFree hM p X.admits X.cas X.clock (acts := []) hfr happ hPc trivial
  have hq' : vx_Q Qc XC mc ms free a (U.calling g mk a) o s₂ := hq
  rw [State.frames_setTop' g h.top] at hend
  obtain ⟨g₀, hg0⟩ := Option.isSome_iff_exists.mp h.top
  obtain ⟨r, hr⟩ := State.topJava?_eq_some.mp hg0
  have hr' : (({ U with heap := s₂.heap, slotsUsed := s₂.slotsUsed } : State).setVm s₂.vm).frames = .java g₀ :: r := hr
  rcases hq' with ⟨hqc, L, hfe, hL⟩ | ⟨q, rfl, E, ce, L, hx, hce, hcv, hcl, hW₂, hsm, hL⟩
  · obtain ⟨⟨v, rfl⟩, hW₂, e2, q2, q3, q4, q5, q6⟩ := id hfe
    have e3 : s₂ = ({ (U.calling g mk a).setFrames s₂.frames with heap := s₂.heap, slotsUsed := s₂.slotsUsed } : State).setVm s₂.vm := by
      have : s₂ = ({ s₂ with vm := (U.calling g mk a).vm } : State).setVm s₂.vm := rfl
      rw [e2] at this
      exact this
    obtain ⟨c₂, i₂, len₂, hc₂, hd₂, hf₂⟩ := hend
    have hW' : U.WarmedH s₂.vm := hW₂
    have hcc : c₂ = c := by
      have h1 : s₂.code? g.method = U.code? g.method := by
        rw [State.code?_eq, State.code?_eq, hW'.alike.method?]
      exact Option.some.inj (hc₂.symm.trans (h1.trans h.code))
    subst hcc
    have hlen : len₂ = len := by rw [hdg] at hd₂; cases hd₂; rfl
    subst hlen
    have hs₂ : s₂ = (({ U with heap := s₂.heap, slotsUsed := s₂.slotsUsed } : State).setVm s₂.vm).setTop { g with pc := g.pc + len₂, stack := v.toList ++ g.stack } := by
      refine e3.trans ?_
      rw [hf₂, State.calling_eq h.top, State.setFrames_setFrames, State.setTop_of_frames _ hr', hr]
      rfl
    have hsame : U.sameButNew ({ U with heap := s₂.heap, slotsUsed := s₂.slotsUsed } : State) L mc ms := by
      refine ⟨?_, q2, q3, q4, q5, q6⟩
      obtain ⟨t, ht, -⟩ := State.frames_cons hr
      show ({ U with heap := s₂.heap, slotsUsed := s₂.slotsUsed } : State) = { U.setFrames U.frames with heap := s₂.heap, slotsUsed := s₂.slotsUsed }
      rw [State.setFrames_self ht]
    subst hg
    refine Or.inl ⟨v, ⟨(({ U with heap := s₂.heap, slotsUsed := s₂.slotsUsed } : State).setVm s₂.vm), Ls ++ L, c0 + mc, s0 + ms⟩,
      ⟨X.admits, X.cas, X.clock, X.frames, X.room, X.hears, X.method, X.code, (X.here.setHeapUsed s₂.heap s₂.slotsUsed).setVm hW'.alike, X.tail, State.WarmedH.trans X.warmed hW', X.limits, X.bytes, X.same.trans (hsame.setVm s.vm)⟩,
      ⟨g, mk, s₂, L, rfl, rfl, hqc, rfl, hL, rfl, rfl⟩, ?_⟩
    show Steps p.tables e below _ ((({ U with heap := s₂.heap, slotsUsed := s₂.slotsUsed } : State).setVm s₂.vm).setTop { g with pc := g.pc + len₂, stack := v.toList ++ g.stack })
    rw [← hs₂]
    exact hsteps
  · obtain ⟨e2, q2, q3, q4, q5, q6⟩ := id hsm
    have e3 : s₂ = ({ (U.calling g mk a).setFrames s₂.frames with heap := s₂.heap, slotsUsed := s₂.slotsUsed } : State).setVm s₂.vm := by
      have : s₂ = ({ s₂ with vm := (U.calling g mk a).vm } : State).setVm s₂.vm := rfl
      rw [e2] at this
      exact this
    have hf₂ : s₂.frames = .throwing q :: .java g :: U.frames.tail := hend
    have hW' : U.WarmedH s₂.vm := hW₂
    have hs₂ : s₂ = ((({ U with heap := s₂.heap, slotsUsed := s₂.slotsUsed } : State).setVm s₂.vm).setTop g).pushFrame (.throwing q) := by
      refine e3.trans ?_
      rw [hf₂, State.calling_eq h.top, State.setFrames_setFrames, State.pushFrame, State.frames_setTop _ hr', State.setTop_of_frames _ hr', State.setFrames_setFrames, hr]
      rfl
    have hsame : U.sameButNew ({ U with heap := s₂.heap, slotsUsed := s₂.slotsUsed } : State) L mc ms := by
      refine ⟨?_, q2, q3, q4, q5, q6⟩
      obtain ⟨t, ht, -⟩ := State.frames_cons hr
      show ({ U with heap := s₂.heap, slotsUsed := s₂.slotsUsed } : State) = { U.setFrames U.frames with heap := s₂.heap, slotsUsed := s₂.slotsUsed }
      rw [State.setFrames_self ht]
    subst hg
    refine Or.inr ⟨q, ⟨(({ U with heap := s₂.heap, slotsUsed := s₂.slotsUsed } : State).setVm s₂.vm), Ls ++ L, c0 + mc, s0 + ms⟩,
      ⟨X.admits, X.cas, X.clock, X.frames, X.room, X.hears, X.method, X.code, (X.here.setHeapUsed s₂.heap s₂.slotsUsed).setVm hW'.alike, X.tail, State.WarmedH.trans X.warmed hW', X.limits, X.bytes, X.same.trans (hsame.setVm s.vm)⟩,
      ⟨g, mk, s₂, L, E, ce, rfl, rfl, hx, hce, hcv, hcl, rfl, hL, rfl, rfl⟩, ?_⟩
    show Steps p.tables e below _ (((({ U with heap := s₂.heap, slotsUsed := s₂.slotsUsed } : State).setVm s₂.vm).setTop g).pushFrame (.throwing q))
    rw [← hs₂]
    exact hsteps
end
variable {p : Program} {l : Launch} {e : Env} {R : Room} {s : State} {m : MethodId} {args : Array Value} {below : List Frame} {meth : Method} {c : Code} {T : State} {H : Heap} {locs : List Loc} {cells slots : Nat}
theorem vx_callVX (X : Stand p l e R s m args below meth c T locs cells slots) (hexec : p.tables.exec = Jvm.exec) {own C : String} {index : Nat} {y : MethodName} {bytes : ByteArray} {maxL : Nat} {ret : Option FieldType} {hh : List (Nat × Nat × Nat × Nat)}
    (hown : s.vm.findClass own = some m.cls) (hlink : (Cond.methodLink own index y).before args s = true) (hinst : (Cond.instanceMethod y).before args s = true) (hsel : (Cond.selects C y y).before args s = true)
    (hcode : (Cond.codeWith y bytes maxL ret hh).before args s = true) (hy : y.cls ≠ "java/lang/invoke/MethodHandle" ∧ y.cls ≠ "java/lang/invoke/VarHandle")
    {W9 : Nat} {Pre : Pt → Array Value → Prop} {Post : Pt → Array Value → Option Value → Pt → Prop} {PostX : Pt → Array Value → Addr → Pt → Prop} (hK : vx_Back l R p e below s args y 3 W9 Pre Post PostX)
    {b : Addr} {cellB : Cell} (hcell : T.heap[b]? = some cellB) (hobj : cellB.vm.isStatics = false) (hcls : s.vm.findClass C = some cellB.cls)
    {g : JFrame} (hg : g.method = m) (hsize : g.locals.size = c.maxLocals) {argsL rest : List Value} (hlen : ∀ sig, parseMethodDescriptor y.desc = some sig → argsL.length = sig.parameters.length)
    (hstack : g.stack = argsL.reverse ++ .ref b :: rest) (hW : 2 * g.monitorRoom + (rest.map fun v => v.category).sum ≤ W9) (hdg : decode c.code g.pc = .ok (.invokevirtual index, 3))
    (hpre : ∀ vm₁, s.WarmedH vm₁ → Pre ⟨T.setVm vm₁, locs, cells, slots⟩ (Value.ref b :: argsL).toArray) :
    (∃ (v : Option Value) (vm₁ : Vm) (B : Pt), s.WarmedH vm₁ ∧ Stand p l e R s m args below meth c B.U B.locs B.cells B.slots ∧ Post ⟨T.setVm vm₁, locs, cells, slots⟩ (Value.ref b :: argsL).toArray v B ∧
      ∀ target, Steps p.tables e below (B.U.setTop { g with pc := g.pc + 3, stack := v.toList ++ rest }) target → Steps p.tables e below (T.setTop g) target) ∨
    (∃ (q : Addr) (vm₁ : Vm) (B : Pt), s.WarmedH vm₁ ∧ Stand p l e R s m args below meth c B.U B.locs B.cells B.slots ∧ PostX ⟨T.setVm vm₁, locs, cells, slots⟩ (Value.ref b :: argsL).toArray q B ∧
      Steps p.tables e below (T.setTop g) ((B.U.setTop { g with stack := rest }).pushFrame (.throwing q))) := by
  obtain ⟨mk, methM, hnamed, hmethM, hstM, habM⟩ := Cond.instanceMethod_spec hinst
  obtain ⟨m8, methM', cM, hn8, hmethM', -, -, -, -, -, -, hsigM⟩ := Cond.codeWith_spec hcode
  cases Option.some.inj (hn8.symm.trans hnamed)
  cases hmethM.symm.trans hmethM'
  obtain ⟨c2, r2, m2, q1, q2, q3, q4, kP, hkP, hkPi⟩ := Cond.selects_spec hsel
  cases hcls.symm.trans q1
  cases (State.methodFound?_of_named hnamed hy).symm.trans q2
  cases hnamed.symm.trans q3
  have hselP : selectMethod e.platform s.vm cellB.cls mk = .method mk := by rw [Launch.admits_selectMethod X.admits]; exact q4
  obtain ⟨vm₁, X₁, hstep₁⟩ := X.invokevirtual hexec hown hlink hnamed hmethM hstM hkP hkPi hy (a := b) (cell := cellB) hcell
    (fun z h => by rw [h] at hobj; cases hobj) hselP hmethM habM hkP hkPi (g := g) hg (argsL := argsL) (rest := rest) (hlen _ hsigM) hstack hdg
  rcases hK m meth c ⟨T.setVm vm₁, locs, cells, slots⟩ { g with stack := rest } (.invokevirtual index) mk (Value.ref b :: argsL).toArray X₁ hg hsize hdg hW (X₁.named hnamed) (hpre vm₁ X₁.warmed) with ⟨v, B, X', hpost, hsteps⟩ | ⟨q, B, X', hpost, hsteps⟩
  · exact Or.inl ⟨v, vm₁, B, X₁.warmed, X', hpost, fun target h => hstep₁ _ fun acts => by rw [doInvoke_state]; exact hsteps.trans h⟩
  · exact Or.inr ⟨q, vm₁, B, X₁.warmed, X', hpost, hstep₁ _ fun acts => by rw [doInvoke_state]; exact hsteps⟩
theorem vx_callSX (X : Stand p l e R s m args below meth c T locs cells slots) (hexec : p.tables.exec = Jvm.exec) {own : String} {index : Nat} {y : MethodName} {bytes : ByteArray} {maxL : Nat} {ret : Option FieldType} {hh : List (Nat × Nat × Nat × Nat)}
    (hown : s.vm.findClass own = some m.cls) (hlink : (Cond.methodLink own index y).before args s = true) (hstat : (Cond.static y).before args s = true) (hinit : (Cond.initialized y.cls).before args s = true)
    (hcode : (Cond.codeWith y bytes maxL ret hh).before args s = true) (hy : y.cls ≠ "java/lang/invoke/MethodHandle" ∧ y.cls ≠ "java/lang/invoke/VarHandle")
    {W9 : Nat} {Pre : Pt → Array Value → Prop} {Post : Pt → Array Value → Option Value → Pt → Prop} {PostX : Pt → Array Value → Addr → Pt → Prop} (hK : vx_Back l R p e below s args y 3 W9 Pre Post PostX)
    {g : JFrame} (hg : g.method = m) (hsize : g.locals.size = c.maxLocals) {argsL rest : List Value} (hlen : ∀ sig, parseMethodDescriptor y.desc = some sig → argsL.length = sig.parameters.length)
    (hstack : g.stack = argsL.reverse ++ rest) (hW : 2 * g.monitorRoom + (rest.map fun v => v.category).sum ≤ W9) (hdg : decode c.code g.pc = .ok (.invokestatic index, 3))
    (hpre : ∀ vm₁, s.WarmedH vm₁ → Pre ⟨T.setVm vm₁, locs, cells, slots⟩ argsL.toArray) :
    (∃ (v : Option Value) (vm₁ : Vm) (B : Pt), s.WarmedH vm₁ ∧ Stand p l e R s m args below meth c B.U B.locs B.cells B.slots ∧ Post ⟨T.setVm vm₁, locs, cells, slots⟩ argsL.toArray v B ∧
      ∀ target, Steps p.tables e below (B.U.setTop { g with pc := g.pc + 3, stack := v.toList ++ rest }) target → Steps p.tables e below (T.setTop g) target) ∨
    (∃ (q : Addr) (vm₁ : Vm) (B : Pt), s.WarmedH vm₁ ∧ Stand p l e R s m args below meth c B.U B.locs B.cells B.slots ∧ PostX ⟨T.setVm vm₁, locs, cells, slots⟩ argsL.toArray q B ∧
      Steps p.tables e below (T.setTop g) ((B.U.setTop { g with stack := rest }).pushFrame (.throwing q))) := by
  obtain ⟨mk, methM, cM, hnamed, hmethM, -, -, -, -, -, -, hsigM⟩ := Cond.codeWith_spec hcode
  have hstatic : methM.isStatic = true := Cond.static_spec hnamed hmethM hstat
  obtain ⟨kP, hkP, -⟩ := className_of_methodNamed hnamed
  have hinitP : kP.init = .initialized := Cond.initialized_spec (findClass_of_methodNamed hnamed) hkP hinit
  obtain ⟨vm₁, X₁, hstep₁⟩ := X.invokestatic hexec hown hlink hnamed hmethM hstatic hkP hinitP hy (g := g) hg (argsL := argsL) (rest := rest) (hlen _ hsigM) hstack hdg
  rcases hK m meth c ⟨T.setVm vm₁, locs, cells, slots⟩ { g with stack := rest } (.invokestatic index) mk argsL.toArray X₁ hg hsize hdg hW (X₁.named hnamed) (hpre vm₁ X₁.warmed) with ⟨v, B, X', hpost, hsteps⟩ | ⟨q, B, X', hpost, hsteps⟩
  · exact Or.inl ⟨v, vm₁, B, X₁.warmed, X', hpost, fun target h => hstep₁ _ fun acts => by rw [doInvoke_state]; exact hsteps.trans h⟩
  · exact Or.inr ⟨q, vm₁, B, X₁.warmed, X', hpost, hstep₁ _ fun acts => by rw [doInvoke_state]; exact hsteps⟩
theorem vx_callVW (X : Stand p l e R s m args below meth c T locs cells slots) (hexec : p.tables.exec = Jvm.exec) {own C : String} {index : Nat} {y : MethodName} {bytes : ByteArray} {maxL : Nat} {ret : Option FieldType} {hh : List (Nat × Nat × Nat × Nat)}
    (hown : s.vm.findClass own = some m.cls) (hlink : (Cond.methodLink own index y).before args s = true) (hinst : (Cond.instanceMethod y).before args s = true) (hsel : (Cond.selects C y y).before args s = true)
    (hcode : (Cond.codeWith y bytes maxL ret hh).before args s = true) (hy : y.cls ≠ "java/lang/invoke/MethodHandle" ∧ y.cls ≠ "java/lang/invoke/VarHandle")
    {W9 : Nat} {Pre : Pt → Array Value → Prop} {Post : Pt → Array Value → Option Value → Pt → Prop} (hK : Back l R p e below s args y 3 W9 Pre Post)
    {b : Addr} {cellB : Cell} (hcell : T.heap[b]? = some cellB) (hobj : cellB.vm.isStatics = false) (hcls : s.vm.findClass C = some cellB.cls)
    {g : JFrame} (hg : g.method = m) (hsize : g.locals.size = c.maxLocals) {argsL rest : List Value} (hlen : ∀ sig, parseMethodDescriptor y.desc = some sig → argsL.length = sig.parameters.length)
    (hstack : g.stack = argsL.reverse ++ .ref b :: rest) (hW : 2 * g.monitorRoom + (rest.map fun v => v.category).sum ≤ W9) (hdg : decode c.code g.pc = .ok (.invokevirtual index, 3))
    (hpre : ∀ vm₁, s.WarmedH vm₁ → Pre ⟨T.setVm vm₁, locs, cells, slots⟩ (Value.ref b :: argsL).toArray) :
    ∃ (v : Option Value) (vm₁ : Vm) (B : Pt), s.WarmedH vm₁ ∧ Stand p l e R s m args below meth c B.U B.locs B.cells B.slots ∧ Post ⟨T.setVm vm₁, locs, cells, slots⟩ (Value.ref b :: argsL).toArray v B ∧
      ∀ target, Steps p.tables e below (B.U.setTop { g with pc := g.pc + 3, stack := v.toList ++ rest }) target → Steps p.tables e below (T.setTop g) target := by
  obtain ⟨mk, methM, hnamed, hmethM, hstM, habM⟩ := Cond.instanceMethod_spec hinst
  obtain ⟨m8, methM', cM, hn8, hmethM', -, -, -, -, -, -, hsigM⟩ := Cond.codeWith_spec hcode
  cases Option.some.inj (hn8.symm.trans hnamed)
  cases hmethM.symm.trans hmethM'
  obtain ⟨c2, r2, m2, q1, q2, q3, q4, kP, hkP, hkPi⟩ := Cond.selects_spec hsel
  cases hcls.symm.trans q1
  cases (State.methodFound?_of_named hnamed hy).symm.trans q2
  cases hnamed.symm.trans q3
  have hselP : selectMethod e.platform s.vm cellB.cls mk = .method mk := by rw [Launch.admits_selectMethod X.admits]; exact q4
  obtain ⟨vm₁, X₁, hstep₁⟩ := X.invokevirtual hexec hown hlink hnamed hmethM hstM hkP hkPi hy (a := b) (cell := cellB) hcell
    (fun z h => by rw [h] at hobj; cases hobj) hselP hmethM habM hkP hkPi (g := g) hg (argsL := argsL) (rest := rest) (hlen _ hsigM) hstack hdg
  obtain ⟨v, B, X', hpost, hsteps⟩ := hK m meth c ⟨T.setVm vm₁, locs, cells, slots⟩ { g with stack := rest } (.invokevirtual index) mk (Value.ref b :: argsL).toArray X₁ hg hsize hdg hW (X₁.named hnamed) (hpre vm₁ X₁.warmed)
  exact ⟨v, vm₁, B, X₁.warmed, X', hpost, fun target h => hstep₁ _ fun acts => by rw [doInvoke_state]; exact hsteps.trans h⟩
abbrev vx_CVW (R : Room) (s : State) (args : Array Value) (own C : String) (index : Nat) (y : MethodName) (bytes : ByteArray) (maxL : Nat) (ret : Option FieldType) (hh : List (Nat × Nat × Nat × Nat)) (ws : List Cond) (rm : Room) (mc ms n : Nat) : Prop :=
  (rm.cells = mc ∧ rm.slots = ms ∧ rm.frames + 1 ≤ R.frames ∧ 8 + (maxL + 11) + rm.locals ≤ R.locals ∧ (∀ w ∈ ws, ∀ (a' : Array Value) (U : State), s.WarmedH U.vm → w.before a' U = true) ∧ Cond.codeWith y bytes maxL ret hh ∈ ws) ∧
  (Cond.codeWith y bytes maxL ret hh).before args s = true ∧ (Cond.initialized y.cls).before args s = true ∧ (y.cls ≠ "java/lang/invoke/MethodHandle" ∧ y.cls ≠ "java/lang/invoke/VarHandle") ∧
  (∀ sig, parseMethodDescriptor y.desc = some sig → n = sig.parameters.length) ∧ (Cond.methodLink own index y).before args s = true ∧ (Cond.instanceMethod y).before args s = true ∧ (Cond.selects C y y).before args s = true
theorem vx_cwVW {own C : String} {index maxL mc ms : Nat} {y : MethodName} {bytes : ByteArray} {ret : Option FieldType} {hh : List (Nat × Nat × Nat × Nat)} {Ts ws ws' : List Cond} {rm : Room} (n : Nat) (ht : ∀ w ∈ Ts, w.before args s = true) (hT : GoodIn Ts (wsV own index C y ws)) (hw : ws = Cond.codeWith y bytes maxL ret hh :: ws') (hrc : rm.cells = mc) (hrs : rm.slots = ms)
    (hd : y.cls = C ∧ y.cls ≠ "java/lang/invoke/MethodHandle" ∧ y.cls ≠ "java/lang/invoke/VarHandle" ∧ (parseMethodDescriptor y.desc).map (fun d => d.parameters.length) = some n) (hR : rm.frames + 1 ≤ R.frames ∧ 8 + (maxL + 11) + rm.locals ≤ R.locals) :
    vx_CVW R s args own C index y bytes maxL ret hh ws rm mc ms n := by
  obtain ⟨hC, hd⟩ := hd
  subst hC
  have ok : ∀ w ∈ wsV own index y.cls y ws, w.before args s = true := fun w h => ht w (hT w h).1
  have hG : GoodIn Ts ws := fun w h => hT w (by unfold wsV; exact List.mem_append_right _ h)
  have hc : Cond.codeWith y bytes maxL ret hh ∈ ws := by rw [hw]; exact List.mem_cons_self
  refine ⟨⟨hrc, hrs, hR.1, hR.2, pay_in ht hG, hc⟩, ht _ (hG _ hc).1, ok _ (by simp [wsV]), ⟨hd.1, hd.2.1⟩, fun sig h => ?_, ok _ (by simp [wsV]), ok _ (by simp [wsV]), ok _ (by simp [wsV])⟩
  have h2 := hd.2.2
  rw [h] at h2
  exact (Option.some.inj h2).symm
theorem vx_runVW {y : MethodName} {bytes cc : ByteArray} {maxL nL mc ms n index : Nat} {ret : Option FieldType} {hh : List (Nat × Nat × Nat × Nat)} {ws : List Cond} {rm : Room} {Pc : Array Value → State → Prop} {Qc : Array Value → State → Outcome → State → Prop} {free : Addr → Prop} {Ts : List Cond} {own C : String} {b : Addr} {As rest : List Value} {g : JFrame}
    (S : CallFix p m c cc nL s args Ts own) (hM : Met l y ws rm Pc Qc mc ms free) (cw : vx_CVW R s args own C index y bytes maxL ret hh ws rm mc ms n) (hp : PreV s H C b Pc As)
    (hg : g.method = m) (hn : As.length = n) (hsize : g.locals.size = nL) (hstack : g.stack = As.reverse ++ .ref b :: rest) (hW : 2 * g.monitorRoom + (rest.map fun v => v.category).sum ≤ 8) (hdg : decode cc g.pc = .ok (.invokevirtual index, 3)) (hf : cells + mc ≤ R.cells ∧ slots + ms ≤ R.slots) :
    va_Run p l e R s m args below meth c H locs cells slots mc ms g rest (Qc (Value.ref b :: As).toArray) free := by
  obtain ⟨⟨hrc, hrs, hfr, hlo, hws, hcw⟩, hcode, hini, hy, hlen, hl, hin, hse⟩ := cw
  have hK : Back l R p e below s args y 3 8 (PreOf R mc ms Pc) (PostOf Qc mc ms free) := va_backW (hh := hh) (bytes := bytes) (maxL := maxL) (ret := ret) hM hp.1 hrc hrs hfr hlo hws hcw (fun a' U hW => word_at hW (Or.inl (by first | rfl | simp [Cond.onTables, Cond.keeps, Cond.steady])) hini)
  obtain ⟨hx, hb, hml, ho, -⟩ := S
  obtain ⟨-, ⟨cellB, hcB, hoB, hclB⟩, hPc⟩ := hp
  intro T hT X
  obtain ⟨v, vm₁, ⟨U', l2, c2, s2⟩, hW₁, X', ⟨g', mk, t, L, e1, e2, hq, h1, hL, h2, h3⟩, st⟩ := vx_callVW X hx (C := C) (hh := hh) (bytes := bytes) (maxL := maxL) (ret := ret) ho hl hin hse hcode hy hK (by rw [hT]; exact hcB) hoB hclB hg (hsize.trans hml.symm) (argsL := As) (rest := rest) (fun sig h => hn.trans (hlen sig h)) hstack hW (by rw [hb]; exact hdg)
    (fun vm₁ hW₁ => ⟨hf.1, hf.2, hPc (T.setVm vm₁) hT hW₁⟩)
  dsimp only [Pt.U, Pt.locs, Pt.cells, Pt.slots] at X' e1 e2 h1 h2 h3 st
  subst h1; subst h2; subst h3
  exact ⟨v, (T.setVm vm₁).calling g' mk (Value.ref b :: As).toArray, t, U', L, hT, X', hL, e1, e2, hq, st⟩
section
variable {y : MethodName} {bytes cc : ByteArray} {maxL nL mc ms n index : Nat} {ret : Option FieldType} {ws : List Cond} {rm : Room} {Pc : Array Value → State → Prop} {Qc : Array Value → State → Outcome → State → Prop} {XC : String → State → State → Prop} {free : Addr → Prop} {Ts : List Cond} {own C : String} {b : Addr} {As rest : List Value} {g : JFrame}
theorem vx_runVX {hh : List (Nat × Nat × Nat × Nat)} (S : CallFix p m c cc nL s args Ts own) (hM : vx_Met l y ws rm Pc Qc XC mc ms free) (cw : vx_CVW R s args own C index y bytes maxL ret hh ws rm mc ms n) (hp : PreV s H C b Pc As)
    (hg : g.method = m) (hn : As.length = n) (hsize : g.locals.size = nL) (hstack : g.stack = As.reverse ++ .ref b :: rest) (hW : 2 * g.monitorRoom + (rest.map fun v => v.category).sum ≤ 8) (hdg : decode cc g.pc = .ok (.invokevirtual index, 3)) (hf : cells + mc ≤ R.cells ∧ slots + ms ≤ R.slots) :
    vx_Run p l e R s m args below meth c H locs cells slots mc ms g rest (Qc (Value.ref b :: As).toArray) XC free := by
  obtain ⟨⟨hrc, hrs, hfr, hlo, hws, hcw⟩, hcode, hini, hy, hlen, hl, hin, hse⟩ := cw
  have hK : vx_Back l R p e below s args y 3 8 (PreOf R mc ms Pc) (PostOf Qc mc ms free) (vx_Post XC mc ms free) := vx_backW (hh := hh) (bytes := bytes) (maxL := maxL) (ret := ret) hM hp.1 hrc hrs hfr hlo hws hcw (fun a' U hW => word_at hW (Or.inl (by first | rfl | simp [Cond.onTables, Cond.keeps, Cond.steady])) hini)
  obtain ⟨hx, hb, hml, ho, -⟩ := S
  obtain ⟨-, ⟨cellB, hcB, hoB, hclB⟩, hPc⟩ := hp
  intro T hT X
  rcases vx_callVX X hx (C := C) (hh := hh) (bytes := bytes) (maxL := maxL) (ret := ret) ho hl hin hse hcode hy hK (by rw [hT]; exact hcB) hoB hclB hg (hsize.trans hml.symm) (argsL := As) (rest := rest) (fun sig h => hn.trans (hlen sig h)) hstack hW (by rw [hb]; exact hdg)
    (fun vm₁ hW₁ => ⟨hf.1, hf.2, hPc (T.setVm vm₁) hT hW₁⟩) with ⟨v, vm₁, ⟨U', l2, c2, s2⟩, hW₁, X', ⟨g', mk, t, L, e1, e2, hq, h1, hL, h2, h3⟩, st⟩ | ⟨q, vm₁, ⟨U', l2, c2, s2⟩, hW₁, X', ⟨g', mk, t, L, E, ce, e1, e2, hq, hce, hcv, hcl, h1, hL, h2, h3⟩, st⟩
  · dsimp only [Pt.U, Pt.locs, Pt.cells, Pt.slots] at X' e1 e2 h1 h2 h3 st
    subst h1; subst h2; subst h3
    exact Or.inl ⟨v, (T.setVm vm₁).calling g' mk (Value.ref b :: As).toArray, t, U', L, hT, X', hL, e1, e2, hq, st⟩
  · dsimp only [Pt.U, Pt.locs, Pt.cells, Pt.slots] at X' e1 e2 h1 h2 h3 st hcl
    subst h1; subst h2; subst h3
    exact Or.inr ⟨q, (T.setVm vm₁).calling g' mk (Value.ref b :: As).toArray, t, U', L, E, ce, hT, X', hL, e1, e2, hq, hce, hcv, vx_cls hW₁ hcl, st⟩
theorem vx_runSX {hh : List (Nat × Nat × Nat × Nat)} (S : CallFix p m c cc nL s args Ts own) (hM : vx_Met l y ws rm Pc Qc XC mc ms free) (cw : vx_CSW R s args own index y bytes maxL ret hh ws rm mc ms n) (hp : PreS s H Pc As)
    (hg : g.method = m) (hn : As.length = n) (hsize : g.locals.size = nL) (hstack : g.stack = As.reverse ++ rest) (hW : 2 * g.monitorRoom + (rest.map fun v => v.category).sum ≤ 8) (hdg : decode cc g.pc = .ok (.invokestatic index, 3)) (hf : cells + mc ≤ R.cells ∧ slots + ms ≤ R.slots) :
    vx_Run p l e R s m args below meth c H locs cells slots mc ms g rest (Qc As.toArray) XC free := by
  obtain ⟨⟨hrc, hrs, hfr, hlo, hws, hcw⟩, hcode, hini, hy, hlen, hl, hstt⟩ := cw
  have hK : vx_Back l R p e below s args y 3 8 (PreOf R mc ms Pc) (PostOf Qc mc ms free) (vx_Post XC mc ms free) := vx_backW (hh := hh) (bytes := bytes) (maxL := maxL) (ret := ret) hM hp.1 hrc hrs hfr hlo hws hcw (fun a' U hW => word_at hW (Or.inl (by first | rfl | simp [Cond.onTables, Cond.keeps, Cond.steady])) hini)
  obtain ⟨hx, hb, hml, ho, -⟩ := S
  intro T hT X
  rcases vx_callSX X hx (hh := hh) (bytes := bytes) (maxL := maxL) (ret := ret) ho hl hstt hini hcode hy hK hg (hsize.trans hml.symm) (argsL := As) (rest := rest) (fun sig h => hn.trans (hlen sig h)) hstack hW (by rw [hb]; exact hdg)
    (fun vm₁ hW₁ => ⟨hf.1, hf.2, hp.2 (T.setVm vm₁) hT hW₁⟩) with ⟨v, vm₁, ⟨U', l2, c2, s2⟩, hW₁, X', ⟨g', mk, t, L, e1, e2, hq, h1, hL, h2, h3⟩, st⟩ | ⟨q, vm₁, ⟨U', l2, c2, s2⟩, hW₁, X', ⟨g', mk, t, L, E, ce, e1, e2, hq, hce, hcv, hcl, h1, hL, h2, h3⟩, st⟩
  · dsimp only [Pt.U, Pt.locs, Pt.cells, Pt.slots] at X' e1 e2 h1 h2 h3 st
    subst h1; subst h2; subst h3
    exact Or.inl ⟨v, (T.setVm vm₁).calling g' mk As.toArray, t, U', L, hT, X', hL, e1, e2, hq, st⟩
  · dsimp only [Pt.U, Pt.locs, Pt.cells, Pt.slots] at X' e1 e2 h1 h2 h3 st hcl
    subst h1; subst h2; subst h3
    exact Or.inr ⟨q, (T.setVm vm₁).calling g' mk As.toArray, t, U', L, E, ce, hT, X', hL, e1, e2, hq, hce, hcv, vx_cls hW₁ hcl, st⟩
end
end VXH
theorem vx_ofWH {l : Launch} {y : MethodName} {ws ws' : List Cond} {rm : Room} {Pc : Array Value → State → Prop} {Qc : Array Value → State → Outcome → State → Prop} {XC : String → State → State → Prop} {mc ms : Nat} {free : Addr → Prop} {cc : ByteArray} {maxL : Nat} {ret : Option FieldType} {hh : List (Nat × Nat × Nat × Nat)}
    (hy : plainName y.cls = true) (hw : ws = Cond.codeWith y cc maxL ret hh :: ws')
    (body : ∀ p e s m args below meth c s₁, BodyLoose p l y (headSpec ws rm) cc maxL ret e s m args below meth c s₁ → c.maxLocals = maxL → Pc args s →
      W p l e (headSpec ws rm).room s m args below meth c s.heap [] 0 0 (vx_MQ below Qc XC args s mc ms free) (entryFrame m args maxL)) : vx_Met l y ws rm Pc Qc XC mc ms free := by
  refine MetFree.of_bodyS (code := cc) (maxLocals := maxL) (ret := ret) hy ?_ ?_
  · intro args s m h hn
    obtain ⟨m9, meth, c, hn9, h1, h2, h3, h4, -, h5, h6, -⟩ := Cond.codeWith_spec (atoms_spec (ws := ws) h _ (by rw [hw]; exact List.mem_cons_self))
    cases hn.symm.trans hn9
    exact ⟨meth, c, h1, h2, h3, h4, h5, h6⟩
  · intro p e s m args below meth c s₁ B hml hP _
    have hh0 : s₁.heap = s.heap := by rw [B.state]; rfl
    obtain ⟨t, a1, o, b1, b2, b3⟩ := body p e s m args below meth c s₁ B hml hP s₁ hh0 (Stand.of_body B)
    exact ⟨t, o, a1, b1, b2, b3⟩
/-! ===== END ===== -/


/-- the words of 'new NoSuchElementException(text)': its constructor calls by entry 13 of its own pool -/
def hx_six13 : ByteArray := ⟨#[0x2a, 0x2b, 0xb7, 0x00, 0x0d, 0xb1]⟩
def hx_N : String := "java/util/NoSuchElementException"
def hx_ownN (own : String) (ic : Nat) : List Cond :=
  Bundle.throwableAtoms ++ Bundle.throwableSAtoms ++ (Bundle.passSAtoms hx_N "java/lang/RuntimeException" 13 hx_six13 ++ Bundle.chainSAtoms "java/lang/RuntimeException" ["java/lang/Exception"]) ++
  [.methodLink own ic (Bundle.initS hx_N), .instantiable hx_N 6, .castable hx_N hx_N, .selects hx_N Bundle.tFill0 Bundle.tFill0, .selects hx_N Bundle.tFill Bundle.tFill,
   .lays hx_N Bundle.tN "cause" "Ljava/lang/Throwable;", .lays hx_N Bundle.tN "stackTrace" Bundle.steD, .lays hx_N Bundle.tN "suppressedExceptions" Bundle.listD, .lays hx_N Bundle.tN "detailMessage" "Ljava/lang/String;",
   .isRef (.static Bundle.tN "UNASSIGNED_STACK" Bundle.steD), .isRef (.static Bundle.tN "SUPPRESSED_SENTINEL" Bundle.listD),
   .fieldLink Bundle.tN 198 Bundle.tN "backtrace" "Ljava/lang/Object;", .lays Bundle.tN Bundle.tN "backtrace" "Ljava/lang/Object;", .lays hx_N Bundle.tN "backtrace" "Ljava/lang/Object;"]
def hx_atN : List Cond := (hx_ownN "HouseLog" 133).filter vx_no
def hx_atA : List Cond := vx_atS "HouseLog" 125 "java/lang/ArrayIndexOutOfBoundsException" ["java/lang/IndexOutOfBoundsException", "java/lang/RuntimeException", "java/lang/Exception"]
end
section
/-! ===== BEGIN printed: names, fields, word lists, decode rows ===== -/
def RX0 : String := "HouseLog$Bytes"
def TX0 : u_T := fun k => match k with
  | _ => ("HouseLog$Bytes", "held", "[B", true)
def tyX0 : Nat → FieldType := fun k => match k with
  | _ => .array .byte
abbrev wsX00 : List Cond := u_ws RX0 TX0 1
theorem nmX0 : ∀ a, a < 1 → ∀ b, b < 1 → a ≠ b → (TX0 a).2.1 ≠ (TX0 b).2.1 := by decide +kernel
theorem tyX0_ok : ∀ k, k < 1 → parseFieldDescriptor (TX0 k).2.2.1 = some (tyX0 k) := by decide +kernel
abbrev cX0_init : ByteArray := prog_2_method_1_code
def yX0_init : MethodName := ⟨RX0, "<init>", "(I)V"⟩
abbrev cX0_get : ByteArray := prog_2_method_2_code
def yX0_get : MethodName := ⟨RX0, "get", "(I)I"⟩
abbrev cX0_set : ByteArray := prog_2_method_3_code
def yX0_set : MethodName := ⟨RX0, "set", "(II)V"⟩
abbrev cX0_word : ByteArray := prog_2_method_4_code
def yX0_word : MethodName := ⟨RX0, "word", "(I)I"⟩
abbrev cX0_setWord : ByteArray := prog_2_method_5_code
def yX0_setWord : MethodName := ⟨RX0, "setWord", "(II)V"⟩
abbrev cX0_sumOn : ByteArray := prog_2_method_6_code
def yX0_sumOn : MethodName := ⟨RX0, "sumOn", "(III)I"⟩
def RX1 : String := "HouseLog$Sectors"
def TX1 : u_T := fun k => match k with
  | _ => ("HouseLog$Sectors", "bytes", "LHouseLog$Bytes;", true)
def tyX1 : Nat → FieldType := fun k => match k with
  | _ => .object "HouseLog$Bytes"
abbrev wsX10 : List Cond := u_ws RX1 TX1 1
theorem nmX1 : ∀ a, a < 1 → ∀ b, b < 1 → a ≠ b → (TX1 a).2.1 ≠ (TX1 b).2.1 := by decide +kernel
theorem tyX1_ok : ∀ k, k < 1 → parseFieldDescriptor (TX1 k).2.2.1 = some (tyX1 k) := by decide +kernel
abbrev cX1_init : ByteArray := prog_3_method_1_code
def yX1_init : MethodName := ⟨RX1, "<init>", "(I)V"⟩
abbrev cX1_kind : ByteArray := prog_3_method_2_code
def yX1_kind : MethodName := ⟨RX1, "kind", "(I)I"⟩
abbrev cX1_length : ByteArray := prog_3_method_3_code
def yX1_length : MethodName := ⟨RX1, "length", "(I)I"⟩
abbrev cX1_content : ByteArray := prog_3_method_4_code
def yX1_content : MethodName := ⟨RX1, "content", "(II)I"⟩
abbrev cX1_isRight : ByteArray := prog_3_method_5_code
def yX1_isRight : MethodName := ⟨RX1, "isRight", "(I)Z"⟩
abbrev cX1_compose : ByteArray := prog_3_method_6_code
def yX1_compose : MethodName := ⟨RX1, "compose", "(IILHouseLog$Bytes;I)V"⟩
abbrev cX1_take : ByteArray := prog_3_method_7_code
def yX1_take : MethodName := ⟨RX1, "take", "(LHouseLog$Sectors;II)V"⟩
abbrev cX1_sumBehindNumber : ByteArray := prog_3_method_8_code
def yX1_sumBehindNumber : MethodName := ⟨RX1, "sumBehindNumber", "(II)I"⟩
abbrev cX1_rowSum : ByteArray := prog_3_method_9_code
def yX1_rowSum : MethodName := ⟨RX1, "rowSum", "(I)I"⟩
abbrev cX1_sumPlace : ByteArray := prog_3_method_10_code
def yX1_sumPlace : MethodName := ⟨RX1, "sumPlace", "(I)I"⟩
abbrev cX1_firstPlace : ByteArray := prog_3_method_11_code
def yX1_firstPlace : MethodName := ⟨RX1, "firstPlace", "(I)I"⟩
def RX2 : String := "HouseLog"
def TX2 : u_T := fun k => match k with
  | 0 => ("HouseLog", "sectors", "I", true)
  | 1 => ("HouseLog", "copy0", "LHouseLog$Sectors;", true)
  | 2 => ("HouseLog", "copy1", "LHouseLog$Sectors;", true)
  | 3 => ("HouseLog", "memory", "LHouseLog$Sectors;", true)
  | 4 => ("HouseLog", "collected", "LHouseLog$Bytes;", true)
  | 5 => ("HouseLog", "collectedBytes", "I", false)
  | 6 => ("HouseLog", "rows", "I", false)
  | 7 => ("HouseLog", "acknowledged", "I", false)
  | 8 => ("HouseLog", "down", "Z", false)
  | 9 => ("HouseLog", "writesUntilCut", "I", false)
  | 10 => ("HouseLog", "tornBytes", "I", false)
  | 11 => ("HouseLog", "mended", "I", false)
  | _ => ("HouseLog", "writes", "I", false)
def tyX2 : Nat → FieldType := fun k => match k with
  | 0 => .int
  | 1 => .object "HouseLog$Sectors"
  | 2 => .object "HouseLog$Sectors"
  | 3 => .object "HouseLog$Sectors"
  | 4 => .object "HouseLog$Bytes"
  | 5 => .int
  | 6 => .int
  | 7 => .int
  | 8 => .boolean
  | 9 => .int
  | 10 => .int
  | 11 => .int
  | _ => .int
abbrev wsX20 : List Cond := u_ws RX2 TX2 13
theorem nmX2 : ∀ a, a < 13 → ∀ b, b < 13 → a ≠ b → (TX2 a).2.1 ≠ (TX2 b).2.1 := by decide +kernel
theorem tyX2_ok : ∀ k, k < 13 → parseFieldDescriptor (TX2 k).2.2.1 = some (tyX2 k) := by decide +kernel
abbrev cX2_init : ByteArray := prog_1_method_1_code
def yX2_init : MethodName := ⟨RX2, "<init>", "(I)V"⟩
abbrev cX2_add : ByteArray := prog_1_method_2_code
def yX2_add : MethodName := ⟨RX2, "add", "(I)Z"⟩
abbrev cX2_end : ByteArray := prog_1_method_3_code
def yX2_end : MethodName := ⟨RX2, "end", "(IZ)I"⟩
abbrev cX2_sync : ByteArray := prog_1_method_4_code
def yX2_sync : MethodName := ⟨RX2, "sync", "()I"⟩
abbrev cX2_cut : ByteArray := prog_1_method_5_code
def yX2_cut : MethodName := ⟨RX2, "cut", "(II)Z"⟩
abbrev cX2_start : ByteArray := prog_1_method_6_code
def yX2_start : MethodName := ⟨RX2, "start", "()I"⟩
abbrev cX2_poke : ByteArray := prog_1_method_7_code
def yX2_poke : MethodName := ⟨RX2, "poke", "(III)Z"⟩
abbrev cX2_disk : ByteArray := prog_1_method_8_code
def yX2_disk : MethodName := ⟨RX2, "disk", "(II)I"⟩
abbrev cX2_at : ByteArray := prog_1_method_9_code
def yX2_at : MethodName := ⟨RX2, "at", "(II)I"⟩
abbrev cX2_verify : ByteArray := prog_1_method_10_code
def yX2_verify : MethodName := ⟨RX2, "verify", "()I"⟩
abbrev cX2_extract : ByteArray := prog_1_method_11_code
def yX2_extract : MethodName := ⟨RX2, "extract", "(II)I"⟩
abbrev cX2_look : ByteArray := prog_1_method_12_code
def yX2_look : MethodName := ⟨RX2, "look", "(II)I"⟩
abbrev cX2_count : ByteArray := prog_1_method_13_code
def yX2_count : MethodName := ⟨RX2, "count", "(I)I"⟩
abbrev cX2_refuseIfDown : ByteArray := prog_1_method_14_code
def yX2_refuseIfDown : MethodName := ⟨RX2, "refuseIfDown", "()V"⟩
abbrev cX2_isKind : ByteArray := prog_1_method_15_code
def yX2_isKind : MethodName := ⟨RX2, "isKind", "(I)Z"⟩
abbrev cX2_isCopy : ByteArray := prog_1_method_16_code
def yX2_isCopy : MethodName := ⟨RX2, "isCopy", "(I)Z"⟩
abbrev cX2_isPlace : ByteArray := prog_1_method_17_code
def yX2_isPlace : MethodName := ⟨RX2, "isPlace", "(I)Z"⟩
abbrev cX2_isRow : ByteArray := prog_1_method_18_code
def yX2_isRow : MethodName := ⟨RX2, "isRow", "(I)Z"⟩
abbrev cX2_copyOf : ByteArray := prog_1_method_19_code
def yX2_copyOf : MethodName := ⟨RX2, "copyOf", "(I)LHouseLog$Sectors;"⟩
abbrev cX2_roomFor : ByteArray := prog_1_method_20_code
def yX2_roomFor : MethodName := ⟨RX2, "roomFor", "(Z)I"⟩
abbrev cX2_writeWhole : ByteArray := prog_1_method_21_code
def yX2_writeWhole : MethodName := ⟨RX2, "writeWhole", "(LHouseLog$Sectors;I)Z"⟩
abbrev cX2_goDown : ByteArray := prog_1_method_22_code
def yX2_goDown : MethodName := ⟨RX2, "goDown", "()V"⟩
abbrev cX2_findRow : ByteArray := prog_1_method_23_code
def yX2_findRow : MethodName := ⟨RX2, "findRow", "(I)Z"⟩
abbrev cX2_mend : ByteArray := prog_1_method_24_code
def yX2_mend : MethodName := ⟨RX2, "mend", "(LHouseLog$Sectors;LHouseLog$Sectors;I)V"⟩
def RX3 : String := "HouseLogModel"
def TX3 : u_T := fun k => match k with
  | 0 => ("HouseLogModel", "thrown", "I", false)
  | 1 => ("HouseLogModel", "sectors", "I", true)
  | 2 => ("HouseLogModel", "disk", "[I", true)
  | 3 => ("HouseLogModel", "rows", "I", false)
  | 4 => ("HouseLogModel", "acknowledged", "I", false)
  | 5 => ("HouseLogModel", "kinds", "[I", true)
  | 6 => ("HouseLogModel", "lengths", "[I", true)
  | 7 => ("HouseLogModel", "bytes", "[I", true)
  | 8 => ("HouseLogModel", "collected", "I", false)
  | 9 => ("HouseLogModel", "collects", "[I", true)
  | 10 => ("HouseLogModel", "down", "Z", false)
  | 11 => ("HouseLogModel", "keep", "I", false)
  | 12 => ("HouseLogModel", "tear", "I", false)
  | 13 => ("HouseLogModel", "mended", "I", false)
  | 14 => ("HouseLogModel", "writes", "I", false)
  | 15 => ("HouseLogModel", "laid", "[I", true)
  | _ => ("HouseLogModel", "sum", "I", false)
def tyX3 : Nat → FieldType := fun k => match k with
  | 0 => .int
  | 1 => .int
  | 2 => .array .int
  | 3 => .int
  | 4 => .int
  | 5 => .array .int
  | 6 => .array .int
  | 7 => .array .int
  | 8 => .int
  | 9 => .array .int
  | 10 => .boolean
  | 11 => .int
  | 12 => .int
  | 13 => .int
  | 14 => .int
  | 15 => .array .int
  | _ => .int
abbrev wsX30 : List Cond := u_ws RX3 TX3 17
theorem nmX3 : ∀ a, a < 17 → ∀ b, b < 17 → a ≠ b → (TX3 a).2.1 ≠ (TX3 b).2.1 := by decide +kernel
theorem tyX3_ok : ∀ k, k < 17 → parseFieldDescriptor (TX3 k).2.2.1 = some (tyX3 k) := by decide +kernel
abbrev cX3_init : ByteArray := prog_5_method_1_code
def yX3_init : MethodName := ⟨RX3, "<init>", "(I)V"⟩
abbrev cX3_thrown : ByteArray := prog_5_method_2_code
def yX3_thrown : MethodName := ⟨RX3, "thrown", "()I"⟩
abbrev cX3_fails : ByteArray := prog_5_method_3_code
def yX3_fails : MethodName := ⟨RX3, "fails", "(ZZZ)Z"⟩
abbrev cX3_in : ByteArray := prog_5_method_4_code
def yX3_in : MethodName := ⟨RX3, "in", "(III)Z"⟩
abbrev cX3_begin : ByteArray := prog_5_method_5_code
def yX3_begin : MethodName := ⟨RX3, "begin", "()V"⟩
abbrev cX3_goOn : ByteArray := prog_5_method_6_code
def yX3_goOn : MethodName := ⟨RX3, "goOn", "(I)V"⟩
abbrev cX3_lay : ByteArray := prog_5_method_7_code
def yX3_lay : MethodName := ⟨RX3, "lay", "(I)V"⟩
abbrev cX3_from : ByteArray := prog_5_method_8_code
def yX3_from : MethodName := ⟨RX3, "from", "(II)I"⟩
abbrev cX3_four : ByteArray := prog_5_method_9_code
def yX3_four : MethodName := ⟨RX3, "four", "(I)I"⟩
abbrev cX3_isRight : ByteArray := prog_5_method_10_code
def yX3_isRight : MethodName := ⟨RX3, "isRight", "(II)Z"⟩
abbrev cX3_add : ByteArray := prog_5_method_11_code
def yX3_add : MethodName := ⟨RX3, "add", "(I)Z"⟩
abbrev cX3_end : ByteArray := prog_5_method_12_code
def yX3_end : MethodName := ⟨RX3, "end", "(IZ)I"⟩
abbrev cX3_write : ByteArray := prog_5_method_13_code
def yX3_write : MethodName := ⟨RX3, "write", "(II)Z"⟩
abbrev cX3_goDown : ByteArray := prog_5_method_14_code
def yX3_goDown : MethodName := ⟨RX3, "goDown", "()V"⟩
abbrev cX3_sync : ByteArray := prog_5_method_15_code
def yX3_sync : MethodName := ⟨RX3, "sync", "()I"⟩
abbrev cX3_cut : ByteArray := prog_5_method_16_code
def yX3_cut : MethodName := ⟨RX3, "cut", "(II)Z"⟩
abbrev cX3_find : ByteArray := prog_5_method_17_code
def yX3_find : MethodName := ⟨RX3, "find", "(II)V"⟩
abbrev cX3_mend : ByteArray := prog_5_method_18_code
def yX3_mend : MethodName := ⟨RX3, "mend", "(II)V"⟩
abbrev cX3_start : ByteArray := prog_5_method_19_code
def yX3_start : MethodName := ⟨RX3, "start", "()I"⟩
abbrev cX3_poke : ByteArray := prog_5_method_20_code
def yX3_poke : MethodName := ⟨RX3, "poke", "(III)Z"⟩
abbrev cX3_disk : ByteArray := prog_5_method_21_code
def yX3_disk : MethodName := ⟨RX3, "disk", "(II)I"⟩
abbrev cX3_isRow : ByteArray := prog_5_method_22_code
def yX3_isRow : MethodName := ⟨RX3, "isRow", "(I)Z"⟩
abbrev cX3_at : ByteArray := prog_5_method_23_code
def yX3_at : MethodName := ⟨RX3, "at", "(II)I"⟩
abbrev cX3_verify : ByteArray := prog_5_method_24_code
def yX3_verify : MethodName := ⟨RX3, "verify", "()I"⟩
abbrev cX3_extract : ByteArray := prog_5_method_25_code
def yX3_extract : MethodName := ⟨RX3, "extract", "(II)I"⟩
abbrev cX3_look : ByteArray := prog_5_method_26_code
def yX3_look : MethodName := ⟨RX3, "look", "(II)I"⟩
abbrev cX3_count : ByteArray := prog_5_method_27_code
def yX3_count : MethodName := ⟨RX3, "count", "(I)I"⟩
def RJx00060 : String := "java/lang/ArrayIndexOutOfBoundsException"
def TJx00060 : u_T := fun k => match k with
  | 0 => ("java/lang/Throwable", "cause", "Ljava/lang/Throwable;", false)
  | 1 => ("java/lang/Throwable", "stackTrace", "[Ljava/lang/StackTraceElement;", false)
  | 2 => ("java/lang/Throwable", "suppressedExceptions", "Ljava/util/List;", false)
  | 3 => ("java/lang/Throwable", "detailMessage", "Ljava/lang/String;", false)
  | 4 => ("java/lang/Throwable", "backtrace", "Ljava/lang/Object;", false)
  | _ => ("java/lang/Throwable", "depth", "I", false)
def tyJx00060 : Nat → FieldType := fun k => match k with
  | 0 => .object "java/lang/Throwable"
  | 1 => .array (.object "java/lang/StackTraceElement")
  | 2 => .object "java/util/List"
  | 3 => .object "java/lang/String"
  | 4 => .object "java/lang/Object"
  | _ => .int
abbrev wsJx000600 : List Cond := u_ws RJx00060 TJx00060 6
theorem nmJx00060 : ∀ a, a < 6 → ∀ b, b < 6 → a ≠ b → (TJx00060 a).2.1 ≠ (TJx00060 b).2.1 := by decide +kernel
theorem tyJx00060_ok : ∀ k, k < 6 → parseFieldDescriptor (TJx00060 k).2.2.1 = some (tyJx00060 k) := by decide +kernel
abbrev cJx00060_init_a7421 : ByteArray := prog_6_method_2_code
def yJx00060_init_a7421 : MethodName := ⟨RJx00060, "<init>", "(Ljava/lang/String;)V"⟩
def RJ9 : String := "java/lang/Math"
def TJ9 : u_T := fun k => match k with
  | _ => ("", "", "", false)
def tyJ9 : Nat → FieldType := fun k => match k with
  | _ => .int
abbrev wsJ90 : List Cond := u_ws RJ9 TJ9 0
theorem nmJ9 : ∀ a, a < 0 → ∀ b, b < 0 → a ≠ b → (TJ9 a).2.1 ≠ (TJ9 b).2.1 := by decide +kernel
theorem tyJ9_ok : ∀ k, k < 0 → parseFieldDescriptor (TJ9 k).2.2.1 = some (tyJ9 k) := by decide +kernel
abbrev cJ9_max_7cf53 : ByteArray := prog_11_method_65_code
def yJ9_max_7cf53 : MethodName := ⟨RJ9, "max", "(II)I"⟩
abbrev cJ9_min_7cf53 : ByteArray := prog_11_method_69_code
def yJ9_min_7cf53 : MethodName := ⟨RJ9, "min", "(II)I"⟩
def RJ0 : String := "java/lang/String"
def TJ0 : u_T := fun k => match k with
  | _ => ("", "", "", false)
def tyJ0 : Nat → FieldType := fun k => match k with
  | _ => .int
abbrev wsJ00 : List Cond := u_ws RJ0 TJ0 0
theorem nmJ0 : ∀ a, a < 0 → ∀ b, b < 0 → a ≠ b → (TJ0 a).2.1 ≠ (TJ0 b).2.1 := by decide +kernel
theorem tyJ0_ok : ∀ k, k < 0 → parseFieldDescriptor (TJ0 k).2.2.1 = some (tyJ0 k) := by decide +kernel
def wsX0_init : List Cond := .code yX0_init cX0_init 2 none :: ([.methodLink RX0 3 objectInit, .instanceMethod objectInit, .code objectInit ⟨#[0xb1]⟩ 1 none, .methodLink RX0 9 Lib.Math.max.name, .static Lib.Math.max.name, .initialized "java/lang/Math", .code Lib.Math.max.name Lib.Math.max.code 2 (some .int), .arrayClass .byte, .fieldLink RX0 15 "HouseLog$Bytes" "held" "[B"] ++ wsX00)
def wsX0_get : List Cond := .code yX0_get cX0_get 2 (some .int) :: ([.fieldLink RX0 15 "HouseLog$Bytes" "held" "[B"] ++ wsX00)
def wsX0_set : List Cond := .code yX0_set cX0_set 3 none :: ([.fieldLink RX0 15 "HouseLog$Bytes" "held" "[B"] ++ wsX00)
def wsX0_word : List Cond := .code yX0_word cX0_word 2 (some .int) :: ([.methodLink RX0 21 yX0_get, .instanceMethod yX0_get, .selects RX0 yX0_get yX0_get, .initialized RX0, .code yX0_get cX0_get 2 (some .int), .fieldLink RX0 15 "HouseLog$Bytes" "held" "[B"] ++ wsX00)
def wsX0_setWord : List Cond := .code yX0_setWord cX0_setWord 3 none :: ([.methodLink RX0 25 yX0_set, .instanceMethod yX0_set, .selects RX0 yX0_set yX0_set, .initialized RX0, .code yX0_set cX0_set 3 none, .fieldLink RX0 15 "HouseLog$Bytes" "held" "[B"] ++ wsX00)
def wsX0_sumOn : List Cond := .code yX0_sumOn cX0_sumOn 7 (some .int) :: ([.constant RX0 29 (-2048144789), .methodLink RX0 21 yX0_get, .instanceMethod yX0_get, .selects RX0 yX0_get yX0_get, .initialized RX0, .code yX0_get cX0_get 2 (some .int), .fieldLink RX0 15 "HouseLog$Bytes" "held" "[B"] ++ wsX00)
def wsX1_init : List Cond := .code yX1_init cX1_init 2 none :: ([.methodLink RX1 3 objectInit, .instanceMethod objectInit, .code objectInit ⟨#[0xb1]⟩ 1 none, .classLink RX1 9 RX0, .instantiable RX0 1, .initialized RX0, .fieldLink RX1 14 "HouseLog$Sectors" "bytes" "LHouseLog$Bytes;", .methodLink RX1 11 yX0_init, .instanceMethod yX0_init, .code yX0_init cX0_init 2 none, .methodLink RX0 3 objectInit, .methodLink RX0 9 Lib.Math.max.name, .static Lib.Math.max.name, .initialized "java/lang/Math", .code Lib.Math.max.name Lib.Math.max.code 2 (some .int), .arrayClass .byte, .fieldLink RX0 15 "HouseLog$Bytes" "held" "[B"] ++ wsX00 ++ wsX10)
def wsX1_firstPlace : List Cond := .code yX1_firstPlace cX1_firstPlace 1 (some .int) :: ([])
def wsX1_kind : List Cond := .code yX1_kind cX1_kind 2 (some .int) :: ([.fieldLink RX1 14 "HouseLog$Sectors" "bytes" "LHouseLog$Bytes;", .methodLink RX1 20 yX1_firstPlace, .static yX1_firstPlace, .initialized RX1, .code yX1_firstPlace cX1_firstPlace 1 (some .int), .methodLink RX1 24 yX0_get, .instanceMethod yX0_get, .selects RX0 yX0_get yX0_get, .initialized RX0, .code yX0_get cX0_get 2 (some .int), .fieldLink RX0 15 "HouseLog$Bytes" "held" "[B"] ++ wsX10 ++ wsX00)
def wsX1_length : List Cond := .code yX1_length cX1_length 2 (some .int) :: ([.fieldLink RX1 14 "HouseLog$Sectors" "bytes" "LHouseLog$Bytes;", .methodLink RX1 20 yX1_firstPlace, .static yX1_firstPlace, .initialized RX1, .code yX1_firstPlace cX1_firstPlace 1 (some .int), .methodLink RX1 24 yX0_get, .instanceMethod yX0_get, .selects RX0 yX0_get yX0_get, .initialized RX0, .code yX0_get cX0_get 2 (some .int), .fieldLink RX0 15 "HouseLog$Bytes" "held" "[B"] ++ wsX10 ++ wsX00)
def wsX1_content : List Cond := .code yX1_content cX1_content 3 (some .int) :: ([.fieldLink RX1 14 "HouseLog$Sectors" "bytes" "LHouseLog$Bytes;", .methodLink RX1 20 yX1_firstPlace, .static yX1_firstPlace, .initialized RX1, .code yX1_firstPlace cX1_firstPlace 1 (some .int), .methodLink RX1 24 yX0_get, .instanceMethod yX0_get, .selects RX0 yX0_get yX0_get, .initialized RX0, .code yX0_get cX0_get 2 (some .int), .fieldLink RX0 15 "HouseLog$Bytes" "held" "[B"] ++ wsX10 ++ wsX00)
def wsX2_isKind : List Cond := .code yX2_isKind cX2_isKind 1 (some .boolean) :: ([])
def wsX1_sumPlace : List Cond := .code yX1_sumPlace cX1_sumPlace 2 (some .int) :: ([.methodLink RX1 20 yX1_firstPlace, .static yX1_firstPlace, .initialized RX1, .code yX1_firstPlace cX1_firstPlace 1 (some .int), .methodLink RX1 37 yX1_length, .instanceMethod yX1_length, .selects RX1 yX1_length yX1_length, .code yX1_length cX1_length 2 (some .int), .fieldLink RX1 14 "HouseLog$Sectors" "bytes" "LHouseLog$Bytes;", .methodLink RX1 24 yX0_get, .instanceMethod yX0_get, .selects RX0 yX0_get yX0_get, .initialized RX0, .code yX0_get cX0_get 2 (some .int), .fieldLink RX0 15 "HouseLog$Bytes" "held" "[B"] ++ wsX10 ++ wsX00)
def wsX1_rowSum_r1 : List Cond := [Cond.fieldLink RX1 14 "HouseLog$Sectors" "bytes" "LHouseLog$Bytes;", Cond.constant RX1 57 (-1756908916), Cond.methodLink RX1 20 yX1_firstPlace, Cond.static yX1_firstPlace, Cond.initialized RX1, Cond.code yX1_firstPlace cX1_firstPlace 1 (some .int), Cond.methodLink RX1 40 yX1_sumPlace, Cond.instanceMethod yX1_sumPlace, Cond.selects RX1 yX1_sumPlace yX1_sumPlace, Cond.code yX1_sumPlace cX1_sumPlace 2 (some .int), Cond.methodLink RX1 37 yX1_length, Cond.instanceMethod yX1_length, Cond.selects RX1 yX1_length yX1_length, Cond.code yX1_length cX1_length 2 (some .int), Cond.methodLink RX1 24 yX0_get, Cond.instanceMethod yX0_get, Cond.selects RX0 yX0_get yX0_get, Cond.initialized RX0, Cond.code yX0_get cX0_get 2 (some .int), Cond.fieldLink RX0 15 "HouseLog$Bytes" "held" "[B", Cond.methodLink RX1 53 yX0_sumOn, Cond.instanceMethod yX0_sumOn, Cond.selects RX0 yX0_sumOn yX0_sumOn, Cond.code yX0_sumOn cX0_sumOn 7 (some .int)]
def wsX1_rowSum_r2 : List Cond := [Cond.constant RX0 29 (-2048144789), Cond.methodLink RX0 21 yX0_get]
def wsX1_rowSum : List Cond := .code yX1_rowSum cX1_rowSum 2 (some .int) :: ((wsX1_rowSum_r1 ++ wsX1_rowSum_r2) ++ wsX10 ++ wsX00)
def wsX1_isRight_r1 : List Cond := [Cond.fieldLink RX1 14 "HouseLog$Sectors" "bytes" "LHouseLog$Bytes;", Cond.methodLink RX1 20 yX1_firstPlace, Cond.static yX1_firstPlace, Cond.initialized RX1, Cond.code yX1_firstPlace cX1_firstPlace 1 (some .int), Cond.methodLink RX1 27 yX0_word, Cond.instanceMethod yX0_word, Cond.selects RX0 yX0_word yX0_word, Cond.initialized RX0, Cond.code yX0_word cX0_word 2 (some .int), Cond.methodLink RX0 21 yX0_get, Cond.instanceMethod yX0_get, Cond.selects RX0 yX0_get yX0_get, Cond.code yX0_get cX0_get 2 (some .int), Cond.fieldLink RX0 15 "HouseLog$Bytes" "held" "[B", Cond.methodLink RX1 30 yX1_kind, Cond.instanceMethod yX1_kind, Cond.selects RX1 yX1_kind yX1_kind, Cond.code yX1_kind cX1_kind 2 (some .int), Cond.methodLink RX1 24 yX0_get, Cond.static yX2_isKind, Cond.initialized RX2, Cond.code yX2_isKind cX2_isKind 1 (some .boolean), Cond.methodLink RX1 37 yX1_length]
def wsX1_isRight_r2 : List Cond := [Cond.instanceMethod yX1_length, Cond.selects RX1 yX1_length yX1_length, Cond.code yX1_length cX1_length 2 (some .int), Cond.methodLink RX1 40 yX1_sumPlace, Cond.instanceMethod yX1_sumPlace, Cond.selects RX1 yX1_sumPlace yX1_sumPlace, Cond.code yX1_sumPlace cX1_sumPlace 2 (some .int), Cond.methodLink RX1 43 yX1_rowSum, Cond.instanceMethod yX1_rowSum, Cond.selects RX1 yX1_rowSum yX1_rowSum, Cond.code yX1_rowSum cX1_rowSum 2 (some .int), Cond.constant RX1 57 (-1756908916), Cond.methodLink RX1 53 yX0_sumOn, Cond.instanceMethod yX0_sumOn, Cond.selects RX0 yX0_sumOn yX0_sumOn, Cond.code yX0_sumOn cX0_sumOn 7 (some .int), Cond.constant RX0 29 (-2048144789)]
def wsX1_isRight : List Cond := .code yX1_isRight cX1_isRight 2 (some .boolean) :: ((wsX1_isRight_r1 ++ wsX1_isRight_r2) ++ wsX10 ++ wsX00)
def wsX1_compose_r1 : List Cond := [Cond.fieldLink RX1 14 "HouseLog$Sectors" "bytes" "LHouseLog$Bytes;", Cond.methodLink RX1 20 yX1_firstPlace, Cond.static yX1_firstPlace, Cond.initialized RX1, Cond.code yX1_firstPlace cX1_firstPlace 1 (some .int), Cond.methodLink RX1 46 yX0_setWord, Cond.instanceMethod yX0_setWord, Cond.selects RX0 yX0_setWord yX0_setWord, Cond.initialized RX0, Cond.code yX0_setWord cX0_setWord 3 none, Cond.methodLink RX0 25 yX0_set, Cond.instanceMethod yX0_set, Cond.selects RX0 yX0_set yX0_set, Cond.code yX0_set cX0_set 3 none, Cond.fieldLink RX0 15 "HouseLog$Bytes" "held" "[B", Cond.methodLink RX1 50 yX0_set, Cond.methodLink RX1 24 yX0_get, Cond.instanceMethod yX0_get, Cond.selects RX0 yX0_get yX0_get, Cond.code yX0_get cX0_get 2 (some .int), Cond.methodLink RX1 40 yX1_sumPlace, Cond.instanceMethod yX1_sumPlace, Cond.selects RX1 yX1_sumPlace yX1_sumPlace, Cond.code yX1_sumPlace cX1_sumPlace 2 (some .int)]
def wsX1_compose_r2 : List Cond := [Cond.methodLink RX1 37 yX1_length, Cond.instanceMethod yX1_length, Cond.selects RX1 yX1_length yX1_length, Cond.code yX1_length cX1_length 2 (some .int), Cond.methodLink RX1 43 yX1_rowSum, Cond.instanceMethod yX1_rowSum, Cond.selects RX1 yX1_rowSum yX1_rowSum, Cond.code yX1_rowSum cX1_rowSum 2 (some .int), Cond.constant RX1 57 (-1756908916), Cond.methodLink RX1 53 yX0_sumOn, Cond.instanceMethod yX0_sumOn, Cond.selects RX0 yX0_sumOn yX0_sumOn, Cond.code yX0_sumOn cX0_sumOn 7 (some .int), Cond.constant RX0 29 (-2048144789), Cond.methodLink RX0 21 yX0_get]
def wsX1_compose : List Cond := .code yX1_compose cX1_compose 7 none :: ((wsX1_compose_r1 ++ wsX1_compose_r2) ++ wsX10 ++ wsX00)
def wsX1_take : List Cond := .code yX1_take cX1_take 6 none :: ([.fieldLink RX1 14 "HouseLog$Sectors" "bytes" "LHouseLog$Bytes;", .methodLink RX1 20 yX1_firstPlace, .static yX1_firstPlace, .initialized RX1, .code yX1_firstPlace cX1_firstPlace 1 (some .int), .methodLink RX1 24 yX0_get, .instanceMethod yX0_get, .selects RX0 yX0_get yX0_get, .initialized RX0, .code yX0_get cX0_get 2 (some .int), .fieldLink RX0 15 "HouseLog$Bytes" "held" "[B", .methodLink RX1 50 yX0_set, .instanceMethod yX0_set, .selects RX0 yX0_set yX0_set, .code yX0_set cX0_set 3 none] ++ wsX10 ++ wsX00)
def wsX1_sumBehindNumber_r1 : List Cond := [Cond.fieldLink RX1 14 "HouseLog$Sectors" "bytes" "LHouseLog$Bytes;", Cond.methodLink RX1 20 yX1_firstPlace, Cond.static yX1_firstPlace, Cond.initialized RX1, Cond.code yX1_firstPlace cX1_firstPlace 1 (some .int), Cond.methodLink RX1 40 yX1_sumPlace, Cond.instanceMethod yX1_sumPlace, Cond.selects RX1 yX1_sumPlace yX1_sumPlace, Cond.code yX1_sumPlace cX1_sumPlace 2 (some .int), Cond.methodLink RX1 37 yX1_length, Cond.instanceMethod yX1_length, Cond.selects RX1 yX1_length yX1_length, Cond.code yX1_length cX1_length 2 (some .int), Cond.methodLink RX1 24 yX0_get, Cond.instanceMethod yX0_get, Cond.selects RX0 yX0_get yX0_get, Cond.initialized RX0, Cond.code yX0_get cX0_get 2 (some .int), Cond.fieldLink RX0 15 "HouseLog$Bytes" "held" "[B", Cond.methodLink RX1 53 yX0_sumOn, Cond.instanceMethod yX0_sumOn, Cond.selects RX0 yX0_sumOn yX0_sumOn, Cond.code yX0_sumOn cX0_sumOn 7 (some .int), Cond.constant RX0 29 (-2048144789)]
def wsX1_sumBehindNumber_r2 : List Cond := [Cond.methodLink RX0 21 yX0_get]
def wsX1_sumBehindNumber : List Cond := .code yX1_sumBehindNumber cX1_sumBehindNumber 3 (some .int) :: ((wsX1_sumBehindNumber_r1 ++ wsX1_sumBehindNumber_r2) ++ wsX10 ++ wsX00)
def wsX2_init_r1 : List Cond := [Cond.methodLink RX2 1 objectInit, Cond.instanceMethod objectInit, Cond.code objectInit ⟨#[0xb1]⟩ 1 none, Cond.methodLink RX2 9 Lib.Math.min.name, Cond.static Lib.Math.min.name, Cond.initialized "java/lang/Math", Cond.code Lib.Math.min.name Lib.Math.min.code 2 (some .int), Cond.methodLink RX2 15 Lib.Math.max.name, Cond.static Lib.Math.max.name, Cond.code Lib.Math.max.name Lib.Math.max.code 2 (some .int), Cond.fieldLink RX2 18 "HouseLog" "sectors" "I", Cond.classLink RX2 22 RX1, Cond.instantiable RX1 1, Cond.initialized RX1, Cond.fieldLink RX2 27 "HouseLog" "copy0" "LHouseLog$Sectors;", Cond.fieldLink RX2 31 "HouseLog" "copy1" "LHouseLog$Sectors;", Cond.fieldLink RX2 34 "HouseLog" "memory" "LHouseLog$Sectors;", Cond.classLink RX2 37 RX0, Cond.instantiable RX0 1, Cond.initialized RX0, Cond.fieldLink RX2 40 "HouseLog" "collected" "LHouseLog$Bytes;", Cond.fieldLink RX2 44 "HouseLog" "writesUntilCut" "I", Cond.methodLink RX2 24 yX1_init, Cond.instanceMethod yX1_init]
def wsX2_init_r2 : List Cond := [Cond.code yX1_init cX1_init 2 none, Cond.methodLink RX1 3 objectInit, Cond.classLink RX1 9 RX0, Cond.fieldLink RX1 14 "HouseLog$Sectors" "bytes" "LHouseLog$Bytes;", Cond.methodLink RX1 11 yX0_init, Cond.instanceMethod yX0_init, Cond.code yX0_init cX0_init 2 none, Cond.methodLink RX0 3 objectInit, Cond.methodLink RX0 9 Lib.Math.max.name, Cond.arrayClass .byte, Cond.fieldLink RX0 15 "HouseLog$Bytes" "held" "[B", Cond.methodLink RX2 39 yX0_init]
def wsX2_init : List Cond := .code yX2_init cX2_init 2 none :: ((wsX2_init_r1 ++ wsX2_init_r2) ++ wsX20 ++ wsX10 ++ wsX00)
def wsX2_add : List Cond := .code yX2_add cX2_add 2 (some .boolean) :: ([.fieldLink RX2 47 "HouseLog" "down" "Z", .fieldLink RX2 51 "HouseLog" "collectedBytes" "I", .fieldLink RX2 40 "HouseLog" "collected" "LHouseLog$Bytes;", .methodLink RX2 54 yX0_set, .instanceMethod yX0_set, .selects RX0 yX0_set yX0_set, .initialized RX0, .code yX0_set cX0_set 3 none, .fieldLink RX0 15 "HouseLog$Bytes" "held" "[B"] ++ wsX20 ++ wsX00)
def wsX2_refuseIfDown : List Cond := .code yX2_refuseIfDown cX2_refuseIfDown 1 none :: ([.classLink RX2 159 "java/lang/IllegalStateException", .initialized "java/lang/IllegalStateException", .fieldLink RX2 47 "HouseLog" "down" "Z"] ++ wsX20 ++ (vx_atS RX2 163 "java/lang/IllegalStateException" ["java/lang/RuntimeException", "java/lang/Exception"]).filter goodWord)
def wsX2_roomFor : List Cond := .code yX2_roomFor cX2_roomFor 3 (some .int) :: ([.fieldLink RX2 18 "HouseLog" "sectors" "I", .fieldLink RX2 76 "HouseLog" "rows" "I", .methodLink RX2 15 Lib.Math.max.name, .static Lib.Math.max.name, .initialized "java/lang/Math", .code Lib.Math.max.name Lib.Math.max.code 2 (some .int)] ++ wsX20)
def wsX2_end_r1 : List Cond := [Cond.classLink RX2 62 "java/lang/IllegalArgumentException", Cond.initialized "java/lang/IllegalArgumentException", Cond.fieldLink RX2 76 "HouseLog" "rows" "I", Cond.fieldLink RX2 34 "HouseLog" "memory" "LHouseLog$Sectors;", Cond.fieldLink RX2 40 "HouseLog" "collected" "LHouseLog$Bytes;", Cond.fieldLink RX2 51 "HouseLog" "collectedBytes" "I", Cond.methodLink RX2 58 yX2_isKind, Cond.static yX2_isKind, Cond.initialized RX2, Cond.code yX2_isKind cX2_isKind 1 (some .boolean), Cond.methodLink RX2 69 yX2_refuseIfDown, Cond.instanceMethod yX2_refuseIfDown, Cond.selects RX2 yX2_refuseIfDown yX2_refuseIfDown, Cond.code yX2_refuseIfDown cX2_refuseIfDown 1 none, Cond.classLink RX2 159 "java/lang/IllegalStateException", Cond.initialized "java/lang/IllegalStateException", Cond.fieldLink RX2 47 "HouseLog" "down" "Z", Cond.methodLink RX2 72 yX2_roomFor, Cond.instanceMethod yX2_roomFor, Cond.selects RX2 yX2_roomFor yX2_roomFor, Cond.code yX2_roomFor cX2_roomFor 3 (some .int), Cond.fieldLink RX2 18 "HouseLog" "sectors" "I", Cond.methodLink RX2 15 Lib.Math.max.name, Cond.static Lib.Math.max.name]
def wsX2_end_r2 : List Cond := [Cond.initialized "java/lang/Math", Cond.code Lib.Math.max.name Lib.Math.max.code 2 (some .int), Cond.methodLink RX2 79 yX1_compose, Cond.instanceMethod yX1_compose, Cond.selects RX1 yX1_compose yX1_compose, Cond.initialized RX1, Cond.code yX1_compose cX1_compose 7 none, Cond.fieldLink RX1 14 "HouseLog$Sectors" "bytes" "LHouseLog$Bytes;", Cond.methodLink RX1 20 yX1_firstPlace, Cond.static yX1_firstPlace, Cond.code yX1_firstPlace cX1_firstPlace 1 (some .int), Cond.methodLink RX1 46 yX0_setWord, Cond.instanceMethod yX0_setWord, Cond.selects RX0 yX0_setWord yX0_setWord, Cond.initialized RX0, Cond.code yX0_setWord cX0_setWord 3 none, Cond.methodLink RX0 25 yX0_set, Cond.instanceMethod yX0_set, Cond.selects RX0 yX0_set yX0_set, Cond.code yX0_set cX0_set 3 none, Cond.fieldLink RX0 15 "HouseLog$Bytes" "held" "[B", Cond.methodLink RX1 50 yX0_set, Cond.methodLink RX1 24 yX0_get, Cond.instanceMethod yX0_get]
def wsX2_end_r3 : List Cond := [Cond.selects RX0 yX0_get yX0_get, Cond.code yX0_get cX0_get 2 (some .int), Cond.methodLink RX1 40 yX1_sumPlace, Cond.instanceMethod yX1_sumPlace, Cond.selects RX1 yX1_sumPlace yX1_sumPlace, Cond.code yX1_sumPlace cX1_sumPlace 2 (some .int), Cond.methodLink RX1 37 yX1_length, Cond.instanceMethod yX1_length, Cond.selects RX1 yX1_length yX1_length, Cond.code yX1_length cX1_length 2 (some .int), Cond.methodLink RX1 43 yX1_rowSum, Cond.instanceMethod yX1_rowSum, Cond.selects RX1 yX1_rowSum yX1_rowSum, Cond.code yX1_rowSum cX1_rowSum 2 (some .int), Cond.constant RX1 57 (-1756908916), Cond.methodLink RX1 53 yX0_sumOn, Cond.instanceMethod yX0_sumOn, Cond.selects RX0 yX0_sumOn yX0_sumOn, Cond.code yX0_sumOn cX0_sumOn 7 (some .int), Cond.constant RX0 29 (-2048144789), Cond.methodLink RX0 21 yX0_get]
def wsX2_end : List Cond := .code yX2_end cX2_end 4 (some .int) :: ((wsX2_end_r1 ++ (wsX2_end_r2 ++ wsX2_end_r3)) ++ wsX20 ++ wsX10 ++ wsX00 ++ (vx_atS RX2 66 "java/lang/IllegalArgumentException" ["java/lang/RuntimeException", "java/lang/Exception"]).filter goodWord ++ (vx_atS RX2 163 "java/lang/IllegalStateException" ["java/lang/RuntimeException", "java/lang/Exception"]).filter goodWord)
def wsX2_writeWhole : List Cond := .code yX2_writeWhole cX2_writeWhole 3 (some .boolean) :: ([.fieldLink RX2 156 "HouseLog" "writes" "I", .fieldLink RX2 44 "HouseLog" "writesUntilCut" "I", .fieldLink RX2 34 "HouseLog" "memory" "LHouseLog$Sectors;", .fieldLink RX2 93 "HouseLog" "tornBytes" "I", .methodLink RX2 164 yX1_take, .instanceMethod yX1_take, .selects RX1 yX1_take yX1_take, .initialized RX1, .code yX1_take cX1_take 6 none, .fieldLink RX1 14 "HouseLog$Sectors" "bytes" "LHouseLog$Bytes;", .methodLink RX1 20 yX1_firstPlace, .static yX1_firstPlace, .code yX1_firstPlace cX1_firstPlace 1 (some .int), .methodLink RX1 24 yX0_get, .instanceMethod yX0_get, .selects RX0 yX0_get yX0_get, .initialized RX0, .code yX0_get cX0_get 2 (some .int), .fieldLink RX0 15 "HouseLog$Bytes" "held" "[B", .methodLink RX1 50 yX0_set, .instanceMethod yX0_set, .selects RX0 yX0_set yX0_set, .code yX0_set cX0_set 3 none] ++ wsX20 ++ wsX10 ++ wsX00)
def wsX2_goDown : List Cond := .code yX2_goDown cX2_goDown 1 none :: ([.fieldLink RX2 47 "HouseLog" "down" "Z", .fieldLink RX2 44 "HouseLog" "writesUntilCut" "I", .fieldLink RX2 83 "HouseLog" "acknowledged" "I", .fieldLink RX2 76 "HouseLog" "rows" "I", .fieldLink RX2 51 "HouseLog" "collectedBytes" "I"] ++ wsX20)
def wsX2_sync_r1 : List Cond := [Cond.fieldLink RX2 83 "HouseLog" "acknowledged" "I", Cond.fieldLink RX2 76 "HouseLog" "rows" "I", Cond.fieldLink RX2 27 "HouseLog" "copy0" "LHouseLog$Sectors;", Cond.fieldLink RX2 31 "HouseLog" "copy1" "LHouseLog$Sectors;", Cond.methodLink RX2 69 yX2_refuseIfDown, Cond.instanceMethod yX2_refuseIfDown, Cond.selects RX2 yX2_refuseIfDown yX2_refuseIfDown, Cond.initialized RX2, Cond.code yX2_refuseIfDown cX2_refuseIfDown 1 none, Cond.classLink RX2 159 "java/lang/IllegalStateException", Cond.initialized "java/lang/IllegalStateException", Cond.fieldLink RX2 47 "HouseLog" "down" "Z", Cond.methodLink RX2 86 yX2_writeWhole, Cond.instanceMethod yX2_writeWhole, Cond.selects RX2 yX2_writeWhole yX2_writeWhole, Cond.code yX2_writeWhole cX2_writeWhole 3 (some .boolean), Cond.fieldLink RX2 156 "HouseLog" "writes" "I", Cond.fieldLink RX2 44 "HouseLog" "writesUntilCut" "I", Cond.fieldLink RX2 34 "HouseLog" "memory" "LHouseLog$Sectors;", Cond.fieldLink RX2 93 "HouseLog" "tornBytes" "I", Cond.methodLink RX2 164 yX1_take, Cond.instanceMethod yX1_take, Cond.selects RX1 yX1_take yX1_take, Cond.initialized RX1]
def wsX2_sync_r2 : List Cond := [Cond.code yX1_take cX1_take 6 none, Cond.fieldLink RX1 14 "HouseLog$Sectors" "bytes" "LHouseLog$Bytes;", Cond.methodLink RX1 20 yX1_firstPlace, Cond.static yX1_firstPlace, Cond.code yX1_firstPlace cX1_firstPlace 1 (some .int), Cond.methodLink RX1 24 yX0_get, Cond.instanceMethod yX0_get, Cond.selects RX0 yX0_get yX0_get, Cond.initialized RX0, Cond.code yX0_get cX0_get 2 (some .int), Cond.fieldLink RX0 15 "HouseLog$Bytes" "held" "[B", Cond.methodLink RX1 50 yX0_set, Cond.instanceMethod yX0_set, Cond.selects RX0 yX0_set yX0_set, Cond.code yX0_set cX0_set 3 none, Cond.methodLink RX2 90 yX2_goDown, Cond.instanceMethod yX2_goDown, Cond.selects RX2 yX2_goDown yX2_goDown, Cond.code yX2_goDown cX2_goDown 1 none, Cond.fieldLink RX2 51 "HouseLog" "collectedBytes" "I"]
def wsX2_sync : List Cond := .code yX2_sync cX2_sync 2 (some .int) :: ((wsX2_sync_r1 ++ wsX2_sync_r2) ++ wsX20 ++ wsX10 ++ wsX00 ++ (vx_atS RX2 163 "java/lang/IllegalStateException" ["java/lang/RuntimeException", "java/lang/Exception"]).filter goodWord)
def wsX2_cut : List Cond := .code yX2_cut cX2_cut 3 (some .boolean) :: ([.fieldLink RX2 47 "HouseLog" "down" "Z", .fieldLink RX2 44 "HouseLog" "writesUntilCut" "I", .fieldLink RX2 93 "HouseLog" "tornBytes" "I"] ++ wsX20)
def wsX2_mend : List Cond := .code yX2_mend cX2_mend 4 none :: ([.fieldLink RX2 96 "HouseLog" "mended" "I", .methodLink RX2 164 yX1_take, .instanceMethod yX1_take, .selects RX1 yX1_take yX1_take, .initialized RX1, .code yX1_take cX1_take 6 none, .fieldLink RX1 14 "HouseLog$Sectors" "bytes" "LHouseLog$Bytes;", .methodLink RX1 20 yX1_firstPlace, .static yX1_firstPlace, .code yX1_firstPlace cX1_firstPlace 1 (some .int), .methodLink RX1 24 yX0_get, .instanceMethod yX0_get, .selects RX0 yX0_get yX0_get, .initialized RX0, .code yX0_get cX0_get 2 (some .int), .fieldLink RX0 15 "HouseLog$Bytes" "held" "[B", .methodLink RX1 50 yX0_set, .instanceMethod yX0_set, .selects RX0 yX0_set yX0_set, .code yX0_set cX0_set 3 none] ++ wsX20 ++ wsX10 ++ wsX00)
def wsX2_findRow_r1 : List Cond := [Cond.fieldLink RX2 27 "HouseLog" "copy0" "LHouseLog$Sectors;", Cond.fieldLink RX2 31 "HouseLog" "copy1" "LHouseLog$Sectors;", Cond.fieldLink RX2 34 "HouseLog" "memory" "LHouseLog$Sectors;", Cond.methodLink RX2 142 yX1_isRight, Cond.instanceMethod yX1_isRight, Cond.selects RX1 yX1_isRight yX1_isRight, Cond.initialized RX1, Cond.code yX1_isRight cX1_isRight 2 (some .boolean), Cond.fieldLink RX1 14 "HouseLog$Sectors" "bytes" "LHouseLog$Bytes;", Cond.methodLink RX1 20 yX1_firstPlace, Cond.static yX1_firstPlace, Cond.code yX1_firstPlace cX1_firstPlace 1 (some .int), Cond.methodLink RX1 27 yX0_word, Cond.instanceMethod yX0_word, Cond.selects RX0 yX0_word yX0_word, Cond.initialized RX0, Cond.code yX0_word cX0_word 2 (some .int), Cond.methodLink RX0 21 yX0_get, Cond.instanceMethod yX0_get, Cond.selects RX0 yX0_get yX0_get, Cond.code yX0_get cX0_get 2 (some .int), Cond.fieldLink RX0 15 "HouseLog$Bytes" "held" "[B", Cond.methodLink RX1 30 yX1_kind, Cond.instanceMethod yX1_kind]
def wsX2_findRow_r2 : List Cond := [Cond.selects RX1 yX1_kind yX1_kind, Cond.code yX1_kind cX1_kind 2 (some .int), Cond.methodLink RX1 24 yX0_get, Cond.static yX2_isKind, Cond.initialized RX2, Cond.code yX2_isKind cX2_isKind 1 (some .boolean), Cond.methodLink RX1 37 yX1_length, Cond.instanceMethod yX1_length, Cond.selects RX1 yX1_length yX1_length, Cond.code yX1_length cX1_length 2 (some .int), Cond.methodLink RX1 40 yX1_sumPlace, Cond.instanceMethod yX1_sumPlace, Cond.selects RX1 yX1_sumPlace yX1_sumPlace, Cond.code yX1_sumPlace cX1_sumPlace 2 (some .int), Cond.methodLink RX1 43 yX1_rowSum, Cond.instanceMethod yX1_rowSum, Cond.selects RX1 yX1_rowSum yX1_rowSum, Cond.code yX1_rowSum cX1_rowSum 2 (some .int), Cond.constant RX1 57 (-1756908916), Cond.methodLink RX1 53 yX0_sumOn, Cond.instanceMethod yX0_sumOn, Cond.selects RX0 yX0_sumOn yX0_sumOn, Cond.code yX0_sumOn cX0_sumOn 7 (some .int), Cond.constant RX0 29 (-2048144789)]
def wsX2_findRow_r3 : List Cond := [Cond.methodLink RX2 168 yX2_mend, Cond.instanceMethod yX2_mend, Cond.selects RX2 yX2_mend yX2_mend, Cond.code yX2_mend cX2_mend 4 none, Cond.fieldLink RX2 96 "HouseLog" "mended" "I", Cond.methodLink RX2 164 yX1_take, Cond.instanceMethod yX1_take, Cond.selects RX1 yX1_take yX1_take, Cond.code yX1_take cX1_take 6 none, Cond.methodLink RX1 50 yX0_set, Cond.instanceMethod yX0_set, Cond.selects RX0 yX0_set yX0_set, Cond.code yX0_set cX0_set 3 none]
def wsX2_findRow : List Cond := .code yX2_findRow cX2_findRow 4 (some .boolean) :: ((wsX2_findRow_r1 ++ (wsX2_findRow_r2 ++ wsX2_findRow_r3)) ++ wsX20 ++ wsX10 ++ wsX00)
def wsX2_start_r1 : List Cond := [Cond.fieldLink RX2 96 "HouseLog" "mended" "I", Cond.fieldLink RX2 76 "HouseLog" "rows" "I", Cond.fieldLink RX2 18 "HouseLog" "sectors" "I", Cond.fieldLink RX2 83 "HouseLog" "acknowledged" "I", Cond.fieldLink RX2 47 "HouseLog" "down" "Z", Cond.methodLink RX2 99 yX2_findRow, Cond.instanceMethod yX2_findRow, Cond.selects RX2 yX2_findRow yX2_findRow, Cond.initialized RX2, Cond.code yX2_findRow cX2_findRow 4 (some .boolean), Cond.fieldLink RX2 27 "HouseLog" "copy0" "LHouseLog$Sectors;", Cond.fieldLink RX2 31 "HouseLog" "copy1" "LHouseLog$Sectors;", Cond.fieldLink RX2 34 "HouseLog" "memory" "LHouseLog$Sectors;", Cond.methodLink RX2 142 yX1_isRight, Cond.instanceMethod yX1_isRight, Cond.selects RX1 yX1_isRight yX1_isRight, Cond.initialized RX1, Cond.code yX1_isRight cX1_isRight 2 (some .boolean), Cond.fieldLink RX1 14 "HouseLog$Sectors" "bytes" "LHouseLog$Bytes;", Cond.methodLink RX1 20 yX1_firstPlace, Cond.static yX1_firstPlace, Cond.code yX1_firstPlace cX1_firstPlace 1 (some .int), Cond.methodLink RX1 27 yX0_word, Cond.instanceMethod yX0_word]
def wsX2_start_r2 : List Cond := [Cond.selects RX0 yX0_word yX0_word, Cond.initialized RX0, Cond.code yX0_word cX0_word 2 (some .int), Cond.methodLink RX0 21 yX0_get, Cond.instanceMethod yX0_get, Cond.selects RX0 yX0_get yX0_get, Cond.code yX0_get cX0_get 2 (some .int), Cond.fieldLink RX0 15 "HouseLog$Bytes" "held" "[B", Cond.methodLink RX1 30 yX1_kind, Cond.instanceMethod yX1_kind, Cond.selects RX1 yX1_kind yX1_kind, Cond.code yX1_kind cX1_kind 2 (some .int), Cond.methodLink RX1 24 yX0_get, Cond.static yX2_isKind, Cond.code yX2_isKind cX2_isKind 1 (some .boolean), Cond.methodLink RX1 37 yX1_length, Cond.instanceMethod yX1_length, Cond.selects RX1 yX1_length yX1_length, Cond.code yX1_length cX1_length 2 (some .int), Cond.methodLink RX1 40 yX1_sumPlace, Cond.instanceMethod yX1_sumPlace, Cond.selects RX1 yX1_sumPlace yX1_sumPlace, Cond.code yX1_sumPlace cX1_sumPlace 2 (some .int), Cond.methodLink RX1 43 yX1_rowSum]
def wsX2_start_r3 : List Cond := [Cond.instanceMethod yX1_rowSum, Cond.selects RX1 yX1_rowSum yX1_rowSum, Cond.code yX1_rowSum cX1_rowSum 2 (some .int), Cond.constant RX1 57 (-1756908916), Cond.methodLink RX1 53 yX0_sumOn, Cond.instanceMethod yX0_sumOn, Cond.selects RX0 yX0_sumOn yX0_sumOn, Cond.code yX0_sumOn cX0_sumOn 7 (some .int), Cond.constant RX0 29 (-2048144789), Cond.methodLink RX2 168 yX2_mend, Cond.instanceMethod yX2_mend, Cond.selects RX2 yX2_mend yX2_mend, Cond.code yX2_mend cX2_mend 4 none, Cond.methodLink RX2 164 yX1_take, Cond.instanceMethod yX1_take, Cond.selects RX1 yX1_take yX1_take, Cond.code yX1_take cX1_take 6 none, Cond.methodLink RX1 50 yX0_set, Cond.instanceMethod yX0_set, Cond.selects RX0 yX0_set yX0_set, Cond.code yX0_set cX0_set 3 none]
def wsX2_start : List Cond := .code yX2_start cX2_start 1 (some .int) :: ((wsX2_start_r1 ++ (wsX2_start_r2 ++ wsX2_start_r3)) ++ wsX20 ++ wsX10 ++ wsX00)
def wsX2_isCopy : List Cond := .code yX2_isCopy cX2_isCopy 1 (some .boolean) :: ([])
def wsX2_isPlace : List Cond := .code yX2_isPlace cX2_isPlace 2 (some .boolean) :: ([.fieldLink RX2 18 "HouseLog" "sectors" "I"] ++ wsX20)
def wsX2_copyOf : List Cond := .code yX2_copyOf cX2_copyOf 2 (some (.object "HouseLog$Sectors")) :: ([.fieldLink RX2 27 "HouseLog" "copy0" "LHouseLog$Sectors;", .fieldLink RX2 31 "HouseLog" "copy1" "LHouseLog$Sectors;"] ++ wsX20)
def wsX2_poke_r1 : List Cond := [Cond.methodLink RX2 102 yX2_isCopy, Cond.static yX2_isCopy, Cond.initialized RX2, Cond.code yX2_isCopy cX2_isCopy 1 (some .boolean), Cond.methodLink RX2 105 yX2_isPlace, Cond.instanceMethod yX2_isPlace, Cond.selects RX2 yX2_isPlace yX2_isPlace, Cond.code yX2_isPlace cX2_isPlace 2 (some .boolean), Cond.fieldLink RX2 18 "HouseLog" "sectors" "I", Cond.methodLink RX2 108 yX2_copyOf, Cond.instanceMethod yX2_copyOf, Cond.selects RX2 yX2_copyOf yX2_copyOf, Cond.code yX2_copyOf cX2_copyOf 2 (some (.object "HouseLog$Sectors")), Cond.fieldLink RX2 27 "HouseLog" "copy0" "LHouseLog$Sectors;", Cond.fieldLink RX2 31 "HouseLog" "copy1" "LHouseLog$Sectors;", Cond.methodLink RX2 115 yX0_get, Cond.instanceMethod yX0_get, Cond.selects RX0 yX0_get yX0_get, Cond.initialized RX0, Cond.code yX0_get cX0_get 2 (some .int), Cond.fieldLink RX0 15 "HouseLog$Bytes" "held" "[B", Cond.methodLink RX2 54 yX0_set, Cond.instanceMethod yX0_set, Cond.selects RX0 yX0_set yX0_set]
def wsX2_poke_r2 : List Cond := [Cond.code yX0_set cX0_set 3 none]
def wsX2_poke : List Cond := .code yX2_poke cX2_poke 5 (some .boolean) :: ((wsX2_poke_r1 ++ wsX2_poke_r2) ++ wsX10 ++ wsX20 ++ wsX00)
def wsX2_disk_r1 : List Cond := [Cond.classLink RX2 62 "java/lang/IllegalArgumentException", Cond.initialized "java/lang/IllegalArgumentException", Cond.classLink RX2 121 RJx00060, Cond.instantiable RJx00060 6, Cond.initialized RJx00060, Cond.methodLink RX2 102 yX2_isCopy, Cond.static yX2_isCopy, Cond.initialized RX2, Cond.code yX2_isCopy cX2_isCopy 1 (some .boolean), Cond.methodLink RX2 105 yX2_isPlace, Cond.instanceMethod yX2_isPlace, Cond.selects RX2 yX2_isPlace yX2_isPlace, Cond.code yX2_isPlace cX2_isPlace 2 (some .boolean), Cond.fieldLink RX2 18 "HouseLog" "sectors" "I", Cond.methodLink RX2 108 yX2_copyOf, Cond.instanceMethod yX2_copyOf, Cond.selects RX2 yX2_copyOf yX2_copyOf, Cond.code yX2_copyOf cX2_copyOf 2 (some (.object "HouseLog$Sectors")), Cond.fieldLink RX2 27 "HouseLog" "copy0" "LHouseLog$Sectors;", Cond.fieldLink RX2 31 "HouseLog" "copy1" "LHouseLog$Sectors;", Cond.methodLink RX2 115 yX0_get, Cond.instanceMethod yX0_get, Cond.selects RX0 yX0_get yX0_get, Cond.initialized RX0]
def wsX2_disk_r2 : List Cond := [Cond.code yX0_get cX0_get 2 (some .int), Cond.fieldLink RX0 15 "HouseLog$Bytes" "held" "[B"]
def wsX2_disk : List Cond := .code yX2_disk cX2_disk 3 (some .int) :: ((wsX2_disk_r1 ++ wsX2_disk_r2) ++ wsJx000600 ++ wsX10 ++ wsX20 ++ wsX00 ++ (vx_atS RX2 66 "java/lang/IllegalArgumentException" ["java/lang/RuntimeException", "java/lang/Exception"]).filter goodWord ++ hx_atA.filter goodWord)
def wsX2_isRow : List Cond := .code yX2_isRow cX2_isRow 2 (some .boolean) :: ([.fieldLink RX2 76 "HouseLog" "rows" "I"] ++ wsX20)
def wsX2_at_r1 : List Cond := [Cond.classLink RX2 129 "java/util/NoSuchElementException", Cond.initialized "java/util/NoSuchElementException", Cond.fieldLink RX2 34 "HouseLog" "memory" "LHouseLog$Sectors;", Cond.classLink RX2 121 RJx00060, Cond.instantiable RJx00060 6, Cond.initialized RJx00060, Cond.methodLink RX2 69 yX2_refuseIfDown, Cond.instanceMethod yX2_refuseIfDown, Cond.selects RX2 yX2_refuseIfDown yX2_refuseIfDown, Cond.initialized RX2, Cond.code yX2_refuseIfDown cX2_refuseIfDown 1 none, Cond.classLink RX2 159 "java/lang/IllegalStateException", Cond.initialized "java/lang/IllegalStateException", Cond.fieldLink RX2 47 "HouseLog" "down" "Z", Cond.methodLink RX2 126 yX2_isRow, Cond.instanceMethod yX2_isRow, Cond.selects RX2 yX2_isRow yX2_isRow, Cond.code yX2_isRow cX2_isRow 2 (some .boolean), Cond.fieldLink RX2 76 "HouseLog" "rows" "I", Cond.methodLink RX2 134 yX1_length, Cond.instanceMethod yX1_length, Cond.selects RX1 yX1_length yX1_length, Cond.initialized RX1, Cond.code yX1_length cX1_length 2 (some .int)]
def wsX2_at_r2 : List Cond := [Cond.fieldLink RX1 14 "HouseLog$Sectors" "bytes" "LHouseLog$Bytes;", Cond.methodLink RX1 20 yX1_firstPlace, Cond.static yX1_firstPlace, Cond.code yX1_firstPlace cX1_firstPlace 1 (some .int), Cond.methodLink RX1 24 yX0_get, Cond.instanceMethod yX0_get, Cond.selects RX0 yX0_get yX0_get, Cond.initialized RX0, Cond.code yX0_get cX0_get 2 (some .int), Cond.fieldLink RX0 15 "HouseLog$Bytes" "held" "[B", Cond.methodLink RX2 139 yX1_content, Cond.instanceMethod yX1_content, Cond.selects RX1 yX1_content yX1_content, Cond.code yX1_content cX1_content 3 (some .int)]
def wsX2_at : List Cond := .code yX2_at cX2_at 3 (some .int) :: ((wsX2_at_r1 ++ wsX2_at_r2) ++ wsX20 ++ wsJx000600 ++ wsX10 ++ wsX00 ++ hx_atN.filter goodWord ++ (vx_atS RX2 163 "java/lang/IllegalStateException" ["java/lang/RuntimeException", "java/lang/Exception"]).filter goodWord ++ hx_atA.filter goodWord)
def wsX2_verify_r1 : List Cond := [Cond.fieldLink RX2 83 "HouseLog" "acknowledged" "I", Cond.fieldLink RX2 27 "HouseLog" "copy0" "LHouseLog$Sectors;", Cond.fieldLink RX2 31 "HouseLog" "copy1" "LHouseLog$Sectors;", Cond.methodLink RX2 69 yX2_refuseIfDown, Cond.instanceMethod yX2_refuseIfDown, Cond.selects RX2 yX2_refuseIfDown yX2_refuseIfDown, Cond.initialized RX2, Cond.code yX2_refuseIfDown cX2_refuseIfDown 1 none, Cond.classLink RX2 159 "java/lang/IllegalStateException", Cond.initialized "java/lang/IllegalStateException", Cond.fieldLink RX2 47 "HouseLog" "down" "Z", Cond.methodLink RX2 142 yX1_isRight, Cond.instanceMethod yX1_isRight, Cond.selects RX1 yX1_isRight yX1_isRight, Cond.initialized RX1, Cond.code yX1_isRight cX1_isRight 2 (some .boolean), Cond.fieldLink RX1 14 "HouseLog$Sectors" "bytes" "LHouseLog$Bytes;", Cond.methodLink RX1 20 yX1_firstPlace, Cond.static yX1_firstPlace, Cond.code yX1_firstPlace cX1_firstPlace 1 (some .int), Cond.methodLink RX1 27 yX0_word, Cond.instanceMethod yX0_word, Cond.selects RX0 yX0_word yX0_word, Cond.initialized RX0]
def wsX2_verify_r2 : List Cond := [Cond.code yX0_word cX0_word 2 (some .int), Cond.methodLink RX0 21 yX0_get, Cond.instanceMethod yX0_get, Cond.selects RX0 yX0_get yX0_get, Cond.code yX0_get cX0_get 2 (some .int), Cond.fieldLink RX0 15 "HouseLog$Bytes" "held" "[B", Cond.methodLink RX1 30 yX1_kind, Cond.instanceMethod yX1_kind, Cond.selects RX1 yX1_kind yX1_kind, Cond.code yX1_kind cX1_kind 2 (some .int), Cond.methodLink RX1 24 yX0_get, Cond.static yX2_isKind, Cond.code yX2_isKind cX2_isKind 1 (some .boolean), Cond.methodLink RX1 37 yX1_length, Cond.instanceMethod yX1_length, Cond.selects RX1 yX1_length yX1_length, Cond.code yX1_length cX1_length 2 (some .int), Cond.methodLink RX1 40 yX1_sumPlace, Cond.instanceMethod yX1_sumPlace, Cond.selects RX1 yX1_sumPlace yX1_sumPlace, Cond.code yX1_sumPlace cX1_sumPlace 2 (some .int), Cond.methodLink RX1 43 yX1_rowSum, Cond.instanceMethod yX1_rowSum, Cond.selects RX1 yX1_rowSum yX1_rowSum]
def wsX2_verify_r3 : List Cond := [Cond.code yX1_rowSum cX1_rowSum 2 (some .int), Cond.constant RX1 57 (-1756908916), Cond.methodLink RX1 53 yX0_sumOn, Cond.instanceMethod yX0_sumOn, Cond.selects RX0 yX0_sumOn yX0_sumOn, Cond.code yX0_sumOn cX0_sumOn 7 (some .int), Cond.constant RX0 29 (-2048144789)]
def wsX2_verify : List Cond := .code yX2_verify cX2_verify 2 (some .int) :: ((wsX2_verify_r1 ++ (wsX2_verify_r2 ++ wsX2_verify_r3)) ++ wsX20 ++ wsX10 ++ wsX00 ++ (vx_atS RX2 163 "java/lang/IllegalStateException" ["java/lang/RuntimeException", "java/lang/Exception"]).filter goodWord)
def wsX2_extract_r1 : List Cond := [Cond.classLink RX2 129 "java/util/NoSuchElementException", Cond.initialized "java/util/NoSuchElementException", Cond.constant RX2 147 (-1756908916), Cond.fieldLink RX2 34 "HouseLog" "memory" "LHouseLog$Sectors;", Cond.methodLink RX2 69 yX2_refuseIfDown, Cond.instanceMethod yX2_refuseIfDown, Cond.selects RX2 yX2_refuseIfDown yX2_refuseIfDown, Cond.initialized RX2, Cond.code yX2_refuseIfDown cX2_refuseIfDown 1 none, Cond.classLink RX2 159 "java/lang/IllegalStateException", Cond.initialized "java/lang/IllegalStateException", Cond.fieldLink RX2 47 "HouseLog" "down" "Z", Cond.methodLink RX2 126 yX2_isRow, Cond.instanceMethod yX2_isRow, Cond.selects RX2 yX2_isRow yX2_isRow, Cond.code yX2_isRow cX2_isRow 2 (some .boolean), Cond.fieldLink RX2 76 "HouseLog" "rows" "I", Cond.methodLink RX2 148 yX1_sumBehindNumber, Cond.instanceMethod yX1_sumBehindNumber, Cond.selects RX1 yX1_sumBehindNumber yX1_sumBehindNumber, Cond.initialized RX1, Cond.code yX1_sumBehindNumber cX1_sumBehindNumber 3 (some .int), Cond.fieldLink RX1 14 "HouseLog$Sectors" "bytes" "LHouseLog$Bytes;", Cond.methodLink RX1 20 yX1_firstPlace]
def wsX2_extract_r2 : List Cond := [Cond.static yX1_firstPlace, Cond.code yX1_firstPlace cX1_firstPlace 1 (some .int), Cond.methodLink RX1 40 yX1_sumPlace, Cond.instanceMethod yX1_sumPlace, Cond.selects RX1 yX1_sumPlace yX1_sumPlace, Cond.code yX1_sumPlace cX1_sumPlace 2 (some .int), Cond.methodLink RX1 37 yX1_length, Cond.instanceMethod yX1_length, Cond.selects RX1 yX1_length yX1_length, Cond.code yX1_length cX1_length 2 (some .int), Cond.methodLink RX1 24 yX0_get, Cond.instanceMethod yX0_get, Cond.selects RX0 yX0_get yX0_get, Cond.initialized RX0, Cond.code yX0_get cX0_get 2 (some .int), Cond.fieldLink RX0 15 "HouseLog$Bytes" "held" "[B", Cond.methodLink RX1 53 yX0_sumOn, Cond.instanceMethod yX0_sumOn, Cond.selects RX0 yX0_sumOn yX0_sumOn, Cond.code yX0_sumOn cX0_sumOn 7 (some .int), Cond.constant RX0 29 (-2048144789), Cond.methodLink RX0 21 yX0_get]
def wsX2_extract : List Cond := .code yX2_extract cX2_extract 5 (some .int) :: ((wsX2_extract_r1 ++ wsX2_extract_r2) ++ wsX20 ++ wsX10 ++ wsX00 ++ hx_atN.filter goodWord ++ (vx_atS RX2 163 "java/lang/IllegalStateException" ["java/lang/RuntimeException", "java/lang/Exception"]).filter goodWord)
def wsX2_look_r1 : List Cond := [Cond.classLink RX2 129 "java/util/NoSuchElementException", Cond.initialized "java/util/NoSuchElementException", Cond.fieldLink RX2 34 "HouseLog" "memory" "LHouseLog$Sectors;", Cond.fieldLink RX2 83 "HouseLog" "acknowledged" "I", Cond.methodLink RX2 69 yX2_refuseIfDown, Cond.instanceMethod yX2_refuseIfDown, Cond.selects RX2 yX2_refuseIfDown yX2_refuseIfDown, Cond.initialized RX2, Cond.code yX2_refuseIfDown cX2_refuseIfDown 1 none, Cond.classLink RX2 159 "java/lang/IllegalStateException", Cond.initialized "java/lang/IllegalStateException", Cond.fieldLink RX2 47 "HouseLog" "down" "Z", Cond.methodLink RX2 126 yX2_isRow, Cond.instanceMethod yX2_isRow, Cond.selects RX2 yX2_isRow yX2_isRow, Cond.code yX2_isRow cX2_isRow 2 (some .boolean), Cond.fieldLink RX2 76 "HouseLog" "rows" "I", Cond.methodLink RX2 151 yX1_kind, Cond.instanceMethod yX1_kind, Cond.selects RX1 yX1_kind yX1_kind, Cond.initialized RX1, Cond.code yX1_kind cX1_kind 2 (some .int), Cond.fieldLink RX1 14 "HouseLog$Sectors" "bytes" "LHouseLog$Bytes;", Cond.methodLink RX1 20 yX1_firstPlace]
def wsX2_look_r2 : List Cond := [Cond.static yX1_firstPlace, Cond.code yX1_firstPlace cX1_firstPlace 1 (some .int), Cond.methodLink RX1 24 yX0_get, Cond.instanceMethod yX0_get, Cond.selects RX0 yX0_get yX0_get, Cond.initialized RX0, Cond.code yX0_get cX0_get 2 (some .int), Cond.fieldLink RX0 15 "HouseLog$Bytes" "held" "[B", Cond.methodLink RX2 134 yX1_length, Cond.instanceMethod yX1_length, Cond.selects RX1 yX1_length yX1_length, Cond.code yX1_length cX1_length 2 (some .int)]
def wsX2_look : List Cond := .code yX2_look cX2_look 3 (some .int) :: ((wsX2_look_r1 ++ wsX2_look_r2) ++ wsX20 ++ wsX10 ++ wsX00 ++ hx_atN.filter goodWord ++ (vx_atS RX2 163 "java/lang/IllegalStateException" ["java/lang/RuntimeException", "java/lang/Exception"]).filter goodWord)
def wsX2_count : List Cond := .code yX2_count cX2_count 2 (some .int) :: ([.fieldLink RX2 18 "HouseLog" "sectors" "I", .fieldLink RX2 47 "HouseLog" "down" "Z", .fieldLink RX2 76 "HouseLog" "rows" "I", .fieldLink RX2 83 "HouseLog" "acknowledged" "I", .fieldLink RX2 51 "HouseLog" "collectedBytes" "I", .fieldLink RX2 96 "HouseLog" "mended" "I", .fieldLink RX2 156 "HouseLog" "writes" "I", .methodLink RX2 72 yX2_roomFor, .instanceMethod yX2_roomFor, .selects RX2 yX2_roomFor yX2_roomFor, .initialized RX2, .code yX2_roomFor cX2_roomFor 3 (some .int), .methodLink RX2 15 Lib.Math.max.name, .static Lib.Math.max.name, .initialized "java/lang/Math", .code Lib.Math.max.name Lib.Math.max.code 2 (some .int)] ++ wsX20)
def wsX3_init : List Cond := .code yX3_init cX3_init 2 none :: ([.methodLink RX3 1 objectInit, .instanceMethod objectInit, .code objectInit ⟨#[0xb1]⟩ 1 none, .arrayClass .int, .fieldLink RX3 7 "HouseLogModel" "disk" "[I", .fieldLink RX3 13 "HouseLogModel" "kinds" "[I", .fieldLink RX3 16 "HouseLogModel" "lengths" "[I", .fieldLink RX3 19 "HouseLogModel" "bytes" "[I", .fieldLink RX3 22 "HouseLogModel" "collects" "[I", .fieldLink RX3 25 "HouseLogModel" "keep" "I", .fieldLink RX3 29 "HouseLogModel" "laid" "[I", .fieldLink RX3 32 "HouseLogModel" "sectors" "I"] ++ wsX30)
def wsX3_thrown : List Cond := .code yX3_thrown cX3_thrown 1 (some .int) :: ([.fieldLink RX3 35 "HouseLogModel" "thrown" "I"] ++ wsX30)
def wsX3_fails : List Cond := .code yX3_fails cX3_fails 4 (some .boolean) :: ([.fieldLink RX3 35 "HouseLogModel" "thrown" "I"] ++ wsX30)
def wsX3_in : List Cond := .code yX3_in cX3_in 3 (some .boolean) :: ([])
def wsX3_begin : List Cond := .code yX3_begin cX3_begin 1 none :: ([.constant RX3 38 (-1756908916), .fieldLink RX3 39 "HouseLogModel" "sum" "I"] ++ wsX30)
def wsX3_goOn : List Cond := .code yX3_goOn cX3_goOn 3 none :: ([.fieldLink RX3 39 "HouseLogModel" "sum" "I", .constant RX3 42 (-2048144789)] ++ wsX30)
def wsX3_lay : List Cond := .code yX3_lay cX3_lay 4 none :: ([.fieldLink RX3 29 "HouseLogModel" "laid" "[I", .fieldLink RX3 13 "HouseLogModel" "kinds" "[I", .fieldLink RX3 16 "HouseLogModel" "lengths" "[I", .fieldLink RX3 19 "HouseLogModel" "bytes" "[I", .fieldLink RX3 39 "HouseLogModel" "sum" "I", .methodLink RX3 43 yX3_begin, .instanceMethod yX3_begin, .selects RX3 yX3_begin yX3_begin, .initialized RX3, .code yX3_begin cX3_begin 1 none, .constant RX3 38 (-1756908916), .methodLink RX3 46 yX3_goOn, .instanceMethod yX3_goOn, .selects RX3 yX3_goOn yX3_goOn, .code yX3_goOn cX3_goOn 3 none, .constant RX3 42 (-2048144789)] ++ wsX30)
def wsX3_from : List Cond := .code yX3_from cX3_from 3 (some .int) :: ([])
def wsX3_four : List Cond := .code yX3_four cX3_four 2 (some .int) :: ([.fieldLink RX3 7 "HouseLogModel" "disk" "[I"] ++ wsX30)
def wsX3_isRight : List Cond := .code yX3_isRight cX3_isRight 6 (some .boolean) :: ([.fieldLink RX3 7 "HouseLogModel" "disk" "[I", .fieldLink RX3 39 "HouseLogModel" "sum" "I", .methodLink RX3 50 yX3_from, .instanceMethod yX3_from, .selects RX3 yX3_from yX3_from, .initialized RX3, .code yX3_from cX3_from 3 (some .int), .methodLink RX3 54 yX3_four, .instanceMethod yX3_four, .selects RX3 yX3_four yX3_four, .code yX3_four cX3_four 2 (some .int), .methodLink RX3 58 yX3_in, .static yX3_in, .code yX3_in cX3_in 3 (some .boolean), .methodLink RX3 43 yX3_begin, .instanceMethod yX3_begin, .selects RX3 yX3_begin yX3_begin, .code yX3_begin cX3_begin 1 none, .constant RX3 38 (-1756908916), .methodLink RX3 46 yX3_goOn, .instanceMethod yX3_goOn, .selects RX3 yX3_goOn yX3_goOn, .code yX3_goOn cX3_goOn 3 none, .constant RX3 42 (-2048144789)] ++ wsX30)
def wsX3_add : List Cond := .code yX3_add cX3_add 2 (some .boolean) :: ([.fieldLink RX3 35 "HouseLogModel" "thrown" "I", .fieldLink RX3 62 "HouseLogModel" "down" "Z", .fieldLink RX3 66 "HouseLogModel" "collected" "I", .fieldLink RX3 22 "HouseLogModel" "collects" "[I"] ++ wsX30)
def wsX3_end : List Cond := .code yX3_end cX3_end 4 (some .int) :: ([.fieldLink RX3 62 "HouseLogModel" "down" "Z", .fieldLink RX3 73 "HouseLogModel" "rows" "I", .fieldLink RX3 32 "HouseLogModel" "sectors" "I", .fieldLink RX3 13 "HouseLogModel" "kinds" "[I", .fieldLink RX3 16 "HouseLogModel" "lengths" "[I", .fieldLink RX3 66 "HouseLogModel" "collected" "I", .fieldLink RX3 19 "HouseLogModel" "bytes" "[I", .fieldLink RX3 22 "HouseLogModel" "collects" "[I", .methodLink RX3 58 yX3_in, .static yX3_in, .initialized RX3, .code yX3_in cX3_in 3 (some .boolean), .methodLink RX3 69 yX3_fails, .instanceMethod yX3_fails, .selects RX3 yX3_fails yX3_fails, .code yX3_fails cX3_fails 4 (some .boolean), .fieldLink RX3 35 "HouseLogModel" "thrown" "I"] ++ wsX30)
def wsX3_write : List Cond := .code yX3_write cX3_write 6 (some .boolean) :: ([.fieldLink RX3 25 "HouseLogModel" "keep" "I", .fieldLink RX3 76 "HouseLogModel" "tear" "I", .fieldLink RX3 7 "HouseLogModel" "disk" "[I", .fieldLink RX3 29 "HouseLogModel" "laid" "[I", .fieldLink RX3 79 "HouseLogModel" "writes" "I", .methodLink RX3 50 yX3_from, .instanceMethod yX3_from, .selects RX3 yX3_from yX3_from, .initialized RX3, .code yX3_from cX3_from 3 (some .int)] ++ wsX30)
def wsX3_goDown : List Cond := .code yX3_goDown cX3_goDown 1 none :: ([.fieldLink RX3 62 "HouseLogModel" "down" "Z", .fieldLink RX3 73 "HouseLogModel" "rows" "I", .fieldLink RX3 66 "HouseLogModel" "collected" "I", .fieldLink RX3 25 "HouseLogModel" "keep" "I"] ++ wsX30)
def wsX3_sync_r1 : List Cond := [Cond.fieldLink RX3 62 "HouseLogModel" "down" "Z", Cond.fieldLink RX3 82 "HouseLogModel" "acknowledged" "I", Cond.fieldLink RX3 73 "HouseLogModel" "rows" "I", Cond.methodLink RX3 69 yX3_fails, Cond.instanceMethod yX3_fails, Cond.selects RX3 yX3_fails yX3_fails, Cond.initialized RX3, Cond.code yX3_fails cX3_fails 4 (some .boolean), Cond.fieldLink RX3 35 "HouseLogModel" "thrown" "I", Cond.methodLink RX3 85 yX3_lay, Cond.instanceMethod yX3_lay, Cond.selects RX3 yX3_lay yX3_lay, Cond.code yX3_lay cX3_lay 4 none, Cond.fieldLink RX3 29 "HouseLogModel" "laid" "[I", Cond.fieldLink RX3 13 "HouseLogModel" "kinds" "[I", Cond.fieldLink RX3 16 "HouseLogModel" "lengths" "[I", Cond.fieldLink RX3 19 "HouseLogModel" "bytes" "[I", Cond.fieldLink RX3 39 "HouseLogModel" "sum" "I", Cond.methodLink RX3 43 yX3_begin, Cond.instanceMethod yX3_begin, Cond.selects RX3 yX3_begin yX3_begin, Cond.code yX3_begin cX3_begin 1 none, Cond.constant RX3 38 (-1756908916), Cond.methodLink RX3 46 yX3_goOn]
def wsX3_sync_r2 : List Cond := [Cond.instanceMethod yX3_goOn, Cond.selects RX3 yX3_goOn yX3_goOn, Cond.code yX3_goOn cX3_goOn 3 none, Cond.constant RX3 42 (-2048144789), Cond.methodLink RX3 88 yX3_write, Cond.instanceMethod yX3_write, Cond.selects RX3 yX3_write yX3_write, Cond.code yX3_write cX3_write 6 (some .boolean), Cond.fieldLink RX3 25 "HouseLogModel" "keep" "I", Cond.fieldLink RX3 76 "HouseLogModel" "tear" "I", Cond.fieldLink RX3 7 "HouseLogModel" "disk" "[I", Cond.fieldLink RX3 79 "HouseLogModel" "writes" "I", Cond.methodLink RX3 50 yX3_from, Cond.instanceMethod yX3_from, Cond.selects RX3 yX3_from yX3_from, Cond.code yX3_from cX3_from 3 (some .int), Cond.methodLink RX3 92 yX3_goDown, Cond.instanceMethod yX3_goDown, Cond.selects RX3 yX3_goDown yX3_goDown, Cond.code yX3_goDown cX3_goDown 1 none, Cond.fieldLink RX3 66 "HouseLogModel" "collected" "I"]
def wsX3_sync : List Cond := .code yX3_sync cX3_sync 3 (some .int) :: ((wsX3_sync_r1 ++ wsX3_sync_r2) ++ wsX30)
def wsX3_cut : List Cond := .code yX3_cut cX3_cut 3 (some .boolean) :: ([.fieldLink RX3 35 "HouseLogModel" "thrown" "I", .fieldLink RX3 62 "HouseLogModel" "down" "Z", .fieldLink RX3 25 "HouseLogModel" "keep" "I", .fieldLink RX3 76 "HouseLogModel" "tear" "I", .methodLink RX3 58 yX3_in, .static yX3_in, .initialized RX3, .code yX3_in cX3_in 3 (some .boolean)] ++ wsX30)
def wsX3_find : List Cond := .code yX3_find cX3_find 5 none :: ([.fieldLink RX3 13 "HouseLogModel" "kinds" "[I", .fieldLink RX3 7 "HouseLogModel" "disk" "[I", .fieldLink RX3 16 "HouseLogModel" "lengths" "[I", .fieldLink RX3 19 "HouseLogModel" "bytes" "[I", .methodLink RX3 50 yX3_from, .instanceMethod yX3_from, .selects RX3 yX3_from yX3_from, .initialized RX3, .code yX3_from cX3_from 3 (some .int)] ++ wsX30)
def wsX3_mend : List Cond := .code yX3_mend cX3_mend 4 none :: ([.fieldLink RX3 7 "HouseLogModel" "disk" "[I", .fieldLink RX3 95 "HouseLogModel" "mended" "I", .methodLink RX3 50 yX3_from, .instanceMethod yX3_from, .selects RX3 yX3_from yX3_from, .initialized RX3, .code yX3_from cX3_from 3 (some .int)] ++ wsX30)
def wsX3_start_r1 : List Cond := [Cond.fieldLink RX3 35 "HouseLogModel" "thrown" "I", Cond.fieldLink RX3 62 "HouseLogModel" "down" "Z", Cond.fieldLink RX3 73 "HouseLogModel" "rows" "I", Cond.fieldLink RX3 95 "HouseLogModel" "mended" "I", Cond.fieldLink RX3 32 "HouseLogModel" "sectors" "I", Cond.fieldLink RX3 82 "HouseLogModel" "acknowledged" "I", Cond.methodLink RX3 98 yX3_isRight, Cond.instanceMethod yX3_isRight, Cond.selects RX3 yX3_isRight yX3_isRight, Cond.initialized RX3, Cond.code yX3_isRight cX3_isRight 6 (some .boolean), Cond.fieldLink RX3 7 "HouseLogModel" "disk" "[I", Cond.fieldLink RX3 39 "HouseLogModel" "sum" "I", Cond.methodLink RX3 50 yX3_from, Cond.instanceMethod yX3_from, Cond.selects RX3 yX3_from yX3_from, Cond.code yX3_from cX3_from 3 (some .int), Cond.methodLink RX3 54 yX3_four, Cond.instanceMethod yX3_four, Cond.selects RX3 yX3_four yX3_four, Cond.code yX3_four cX3_four 2 (some .int), Cond.methodLink RX3 58 yX3_in, Cond.static yX3_in, Cond.code yX3_in cX3_in 3 (some .boolean)]
def wsX3_start_r2 : List Cond := [Cond.methodLink RX3 43 yX3_begin, Cond.instanceMethod yX3_begin, Cond.selects RX3 yX3_begin yX3_begin, Cond.code yX3_begin cX3_begin 1 none, Cond.constant RX3 38 (-1756908916), Cond.methodLink RX3 46 yX3_goOn, Cond.instanceMethod yX3_goOn, Cond.selects RX3 yX3_goOn yX3_goOn, Cond.code yX3_goOn cX3_goOn 3 none, Cond.constant RX3 42 (-2048144789), Cond.methodLink RX3 101 yX3_find, Cond.instanceMethod yX3_find, Cond.selects RX3 yX3_find yX3_find, Cond.code yX3_find cX3_find 5 none, Cond.fieldLink RX3 13 "HouseLogModel" "kinds" "[I", Cond.fieldLink RX3 16 "HouseLogModel" "lengths" "[I", Cond.fieldLink RX3 19 "HouseLogModel" "bytes" "[I", Cond.methodLink RX3 105 yX3_mend, Cond.instanceMethod yX3_mend, Cond.selects RX3 yX3_mend yX3_mend, Cond.code yX3_mend cX3_mend 4 none]
def wsX3_start : List Cond := .code yX3_start cX3_start 5 (some .int) :: ((wsX3_start_r1 ++ wsX3_start_r2) ++ wsX30)
def wsX3_poke : List Cond := .code yX3_poke cX3_poke 4 (some .boolean) :: ([.fieldLink RX3 35 "HouseLogModel" "thrown" "I", .fieldLink RX3 32 "HouseLogModel" "sectors" "I", .fieldLink RX3 7 "HouseLogModel" "disk" "[I", .methodLink RX3 58 yX3_in, .static yX3_in, .initialized RX3, .code yX3_in cX3_in 3 (some .boolean)] ++ wsX30)
def wsX3_disk : List Cond := .code yX3_disk cX3_disk 3 (some .int) :: ([.fieldLink RX3 32 "HouseLogModel" "sectors" "I", .fieldLink RX3 7 "HouseLogModel" "disk" "[I", .methodLink RX3 58 yX3_in, .static yX3_in, .initialized RX3, .code yX3_in cX3_in 3 (some .boolean), .methodLink RX3 69 yX3_fails, .instanceMethod yX3_fails, .selects RX3 yX3_fails yX3_fails, .code yX3_fails cX3_fails 4 (some .boolean), .fieldLink RX3 35 "HouseLogModel" "thrown" "I"] ++ wsX30)
def wsX3_isRow : List Cond := .code yX3_isRow cX3_isRow 2 (some .boolean) :: ([.fieldLink RX3 73 "HouseLogModel" "rows" "I", .methodLink RX3 58 yX3_in, .static yX3_in, .initialized RX3, .code yX3_in cX3_in 3 (some .boolean)] ++ wsX30)
def wsX3_at : List Cond := .code yX3_at cX3_at 4 (some .int) :: ([.fieldLink RX3 62 "HouseLogModel" "down" "Z", .fieldLink RX3 16 "HouseLogModel" "lengths" "[I", .fieldLink RX3 19 "HouseLogModel" "bytes" "[I", .methodLink RX3 108 yX3_isRow, .instanceMethod yX3_isRow, .selects RX3 yX3_isRow yX3_isRow, .initialized RX3, .code yX3_isRow cX3_isRow 2 (some .boolean), .fieldLink RX3 73 "HouseLogModel" "rows" "I", .methodLink RX3 58 yX3_in, .static yX3_in, .code yX3_in cX3_in 3 (some .boolean), .methodLink RX3 69 yX3_fails, .instanceMethod yX3_fails, .selects RX3 yX3_fails yX3_fails, .code yX3_fails cX3_fails 4 (some .boolean), .fieldLink RX3 35 "HouseLogModel" "thrown" "I"] ++ wsX30)
def wsX3_verify_r1 : List Cond := [Cond.fieldLink RX3 62 "HouseLogModel" "down" "Z", Cond.fieldLink RX3 82 "HouseLogModel" "acknowledged" "I", Cond.methodLink RX3 69 yX3_fails, Cond.instanceMethod yX3_fails, Cond.selects RX3 yX3_fails yX3_fails, Cond.initialized RX3, Cond.code yX3_fails cX3_fails 4 (some .boolean), Cond.fieldLink RX3 35 "HouseLogModel" "thrown" "I", Cond.methodLink RX3 98 yX3_isRight, Cond.instanceMethod yX3_isRight, Cond.selects RX3 yX3_isRight yX3_isRight, Cond.code yX3_isRight cX3_isRight 6 (some .boolean), Cond.fieldLink RX3 7 "HouseLogModel" "disk" "[I", Cond.fieldLink RX3 39 "HouseLogModel" "sum" "I", Cond.methodLink RX3 50 yX3_from, Cond.instanceMethod yX3_from, Cond.selects RX3 yX3_from yX3_from, Cond.code yX3_from cX3_from 3 (some .int), Cond.methodLink RX3 54 yX3_four, Cond.instanceMethod yX3_four, Cond.selects RX3 yX3_four yX3_four, Cond.code yX3_four cX3_four 2 (some .int), Cond.methodLink RX3 58 yX3_in, Cond.static yX3_in]
def wsX3_verify_r2 : List Cond := [Cond.code yX3_in cX3_in 3 (some .boolean), Cond.methodLink RX3 43 yX3_begin, Cond.instanceMethod yX3_begin, Cond.selects RX3 yX3_begin yX3_begin, Cond.code yX3_begin cX3_begin 1 none, Cond.constant RX3 38 (-1756908916), Cond.methodLink RX3 46 yX3_goOn, Cond.instanceMethod yX3_goOn, Cond.selects RX3 yX3_goOn yX3_goOn, Cond.code yX3_goOn cX3_goOn 3 none, Cond.constant RX3 42 (-2048144789)]
def wsX3_verify : List Cond := .code yX3_verify cX3_verify 3 (some .int) :: ((wsX3_verify_r1 ++ wsX3_verify_r2) ++ wsX30)
def wsX3_extract_r1 : List Cond := [Cond.fieldLink RX3 62 "HouseLogModel" "down" "Z", Cond.fieldLink RX3 13 "HouseLogModel" "kinds" "[I", Cond.fieldLink RX3 16 "HouseLogModel" "lengths" "[I", Cond.fieldLink RX3 19 "HouseLogModel" "bytes" "[I", Cond.fieldLink RX3 39 "HouseLogModel" "sum" "I", Cond.methodLink RX3 108 yX3_isRow, Cond.instanceMethod yX3_isRow, Cond.selects RX3 yX3_isRow yX3_isRow, Cond.initialized RX3, Cond.code yX3_isRow cX3_isRow 2 (some .boolean), Cond.fieldLink RX3 73 "HouseLogModel" "rows" "I", Cond.methodLink RX3 58 yX3_in, Cond.static yX3_in, Cond.code yX3_in cX3_in 3 (some .boolean), Cond.methodLink RX3 69 yX3_fails, Cond.instanceMethod yX3_fails, Cond.selects RX3 yX3_fails yX3_fails, Cond.code yX3_fails cX3_fails 4 (some .boolean), Cond.fieldLink RX3 35 "HouseLogModel" "thrown" "I", Cond.methodLink RX3 43 yX3_begin, Cond.instanceMethod yX3_begin, Cond.selects RX3 yX3_begin yX3_begin, Cond.code yX3_begin cX3_begin 1 none, Cond.constant RX3 38 (-1756908916)]
def wsX3_extract_r2 : List Cond := [Cond.methodLink RX3 46 yX3_goOn, Cond.instanceMethod yX3_goOn, Cond.selects RX3 yX3_goOn yX3_goOn, Cond.code yX3_goOn cX3_goOn 3 none, Cond.constant RX3 42 (-2048144789)]
def wsX3_extract : List Cond := .code yX3_extract cX3_extract 5 (some .int) :: ((wsX3_extract_r1 ++ wsX3_extract_r2) ++ wsX30)
def wsX3_look : List Cond := .code yX3_look cX3_look 3 (some .int) :: ([.fieldLink RX3 62 "HouseLogModel" "down" "Z", .fieldLink RX3 13 "HouseLogModel" "kinds" "[I", .fieldLink RX3 16 "HouseLogModel" "lengths" "[I", .fieldLink RX3 82 "HouseLogModel" "acknowledged" "I", .methodLink RX3 108 yX3_isRow, .instanceMethod yX3_isRow, .selects RX3 yX3_isRow yX3_isRow, .initialized RX3, .code yX3_isRow cX3_isRow 2 (some .boolean), .fieldLink RX3 73 "HouseLogModel" "rows" "I", .methodLink RX3 58 yX3_in, .static yX3_in, .code yX3_in cX3_in 3 (some .boolean), .methodLink RX3 69 yX3_fails, .instanceMethod yX3_fails, .selects RX3 yX3_fails yX3_fails, .code yX3_fails cX3_fails 4 (some .boolean), .fieldLink RX3 35 "HouseLogModel" "thrown" "I"] ++ wsX30)
def wsX3_count : List Cond := .code yX3_count cX3_count 2 (some .int) :: ([.fieldLink RX3 35 "HouseLogModel" "thrown" "I", .fieldLink RX3 32 "HouseLogModel" "sectors" "I", .fieldLink RX3 62 "HouseLogModel" "down" "Z", .fieldLink RX3 73 "HouseLogModel" "rows" "I", .fieldLink RX3 82 "HouseLogModel" "acknowledged" "I", .fieldLink RX3 66 "HouseLogModel" "collected" "I", .fieldLink RX3 95 "HouseLogModel" "mended" "I", .fieldLink RX3 79 "HouseLogModel" "writes" "I"] ++ wsX30)
def wsJx00060_init_a7421 : List Cond := .code yJx00060_init_a7421 cJx00060_init_a7421 2 none :: ([])
def wsJ9_max_7cf53 : List Cond := .code yJ9_max_7cf53 cJ9_max_7cf53 2 (some .int) :: ([])
def wsJ9_min_7cf53 : List Cond := .code yJ9_min_7cf53 cJ9_min_7cf53 2 (some .int) :: ([])
theorem dX0_init_0 : decode cX0_init 0 = .ok (.aload_n 0, 1) := by decide +kernel
theorem dX0_init_1 : decode cX0_init 1 = .ok (.invokespecial 3, 3) := by decide +kernel
theorem dX0_init_4 : decode cX0_init 4 = .ok (.aload_n 0, 1) := by decide +kernel
theorem dX0_init_5 : decode cX0_init 5 = .ok (.iconst 0, 1) := by decide +kernel
theorem dX0_init_6 : decode cX0_init 6 = .ok (.iload_n 1, 1) := by decide +kernel
theorem dX0_init_7 : decode cX0_init 7 = .ok (.invokestatic 9, 3) := by decide +kernel
theorem dX0_init_10 : decode cX0_init 10 = .ok (.newarray .byte, 2) := by decide +kernel
theorem dX0_init_12 : decode cX0_init 12 = .ok (.putfield 15, 3) := by decide +kernel
theorem dX0_init_15 : decode cX0_init 15 = .ok (.return_, 1) := by decide +kernel
theorem dX0_get_0 : decode cX0_get 0 = .ok (.iload_n 1, 1) := by decide +kernel
theorem dX0_get_1 : decode cX0_get 1 = .ok (.ifCond .lt 25, 3) := by decide +kernel
theorem dX0_get_4 : decode cX0_get 4 = .ok (.iload_n 1, 1) := by decide +kernel
theorem dX0_get_5 : decode cX0_get 5 = .ok (.aload_n 0, 1) := by decide +kernel
theorem dX0_get_6 : decode cX0_get 6 = .ok (.getfield 15, 3) := by decide +kernel
theorem dX0_get_9 : decode cX0_get 9 = .ok (.arraylength, 1) := by decide +kernel
theorem dX0_get_10 : decode cX0_get 10 = .ok (.if_icmp .ge 16, 3) := by decide +kernel
theorem dX0_get_13 : decode cX0_get 13 = .ok (.aload_n 0, 1) := by decide +kernel
theorem dX0_get_14 : decode cX0_get 14 = .ok (.getfield 15, 3) := by decide +kernel
theorem dX0_get_17 : decode cX0_get 17 = .ok (.iload_n 1, 1) := by decide +kernel
theorem dX0_get_18 : decode cX0_get 18 = .ok (.baload, 1) := by decide +kernel
theorem dX0_get_19 : decode cX0_get 19 = .ok (.sipush 255, 3) := by decide +kernel
theorem dX0_get_22 : decode cX0_get 22 = .ok (.iand, 1) := by decide +kernel
theorem dX0_get_23 : decode cX0_get 23 = .ok (.goto 4, 3) := by decide +kernel
theorem dX0_get_26 : decode cX0_get 26 = .ok (.iconst 0, 1) := by decide +kernel
theorem dX0_get_27 : decode cX0_get 27 = .ok (.ireturn, 1) := by decide +kernel
theorem dX0_set_0 : decode cX0_set 0 = .ok (.iload_n 1, 1) := by decide +kernel
theorem dX0_set_1 : decode cX0_set 1 = .ok (.ifCond .lt 20, 3) := by decide +kernel
theorem dX0_set_4 : decode cX0_set 4 = .ok (.iload_n 1, 1) := by decide +kernel
theorem dX0_set_5 : decode cX0_set 5 = .ok (.aload_n 0, 1) := by decide +kernel
theorem dX0_set_6 : decode cX0_set 6 = .ok (.getfield 15, 3) := by decide +kernel
theorem dX0_set_9 : decode cX0_set 9 = .ok (.arraylength, 1) := by decide +kernel
theorem dX0_set_10 : decode cX0_set 10 = .ok (.if_icmp .ge 11, 3) := by decide +kernel
theorem dX0_set_13 : decode cX0_set 13 = .ok (.aload_n 0, 1) := by decide +kernel
theorem dX0_set_14 : decode cX0_set 14 = .ok (.getfield 15, 3) := by decide +kernel
theorem dX0_set_17 : decode cX0_set 17 = .ok (.iload_n 1, 1) := by decide +kernel
theorem dX0_set_18 : decode cX0_set 18 = .ok (.iload_n 2, 1) := by decide +kernel
theorem dX0_set_19 : decode cX0_set 19 = .ok (.i2b, 1) := by decide +kernel
theorem dX0_set_20 : decode cX0_set 20 = .ok (.bastore, 1) := by decide +kernel
theorem dX0_set_21 : decode cX0_set 21 = .ok (.return_, 1) := by decide +kernel
set_option maxRecDepth 20000 in
theorem ggX0_word_X0_get : GoodIn wsX0_word wsX0_get := goodIn_r _ [5, 6, 7] (by decide +kernel) (by decide +kernel)
set_option maxRecDepth 20000 in
theorem gX0_word_X0_get : GoodIn wsX0_word (wsV RX0 21 RX0 yX0_get wsX0_get) := goodIn_app (goodIn_of _ (by decide +kernel)) ggX0_word_X0_get
theorem dX0_word_0 : decode cX0_word 0 = .ok (.aload_n 0, 1) := by decide +kernel
theorem dX0_word_1 : decode cX0_word 1 = .ok (.iload_n 1, 1) := by decide +kernel
theorem dX0_word_2 : decode cX0_word 2 = .ok (.invokevirtual 21, 3) := by decide +kernel
theorem dX0_word_5 : decode cX0_word 5 = .ok (.bipush 24, 2) := by decide +kernel
theorem dX0_word_7 : decode cX0_word 7 = .ok (.ishl, 1) := by decide +kernel
theorem dX0_word_8 : decode cX0_word 8 = .ok (.aload_n 0, 1) := by decide +kernel
theorem dX0_word_9 : decode cX0_word 9 = .ok (.iload_n 1, 1) := by decide +kernel
theorem dX0_word_10 : decode cX0_word 10 = .ok (.iconst 1, 1) := by decide +kernel
theorem dX0_word_11 : decode cX0_word 11 = .ok (.iadd, 1) := by decide +kernel
theorem dX0_word_12 : decode cX0_word 12 = .ok (.invokevirtual 21, 3) := by decide +kernel
theorem dX0_word_15 : decode cX0_word 15 = .ok (.bipush 16, 2) := by decide +kernel
theorem dX0_word_17 : decode cX0_word 17 = .ok (.ishl, 1) := by decide +kernel
theorem dX0_word_18 : decode cX0_word 18 = .ok (.ior, 1) := by decide +kernel
theorem dX0_word_19 : decode cX0_word 19 = .ok (.aload_n 0, 1) := by decide +kernel
theorem dX0_word_20 : decode cX0_word 20 = .ok (.iload_n 1, 1) := by decide +kernel
theorem dX0_word_21 : decode cX0_word 21 = .ok (.iconst 2, 1) := by decide +kernel
theorem dX0_word_22 : decode cX0_word 22 = .ok (.iadd, 1) := by decide +kernel
theorem dX0_word_23 : decode cX0_word 23 = .ok (.invokevirtual 21, 3) := by decide +kernel
theorem dX0_word_26 : decode cX0_word 26 = .ok (.bipush 8, 2) := by decide +kernel
theorem dX0_word_28 : decode cX0_word 28 = .ok (.ishl, 1) := by decide +kernel
theorem dX0_word_29 : decode cX0_word 29 = .ok (.ior, 1) := by decide +kernel
theorem dX0_word_30 : decode cX0_word 30 = .ok (.aload_n 0, 1) := by decide +kernel
theorem dX0_word_31 : decode cX0_word 31 = .ok (.iload_n 1, 1) := by decide +kernel
theorem dX0_word_32 : decode cX0_word 32 = .ok (.iconst 3, 1) := by decide +kernel
theorem dX0_word_33 : decode cX0_word 33 = .ok (.iadd, 1) := by decide +kernel
theorem dX0_word_34 : decode cX0_word 34 = .ok (.invokevirtual 21, 3) := by decide +kernel
theorem dX0_word_37 : decode cX0_word 37 = .ok (.ior, 1) := by decide +kernel
theorem dX0_word_38 : decode cX0_word 38 = .ok (.ireturn, 1) := by decide +kernel
set_option maxRecDepth 20000 in
theorem ggX0_setWord_X0_set : GoodIn wsX0_setWord wsX0_set := goodIn_r _ [5, 6, 7] (by decide +kernel) (by decide +kernel)
set_option maxRecDepth 20000 in
theorem gX0_setWord_X0_set : GoodIn wsX0_setWord (wsV RX0 25 RX0 yX0_set wsX0_set) := goodIn_app (goodIn_of _ (by decide +kernel)) ggX0_setWord_X0_set
theorem dX0_setWord_0 : decode cX0_setWord 0 = .ok (.aload_n 0, 1) := by decide +kernel
theorem dX0_setWord_1 : decode cX0_setWord 1 = .ok (.iload_n 1, 1) := by decide +kernel
theorem dX0_setWord_2 : decode cX0_setWord 2 = .ok (.iload_n 2, 1) := by decide +kernel
theorem dX0_setWord_3 : decode cX0_setWord 3 = .ok (.bipush 24, 2) := by decide +kernel
theorem dX0_setWord_5 : decode cX0_setWord 5 = .ok (.iushr, 1) := by decide +kernel
theorem dX0_setWord_6 : decode cX0_setWord 6 = .ok (.invokevirtual 25, 3) := by decide +kernel
theorem dX0_setWord_9 : decode cX0_setWord 9 = .ok (.aload_n 0, 1) := by decide +kernel
theorem dX0_setWord_10 : decode cX0_setWord 10 = .ok (.iload_n 1, 1) := by decide +kernel
theorem dX0_setWord_11 : decode cX0_setWord 11 = .ok (.iconst 1, 1) := by decide +kernel
theorem dX0_setWord_12 : decode cX0_setWord 12 = .ok (.iadd, 1) := by decide +kernel
theorem dX0_setWord_13 : decode cX0_setWord 13 = .ok (.iload_n 2, 1) := by decide +kernel
theorem dX0_setWord_14 : decode cX0_setWord 14 = .ok (.bipush 16, 2) := by decide +kernel
theorem dX0_setWord_16 : decode cX0_setWord 16 = .ok (.iushr, 1) := by decide +kernel
theorem dX0_setWord_17 : decode cX0_setWord 17 = .ok (.invokevirtual 25, 3) := by decide +kernel
theorem dX0_setWord_20 : decode cX0_setWord 20 = .ok (.aload_n 0, 1) := by decide +kernel
theorem dX0_setWord_21 : decode cX0_setWord 21 = .ok (.iload_n 1, 1) := by decide +kernel
theorem dX0_setWord_22 : decode cX0_setWord 22 = .ok (.iconst 2, 1) := by decide +kernel
theorem dX0_setWord_23 : decode cX0_setWord 23 = .ok (.iadd, 1) := by decide +kernel
theorem dX0_setWord_24 : decode cX0_setWord 24 = .ok (.iload_n 2, 1) := by decide +kernel
theorem dX0_setWord_25 : decode cX0_setWord 25 = .ok (.bipush 8, 2) := by decide +kernel
theorem dX0_setWord_27 : decode cX0_setWord 27 = .ok (.iushr, 1) := by decide +kernel
theorem dX0_setWord_28 : decode cX0_setWord 28 = .ok (.invokevirtual 25, 3) := by decide +kernel
theorem dX0_setWord_31 : decode cX0_setWord 31 = .ok (.aload_n 0, 1) := by decide +kernel
theorem dX0_setWord_32 : decode cX0_setWord 32 = .ok (.iload_n 1, 1) := by decide +kernel
theorem dX0_setWord_33 : decode cX0_setWord 33 = .ok (.iconst 3, 1) := by decide +kernel
theorem dX0_setWord_34 : decode cX0_setWord 34 = .ok (.iadd, 1) := by decide +kernel
theorem dX0_setWord_35 : decode cX0_setWord 35 = .ok (.iload_n 2, 1) := by decide +kernel
theorem dX0_setWord_36 : decode cX0_setWord 36 = .ok (.invokevirtual 25, 3) := by decide +kernel
theorem dX0_setWord_39 : decode cX0_setWord 39 = .ok (.return_, 1) := by decide +kernel
set_option maxRecDepth 20000 in
theorem ggX0_sumOn_X0_get : GoodIn wsX0_sumOn wsX0_get := goodIn_r _ [6, 7, 8] (by decide +kernel) (by decide +kernel)
set_option maxRecDepth 20000 in
theorem gX0_sumOn_X0_get : GoodIn wsX0_sumOn (wsV RX0 21 RX0 yX0_get wsX0_get) := goodIn_app (goodIn_of _ (by decide +kernel)) ggX0_sumOn_X0_get
theorem dX0_sumOn_0 : decode cX0_sumOn 0 = .ok (.iload_n 1, 1) := by decide +kernel
theorem dX0_sumOn_1 : decode cX0_sumOn 1 = .ok (.istore 4, 2) := by decide +kernel
theorem dX0_sumOn_3 : decode cX0_sumOn 3 = .ok (.iload_n 2, 1) := by decide +kernel
theorem dX0_sumOn_4 : decode cX0_sumOn 4 = .ok (.istore 5, 2) := by decide +kernel
theorem dX0_sumOn_6 : decode cX0_sumOn 6 = .ok (.iload 5, 2) := by decide +kernel
theorem dX0_sumOn_8 : decode cX0_sumOn 8 = .ok (.iload_n 3, 1) := by decide +kernel
theorem dX0_sumOn_9 : decode cX0_sumOn 9 = .ok (.if_icmp .ge 36, 3) := by decide +kernel
theorem dX0_sumOn_12 : decode cX0_sumOn 12 = .ok (.iload 4, 2) := by decide +kernel
theorem dX0_sumOn_14 : decode cX0_sumOn 14 = .ok (.aload_n 0, 1) := by decide +kernel
theorem dX0_sumOn_15 : decode cX0_sumOn 15 = .ok (.iload 5, 2) := by decide +kernel
theorem dX0_sumOn_17 : decode cX0_sumOn 17 = .ok (.invokevirtual 21, 3) := by decide +kernel
theorem dX0_sumOn_20 : decode cX0_sumOn 20 = .ok (.ixor, 1) := by decide +kernel
theorem dX0_sumOn_21 : decode cX0_sumOn 21 = .ok (.istore 6, 2) := by decide +kernel
theorem dX0_sumOn_23 : decode cX0_sumOn 23 = .ok (.iload 6, 2) := by decide +kernel
theorem dX0_sumOn_25 : decode cX0_sumOn 25 = .ok (.bipush 9, 2) := by decide +kernel
theorem dX0_sumOn_27 : decode cX0_sumOn 27 = .ok (.ishl, 1) := by decide +kernel
theorem dX0_sumOn_28 : decode cX0_sumOn 28 = .ok (.iload 6, 2) := by decide +kernel
theorem dX0_sumOn_30 : decode cX0_sumOn 30 = .ok (.bipush 23, 2) := by decide +kernel
theorem dX0_sumOn_32 : decode cX0_sumOn 32 = .ok (.iushr, 1) := by decide +kernel
theorem dX0_sumOn_33 : decode cX0_sumOn 33 = .ok (.ior, 1) := by decide +kernel
theorem dX0_sumOn_34 : decode cX0_sumOn 34 = .ok (.ldc 29, 2) := by decide +kernel
theorem dX0_sumOn_36 : decode cX0_sumOn 36 = .ok (.imul, 1) := by decide +kernel
theorem dX0_sumOn_37 : decode cX0_sumOn 37 = .ok (.istore 4, 2) := by decide +kernel
theorem dX0_sumOn_39 : decode cX0_sumOn 39 = .ok (.iinc 5 1, 3) := by decide +kernel
theorem dX0_sumOn_42 : decode cX0_sumOn 42 = .ok (.goto (-36), 3) := by decide +kernel
theorem dX0_sumOn_45 : decode cX0_sumOn 45 = .ok (.iload 4, 2) := by decide +kernel
theorem dX0_sumOn_47 : decode cX0_sumOn 47 = .ok (.ireturn, 1) := by decide +kernel
set_option maxRecDepth 20000 in
theorem ggX1_init_X0_init : GoodIn wsX1_init wsX0_init := goodIn_r _ [10, 11, 2, 3, 12, 13, 14, 15, 16, 17, 18] (by decide +kernel) (by decide +kernel)
set_option maxRecDepth 20000 in
theorem gX1_init_X0_init : GoodIn wsX1_init (wsX0_init) := ggX1_init_X0_init
theorem dX1_init_0 : decode cX1_init 0 = .ok (.aload_n 0, 1) := by decide +kernel
theorem dX1_init_1 : decode cX1_init 1 = .ok (.invokespecial 3, 3) := by decide +kernel
theorem dX1_init_4 : decode cX1_init 4 = .ok (.aload_n 0, 1) := by decide +kernel
theorem dX1_init_5 : decode cX1_init 5 = .ok (.new 9, 3) := by decide +kernel
theorem dX1_init_8 : decode cX1_init 8 = .ok (.dup, 1) := by decide +kernel
theorem dX1_init_9 : decode cX1_init 9 = .ok (.iload_n 1, 1) := by decide +kernel
theorem dX1_init_10 : decode cX1_init 10 = .ok (.bipush 64, 2) := by decide +kernel
theorem dX1_init_12 : decode cX1_init 12 = .ok (.imul, 1) := by decide +kernel
theorem dX1_init_13 : decode cX1_init 13 = .ok (.invokespecial 11, 3) := by decide +kernel
theorem dX1_init_16 : decode cX1_init 16 = .ok (.putfield 14, 3) := by decide +kernel
theorem dX1_init_19 : decode cX1_init 19 = .ok (.return_, 1) := by decide +kernel
set_option maxRecDepth 20000 in
theorem ggX1_kind_X1_firstPlace : GoodIn wsX1_kind wsX1_firstPlace := goodIn_r _ [5] (by decide +kernel) (by decide +kernel)
set_option maxRecDepth 20000 in
theorem gX1_kind_X1_firstPlace : GoodIn wsX1_kind (va_wsS RX1 20 yX1_firstPlace wsX1_firstPlace) := goodIn_app (goodIn_of _ (by decide +kernel)) ggX1_kind_X1_firstPlace
set_option maxRecDepth 20000 in
theorem ggX1_kind_X0_get : GoodIn wsX1_kind wsX0_get := goodIn_r _ [10, 11, 13] (by decide +kernel) (by decide +kernel)
set_option maxRecDepth 20000 in
theorem gX1_kind_X0_get : GoodIn wsX1_kind (wsV RX1 24 RX0 yX0_get wsX0_get) := goodIn_app (goodIn_of _ (by decide +kernel)) ggX1_kind_X0_get
theorem dX1_kind_0 : decode cX1_kind 0 = .ok (.aload_n 0, 1) := by decide +kernel
theorem dX1_kind_1 : decode cX1_kind 1 = .ok (.getfield 14, 3) := by decide +kernel
theorem dX1_kind_4 : decode cX1_kind 4 = .ok (.iload_n 1, 1) := by decide +kernel
theorem dX1_kind_5 : decode cX1_kind 5 = .ok (.invokestatic 20, 3) := by decide +kernel
theorem dX1_kind_8 : decode cX1_kind 8 = .ok (.iconst 4, 1) := by decide +kernel
theorem dX1_kind_9 : decode cX1_kind 9 = .ok (.iadd, 1) := by decide +kernel
theorem dX1_kind_10 : decode cX1_kind 10 = .ok (.invokevirtual 24, 3) := by decide +kernel
theorem dX1_kind_13 : decode cX1_kind 13 = .ok (.ireturn, 1) := by decide +kernel
set_option maxRecDepth 20000 in
theorem ggX1_length_X1_firstPlace : GoodIn wsX1_length wsX1_firstPlace := goodIn_r _ [5] (by decide +kernel) (by decide +kernel)
set_option maxRecDepth 20000 in
theorem gX1_length_X1_firstPlace : GoodIn wsX1_length (va_wsS RX1 20 yX1_firstPlace wsX1_firstPlace) := goodIn_app (goodIn_of _ (by decide +kernel)) ggX1_length_X1_firstPlace
set_option maxRecDepth 20000 in
theorem ggX1_length_X0_get : GoodIn wsX1_length wsX0_get := goodIn_r _ [10, 11, 13] (by decide +kernel) (by decide +kernel)
set_option maxRecDepth 20000 in
theorem gX1_length_X0_get : GoodIn wsX1_length (wsV RX1 24 RX0 yX0_get wsX0_get) := goodIn_app (goodIn_of _ (by decide +kernel)) ggX1_length_X0_get
theorem dX1_length_0 : decode cX1_length 0 = .ok (.aload_n 0, 1) := by decide +kernel
theorem dX1_length_1 : decode cX1_length 1 = .ok (.getfield 14, 3) := by decide +kernel
theorem dX1_length_4 : decode cX1_length 4 = .ok (.iload_n 1, 1) := by decide +kernel
theorem dX1_length_5 : decode cX1_length 5 = .ok (.invokestatic 20, 3) := by decide +kernel
theorem dX1_length_8 : decode cX1_length 8 = .ok (.iconst 5, 1) := by decide +kernel
theorem dX1_length_9 : decode cX1_length 9 = .ok (.iadd, 1) := by decide +kernel
theorem dX1_length_10 : decode cX1_length 10 = .ok (.invokevirtual 24, 3) := by decide +kernel
theorem dX1_length_13 : decode cX1_length 13 = .ok (.ireturn, 1) := by decide +kernel
set_option maxRecDepth 20000 in
theorem ggX1_content_X1_firstPlace : GoodIn wsX1_content wsX1_firstPlace := goodIn_r _ [5] (by decide +kernel) (by decide +kernel)
set_option maxRecDepth 20000 in
theorem gX1_content_X1_firstPlace : GoodIn wsX1_content (va_wsS RX1 20 yX1_firstPlace wsX1_firstPlace) := goodIn_app (goodIn_of _ (by decide +kernel)) ggX1_content_X1_firstPlace
set_option maxRecDepth 20000 in
theorem ggX1_content_X0_get : GoodIn wsX1_content wsX0_get := goodIn_r _ [10, 11, 13] (by decide +kernel) (by decide +kernel)
set_option maxRecDepth 20000 in
theorem gX1_content_X0_get : GoodIn wsX1_content (wsV RX1 24 RX0 yX0_get wsX0_get) := goodIn_app (goodIn_of _ (by decide +kernel)) ggX1_content_X0_get
theorem dX1_content_0 : decode cX1_content 0 = .ok (.aload_n 0, 1) := by decide +kernel
theorem dX1_content_1 : decode cX1_content 1 = .ok (.getfield 14, 3) := by decide +kernel
theorem dX1_content_4 : decode cX1_content 4 = .ok (.iload_n 1, 1) := by decide +kernel
theorem dX1_content_5 : decode cX1_content 5 = .ok (.invokestatic 20, 3) := by decide +kernel
theorem dX1_content_8 : decode cX1_content 8 = .ok (.bipush 6, 2) := by decide +kernel
theorem dX1_content_10 : decode cX1_content 10 = .ok (.iadd, 1) := by decide +kernel
theorem dX1_content_11 : decode cX1_content 11 = .ok (.iload_n 2, 1) := by decide +kernel
theorem dX1_content_12 : decode cX1_content 12 = .ok (.iadd, 1) := by decide +kernel
theorem dX1_content_13 : decode cX1_content 13 = .ok (.invokevirtual 24, 3) := by decide +kernel
theorem dX1_content_16 : decode cX1_content 16 = .ok (.ireturn, 1) := by decide +kernel
set_option maxRecDepth 20000 in
theorem ggX1_isRight_X1_firstPlace : GoodIn wsX1_isRight wsX1_firstPlace := goodIn_r _ [5] (by decide +kernel) (by decide +kernel)
set_option maxRecDepth 20000 in
theorem gX1_isRight_X1_firstPlace : GoodIn wsX1_isRight (va_wsS RX1 20 yX1_firstPlace wsX1_firstPlace) := goodIn_app (goodIn_of _ (by decide +kernel)) ggX1_isRight_X1_firstPlace
set_option maxRecDepth 20000 in
theorem ggX1_isRight_X0_word : GoodIn wsX1_isRight wsX0_word := goodIn_r _ [10, 11, 12, 13, 9, 14, 15, 43] (by decide +kernel) (by decide +kernel)
set_option maxRecDepth 20000 in
theorem gX1_isRight_X0_word : GoodIn wsX1_isRight (wsV RX1 27 RX0 yX0_word wsX0_word) := goodIn_app (goodIn_of _ (by decide +kernel)) ggX1_isRight_X0_word
set_option maxRecDepth 20000 in
theorem ggX1_isRight_X1_kind : GoodIn wsX1_isRight wsX1_kind := goodIn_r _ [19, 1, 2, 3, 4, 5, 20, 12, 13, 9, 14, 15, 42, 43] (by decide +kernel) (by decide +kernel)
set_option maxRecDepth 20000 in
theorem gX1_isRight_X1_kind : GoodIn wsX1_isRight (wsV RX1 30 RX1 yX1_kind wsX1_kind) := goodIn_app (goodIn_of _ (by decide +kernel)) ggX1_isRight_X1_kind
set_option maxRecDepth 20000 in
theorem ggX1_isRight_X2_isKind : GoodIn wsX1_isRight wsX2_isKind := goodIn_r _ [23] (by decide +kernel) (by decide +kernel)
set_option maxRecDepth 20000 in
theorem gX1_isRight_X2_isKind_n33 : GoodIn wsX1_isRight (wsX2_isKind) := ggX1_isRight_X2_isKind
set_option maxRecDepth 20000 in
theorem ggX1_isRight_X1_length : GoodIn wsX1_isRight wsX1_length := goodIn_r _ [27, 1, 2, 3, 4, 5, 20, 12, 13, 9, 14, 15, 42, 43] (by decide +kernel) (by decide +kernel)
set_option maxRecDepth 20000 in
theorem gX1_isRight_X1_length : GoodIn wsX1_isRight (wsV RX1 37 RX1 yX1_length wsX1_length) := goodIn_app (goodIn_of _ (by decide +kernel)) ggX1_isRight_X1_length
set_option maxRecDepth 20000 in
theorem ggX1_isRight_X1_sumPlace : GoodIn wsX1_isRight wsX1_sumPlace := goodIn_r _ [31, 2, 3, 4, 5, 24, 25, 26, 27, 1, 20, 12, 13, 9, 14, 15, 42, 43] (by decide +kernel) (by decide +kernel)
set_option maxRecDepth 20000 in
theorem gX1_isRight_X1_sumPlace : GoodIn wsX1_isRight (wsV RX1 40 RX1 yX1_sumPlace wsX1_sumPlace) := goodIn_app (goodIn_of _ (by decide +kernel)) ggX1_isRight_X1_sumPlace
set_option maxRecDepth 20000 in
theorem ggX1_isRight_X1_rowSum : GoodIn wsX1_isRight wsX1_rowSum := goodIn_r _ [35, 1, 36, 2, 3, 4, 5, 28, 29, 30, 31, 24, 25, 26, 27, 20, 12, 13, 9, 14, 15, 37, 38, 39, 40, 41, 11, 42, 43] (by decide +kernel) (by decide +kernel)
set_option maxRecDepth 20000 in
theorem gX1_isRight_X1_rowSum : GoodIn wsX1_isRight (wsV RX1 43 RX1 yX1_rowSum wsX1_rowSum) := goodIn_app (goodIn_of _ (by decide +kernel)) ggX1_isRight_X1_rowSum
theorem dX1_isRight_0 : decode cX1_isRight 0 = .ok (.aload_n 0, 1) := by decide +kernel
theorem dX1_isRight_1 : decode cX1_isRight 1 = .ok (.getfield 14, 3) := by decide +kernel
theorem dX1_isRight_4 : decode cX1_isRight 4 = .ok (.iload_n 1, 1) := by decide +kernel
theorem dX1_isRight_5 : decode cX1_isRight 5 = .ok (.invokestatic 20, 3) := by decide +kernel
theorem dX1_isRight_8 : decode cX1_isRight 8 = .ok (.invokevirtual 27, 3) := by decide +kernel
theorem dX1_isRight_11 : decode cX1_isRight 11 = .ok (.iload_n 1, 1) := by decide +kernel
theorem dX1_isRight_12 : decode cX1_isRight 12 = .ok (.if_icmp .ne 48, 3) := by decide +kernel
theorem dX1_isRight_15 : decode cX1_isRight 15 = .ok (.aload_n 0, 1) := by decide +kernel
theorem dX1_isRight_16 : decode cX1_isRight 16 = .ok (.iload_n 1, 1) := by decide +kernel
theorem dX1_isRight_17 : decode cX1_isRight 17 = .ok (.invokevirtual 30, 3) := by decide +kernel
theorem dX1_isRight_20 : decode cX1_isRight 20 = .ok (.invokestatic 33, 3) := by decide +kernel
theorem dX1_isRight_23 : decode cX1_isRight 23 = .ok (.ifCond .eq 37, 3) := by decide +kernel
theorem dX1_isRight_26 : decode cX1_isRight 26 = .ok (.aload_n 0, 1) := by decide +kernel
theorem dX1_isRight_27 : decode cX1_isRight 27 = .ok (.iload_n 1, 1) := by decide +kernel
theorem dX1_isRight_28 : decode cX1_isRight 28 = .ok (.invokevirtual 37, 3) := by decide +kernel
theorem dX1_isRight_31 : decode cX1_isRight 31 = .ok (.bipush 40, 2) := by decide +kernel
theorem dX1_isRight_33 : decode cX1_isRight 33 = .ok (.if_icmp .gt 27, 3) := by decide +kernel
theorem dX1_isRight_36 : decode cX1_isRight 36 = .ok (.aload_n 0, 1) := by decide +kernel
theorem dX1_isRight_37 : decode cX1_isRight 37 = .ok (.getfield 14, 3) := by decide +kernel
theorem dX1_isRight_40 : decode cX1_isRight 40 = .ok (.aload_n 0, 1) := by decide +kernel
theorem dX1_isRight_41 : decode cX1_isRight 41 = .ok (.iload_n 1, 1) := by decide +kernel
theorem dX1_isRight_42 : decode cX1_isRight 42 = .ok (.invokevirtual 40, 3) := by decide +kernel
theorem dX1_isRight_45 : decode cX1_isRight 45 = .ok (.invokevirtual 27, 3) := by decide +kernel
theorem dX1_isRight_48 : decode cX1_isRight 48 = .ok (.aload_n 0, 1) := by decide +kernel
theorem dX1_isRight_49 : decode cX1_isRight 49 = .ok (.iload_n 1, 1) := by decide +kernel
theorem dX1_isRight_50 : decode cX1_isRight 50 = .ok (.invokevirtual 43, 3) := by decide +kernel
theorem dX1_isRight_53 : decode cX1_isRight 53 = .ok (.if_icmp .ne 7, 3) := by decide +kernel
theorem dX1_isRight_56 : decode cX1_isRight 56 = .ok (.iconst 1, 1) := by decide +kernel
theorem dX1_isRight_57 : decode cX1_isRight 57 = .ok (.goto 4, 3) := by decide +kernel
theorem dX1_isRight_60 : decode cX1_isRight 60 = .ok (.iconst 0, 1) := by decide +kernel
theorem dX1_isRight_61 : decode cX1_isRight 61 = .ok (.ireturn, 1) := by decide +kernel
set_option maxRecDepth 20000 in
theorem ggX1_compose_X1_firstPlace : GoodIn wsX1_compose wsX1_firstPlace := goodIn_r _ [5] (by decide +kernel) (by decide +kernel)
set_option maxRecDepth 20000 in
theorem gX1_compose_X1_firstPlace : GoodIn wsX1_compose (va_wsS RX1 20 yX1_firstPlace wsX1_firstPlace) := goodIn_app (goodIn_of _ (by decide +kernel)) ggX1_compose_X1_firstPlace
set_option maxRecDepth 20000 in
theorem ggX1_compose_X0_setWord : GoodIn wsX1_compose wsX0_setWord := goodIn_r _ [10, 11, 12, 13, 9, 14, 15, 41] (by decide +kernel) (by decide +kernel)
set_option maxRecDepth 20000 in
theorem gX1_compose_X0_setWord : GoodIn wsX1_compose (wsV RX1 46 RX0 yX0_setWord wsX0_setWord) := goodIn_app (goodIn_of _ (by decide +kernel)) ggX1_compose_X0_setWord
set_option maxRecDepth 20000 in
theorem ggX1_compose_X0_set : GoodIn wsX1_compose wsX0_set := goodIn_r _ [14, 15, 41] (by decide +kernel) (by decide +kernel)
set_option maxRecDepth 20000 in
theorem gX1_compose_X0_set : GoodIn wsX1_compose (wsV RX1 50 RX0 yX0_set wsX0_set) := goodIn_app (goodIn_of _ (by decide +kernel)) ggX1_compose_X0_set
set_option maxRecDepth 20000 in
theorem ggX1_compose_X0_get : GoodIn wsX1_compose wsX0_get := goodIn_r _ [20, 15, 41] (by decide +kernel) (by decide +kernel)
set_option maxRecDepth 20000 in
theorem gX1_compose_X0_get : GoodIn wsX1_compose (wsV RX1 24 RX0 yX0_get wsX0_get) := goodIn_app (goodIn_of _ (by decide +kernel)) ggX1_compose_X0_get
set_option maxRecDepth 20000 in
theorem ggX1_compose_X1_sumPlace : GoodIn wsX1_compose wsX1_sumPlace := goodIn_r _ [24, 2, 3, 4, 5, 25, 26, 27, 28, 1, 17, 18, 19, 9, 20, 15, 40, 41] (by decide +kernel) (by decide +kernel)
set_option maxRecDepth 20000 in
theorem gX1_compose_X1_sumPlace : GoodIn wsX1_compose (wsV RX1 40 RX1 yX1_sumPlace wsX1_sumPlace) := goodIn_app (goodIn_of _ (by decide +kernel)) ggX1_compose_X1_sumPlace
set_option maxRecDepth 20000 in
theorem ggX1_compose_X1_rowSum : GoodIn wsX1_compose wsX1_rowSum := goodIn_r _ [32, 1, 33, 2, 3, 4, 5, 21, 22, 23, 24, 25, 26, 27, 28, 17, 18, 19, 9, 20, 15, 34, 35, 36, 37, 38, 39, 40, 41] (by decide +kernel) (by decide +kernel)
set_option maxRecDepth 20000 in
theorem gX1_compose_X1_rowSum : GoodIn wsX1_compose (wsV RX1 43 RX1 yX1_rowSum wsX1_rowSum) := goodIn_app (goodIn_of _ (by decide +kernel)) ggX1_compose_X1_rowSum
theorem dX1_compose_0 : decode cX1_compose 0 = .ok (.iload_n 1, 1) := by decide +kernel
theorem dX1_compose_1 : decode cX1_compose 1 = .ok (.invokestatic 20, 3) := by decide +kernel
theorem dX1_compose_4 : decode cX1_compose 4 = .ok (.istore 5, 2) := by decide +kernel
theorem dX1_compose_6 : decode cX1_compose 6 = .ok (.aload_n 0, 1) := by decide +kernel
theorem dX1_compose_7 : decode cX1_compose 7 = .ok (.getfield 14, 3) := by decide +kernel
theorem dX1_compose_10 : decode cX1_compose 10 = .ok (.iload 5, 2) := by decide +kernel
theorem dX1_compose_12 : decode cX1_compose 12 = .ok (.iload_n 1, 1) := by decide +kernel
theorem dX1_compose_13 : decode cX1_compose 13 = .ok (.invokevirtual 46, 3) := by decide +kernel
theorem dX1_compose_16 : decode cX1_compose 16 = .ok (.aload_n 0, 1) := by decide +kernel
theorem dX1_compose_17 : decode cX1_compose 17 = .ok (.getfield 14, 3) := by decide +kernel
theorem dX1_compose_20 : decode cX1_compose 20 = .ok (.iload 5, 2) := by decide +kernel
theorem dX1_compose_22 : decode cX1_compose 22 = .ok (.iconst 4, 1) := by decide +kernel
theorem dX1_compose_23 : decode cX1_compose 23 = .ok (.iadd, 1) := by decide +kernel
theorem dX1_compose_24 : decode cX1_compose 24 = .ok (.iload_n 2, 1) := by decide +kernel
theorem dX1_compose_25 : decode cX1_compose 25 = .ok (.invokevirtual 50, 3) := by decide +kernel
theorem dX1_compose_28 : decode cX1_compose 28 = .ok (.aload_n 0, 1) := by decide +kernel
theorem dX1_compose_29 : decode cX1_compose 29 = .ok (.getfield 14, 3) := by decide +kernel
theorem dX1_compose_32 : decode cX1_compose 32 = .ok (.iload 5, 2) := by decide +kernel
theorem dX1_compose_34 : decode cX1_compose 34 = .ok (.iconst 5, 1) := by decide +kernel
theorem dX1_compose_35 : decode cX1_compose 35 = .ok (.iadd, 1) := by decide +kernel
theorem dX1_compose_36 : decode cX1_compose 36 = .ok (.iload 4, 2) := by decide +kernel
theorem dX1_compose_38 : decode cX1_compose 38 = .ok (.invokevirtual 50, 3) := by decide +kernel
theorem dX1_compose_41 : decode cX1_compose 41 = .ok (.iconst 0, 1) := by decide +kernel
theorem dX1_compose_42 : decode cX1_compose 42 = .ok (.istore 6, 2) := by decide +kernel
theorem dX1_compose_44 : decode cX1_compose 44 = .ok (.iload 6, 2) := by decide +kernel
theorem dX1_compose_46 : decode cX1_compose 46 = .ok (.iload 4, 2) := by decide +kernel
theorem dX1_compose_48 : decode cX1_compose 48 = .ok (.if_icmp .ge 30, 3) := by decide +kernel
theorem dX1_compose_51 : decode cX1_compose 51 = .ok (.aload_n 0, 1) := by decide +kernel
theorem dX1_compose_52 : decode cX1_compose 52 = .ok (.getfield 14, 3) := by decide +kernel
theorem dX1_compose_55 : decode cX1_compose 55 = .ok (.iload 5, 2) := by decide +kernel
theorem dX1_compose_57 : decode cX1_compose 57 = .ok (.bipush 6, 2) := by decide +kernel
theorem dX1_compose_59 : decode cX1_compose 59 = .ok (.iadd, 1) := by decide +kernel
theorem dX1_compose_60 : decode cX1_compose 60 = .ok (.iload 6, 2) := by decide +kernel
theorem dX1_compose_62 : decode cX1_compose 62 = .ok (.iadd, 1) := by decide +kernel
theorem dX1_compose_63 : decode cX1_compose 63 = .ok (.aload_n 3, 1) := by decide +kernel
theorem dX1_compose_64 : decode cX1_compose 64 = .ok (.iload 6, 2) := by decide +kernel
theorem dX1_compose_66 : decode cX1_compose 66 = .ok (.invokevirtual 24, 3) := by decide +kernel
theorem dX1_compose_69 : decode cX1_compose 69 = .ok (.invokevirtual 50, 3) := by decide +kernel
theorem dX1_compose_72 : decode cX1_compose 72 = .ok (.iinc 6 1, 3) := by decide +kernel
theorem dX1_compose_75 : decode cX1_compose 75 = .ok (.goto (-31), 3) := by decide +kernel
theorem dX1_compose_78 : decode cX1_compose 78 = .ok (.aload_n 0, 1) := by decide +kernel
theorem dX1_compose_79 : decode cX1_compose 79 = .ok (.getfield 14, 3) := by decide +kernel
theorem dX1_compose_82 : decode cX1_compose 82 = .ok (.aload_n 0, 1) := by decide +kernel
theorem dX1_compose_83 : decode cX1_compose 83 = .ok (.iload_n 1, 1) := by decide +kernel
theorem dX1_compose_84 : decode cX1_compose 84 = .ok (.invokevirtual 40, 3) := by decide +kernel
theorem dX1_compose_87 : decode cX1_compose 87 = .ok (.aload_n 0, 1) := by decide +kernel
theorem dX1_compose_88 : decode cX1_compose 88 = .ok (.iload_n 1, 1) := by decide +kernel
theorem dX1_compose_89 : decode cX1_compose 89 = .ok (.invokevirtual 43, 3) := by decide +kernel
theorem dX1_compose_92 : decode cX1_compose 92 = .ok (.invokevirtual 46, 3) := by decide +kernel
theorem dX1_compose_95 : decode cX1_compose 95 = .ok (.aload_n 0, 1) := by decide +kernel
theorem dX1_compose_96 : decode cX1_compose 96 = .ok (.iload_n 1, 1) := by decide +kernel
theorem dX1_compose_97 : decode cX1_compose 97 = .ok (.invokevirtual 40, 3) := by decide +kernel
theorem dX1_compose_100 : decode cX1_compose 100 = .ok (.iconst 4, 1) := by decide +kernel
theorem dX1_compose_101 : decode cX1_compose 101 = .ok (.iadd, 1) := by decide +kernel
theorem dX1_compose_102 : decode cX1_compose 102 = .ok (.istore 6, 2) := by decide +kernel
theorem dX1_compose_104 : decode cX1_compose 104 = .ok (.iload 6, 2) := by decide +kernel
theorem dX1_compose_106 : decode cX1_compose 106 = .ok (.iload 5, 2) := by decide +kernel
theorem dX1_compose_108 : decode cX1_compose 108 = .ok (.bipush 64, 2) := by decide +kernel
theorem dX1_compose_110 : decode cX1_compose 110 = .ok (.iadd, 1) := by decide +kernel
theorem dX1_compose_111 : decode cX1_compose 111 = .ok (.if_icmp .ge 19, 3) := by decide +kernel
theorem dX1_compose_114 : decode cX1_compose 114 = .ok (.aload_n 0, 1) := by decide +kernel
theorem dX1_compose_115 : decode cX1_compose 115 = .ok (.getfield 14, 3) := by decide +kernel
theorem dX1_compose_118 : decode cX1_compose 118 = .ok (.iload 6, 2) := by decide +kernel
theorem dX1_compose_120 : decode cX1_compose 120 = .ok (.iconst 0, 1) := by decide +kernel
theorem dX1_compose_121 : decode cX1_compose 121 = .ok (.invokevirtual 50, 3) := by decide +kernel
theorem dX1_compose_124 : decode cX1_compose 124 = .ok (.iinc 6 1, 3) := by decide +kernel
theorem dX1_compose_127 : decode cX1_compose 127 = .ok (.goto (-23), 3) := by decide +kernel
theorem dX1_compose_130 : decode cX1_compose 130 = .ok (.return_, 1) := by decide +kernel
set_option maxRecDepth 20000 in
theorem ggX1_take_X1_firstPlace : GoodIn wsX1_take wsX1_firstPlace := goodIn_r _ [5] (by decide +kernel) (by decide +kernel)
set_option maxRecDepth 20000 in
theorem gX1_take_X1_firstPlace : GoodIn wsX1_take (va_wsS RX1 20 yX1_firstPlace wsX1_firstPlace) := goodIn_app (goodIn_of _ (by decide +kernel)) ggX1_take_X1_firstPlace
set_option maxRecDepth 20000 in
theorem ggX1_take_X0_get : GoodIn wsX1_take wsX0_get := goodIn_r _ [10, 11, 17] (by decide +kernel) (by decide +kernel)
set_option maxRecDepth 20000 in
theorem gX1_take_X0_get : GoodIn wsX1_take (wsV RX1 24 RX0 yX0_get wsX0_get) := goodIn_app (goodIn_of _ (by decide +kernel)) ggX1_take_X0_get
set_option maxRecDepth 20000 in
theorem ggX1_take_X0_set : GoodIn wsX1_take wsX0_set := goodIn_r _ [15, 11, 17] (by decide +kernel) (by decide +kernel)
set_option maxRecDepth 20000 in
theorem gX1_take_X0_set : GoodIn wsX1_take (wsV RX1 50 RX0 yX0_set wsX0_set) := goodIn_app (goodIn_of _ (by decide +kernel)) ggX1_take_X0_set
theorem dX1_take_0 : decode cX1_take 0 = .ok (.iload_n 2, 1) := by decide +kernel
theorem dX1_take_1 : decode cX1_take 1 = .ok (.invokestatic 20, 3) := by decide +kernel
theorem dX1_take_4 : decode cX1_take 4 = .ok (.istore 4, 2) := by decide +kernel
theorem dX1_take_6 : decode cX1_take 6 = .ok (.iload 4, 2) := by decide +kernel
theorem dX1_take_8 : decode cX1_take 8 = .ok (.istore 5, 2) := by decide +kernel
theorem dX1_take_10 : decode cX1_take 10 = .ok (.iload 5, 2) := by decide +kernel
theorem dX1_take_12 : decode cX1_take 12 = .ok (.iload 4, 2) := by decide +kernel
theorem dX1_take_14 : decode cX1_take 14 = .ok (.iload_n 3, 1) := by decide +kernel
theorem dX1_take_15 : decode cX1_take 15 = .ok (.iadd, 1) := by decide +kernel
theorem dX1_take_16 : decode cX1_take 16 = .ok (.if_icmp .ge 27, 3) := by decide +kernel
theorem dX1_take_19 : decode cX1_take 19 = .ok (.aload_n 0, 1) := by decide +kernel
theorem dX1_take_20 : decode cX1_take 20 = .ok (.getfield 14, 3) := by decide +kernel
theorem dX1_take_23 : decode cX1_take 23 = .ok (.iload 5, 2) := by decide +kernel
theorem dX1_take_25 : decode cX1_take 25 = .ok (.aload_n 1, 1) := by decide +kernel
theorem dX1_take_26 : decode cX1_take 26 = .ok (.getfield 14, 3) := by decide +kernel
theorem dX1_take_29 : decode cX1_take 29 = .ok (.iload 5, 2) := by decide +kernel
theorem dX1_take_31 : decode cX1_take 31 = .ok (.invokevirtual 24, 3) := by decide +kernel
theorem dX1_take_34 : decode cX1_take 34 = .ok (.invokevirtual 50, 3) := by decide +kernel
theorem dX1_take_37 : decode cX1_take 37 = .ok (.iinc 5 1, 3) := by decide +kernel
theorem dX1_take_40 : decode cX1_take 40 = .ok (.goto (-30), 3) := by decide +kernel
theorem dX1_take_43 : decode cX1_take 43 = .ok (.return_, 1) := by decide +kernel
set_option maxRecDepth 20000 in
theorem ggX1_sumBehindNumber_X1_firstPlace : GoodIn wsX1_sumBehindNumber wsX1_firstPlace := goodIn_r _ [5] (by decide +kernel) (by decide +kernel)
set_option maxRecDepth 20000 in
theorem gX1_sumBehindNumber_X1_firstPlace : GoodIn wsX1_sumBehindNumber (va_wsS RX1 20 yX1_firstPlace wsX1_firstPlace) := goodIn_app (goodIn_of _ (by decide +kernel)) ggX1_sumBehindNumber_X1_firstPlace
set_option maxRecDepth 20000 in
theorem ggX1_sumBehindNumber_X1_sumPlace : GoodIn wsX1_sumBehindNumber wsX1_sumPlace := goodIn_r _ [9, 2, 3, 4, 5, 10, 11, 12, 13, 1, 14, 15, 16, 17, 18, 19, 26, 27] (by decide +kernel) (by decide +kernel)
set_option maxRecDepth 20000 in
theorem gX1_sumBehindNumber_X1_sumPlace : GoodIn wsX1_sumBehindNumber (wsV RX1 40 RX1 yX1_sumPlace wsX1_sumPlace) := goodIn_app (goodIn_of _ (by decide +kernel)) ggX1_sumBehindNumber_X1_sumPlace
set_option maxRecDepth 20000 in
theorem ggX1_sumBehindNumber_X0_sumOn : GoodIn wsX1_sumBehindNumber wsX0_sumOn := goodIn_r _ [23, 24, 25, 15, 16, 17, 18, 19, 27] (by decide +kernel) (by decide +kernel)
set_option maxRecDepth 20000 in
theorem gX1_sumBehindNumber_X0_sumOn : GoodIn wsX1_sumBehindNumber (wsV RX1 53 RX0 yX0_sumOn wsX0_sumOn) := goodIn_app (goodIn_of _ (by decide +kernel)) ggX1_sumBehindNumber_X0_sumOn
theorem dX1_sumBehindNumber_0 : decode cX1_sumBehindNumber 0 = .ok (.aload_n 0, 1) := by decide +kernel
theorem dX1_sumBehindNumber_1 : decode cX1_sumBehindNumber 1 = .ok (.getfield 14, 3) := by decide +kernel
theorem dX1_sumBehindNumber_4 : decode cX1_sumBehindNumber 4 = .ok (.iload_n 1, 1) := by decide +kernel
theorem dX1_sumBehindNumber_5 : decode cX1_sumBehindNumber 5 = .ok (.iload_n 2, 1) := by decide +kernel
theorem dX1_sumBehindNumber_6 : decode cX1_sumBehindNumber 6 = .ok (.invokestatic 20, 3) := by decide +kernel
theorem dX1_sumBehindNumber_9 : decode cX1_sumBehindNumber 9 = .ok (.iconst 4, 1) := by decide +kernel
theorem dX1_sumBehindNumber_10 : decode cX1_sumBehindNumber 10 = .ok (.iadd, 1) := by decide +kernel
theorem dX1_sumBehindNumber_11 : decode cX1_sumBehindNumber 11 = .ok (.aload_n 0, 1) := by decide +kernel
theorem dX1_sumBehindNumber_12 : decode cX1_sumBehindNumber 12 = .ok (.iload_n 2, 1) := by decide +kernel
theorem dX1_sumBehindNumber_13 : decode cX1_sumBehindNumber 13 = .ok (.invokevirtual 40, 3) := by decide +kernel
theorem dX1_sumBehindNumber_16 : decode cX1_sumBehindNumber 16 = .ok (.invokevirtual 53, 3) := by decide +kernel
theorem dX1_sumBehindNumber_19 : decode cX1_sumBehindNumber 19 = .ok (.ireturn, 1) := by decide +kernel
set_option maxRecDepth 20000 in
theorem ggX1_rowSum_X1_firstPlace : GoodIn wsX1_rowSum wsX1_firstPlace := goodIn_r _ [6] (by decide +kernel) (by decide +kernel)
set_option maxRecDepth 20000 in
theorem gX1_rowSum_X1_firstPlace : GoodIn wsX1_rowSum (va_wsS RX1 20 yX1_firstPlace wsX1_firstPlace) := goodIn_app (goodIn_of _ (by decide +kernel)) ggX1_rowSum_X1_firstPlace
set_option maxRecDepth 20000 in
theorem ggX1_rowSum_X1_sumPlace : GoodIn wsX1_rowSum wsX1_sumPlace := goodIn_r _ [10, 3, 4, 5, 6, 11, 12, 13, 14, 1, 15, 16, 17, 18, 19, 20, 27, 28] (by decide +kernel) (by decide +kernel)
set_option maxRecDepth 20000 in
theorem gX1_rowSum_X1_sumPlace : GoodIn wsX1_rowSum (wsV RX1 40 RX1 yX1_sumPlace wsX1_sumPlace) := goodIn_app (goodIn_of _ (by decide +kernel)) ggX1_rowSum_X1_sumPlace
set_option maxRecDepth 20000 in
theorem ggX1_rowSum_X0_sumOn : GoodIn wsX1_rowSum wsX0_sumOn := goodIn_r _ [24, 25, 26, 16, 17, 18, 19, 20, 28] (by decide +kernel) (by decide +kernel)
set_option maxRecDepth 20000 in
theorem gX1_rowSum_X0_sumOn : GoodIn wsX1_rowSum (wsV RX1 53 RX0 yX0_sumOn wsX0_sumOn) := goodIn_app (goodIn_of _ (by decide +kernel)) ggX1_rowSum_X0_sumOn
theorem dX1_rowSum_0 : decode cX1_rowSum 0 = .ok (.aload_n 0, 1) := by decide +kernel
theorem dX1_rowSum_1 : decode cX1_rowSum 1 = .ok (.getfield 14, 3) := by decide +kernel
theorem dX1_rowSum_4 : decode cX1_rowSum 4 = .ok (.ldc 57, 2) := by decide +kernel
theorem dX1_rowSum_6 : decode cX1_rowSum 6 = .ok (.iload_n 1, 1) := by decide +kernel
theorem dX1_rowSum_7 : decode cX1_rowSum 7 = .ok (.invokestatic 20, 3) := by decide +kernel
theorem dX1_rowSum_10 : decode cX1_rowSum 10 = .ok (.aload_n 0, 1) := by decide +kernel
theorem dX1_rowSum_11 : decode cX1_rowSum 11 = .ok (.iload_n 1, 1) := by decide +kernel
theorem dX1_rowSum_12 : decode cX1_rowSum 12 = .ok (.invokevirtual 40, 3) := by decide +kernel
theorem dX1_rowSum_15 : decode cX1_rowSum 15 = .ok (.invokevirtual 53, 3) := by decide +kernel
theorem dX1_rowSum_18 : decode cX1_rowSum 18 = .ok (.ireturn, 1) := by decide +kernel
set_option maxRecDepth 20000 in
theorem ggX1_sumPlace_X1_firstPlace : GoodIn wsX1_sumPlace wsX1_firstPlace := goodIn_r _ [4] (by decide +kernel) (by decide +kernel)
set_option maxRecDepth 20000 in
theorem gX1_sumPlace_X1_firstPlace : GoodIn wsX1_sumPlace (va_wsS RX1 20 yX1_firstPlace wsX1_firstPlace) := goodIn_app (goodIn_of _ (by decide +kernel)) ggX1_sumPlace_X1_firstPlace
set_option maxRecDepth 20000 in
theorem ggX1_sumPlace_X1_length : GoodIn wsX1_sumPlace wsX1_length := goodIn_r _ [8, 9, 1, 2, 3, 4, 10, 11, 12, 13, 14, 15, 16, 17] (by decide +kernel) (by decide +kernel)
set_option maxRecDepth 20000 in
theorem gX1_sumPlace_X1_length : GoodIn wsX1_sumPlace (wsV RX1 37 RX1 yX1_length wsX1_length) := goodIn_app (goodIn_of _ (by decide +kernel)) ggX1_sumPlace_X1_length
theorem dX1_sumPlace_0 : decode cX1_sumPlace 0 = .ok (.iload_n 1, 1) := by decide +kernel
theorem dX1_sumPlace_1 : decode cX1_sumPlace 1 = .ok (.invokestatic 20, 3) := by decide +kernel
theorem dX1_sumPlace_4 : decode cX1_sumPlace 4 = .ok (.bipush 6, 2) := by decide +kernel
theorem dX1_sumPlace_6 : decode cX1_sumPlace 6 = .ok (.iadd, 1) := by decide +kernel
theorem dX1_sumPlace_7 : decode cX1_sumPlace 7 = .ok (.aload_n 0, 1) := by decide +kernel
theorem dX1_sumPlace_8 : decode cX1_sumPlace 8 = .ok (.iload_n 1, 1) := by decide +kernel
theorem dX1_sumPlace_9 : decode cX1_sumPlace 9 = .ok (.invokevirtual 37, 3) := by decide +kernel
theorem dX1_sumPlace_12 : decode cX1_sumPlace 12 = .ok (.iadd, 1) := by decide +kernel
theorem dX1_sumPlace_13 : decode cX1_sumPlace 13 = .ok (.ireturn, 1) := by decide +kernel
theorem dX1_firstPlace_0 : decode cX1_firstPlace 0 = .ok (.iload_n 0, 1) := by decide +kernel
theorem dX1_firstPlace_1 : decode cX1_firstPlace 1 = .ok (.bipush 64, 2) := by decide +kernel
theorem dX1_firstPlace_3 : decode cX1_firstPlace 3 = .ok (.imul, 1) := by decide +kernel
theorem dX1_firstPlace_4 : decode cX1_firstPlace 4 = .ok (.ireturn, 1) := by decide +kernel
set_option maxRecDepth 20000 in
theorem ggX2_init_X1_init : GoodIn wsX2_init wsX1_init := goodIn_r _ [25, 26, 2, 3, 27, 19, 20, 28, 29, 30, 31, 32, 33, 9, 6, 10, 34, 35, 51, 50] (by decide +kernel) (by decide +kernel)
set_option maxRecDepth 20000 in
theorem gX2_init_X1_init : GoodIn wsX2_init (wsX1_init) := ggX2_init_X1_init
set_option maxRecDepth 20000 in
theorem ggX2_init_X0_init : GoodIn wsX2_init wsX0_init := goodIn_r _ [31, 32, 2, 3, 33, 9, 6, 10, 34, 35, 51] (by decide +kernel) (by decide +kernel)
set_option maxRecDepth 20000 in
theorem gX2_init_X0_init : GoodIn wsX2_init (wsX0_init) := ggX2_init_X0_init
theorem dX2_init_0 : decode cX2_init 0 = .ok (.aload_n 0, 1) := by decide +kernel
theorem dX2_init_1 : decode cX2_init 1 = .ok (.invokespecial 1, 3) := by decide +kernel
theorem dX2_init_4 : decode cX2_init 4 = .ok (.aload_n 0, 1) := by decide +kernel
theorem dX2_init_5 : decode cX2_init 5 = .ok (.iconst 4, 1) := by decide +kernel
theorem dX2_init_6 : decode cX2_init 6 = .ok (.bipush 64, 2) := by decide +kernel
theorem dX2_init_8 : decode cX2_init 8 = .ok (.iload_n 1, 1) := by decide +kernel
theorem dX2_init_9 : decode cX2_init 9 = .ok (.invokestatic 9, 3) := by decide +kernel
theorem dX2_init_12 : decode cX2_init 12 = .ok (.invokestatic 15, 3) := by decide +kernel
theorem dX2_init_15 : decode cX2_init 15 = .ok (.putfield 18, 3) := by decide +kernel
theorem dX2_init_18 : decode cX2_init 18 = .ok (.aload_n 0, 1) := by decide +kernel
theorem dX2_init_19 : decode cX2_init 19 = .ok (.new 22, 3) := by decide +kernel
theorem dX2_init_22 : decode cX2_init 22 = .ok (.dup, 1) := by decide +kernel
theorem dX2_init_23 : decode cX2_init 23 = .ok (.aload_n 0, 1) := by decide +kernel
theorem dX2_init_24 : decode cX2_init 24 = .ok (.getfield 18, 3) := by decide +kernel
theorem dX2_init_27 : decode cX2_init 27 = .ok (.invokespecial 24, 3) := by decide +kernel
theorem dX2_init_30 : decode cX2_init 30 = .ok (.putfield 27, 3) := by decide +kernel
theorem dX2_init_33 : decode cX2_init 33 = .ok (.aload_n 0, 1) := by decide +kernel
theorem dX2_init_34 : decode cX2_init 34 = .ok (.new 22, 3) := by decide +kernel
theorem dX2_init_37 : decode cX2_init 37 = .ok (.dup, 1) := by decide +kernel
theorem dX2_init_38 : decode cX2_init 38 = .ok (.aload_n 0, 1) := by decide +kernel
theorem dX2_init_39 : decode cX2_init 39 = .ok (.getfield 18, 3) := by decide +kernel
theorem dX2_init_42 : decode cX2_init 42 = .ok (.invokespecial 24, 3) := by decide +kernel
theorem dX2_init_45 : decode cX2_init 45 = .ok (.putfield 31, 3) := by decide +kernel
theorem dX2_init_48 : decode cX2_init 48 = .ok (.aload_n 0, 1) := by decide +kernel
theorem dX2_init_49 : decode cX2_init 49 = .ok (.new 22, 3) := by decide +kernel
theorem dX2_init_52 : decode cX2_init 52 = .ok (.dup, 1) := by decide +kernel
theorem dX2_init_53 : decode cX2_init 53 = .ok (.aload_n 0, 1) := by decide +kernel
theorem dX2_init_54 : decode cX2_init 54 = .ok (.getfield 18, 3) := by decide +kernel
theorem dX2_init_57 : decode cX2_init 57 = .ok (.invokespecial 24, 3) := by decide +kernel
theorem dX2_init_60 : decode cX2_init 60 = .ok (.putfield 34, 3) := by decide +kernel
theorem dX2_init_63 : decode cX2_init 63 = .ok (.aload_n 0, 1) := by decide +kernel
theorem dX2_init_64 : decode cX2_init 64 = .ok (.new 37, 3) := by decide +kernel
theorem dX2_init_67 : decode cX2_init 67 = .ok (.dup, 1) := by decide +kernel
theorem dX2_init_68 : decode cX2_init 68 = .ok (.bipush 40, 2) := by decide +kernel
theorem dX2_init_70 : decode cX2_init 70 = .ok (.invokespecial 39, 3) := by decide +kernel
theorem dX2_init_73 : decode cX2_init 73 = .ok (.putfield 40, 3) := by decide +kernel
theorem dX2_init_76 : decode cX2_init 76 = .ok (.aload_n 0, 1) := by decide +kernel
theorem dX2_init_77 : decode cX2_init 77 = .ok (.iconst (-1), 1) := by decide +kernel
theorem dX2_init_78 : decode cX2_init 78 = .ok (.putfield 44, 3) := by decide +kernel
theorem dX2_init_81 : decode cX2_init 81 = .ok (.return_, 1) := by decide +kernel
set_option maxRecDepth 20000 in
theorem ggX2_add_X0_set : GoodIn wsX2_add wsX0_set := goodIn_r _ [8, 9, 23] (by decide +kernel) (by decide +kernel)
set_option maxRecDepth 20000 in
theorem gX2_add_X0_set : GoodIn wsX2_add (wsV RX2 54 RX0 yX0_set wsX0_set) := goodIn_app (goodIn_of _ (by decide +kernel)) ggX2_add_X0_set
theorem dX2_add_0 : decode cX2_add 0 = .ok (.aload_n 0, 1) := by decide +kernel
theorem dX2_add_1 : decode cX2_add 1 = .ok (.getfield 47, 3) := by decide +kernel
theorem dX2_add_4 : decode cX2_add 4 = .ok (.ifCond .ne 12, 3) := by decide +kernel
theorem dX2_add_7 : decode cX2_add 7 = .ok (.aload_n 0, 1) := by decide +kernel
theorem dX2_add_8 : decode cX2_add 8 = .ok (.getfield 51, 3) := by decide +kernel
theorem dX2_add_11 : decode cX2_add 11 = .ok (.bipush 40, 2) := by decide +kernel
theorem dX2_add_13 : decode cX2_add 13 = .ok (.if_icmp .lt 5, 3) := by decide +kernel
theorem dX2_add_16 : decode cX2_add 16 = .ok (.iconst 0, 1) := by decide +kernel
theorem dX2_add_17 : decode cX2_add 17 = .ok (.ireturn, 1) := by decide +kernel
theorem dX2_add_18 : decode cX2_add 18 = .ok (.aload_n 0, 1) := by decide +kernel
theorem dX2_add_19 : decode cX2_add 19 = .ok (.getfield 40, 3) := by decide +kernel
theorem dX2_add_22 : decode cX2_add 22 = .ok (.aload_n 0, 1) := by decide +kernel
theorem dX2_add_23 : decode cX2_add 23 = .ok (.getfield 51, 3) := by decide +kernel
theorem dX2_add_26 : decode cX2_add 26 = .ok (.iload_n 1, 1) := by decide +kernel
theorem dX2_add_27 : decode cX2_add 27 = .ok (.invokevirtual 54, 3) := by decide +kernel
theorem dX2_add_30 : decode cX2_add 30 = .ok (.aload_n 0, 1) := by decide +kernel
theorem dX2_add_31 : decode cX2_add 31 = .ok (.dup, 1) := by decide +kernel
theorem dX2_add_32 : decode cX2_add 32 = .ok (.getfield 51, 3) := by decide +kernel
theorem dX2_add_35 : decode cX2_add 35 = .ok (.iconst 1, 1) := by decide +kernel
theorem dX2_add_36 : decode cX2_add 36 = .ok (.iadd, 1) := by decide +kernel
theorem dX2_add_37 : decode cX2_add 37 = .ok (.putfield 51, 3) := by decide +kernel
theorem dX2_add_40 : decode cX2_add 40 = .ok (.iconst 1, 1) := by decide +kernel
theorem dX2_add_41 : decode cX2_add 41 = .ok (.ireturn, 1) := by decide +kernel
set_option maxRecDepth 20000 in
theorem ggX2_end_X2_isKind : GoodIn wsX2_end wsX2_isKind := goodIn_r _ [10] (by decide +kernel) (by decide +kernel)
set_option maxRecDepth 20000 in
theorem gX2_end_X2_isKind : GoodIn wsX2_end (va_wsS RX2 58 yX2_isKind wsX2_isKind) := goodIn_app (goodIn_of _ (by decide +kernel)) ggX2_end_X2_isKind
set_option maxRecDepth 20000 in
theorem ggX2_end_X2_refuseIfDown : GoodIn wsX2_end wsX2_refuseIfDown := goodIn_ca (goodIn_r _ [14, 15, 16, 17, 70, 71, 72, 73, 74, 75, 76, 77, 78, 79, 80, 81, 82] (by decide +kernel) (by decide +kernel)) (goodIn_sub (fun _ h => List.mem_cons_of_mem _ (List.mem_append_right _ h)) (by decide +kernel))
set_option maxRecDepth 20000 in
theorem gX2_end_X2_refuseIfDown : GoodIn wsX2_end (wsV RX2 69 RX2 yX2_refuseIfDown wsX2_refuseIfDown) := goodIn_app (goodIn_of _ (by decide +kernel)) ggX2_end_X2_refuseIfDown
set_option maxRecDepth 20000 in
theorem ggX2_end_X2_roomFor : GoodIn wsX2_end wsX2_roomFor := goodIn_r _ [21, 22, 3, 23, 24, 25, 26, 70, 71, 72, 73, 74, 75, 76, 77, 78, 79, 80, 81, 82] (by decide +kernel) (by decide +kernel)
set_option maxRecDepth 20000 in
theorem gX2_end_X2_roomFor : GoodIn wsX2_end (wsV RX2 72 RX2 yX2_roomFor wsX2_roomFor) := goodIn_app (goodIn_of _ (by decide +kernel)) ggX2_end_X2_roomFor
set_option maxRecDepth 20000 in
theorem ggX2_end_X1_compose : GoodIn wsX2_end wsX1_compose := goodIn_r _ [31, 32, 33, 34, 30, 35, 36, 37, 38, 39, 40, 41, 42, 43, 44, 45, 46, 47, 48, 49, 50, 51, 52, 53, 54, 55, 56, 57, 58, 59, 60, 61, 62, 63, 64, 65, 66, 67, 68, 69, 83, 84] (by decide +kernel) (by decide +kernel)
set_option maxRecDepth 20000 in
theorem gX2_end_X1_compose : GoodIn wsX2_end (wsV RX2 79 RX1 yX1_compose wsX1_compose) := goodIn_app (goodIn_of _ (by decide +kernel)) ggX2_end_X1_compose
theorem dX2_end_0 : decode cX2_end 0 = .ok (.iload_n 1, 1) := by decide +kernel
theorem dX2_end_1 : decode cX2_end 1 = .ok (.invokestatic 58, 3) := by decide +kernel
theorem dX2_end_4 : decode cX2_end 4 = .ok (.ifCond .ne 13, 3) := by decide +kernel
theorem dX2_end_7 : decode cX2_end 7 = .ok (.new 62, 3) := by decide +kernel
theorem dX2_end_10 : decode cX2_end 10 = .ok (.dup, 1) := by decide +kernel
theorem dX2_end_11 : decode cX2_end 11 = .ok (.ldc 64, 2) := by decide +kernel
theorem dX2_end_13 : decode cX2_end 13 = .ok (.invokespecial 66, 3) := by decide +kernel
theorem dX2_end_16 : decode cX2_end 16 = .ok (.athrow, 1) := by decide +kernel
theorem dX2_end_17 : decode cX2_end 17 = .ok (.aload_n 0, 1) := by decide +kernel
theorem dX2_end_18 : decode cX2_end 18 = .ok (.invokevirtual 69, 3) := by decide +kernel
theorem dX2_end_21 : decode cX2_end 21 = .ok (.aload_n 0, 1) := by decide +kernel
theorem dX2_end_22 : decode cX2_end 22 = .ok (.iload_n 2, 1) := by decide +kernel
theorem dX2_end_23 : decode cX2_end 23 = .ok (.invokevirtual 72, 3) := by decide +kernel
theorem dX2_end_26 : decode cX2_end 26 = .ok (.ifCond .ne 5, 3) := by decide +kernel
theorem dX2_end_29 : decode cX2_end 29 = .ok (.iconst (-1), 1) := by decide +kernel
theorem dX2_end_30 : decode cX2_end 30 = .ok (.ireturn, 1) := by decide +kernel
theorem dX2_end_31 : decode cX2_end 31 = .ok (.aload_n 0, 1) := by decide +kernel
theorem dX2_end_32 : decode cX2_end 32 = .ok (.getfield 76, 3) := by decide +kernel
theorem dX2_end_35 : decode cX2_end 35 = .ok (.istore_n 3, 1) := by decide +kernel
theorem dX2_end_36 : decode cX2_end 36 = .ok (.aload_n 0, 1) := by decide +kernel
theorem dX2_end_37 : decode cX2_end 37 = .ok (.getfield 34, 3) := by decide +kernel
theorem dX2_end_40 : decode cX2_end 40 = .ok (.iload_n 3, 1) := by decide +kernel
theorem dX2_end_41 : decode cX2_end 41 = .ok (.iload_n 1, 1) := by decide +kernel
theorem dX2_end_42 : decode cX2_end 42 = .ok (.aload_n 0, 1) := by decide +kernel
theorem dX2_end_43 : decode cX2_end 43 = .ok (.getfield 40, 3) := by decide +kernel
theorem dX2_end_46 : decode cX2_end 46 = .ok (.aload_n 0, 1) := by decide +kernel
theorem dX2_end_47 : decode cX2_end 47 = .ok (.getfield 51, 3) := by decide +kernel
theorem dX2_end_50 : decode cX2_end 50 = .ok (.invokevirtual 79, 3) := by decide +kernel
theorem dX2_end_53 : decode cX2_end 53 = .ok (.aload_n 0, 1) := by decide +kernel
theorem dX2_end_54 : decode cX2_end 54 = .ok (.dup, 1) := by decide +kernel
theorem dX2_end_55 : decode cX2_end 55 = .ok (.getfield 76, 3) := by decide +kernel
theorem dX2_end_58 : decode cX2_end 58 = .ok (.iconst 1, 1) := by decide +kernel
theorem dX2_end_59 : decode cX2_end 59 = .ok (.iadd, 1) := by decide +kernel
theorem dX2_end_60 : decode cX2_end 60 = .ok (.putfield 76, 3) := by decide +kernel
theorem dX2_end_63 : decode cX2_end 63 = .ok (.aload_n 0, 1) := by decide +kernel
theorem dX2_end_64 : decode cX2_end 64 = .ok (.iconst 0, 1) := by decide +kernel
theorem dX2_end_65 : decode cX2_end 65 = .ok (.putfield 51, 3) := by decide +kernel
theorem dX2_end_68 : decode cX2_end 68 = .ok (.iload_n 3, 1) := by decide +kernel
theorem dX2_end_69 : decode cX2_end 69 = .ok (.ireturn, 1) := by decide +kernel
set_option maxRecDepth 20000 in
theorem ggX2_sync_X2_refuseIfDown : GoodIn wsX2_sync wsX2_refuseIfDown := goodIn_ca (goodIn_r _ [9, 10, 11, 12, 45, 46, 47, 48, 49, 50, 51, 52, 53, 54, 55, 56, 57] (by decide +kernel) (by decide +kernel)) (goodIn_sub (fun _ h => List.mem_cons_of_mem _ (List.mem_append_right _ h)) (by decide +kernel))
set_option maxRecDepth 20000 in
theorem gX2_sync_X2_refuseIfDown : GoodIn wsX2_sync (wsV RX2 69 RX2 yX2_refuseIfDown wsX2_refuseIfDown) := goodIn_app (goodIn_of _ (by decide +kernel)) ggX2_sync_X2_refuseIfDown
set_option maxRecDepth 20000 in
theorem ggX2_sync_X2_writeWhole : GoodIn wsX2_sync wsX2_writeWhole := goodIn_r _ [16, 17, 18, 19, 20, 21, 22, 23, 24, 25, 26, 27, 28, 29, 30, 31, 32, 33, 34, 35, 36, 37, 38, 39, 45, 46, 47, 48, 49, 50, 51, 52, 53, 54, 55, 56, 57, 58, 59] (by decide +kernel) (by decide +kernel)
set_option maxRecDepth 20000 in
theorem gX2_sync_X2_writeWhole : GoodIn wsX2_sync (wsV RX2 86 RX2 yX2_writeWhole wsX2_writeWhole) := goodIn_app (goodIn_of _ (by decide +kernel)) ggX2_sync_X2_writeWhole
set_option maxRecDepth 20000 in
theorem ggX2_sync_X2_goDown : GoodIn wsX2_sync wsX2_goDown := goodIn_r _ [43, 12, 18, 1, 2, 44, 45, 46, 47, 48, 49, 50, 51, 52, 53, 54, 55, 56, 57] (by decide +kernel) (by decide +kernel)
set_option maxRecDepth 20000 in
theorem gX2_sync_X2_goDown : GoodIn wsX2_sync (wsV RX2 90 RX2 yX2_goDown wsX2_goDown) := goodIn_app (goodIn_of _ (by decide +kernel)) ggX2_sync_X2_goDown
theorem dX2_sync_0 : decode cX2_sync 0 = .ok (.aload_n 0, 1) := by decide +kernel
theorem dX2_sync_1 : decode cX2_sync 1 = .ok (.invokevirtual 69, 3) := by decide +kernel
theorem dX2_sync_4 : decode cX2_sync 4 = .ok (.aload_n 0, 1) := by decide +kernel
theorem dX2_sync_5 : decode cX2_sync 5 = .ok (.getfield 83, 3) := by decide +kernel
theorem dX2_sync_8 : decode cX2_sync 8 = .ok (.istore_n 1, 1) := by decide +kernel
theorem dX2_sync_9 : decode cX2_sync 9 = .ok (.iload_n 1, 1) := by decide +kernel
theorem dX2_sync_10 : decode cX2_sync 10 = .ok (.aload_n 0, 1) := by decide +kernel
theorem dX2_sync_11 : decode cX2_sync 11 = .ok (.getfield 76, 3) := by decide +kernel
theorem dX2_sync_14 : decode cX2_sync 14 = .ok (.if_icmp .ge 39, 3) := by decide +kernel
theorem dX2_sync_17 : decode cX2_sync 17 = .ok (.aload_n 0, 1) := by decide +kernel
theorem dX2_sync_18 : decode cX2_sync 18 = .ok (.aload_n 0, 1) := by decide +kernel
theorem dX2_sync_19 : decode cX2_sync 19 = .ok (.getfield 27, 3) := by decide +kernel
theorem dX2_sync_22 : decode cX2_sync 22 = .ok (.iload_n 1, 1) := by decide +kernel
theorem dX2_sync_23 : decode cX2_sync 23 = .ok (.invokevirtual 86, 3) := by decide +kernel
theorem dX2_sync_26 : decode cX2_sync 26 = .ok (.ifCond .eq 15, 3) := by decide +kernel
theorem dX2_sync_29 : decode cX2_sync 29 = .ok (.aload_n 0, 1) := by decide +kernel
theorem dX2_sync_30 : decode cX2_sync 30 = .ok (.aload_n 0, 1) := by decide +kernel
theorem dX2_sync_31 : decode cX2_sync 31 = .ok (.getfield 31, 3) := by decide +kernel
theorem dX2_sync_34 : decode cX2_sync 34 = .ok (.iload_n 1, 1) := by decide +kernel
theorem dX2_sync_35 : decode cX2_sync 35 = .ok (.invokevirtual 86, 3) := by decide +kernel
theorem dX2_sync_38 : decode cX2_sync 38 = .ok (.ifCond .ne 9, 3) := by decide +kernel
theorem dX2_sync_41 : decode cX2_sync 41 = .ok (.aload_n 0, 1) := by decide +kernel
theorem dX2_sync_42 : decode cX2_sync 42 = .ok (.invokevirtual 90, 3) := by decide +kernel
theorem dX2_sync_45 : decode cX2_sync 45 = .ok (.iconst (-1), 1) := by decide +kernel
theorem dX2_sync_46 : decode cX2_sync 46 = .ok (.ireturn, 1) := by decide +kernel
theorem dX2_sync_47 : decode cX2_sync 47 = .ok (.iinc 1 1, 3) := by decide +kernel
theorem dX2_sync_50 : decode cX2_sync 50 = .ok (.goto (-41), 3) := by decide +kernel
theorem dX2_sync_53 : decode cX2_sync 53 = .ok (.aload_n 0, 1) := by decide +kernel
theorem dX2_sync_54 : decode cX2_sync 54 = .ok (.aload_n 0, 1) := by decide +kernel
theorem dX2_sync_55 : decode cX2_sync 55 = .ok (.getfield 76, 3) := by decide +kernel
theorem dX2_sync_58 : decode cX2_sync 58 = .ok (.putfield 83, 3) := by decide +kernel
theorem dX2_sync_61 : decode cX2_sync 61 = .ok (.aload_n 0, 1) := by decide +kernel
theorem dX2_sync_62 : decode cX2_sync 62 = .ok (.getfield 83, 3) := by decide +kernel
theorem dX2_sync_65 : decode cX2_sync 65 = .ok (.ireturn, 1) := by decide +kernel
theorem dX2_cut_0 : decode cX2_cut 0 = .ok (.aload_n 0, 1) := by decide +kernel
theorem dX2_cut_1 : decode cX2_cut 1 = .ok (.getfield 47, 3) := by decide +kernel
theorem dX2_cut_4 : decode cX2_cut 4 = .ok (.ifCond .ne 18, 3) := by decide +kernel
theorem dX2_cut_7 : decode cX2_cut 7 = .ok (.iload_n 1, 1) := by decide +kernel
theorem dX2_cut_8 : decode cX2_cut 8 = .ok (.iconst (-1), 1) := by decide +kernel
theorem dX2_cut_9 : decode cX2_cut 9 = .ok (.if_icmp .lt 13, 3) := by decide +kernel
theorem dX2_cut_12 : decode cX2_cut 12 = .ok (.iload_n 2, 1) := by decide +kernel
theorem dX2_cut_13 : decode cX2_cut 13 = .ok (.ifCond .lt 9, 3) := by decide +kernel
theorem dX2_cut_16 : decode cX2_cut 16 = .ok (.iload_n 2, 1) := by decide +kernel
theorem dX2_cut_17 : decode cX2_cut 17 = .ok (.bipush 64, 2) := by decide +kernel
theorem dX2_cut_19 : decode cX2_cut 19 = .ok (.if_icmp .lt 5, 3) := by decide +kernel
theorem dX2_cut_22 : decode cX2_cut 22 = .ok (.iconst 0, 1) := by decide +kernel
theorem dX2_cut_23 : decode cX2_cut 23 = .ok (.ireturn, 1) := by decide +kernel
theorem dX2_cut_24 : decode cX2_cut 24 = .ok (.aload_n 0, 1) := by decide +kernel
theorem dX2_cut_25 : decode cX2_cut 25 = .ok (.iload_n 1, 1) := by decide +kernel
theorem dX2_cut_26 : decode cX2_cut 26 = .ok (.putfield 44, 3) := by decide +kernel
theorem dX2_cut_29 : decode cX2_cut 29 = .ok (.aload_n 0, 1) := by decide +kernel
theorem dX2_cut_30 : decode cX2_cut 30 = .ok (.iload_n 2, 1) := by decide +kernel
theorem dX2_cut_31 : decode cX2_cut 31 = .ok (.putfield 93, 3) := by decide +kernel
theorem dX2_cut_34 : decode cX2_cut 34 = .ok (.iconst 1, 1) := by decide +kernel
theorem dX2_cut_35 : decode cX2_cut 35 = .ok (.ireturn, 1) := by decide +kernel
set_option maxRecDepth 20000 in
theorem ggX2_start_X2_findRow : GoodIn wsX2_start wsX2_findRow := goodIn_r _ [10, 11, 12, 13, 14, 15, 16, 17, 18, 19, 20, 21, 22, 23, 24, 25, 26, 27, 28, 29, 30, 31, 32, 33, 34, 35, 36, 37, 38, 9, 39, 40, 41, 42, 43, 44, 45, 46, 47, 48, 49, 50, 51, 52, 53, 54, 55, 56, 57, 58, 59, 60, 61, 1, 62, 63, 64, 65, 66, 67, 68, 69, 70, 71, 72, 73, 74, 75, 76, 77, 78, 79, 80, 81, 82, 83, 84] (by decide +kernel) (by decide +kernel)
set_option maxRecDepth 20000 in
theorem gX2_start_X2_findRow : GoodIn wsX2_start (wsV RX2 99 RX2 yX2_findRow wsX2_findRow) := goodIn_app (goodIn_of _ (by decide +kernel)) ggX2_start_X2_findRow
theorem dX2_start_0 : decode cX2_start 0 = .ok (.aload_n 0, 1) := by decide +kernel
theorem dX2_start_1 : decode cX2_start 1 = .ok (.iconst 0, 1) := by decide +kernel
theorem dX2_start_2 : decode cX2_start 2 = .ok (.putfield 96, 3) := by decide +kernel
theorem dX2_start_5 : decode cX2_start 5 = .ok (.aload_n 0, 1) := by decide +kernel
theorem dX2_start_6 : decode cX2_start 6 = .ok (.iconst 0, 1) := by decide +kernel
theorem dX2_start_7 : decode cX2_start 7 = .ok (.putfield 76, 3) := by decide +kernel
theorem dX2_start_10 : decode cX2_start 10 = .ok (.aload_n 0, 1) := by decide +kernel
theorem dX2_start_11 : decode cX2_start 11 = .ok (.getfield 76, 3) := by decide +kernel
theorem dX2_start_14 : decode cX2_start 14 = .ok (.aload_n 0, 1) := by decide +kernel
theorem dX2_start_15 : decode cX2_start 15 = .ok (.getfield 18, 3) := by decide +kernel
theorem dX2_start_18 : decode cX2_start 18 = .ok (.if_icmp .ge 27, 3) := by decide +kernel
theorem dX2_start_21 : decode cX2_start 21 = .ok (.aload_n 0, 1) := by decide +kernel
theorem dX2_start_22 : decode cX2_start 22 = .ok (.aload_n 0, 1) := by decide +kernel
theorem dX2_start_23 : decode cX2_start 23 = .ok (.getfield 76, 3) := by decide +kernel
theorem dX2_start_26 : decode cX2_start 26 = .ok (.invokevirtual 99, 3) := by decide +kernel
theorem dX2_start_29 : decode cX2_start 29 = .ok (.ifCond .eq 16, 3) := by decide +kernel
theorem dX2_start_32 : decode cX2_start 32 = .ok (.aload_n 0, 1) := by decide +kernel
theorem dX2_start_33 : decode cX2_start 33 = .ok (.dup, 1) := by decide +kernel
theorem dX2_start_34 : decode cX2_start 34 = .ok (.getfield 76, 3) := by decide +kernel
theorem dX2_start_37 : decode cX2_start 37 = .ok (.iconst 1, 1) := by decide +kernel
theorem dX2_start_38 : decode cX2_start 38 = .ok (.iadd, 1) := by decide +kernel
theorem dX2_start_39 : decode cX2_start 39 = .ok (.putfield 76, 3) := by decide +kernel
theorem dX2_start_42 : decode cX2_start 42 = .ok (.goto (-32), 3) := by decide +kernel
theorem dX2_start_45 : decode cX2_start 45 = .ok (.aload_n 0, 1) := by decide +kernel
theorem dX2_start_46 : decode cX2_start 46 = .ok (.aload_n 0, 1) := by decide +kernel
theorem dX2_start_47 : decode cX2_start 47 = .ok (.getfield 76, 3) := by decide +kernel
theorem dX2_start_50 : decode cX2_start 50 = .ok (.putfield 83, 3) := by decide +kernel
theorem dX2_start_53 : decode cX2_start 53 = .ok (.aload_n 0, 1) := by decide +kernel
theorem dX2_start_54 : decode cX2_start 54 = .ok (.iconst 0, 1) := by decide +kernel
theorem dX2_start_55 : decode cX2_start 55 = .ok (.putfield 47, 3) := by decide +kernel
theorem dX2_start_58 : decode cX2_start 58 = .ok (.aload_n 0, 1) := by decide +kernel
theorem dX2_start_59 : decode cX2_start 59 = .ok (.getfield 76, 3) := by decide +kernel
theorem dX2_start_62 : decode cX2_start 62 = .ok (.ireturn, 1) := by decide +kernel
set_option maxRecDepth 20000 in
theorem ggX2_poke_X2_isCopy : GoodIn wsX2_poke wsX2_isCopy := goodIn_r _ [4] (by decide +kernel) (by decide +kernel)
set_option maxRecDepth 20000 in
theorem gX2_poke_X2_isCopy : GoodIn wsX2_poke (va_wsS RX2 102 yX2_isCopy wsX2_isCopy) := goodIn_app (goodIn_of _ (by decide +kernel)) ggX2_poke_X2_isCopy
set_option maxRecDepth 20000 in
theorem ggX2_poke_X2_isPlace : GoodIn wsX2_poke wsX2_isPlace := goodIn_r _ [8, 9, 27, 28, 29, 30, 31, 32, 33, 34, 35, 36, 37, 38, 39] (by decide +kernel) (by decide +kernel)
set_option maxRecDepth 20000 in
theorem gX2_poke_X2_isPlace : GoodIn wsX2_poke (wsV RX2 105 RX2 yX2_isPlace wsX2_isPlace) := goodIn_app (goodIn_of _ (by decide +kernel)) ggX2_poke_X2_isPlace
set_option maxRecDepth 20000 in
theorem ggX2_poke_X2_copyOf : GoodIn wsX2_poke wsX2_copyOf := goodIn_r _ [13, 14, 15, 27, 28, 29, 30, 31, 32, 33, 34, 35, 36, 37, 38, 39] (by decide +kernel) (by decide +kernel)
set_option maxRecDepth 20000 in
theorem gX2_poke_X2_copyOf : GoodIn wsX2_poke (wsV RX2 108 RX2 yX2_copyOf wsX2_copyOf) := goodIn_app (goodIn_of _ (by decide +kernel)) ggX2_poke_X2_copyOf
set_option maxRecDepth 20000 in
theorem ggX2_poke_X0_get : GoodIn wsX2_poke wsX0_get := goodIn_r _ [20, 21, 40] (by decide +kernel) (by decide +kernel)
set_option maxRecDepth 20000 in
theorem gX2_poke_X0_get : GoodIn wsX2_poke (wsV RX2 115 RX0 yX0_get wsX0_get) := goodIn_app (goodIn_of _ (by decide +kernel)) ggX2_poke_X0_get
set_option maxRecDepth 20000 in
theorem ggX2_poke_X0_set : GoodIn wsX2_poke wsX0_set := goodIn_r _ [25, 21, 40] (by decide +kernel) (by decide +kernel)
set_option maxRecDepth 20000 in
theorem gX2_poke_X0_set : GoodIn wsX2_poke (wsV RX2 54 RX0 yX0_set wsX0_set) := goodIn_app (goodIn_of _ (by decide +kernel)) ggX2_poke_X0_set
theorem dX2_poke_0 : decode cX2_poke 0 = .ok (.iload_n 1, 1) := by decide +kernel
theorem dX2_poke_1 : decode cX2_poke 1 = .ok (.invokestatic 102, 3) := by decide +kernel
theorem dX2_poke_4 : decode cX2_poke 4 = .ok (.ifCond .eq 23, 3) := by decide +kernel
theorem dX2_poke_7 : decode cX2_poke 7 = .ok (.aload_n 0, 1) := by decide +kernel
theorem dX2_poke_8 : decode cX2_poke 8 = .ok (.iload_n 2, 1) := by decide +kernel
theorem dX2_poke_9 : decode cX2_poke 9 = .ok (.invokevirtual 105, 3) := by decide +kernel
theorem dX2_poke_12 : decode cX2_poke 12 = .ok (.ifCond .eq 15, 3) := by decide +kernel
theorem dX2_poke_15 : decode cX2_poke 15 = .ok (.iload_n 3, 1) := by decide +kernel
theorem dX2_poke_16 : decode cX2_poke 16 = .ok (.iconst 1, 1) := by decide +kernel
theorem dX2_poke_17 : decode cX2_poke 17 = .ok (.if_icmp .lt 10, 3) := by decide +kernel
theorem dX2_poke_20 : decode cX2_poke 20 = .ok (.iload_n 3, 1) := by decide +kernel
theorem dX2_poke_21 : decode cX2_poke 21 = .ok (.sipush 255, 3) := by decide +kernel
theorem dX2_poke_24 : decode cX2_poke 24 = .ok (.if_icmp .le 5, 3) := by decide +kernel
theorem dX2_poke_27 : decode cX2_poke 27 = .ok (.iconst 0, 1) := by decide +kernel
theorem dX2_poke_28 : decode cX2_poke 28 = .ok (.ireturn, 1) := by decide +kernel
theorem dX2_poke_29 : decode cX2_poke 29 = .ok (.aload_n 0, 1) := by decide +kernel
theorem dX2_poke_30 : decode cX2_poke 30 = .ok (.iload_n 1, 1) := by decide +kernel
theorem dX2_poke_31 : decode cX2_poke 31 = .ok (.invokevirtual 108, 3) := by decide +kernel
theorem dX2_poke_34 : decode cX2_poke 34 = .ok (.getfield 112, 3) := by decide +kernel
theorem dX2_poke_37 : decode cX2_poke 37 = .ok (.astore 4, 2) := by decide +kernel
theorem dX2_poke_39 : decode cX2_poke 39 = .ok (.aload 4, 2) := by decide +kernel
theorem dX2_poke_41 : decode cX2_poke 41 = .ok (.iload_n 2, 1) := by decide +kernel
theorem dX2_poke_42 : decode cX2_poke 42 = .ok (.aload 4, 2) := by decide +kernel
theorem dX2_poke_44 : decode cX2_poke 44 = .ok (.iload_n 2, 1) := by decide +kernel
theorem dX2_poke_45 : decode cX2_poke 45 = .ok (.invokevirtual 115, 3) := by decide +kernel
theorem dX2_poke_48 : decode cX2_poke 48 = .ok (.iload_n 3, 1) := by decide +kernel
theorem dX2_poke_49 : decode cX2_poke 49 = .ok (.ixor, 1) := by decide +kernel
theorem dX2_poke_50 : decode cX2_poke 50 = .ok (.invokevirtual 54, 3) := by decide +kernel
theorem dX2_poke_53 : decode cX2_poke 53 = .ok (.iconst 1, 1) := by decide +kernel
theorem dX2_poke_54 : decode cX2_poke 54 = .ok (.ireturn, 1) := by decide +kernel
set_option maxRecDepth 20000 in
theorem ggX2_disk_X2_isCopy : GoodIn wsX2_disk wsX2_isCopy := goodIn_of _ (by decide +kernel)
set_option maxRecDepth 20000 in
theorem gX2_disk_X2_isCopy : GoodIn wsX2_disk (va_wsS RX2 102 yX2_isCopy wsX2_isCopy) := goodIn_app (goodIn_of _ (by decide +kernel)) ggX2_disk_X2_isCopy
set_option maxRecDepth 20000 in
theorem ggX2_disk_X2_isPlace : GoodIn wsX2_disk wsX2_isPlace := goodIn_of _ (by decide +kernel)
set_option maxRecDepth 20000 in
theorem gX2_disk_X2_isPlace : GoodIn wsX2_disk (wsV RX2 105 RX2 yX2_isPlace wsX2_isPlace) := goodIn_app (goodIn_of _ (by decide +kernel)) ggX2_disk_X2_isPlace
set_option maxRecDepth 20000 in
theorem ggX2_disk_X2_copyOf : GoodIn wsX2_disk wsX2_copyOf := goodIn_of _ (by decide +kernel)
set_option maxRecDepth 20000 in
theorem gX2_disk_X2_copyOf : GoodIn wsX2_disk (wsV RX2 108 RX2 yX2_copyOf wsX2_copyOf) := goodIn_app (goodIn_of _ (by decide +kernel)) ggX2_disk_X2_copyOf
set_option maxRecDepth 20000 in
theorem ggX2_disk_X0_get : GoodIn wsX2_disk wsX0_get := goodIn_of _ (by decide +kernel)
set_option maxRecDepth 20000 in
theorem gX2_disk_X0_get : GoodIn wsX2_disk (wsV RX2 115 RX0 yX0_get wsX0_get) := goodIn_app (goodIn_of _ (by decide +kernel)) ggX2_disk_X0_get
theorem dX2_disk_0 : decode cX2_disk 0 = .ok (.iload_n 1, 1) := by decide +kernel
theorem dX2_disk_1 : decode cX2_disk 1 = .ok (.invokestatic 102, 3) := by decide +kernel
theorem dX2_disk_4 : decode cX2_disk 4 = .ok (.ifCond .ne 13, 3) := by decide +kernel
theorem dX2_disk_7 : decode cX2_disk 7 = .ok (.new 62, 3) := by decide +kernel
theorem dX2_disk_10 : decode cX2_disk 10 = .ok (.dup, 1) := by decide +kernel
theorem dX2_disk_11 : decode cX2_disk 11 = .ok (.ldc 119, 2) := by decide +kernel
theorem dX2_disk_13 : decode cX2_disk 13 = .ok (.invokespecial 66, 3) := by decide +kernel
theorem dX2_disk_16 : decode cX2_disk 16 = .ok (.athrow, 1) := by decide +kernel
theorem dX2_disk_17 : decode cX2_disk 17 = .ok (.aload_n 0, 1) := by decide +kernel
theorem dX2_disk_18 : decode cX2_disk 18 = .ok (.iload_n 2, 1) := by decide +kernel
theorem dX2_disk_19 : decode cX2_disk 19 = .ok (.invokevirtual 105, 3) := by decide +kernel
theorem dX2_disk_22 : decode cX2_disk 22 = .ok (.ifCond .ne 13, 3) := by decide +kernel
theorem dX2_disk_25 : decode cX2_disk 25 = .ok (.new 121, 3) := by decide +kernel
theorem dX2_disk_28 : decode cX2_disk 28 = .ok (.dup, 1) := by decide +kernel
theorem dX2_disk_29 : decode cX2_disk 29 = .ok (.ldc 123, 2) := by decide +kernel
theorem dX2_disk_31 : decode cX2_disk 31 = .ok (.invokespecial 125, 3) := by decide +kernel
theorem dX2_disk_34 : decode cX2_disk 34 = .ok (.athrow, 1) := by decide +kernel
theorem dX2_disk_35 : decode cX2_disk 35 = .ok (.aload_n 0, 1) := by decide +kernel
theorem dX2_disk_36 : decode cX2_disk 36 = .ok (.iload_n 1, 1) := by decide +kernel
theorem dX2_disk_37 : decode cX2_disk 37 = .ok (.invokevirtual 108, 3) := by decide +kernel
theorem dX2_disk_40 : decode cX2_disk 40 = .ok (.getfield 112, 3) := by decide +kernel
theorem dX2_disk_43 : decode cX2_disk 43 = .ok (.iload_n 2, 1) := by decide +kernel
theorem dX2_disk_44 : decode cX2_disk 44 = .ok (.invokevirtual 115, 3) := by decide +kernel
theorem dX2_disk_47 : decode cX2_disk 47 = .ok (.ireturn, 1) := by decide +kernel
set_option maxRecDepth 20000 in
theorem ggX2_at_X2_refuseIfDown : GoodIn wsX2_at wsX2_refuseIfDown := goodIn_of _ (by decide +kernel)
set_option maxRecDepth 20000 in
theorem gX2_at_X2_refuseIfDown : GoodIn wsX2_at (wsV RX2 69 RX2 yX2_refuseIfDown wsX2_refuseIfDown) := goodIn_app (goodIn_of _ (by decide +kernel)) ggX2_at_X2_refuseIfDown
set_option maxRecDepth 20000 in
theorem ggX2_at_X2_isRow : GoodIn wsX2_at wsX2_isRow := goodIn_of _ (by decide +kernel)
set_option maxRecDepth 20000 in
theorem gX2_at_X2_isRow : GoodIn wsX2_at (wsV RX2 126 RX2 yX2_isRow wsX2_isRow) := goodIn_app (goodIn_of _ (by decide +kernel)) ggX2_at_X2_isRow
set_option maxRecDepth 20000 in
theorem ggX2_at_X1_length : GoodIn wsX2_at wsX1_length := goodIn_of _ (by decide +kernel)
set_option maxRecDepth 20000 in
theorem gX2_at_X1_length : GoodIn wsX2_at (wsV RX2 134 RX1 yX1_length wsX1_length) := goodIn_app (goodIn_of _ (by decide +kernel)) ggX2_at_X1_length
set_option maxRecDepth 20000 in
theorem ggX2_at_X1_content : GoodIn wsX2_at wsX1_content := goodIn_of _ (by decide +kernel)
set_option maxRecDepth 20000 in
theorem gX2_at_X1_content : GoodIn wsX2_at (wsV RX2 139 RX1 yX1_content wsX1_content) := goodIn_app (goodIn_of _ (by decide +kernel)) ggX2_at_X1_content
theorem dX2_at_0 : decode cX2_at 0 = .ok (.aload_n 0, 1) := by decide +kernel
theorem dX2_at_1 : decode cX2_at 1 = .ok (.invokevirtual 69, 3) := by decide +kernel
theorem dX2_at_4 : decode cX2_at 4 = .ok (.aload_n 0, 1) := by decide +kernel
theorem dX2_at_5 : decode cX2_at 5 = .ok (.iload_n 1, 1) := by decide +kernel
theorem dX2_at_6 : decode cX2_at 6 = .ok (.invokevirtual 126, 3) := by decide +kernel
theorem dX2_at_9 : decode cX2_at 9 = .ok (.ifCond .ne 13, 3) := by decide +kernel
theorem dX2_at_12 : decode cX2_at 12 = .ok (.new 129, 3) := by decide +kernel
theorem dX2_at_15 : decode cX2_at 15 = .ok (.dup, 1) := by decide +kernel
theorem dX2_at_16 : decode cX2_at 16 = .ok (.ldc 131, 2) := by decide +kernel
theorem dX2_at_18 : decode cX2_at 18 = .ok (.invokespecial 133, 3) := by decide +kernel
theorem dX2_at_21 : decode cX2_at 21 = .ok (.athrow, 1) := by decide +kernel
theorem dX2_at_22 : decode cX2_at 22 = .ok (.iload_n 2, 1) := by decide +kernel
theorem dX2_at_23 : decode cX2_at 23 = .ok (.ifCond .lt 15, 3) := by decide +kernel
theorem dX2_at_26 : decode cX2_at 26 = .ok (.iload_n 2, 1) := by decide +kernel
theorem dX2_at_27 : decode cX2_at 27 = .ok (.aload_n 0, 1) := by decide +kernel
theorem dX2_at_28 : decode cX2_at 28 = .ok (.getfield 34, 3) := by decide +kernel
theorem dX2_at_31 : decode cX2_at 31 = .ok (.iload_n 1, 1) := by decide +kernel
theorem dX2_at_32 : decode cX2_at 32 = .ok (.invokevirtual 134, 3) := by decide +kernel
theorem dX2_at_35 : decode cX2_at 35 = .ok (.if_icmp .lt 13, 3) := by decide +kernel
theorem dX2_at_38 : decode cX2_at 38 = .ok (.new 121, 3) := by decide +kernel
theorem dX2_at_41 : decode cX2_at 41 = .ok (.dup, 1) := by decide +kernel
theorem dX2_at_42 : decode cX2_at 42 = .ok (.ldc 137, 2) := by decide +kernel
theorem dX2_at_44 : decode cX2_at 44 = .ok (.invokespecial 125, 3) := by decide +kernel
theorem dX2_at_47 : decode cX2_at 47 = .ok (.athrow, 1) := by decide +kernel
theorem dX2_at_48 : decode cX2_at 48 = .ok (.aload_n 0, 1) := by decide +kernel
theorem dX2_at_49 : decode cX2_at 49 = .ok (.getfield 34, 3) := by decide +kernel
theorem dX2_at_52 : decode cX2_at 52 = .ok (.iload_n 1, 1) := by decide +kernel
theorem dX2_at_53 : decode cX2_at 53 = .ok (.iload_n 2, 1) := by decide +kernel
theorem dX2_at_54 : decode cX2_at 54 = .ok (.invokevirtual 139, 3) := by decide +kernel
theorem dX2_at_57 : decode cX2_at 57 = .ok (.ireturn, 1) := by decide +kernel
set_option maxRecDepth 20000 in
theorem ggX2_verify_X2_refuseIfDown : GoodIn wsX2_verify wsX2_refuseIfDown := goodIn_ca (goodIn_r _ [8, 9, 10, 11, 56, 57, 58, 59, 60, 61, 62, 63, 64, 65, 66, 67, 68] (by decide +kernel) (by decide +kernel)) (goodIn_sub (fun _ h => List.mem_cons_of_mem _ (List.mem_append_right _ h)) (by decide +kernel))
set_option maxRecDepth 20000 in
theorem gX2_verify_X2_refuseIfDown : GoodIn wsX2_verify (wsV RX2 69 RX2 yX2_refuseIfDown wsX2_refuseIfDown) := goodIn_app (goodIn_of _ (by decide +kernel)) ggX2_verify_X2_refuseIfDown
set_option maxRecDepth 20000 in
theorem ggX2_verify_X1_isRight : GoodIn wsX2_verify wsX1_isRight := goodIn_r _ [16, 17, 18, 19, 15, 20, 21, 22, 23, 24, 25, 26, 27, 28, 29, 30, 31, 32, 33, 34, 35, 36, 7, 37, 38, 39, 40, 41, 42, 43, 44, 45, 46, 47, 48, 49, 50, 51, 52, 53, 54, 55, 69, 70] (by decide +kernel) (by decide +kernel)
set_option maxRecDepth 20000 in
theorem gX2_verify_X1_isRight : GoodIn wsX2_verify (wsV RX2 142 RX1 yX1_isRight wsX1_isRight) := goodIn_app (goodIn_of _ (by decide +kernel)) ggX2_verify_X1_isRight
theorem dX2_verify_0 : decode cX2_verify 0 = .ok (.aload_n 0, 1) := by decide +kernel
theorem dX2_verify_1 : decode cX2_verify 1 = .ok (.invokevirtual 69, 3) := by decide +kernel
theorem dX2_verify_4 : decode cX2_verify 4 = .ok (.iconst 0, 1) := by decide +kernel
theorem dX2_verify_5 : decode cX2_verify 5 = .ok (.istore_n 1, 1) := by decide +kernel
theorem dX2_verify_6 : decode cX2_verify 6 = .ok (.iload_n 1, 1) := by decide +kernel
theorem dX2_verify_7 : decode cX2_verify 7 = .ok (.aload_n 0, 1) := by decide +kernel
theorem dX2_verify_8 : decode cX2_verify 8 = .ok (.getfield 83, 3) := by decide +kernel
theorem dX2_verify_11 : decode cX2_verify 11 = .ok (.if_icmp .ge 43, 3) := by decide +kernel
theorem dX2_verify_14 : decode cX2_verify 14 = .ok (.aload_n 0, 1) := by decide +kernel
theorem dX2_verify_15 : decode cX2_verify 15 = .ok (.getfield 27, 3) := by decide +kernel
theorem dX2_verify_18 : decode cX2_verify 18 = .ok (.iload_n 1, 1) := by decide +kernel
theorem dX2_verify_19 : decode cX2_verify 19 = .ok (.invokevirtual 142, 3) := by decide +kernel
theorem dX2_verify_22 : decode cX2_verify 22 = .ok (.ifCond .ne 9, 3) := by decide +kernel
theorem dX2_verify_25 : decode cX2_verify 25 = .ok (.iconst 2, 1) := by decide +kernel
theorem dX2_verify_26 : decode cX2_verify 26 = .ok (.iload_n 1, 1) := by decide +kernel
theorem dX2_verify_27 : decode cX2_verify 27 = .ok (.imul, 1) := by decide +kernel
theorem dX2_verify_28 : decode cX2_verify 28 = .ok (.iconst 1, 1) := by decide +kernel
theorem dX2_verify_29 : decode cX2_verify 29 = .ok (.iadd, 1) := by decide +kernel
theorem dX2_verify_30 : decode cX2_verify 30 = .ok (.ireturn, 1) := by decide +kernel
theorem dX2_verify_31 : decode cX2_verify 31 = .ok (.aload_n 0, 1) := by decide +kernel
theorem dX2_verify_32 : decode cX2_verify 32 = .ok (.getfield 31, 3) := by decide +kernel
theorem dX2_verify_35 : decode cX2_verify 35 = .ok (.iload_n 1, 1) := by decide +kernel
theorem dX2_verify_36 : decode cX2_verify 36 = .ok (.invokevirtual 142, 3) := by decide +kernel
theorem dX2_verify_39 : decode cX2_verify 39 = .ok (.ifCond .ne 9, 3) := by decide +kernel
theorem dX2_verify_42 : decode cX2_verify 42 = .ok (.iconst 2, 1) := by decide +kernel
theorem dX2_verify_43 : decode cX2_verify 43 = .ok (.iload_n 1, 1) := by decide +kernel
theorem dX2_verify_44 : decode cX2_verify 44 = .ok (.imul, 1) := by decide +kernel
theorem dX2_verify_45 : decode cX2_verify 45 = .ok (.iconst 2, 1) := by decide +kernel
theorem dX2_verify_46 : decode cX2_verify 46 = .ok (.iadd, 1) := by decide +kernel
theorem dX2_verify_47 : decode cX2_verify 47 = .ok (.ireturn, 1) := by decide +kernel
theorem dX2_verify_48 : decode cX2_verify 48 = .ok (.iinc 1 1, 3) := by decide +kernel
theorem dX2_verify_51 : decode cX2_verify 51 = .ok (.goto (-45), 3) := by decide +kernel
theorem dX2_verify_54 : decode cX2_verify 54 = .ok (.iconst 0, 1) := by decide +kernel
theorem dX2_verify_55 : decode cX2_verify 55 = .ok (.ireturn, 1) := by decide +kernel
set_option maxRecDepth 20000 in
theorem ggX2_extract_X2_refuseIfDown : GoodIn wsX2_extract wsX2_refuseIfDown := goodIn_of _ (by decide +kernel)
set_option maxRecDepth 20000 in
theorem gX2_extract_X2_refuseIfDown : GoodIn wsX2_extract (wsV RX2 69 RX2 yX2_refuseIfDown wsX2_refuseIfDown) := goodIn_app (goodIn_of _ (by decide +kernel)) ggX2_extract_X2_refuseIfDown
set_option maxRecDepth 20000 in
theorem ggX2_extract_X2_isRow : GoodIn wsX2_extract wsX2_isRow := goodIn_of _ (by decide +kernel)
set_option maxRecDepth 20000 in
theorem gX2_extract_X2_isRow : GoodIn wsX2_extract (wsV RX2 126 RX2 yX2_isRow wsX2_isRow) := goodIn_app (goodIn_of _ (by decide +kernel)) ggX2_extract_X2_isRow
set_option maxRecDepth 20000 in
theorem ggX2_extract_X1_sumBehindNumber : GoodIn wsX2_extract wsX1_sumBehindNumber := goodIn_of _ (by decide +kernel)
set_option maxRecDepth 20000 in
theorem gX2_extract_X1_sumBehindNumber : GoodIn wsX2_extract (wsV RX2 148 RX1 yX1_sumBehindNumber wsX1_sumBehindNumber) := goodIn_app (goodIn_of _ (by decide +kernel)) ggX2_extract_X1_sumBehindNumber
theorem dX2_extract_0 : decode cX2_extract 0 = .ok (.aload_n 0, 1) := by decide +kernel
theorem dX2_extract_1 : decode cX2_extract 1 = .ok (.invokevirtual 69, 3) := by decide +kernel
theorem dX2_extract_4 : decode cX2_extract 4 = .ok (.aload_n 0, 1) := by decide +kernel
theorem dX2_extract_5 : decode cX2_extract 5 = .ok (.iload_n 1, 1) := by decide +kernel
theorem dX2_extract_6 : decode cX2_extract 6 = .ok (.invokevirtual 126, 3) := by decide +kernel
theorem dX2_extract_9 : decode cX2_extract 9 = .ok (.ifCond .eq 16, 3) := by decide +kernel
theorem dX2_extract_12 : decode cX2_extract 12 = .ok (.aload_n 0, 1) := by decide +kernel
theorem dX2_extract_13 : decode cX2_extract 13 = .ok (.iload_n 2, 1) := by decide +kernel
theorem dX2_extract_14 : decode cX2_extract 14 = .ok (.invokevirtual 126, 3) := by decide +kernel
theorem dX2_extract_17 : decode cX2_extract 17 = .ok (.ifCond .eq 8, 3) := by decide +kernel
theorem dX2_extract_20 : decode cX2_extract 20 = .ok (.iload_n 1, 1) := by decide +kernel
theorem dX2_extract_21 : decode cX2_extract 21 = .ok (.iload_n 2, 1) := by decide +kernel
theorem dX2_extract_22 : decode cX2_extract 22 = .ok (.if_icmp .le 13, 3) := by decide +kernel
theorem dX2_extract_25 : decode cX2_extract 25 = .ok (.new 129, 3) := by decide +kernel
theorem dX2_extract_28 : decode cX2_extract 28 = .ok (.dup, 1) := by decide +kernel
theorem dX2_extract_29 : decode cX2_extract 29 = .ok (.ldc 145, 2) := by decide +kernel
theorem dX2_extract_31 : decode cX2_extract 31 = .ok (.invokespecial 133, 3) := by decide +kernel
theorem dX2_extract_34 : decode cX2_extract 34 = .ok (.athrow, 1) := by decide +kernel
theorem dX2_extract_35 : decode cX2_extract 35 = .ok (.ldc 147, 2) := by decide +kernel
theorem dX2_extract_37 : decode cX2_extract 37 = .ok (.istore_n 3, 1) := by decide +kernel
theorem dX2_extract_38 : decode cX2_extract 38 = .ok (.iload_n 1, 1) := by decide +kernel
theorem dX2_extract_39 : decode cX2_extract 39 = .ok (.istore 4, 2) := by decide +kernel
theorem dX2_extract_41 : decode cX2_extract 41 = .ok (.iload 4, 2) := by decide +kernel
theorem dX2_extract_43 : decode cX2_extract 43 = .ok (.iload_n 2, 1) := by decide +kernel
theorem dX2_extract_44 : decode cX2_extract 44 = .ok (.if_icmp .gt 20, 3) := by decide +kernel
theorem dX2_extract_47 : decode cX2_extract 47 = .ok (.aload_n 0, 1) := by decide +kernel
theorem dX2_extract_48 : decode cX2_extract 48 = .ok (.getfield 34, 3) := by decide +kernel
theorem dX2_extract_51 : decode cX2_extract 51 = .ok (.iload_n 3, 1) := by decide +kernel
theorem dX2_extract_52 : decode cX2_extract 52 = .ok (.iload 4, 2) := by decide +kernel
theorem dX2_extract_54 : decode cX2_extract 54 = .ok (.invokevirtual 148, 3) := by decide +kernel
theorem dX2_extract_57 : decode cX2_extract 57 = .ok (.istore_n 3, 1) := by decide +kernel
theorem dX2_extract_58 : decode cX2_extract 58 = .ok (.iinc 4 1, 3) := by decide +kernel
theorem dX2_extract_61 : decode cX2_extract 61 = .ok (.goto (-20), 3) := by decide +kernel
theorem dX2_extract_64 : decode cX2_extract 64 = .ok (.iload_n 3, 1) := by decide +kernel
theorem dX2_extract_65 : decode cX2_extract 65 = .ok (.ireturn, 1) := by decide +kernel
set_option maxRecDepth 20000 in
theorem ggX2_look_X2_refuseIfDown : GoodIn wsX2_look wsX2_refuseIfDown := goodIn_of _ (by decide +kernel)
set_option maxRecDepth 20000 in
theorem gX2_look_X2_refuseIfDown : GoodIn wsX2_look (wsV RX2 69 RX2 yX2_refuseIfDown wsX2_refuseIfDown) := goodIn_app (goodIn_of _ (by decide +kernel)) ggX2_look_X2_refuseIfDown
set_option maxRecDepth 20000 in
theorem ggX2_look_X2_isRow : GoodIn wsX2_look wsX2_isRow := goodIn_of _ (by decide +kernel)
set_option maxRecDepth 20000 in
theorem gX2_look_X2_isRow : GoodIn wsX2_look (wsV RX2 126 RX2 yX2_isRow wsX2_isRow) := goodIn_app (goodIn_of _ (by decide +kernel)) ggX2_look_X2_isRow
set_option maxRecDepth 20000 in
theorem ggX2_look_X1_kind : GoodIn wsX2_look wsX1_kind := goodIn_of _ (by decide +kernel)
set_option maxRecDepth 20000 in
theorem gX2_look_X1_kind : GoodIn wsX2_look (wsV RX2 151 RX1 yX1_kind wsX1_kind) := goodIn_app (goodIn_of _ (by decide +kernel)) ggX2_look_X1_kind
set_option maxRecDepth 20000 in
theorem ggX2_look_X1_length : GoodIn wsX2_look wsX1_length := goodIn_of _ (by decide +kernel)
set_option maxRecDepth 20000 in
theorem gX2_look_X1_length : GoodIn wsX2_look (wsV RX2 134 RX1 yX1_length wsX1_length) := goodIn_app (goodIn_of _ (by decide +kernel)) ggX2_look_X1_length
theorem dX2_look_0 : decode cX2_look 0 = .ok (.aload_n 0, 1) := by decide +kernel
theorem dX2_look_1 : decode cX2_look 1 = .ok (.invokevirtual 69, 3) := by decide +kernel
theorem dX2_look_4 : decode cX2_look 4 = .ok (.aload_n 0, 1) := by decide +kernel
theorem dX2_look_5 : decode cX2_look 5 = .ok (.iload_n 1, 1) := by decide +kernel
theorem dX2_look_6 : decode cX2_look 6 = .ok (.invokevirtual 126, 3) := by decide +kernel
theorem dX2_look_9 : decode cX2_look 9 = .ok (.ifCond .ne 13, 3) := by decide +kernel
theorem dX2_look_12 : decode cX2_look 12 = .ok (.new 129, 3) := by decide +kernel
theorem dX2_look_15 : decode cX2_look 15 = .ok (.dup, 1) := by decide +kernel
theorem dX2_look_16 : decode cX2_look 16 = .ok (.ldc 131, 2) := by decide +kernel
theorem dX2_look_18 : decode cX2_look 18 = .ok (.invokespecial 133, 3) := by decide +kernel
theorem dX2_look_21 : decode cX2_look 21 = .ok (.athrow, 1) := by decide +kernel
theorem dX2_look_22 : decode cX2_look 22 = .ok (.iload_n 2, 1) := by decide +kernel
theorem dX2_look_23 : decode cX2_look 23 = .ok (.tableswitch 57 0 2 #[25, 34, 43], 25) := by decide +kernel
theorem dX2_look_48 : decode cX2_look 48 = .ok (.aload_n 0, 1) := by decide +kernel
theorem dX2_look_49 : decode cX2_look 49 = .ok (.getfield 34, 3) := by decide +kernel
theorem dX2_look_52 : decode cX2_look 52 = .ok (.iload_n 1, 1) := by decide +kernel
theorem dX2_look_53 : decode cX2_look 53 = .ok (.invokevirtual 151, 3) := by decide +kernel
theorem dX2_look_56 : decode cX2_look 56 = .ok (.ireturn, 1) := by decide +kernel
theorem dX2_look_57 : decode cX2_look 57 = .ok (.aload_n 0, 1) := by decide +kernel
theorem dX2_look_58 : decode cX2_look 58 = .ok (.getfield 34, 3) := by decide +kernel
theorem dX2_look_61 : decode cX2_look 61 = .ok (.iload_n 1, 1) := by decide +kernel
theorem dX2_look_62 : decode cX2_look 62 = .ok (.invokevirtual 134, 3) := by decide +kernel
theorem dX2_look_65 : decode cX2_look 65 = .ok (.ireturn, 1) := by decide +kernel
theorem dX2_look_66 : decode cX2_look 66 = .ok (.iload_n 1, 1) := by decide +kernel
theorem dX2_look_67 : decode cX2_look 67 = .ok (.aload_n 0, 1) := by decide +kernel
theorem dX2_look_68 : decode cX2_look 68 = .ok (.getfield 83, 3) := by decide +kernel
theorem dX2_look_71 : decode cX2_look 71 = .ok (.if_icmp .ge 7, 3) := by decide +kernel
theorem dX2_look_74 : decode cX2_look 74 = .ok (.iconst 1, 1) := by decide +kernel
theorem dX2_look_75 : decode cX2_look 75 = .ok (.goto 4, 3) := by decide +kernel
theorem dX2_look_78 : decode cX2_look 78 = .ok (.iconst 0, 1) := by decide +kernel
theorem dX2_look_79 : decode cX2_look 79 = .ok (.ireturn, 1) := by decide +kernel
theorem dX2_look_80 : decode cX2_look 80 = .ok (.new 129, 3) := by decide +kernel
theorem dX2_look_83 : decode cX2_look 83 = .ok (.dup, 1) := by decide +kernel
theorem dX2_look_84 : decode cX2_look 84 = .ok (.ldc 154, 2) := by decide +kernel
theorem dX2_look_86 : decode cX2_look 86 = .ok (.invokespecial 133, 3) := by decide +kernel
theorem dX2_look_89 : decode cX2_look 89 = .ok (.athrow, 1) := by decide +kernel
set_option maxRecDepth 20000 in
theorem ggX2_count_X2_roomFor : GoodIn wsX2_count wsX2_roomFor := goodIn_r _ [12, 1, 3, 13, 14, 15, 16, 17, 18, 19, 20, 21, 22, 23, 24, 25, 26, 27, 28, 29] (by decide +kernel) (by decide +kernel)
set_option maxRecDepth 20000 in
theorem gX2_count_X2_roomFor : GoodIn wsX2_count (wsV RX2 72 RX2 yX2_roomFor wsX2_roomFor) := goodIn_app (goodIn_of _ (by decide +kernel)) ggX2_count_X2_roomFor
theorem dX2_count_0 : decode cX2_count 0 = .ok (.iload_n 1, 1) := by decide +kernel
theorem dX2_count_1 : decode cX2_count 1 = .ok (.tableswitch 118 0 7 #[47, 52, 68, 73, 78, 91, 96, 101], 47) := by decide +kernel
theorem dX2_count_48 : decode cX2_count 48 = .ok (.aload_n 0, 1) := by decide +kernel
theorem dX2_count_49 : decode cX2_count 49 = .ok (.getfield 18, 3) := by decide +kernel
theorem dX2_count_52 : decode cX2_count 52 = .ok (.ireturn, 1) := by decide +kernel
theorem dX2_count_53 : decode cX2_count 53 = .ok (.aload_n 0, 1) := by decide +kernel
theorem dX2_count_54 : decode cX2_count 54 = .ok (.getfield 47, 3) := by decide +kernel
theorem dX2_count_57 : decode cX2_count 57 = .ok (.ifCond .eq 7, 3) := by decide +kernel
theorem dX2_count_60 : decode cX2_count 60 = .ok (.iconst (-1), 1) := by decide +kernel
theorem dX2_count_61 : decode cX2_count 61 = .ok (.goto 7, 3) := by decide +kernel
theorem dX2_count_64 : decode cX2_count 64 = .ok (.aload_n 0, 1) := by decide +kernel
theorem dX2_count_65 : decode cX2_count 65 = .ok (.getfield 76, 3) := by decide +kernel
theorem dX2_count_68 : decode cX2_count 68 = .ok (.ireturn, 1) := by decide +kernel
theorem dX2_count_69 : decode cX2_count 69 = .ok (.aload_n 0, 1) := by decide +kernel
theorem dX2_count_70 : decode cX2_count 70 = .ok (.getfield 83, 3) := by decide +kernel
theorem dX2_count_73 : decode cX2_count 73 = .ok (.ireturn, 1) := by decide +kernel
theorem dX2_count_74 : decode cX2_count 74 = .ok (.aload_n 0, 1) := by decide +kernel
theorem dX2_count_75 : decode cX2_count 75 = .ok (.getfield 51, 3) := by decide +kernel
theorem dX2_count_78 : decode cX2_count 78 = .ok (.ireturn, 1) := by decide +kernel
theorem dX2_count_79 : decode cX2_count 79 = .ok (.aload_n 0, 1) := by decide +kernel
theorem dX2_count_80 : decode cX2_count 80 = .ok (.getfield 47, 3) := by decide +kernel
theorem dX2_count_83 : decode cX2_count 83 = .ok (.ifCond .eq 7, 3) := by decide +kernel
theorem dX2_count_86 : decode cX2_count 86 = .ok (.iconst 1, 1) := by decide +kernel
theorem dX2_count_87 : decode cX2_count 87 = .ok (.goto 4, 3) := by decide +kernel
theorem dX2_count_90 : decode cX2_count 90 = .ok (.iconst 0, 1) := by decide +kernel
theorem dX2_count_91 : decode cX2_count 91 = .ok (.ireturn, 1) := by decide +kernel
theorem dX2_count_92 : decode cX2_count 92 = .ok (.aload_n 0, 1) := by decide +kernel
theorem dX2_count_93 : decode cX2_count 93 = .ok (.getfield 96, 3) := by decide +kernel
theorem dX2_count_96 : decode cX2_count 96 = .ok (.ireturn, 1) := by decide +kernel
theorem dX2_count_97 : decode cX2_count 97 = .ok (.aload_n 0, 1) := by decide +kernel
theorem dX2_count_98 : decode cX2_count 98 = .ok (.getfield 156, 3) := by decide +kernel
theorem dX2_count_101 : decode cX2_count 101 = .ok (.ireturn, 1) := by decide +kernel
theorem dX2_count_102 : decode cX2_count 102 = .ok (.aload_n 0, 1) := by decide +kernel
theorem dX2_count_103 : decode cX2_count 103 = .ok (.getfield 47, 3) := by decide +kernel
theorem dX2_count_106 : decode cX2_count 106 = .ok (.ifCond .eq 7, 3) := by decide +kernel
theorem dX2_count_109 : decode cX2_count 109 = .ok (.iconst 0, 1) := by decide +kernel
theorem dX2_count_110 : decode cX2_count 110 = .ok (.goto 8, 3) := by decide +kernel
theorem dX2_count_113 : decode cX2_count 113 = .ok (.aload_n 0, 1) := by decide +kernel
theorem dX2_count_114 : decode cX2_count 114 = .ok (.iconst 0, 1) := by decide +kernel
theorem dX2_count_115 : decode cX2_count 115 = .ok (.invokevirtual 72, 3) := by decide +kernel
theorem dX2_count_118 : decode cX2_count 118 = .ok (.ireturn, 1) := by decide +kernel
theorem dX2_count_119 : decode cX2_count 119 = .ok (.iconst (-1), 1) := by decide +kernel
theorem dX2_count_120 : decode cX2_count 120 = .ok (.ireturn, 1) := by decide +kernel
theorem dX2_refuseIfDown_0 : decode cX2_refuseIfDown 0 = .ok (.aload_n 0, 1) := by decide +kernel
theorem dX2_refuseIfDown_1 : decode cX2_refuseIfDown 1 = .ok (.getfield 47, 3) := by decide +kernel
theorem dX2_refuseIfDown_4 : decode cX2_refuseIfDown 4 = .ok (.ifCond .eq 13, 3) := by decide +kernel
theorem dX2_refuseIfDown_7 : decode cX2_refuseIfDown 7 = .ok (.new 159, 3) := by decide +kernel
theorem dX2_refuseIfDown_10 : decode cX2_refuseIfDown 10 = .ok (.dup, 1) := by decide +kernel
theorem dX2_refuseIfDown_11 : decode cX2_refuseIfDown 11 = .ok (.ldc 161, 2) := by decide +kernel
theorem dX2_refuseIfDown_13 : decode cX2_refuseIfDown 13 = .ok (.invokespecial 163, 3) := by decide +kernel
theorem dX2_refuseIfDown_16 : decode cX2_refuseIfDown 16 = .ok (.athrow, 1) := by decide +kernel
theorem dX2_refuseIfDown_17 : decode cX2_refuseIfDown 17 = .ok (.return_, 1) := by decide +kernel
theorem dX2_isKind_0 : decode cX2_isKind 0 = .ok (.iload_n 0, 1) := by decide +kernel
theorem dX2_isKind_1 : decode cX2_isKind 1 = .ok (.iconst 1, 1) := by decide +kernel
theorem dX2_isKind_2 : decode cX2_isKind 2 = .ok (.if_icmp .lt 13, 3) := by decide +kernel
theorem dX2_isKind_5 : decode cX2_isKind 5 = .ok (.iload_n 0, 1) := by decide +kernel
theorem dX2_isKind_6 : decode cX2_isKind 6 = .ok (.bipush 9, 2) := by decide +kernel
theorem dX2_isKind_8 : decode cX2_isKind 8 = .ok (.if_icmp .gt 7, 3) := by decide +kernel
theorem dX2_isKind_11 : decode cX2_isKind 11 = .ok (.iconst 1, 1) := by decide +kernel
theorem dX2_isKind_12 : decode cX2_isKind 12 = .ok (.goto 4, 3) := by decide +kernel
theorem dX2_isKind_15 : decode cX2_isKind 15 = .ok (.iconst 0, 1) := by decide +kernel
theorem dX2_isKind_16 : decode cX2_isKind 16 = .ok (.ireturn, 1) := by decide +kernel
theorem dX2_isCopy_0 : decode cX2_isCopy 0 = .ok (.iload_n 0, 1) := by decide +kernel
theorem dX2_isCopy_1 : decode cX2_isCopy 1 = .ok (.ifCond .eq 8, 3) := by decide +kernel
theorem dX2_isCopy_4 : decode cX2_isCopy 4 = .ok (.iload_n 0, 1) := by decide +kernel
theorem dX2_isCopy_5 : decode cX2_isCopy 5 = .ok (.iconst 1, 1) := by decide +kernel
theorem dX2_isCopy_6 : decode cX2_isCopy 6 = .ok (.if_icmp .ne 7, 3) := by decide +kernel
theorem dX2_isCopy_9 : decode cX2_isCopy 9 = .ok (.iconst 1, 1) := by decide +kernel
theorem dX2_isCopy_10 : decode cX2_isCopy 10 = .ok (.goto 4, 3) := by decide +kernel
theorem dX2_isCopy_13 : decode cX2_isCopy 13 = .ok (.iconst 0, 1) := by decide +kernel
theorem dX2_isCopy_14 : decode cX2_isCopy 14 = .ok (.ireturn, 1) := by decide +kernel
theorem dX2_isPlace_0 : decode cX2_isPlace 0 = .ok (.iload_n 1, 1) := by decide +kernel
theorem dX2_isPlace_1 : decode cX2_isPlace 1 = .ok (.ifCond .lt 18, 3) := by decide +kernel
theorem dX2_isPlace_4 : decode cX2_isPlace 4 = .ok (.iload_n 1, 1) := by decide +kernel
theorem dX2_isPlace_5 : decode cX2_isPlace 5 = .ok (.aload_n 0, 1) := by decide +kernel
theorem dX2_isPlace_6 : decode cX2_isPlace 6 = .ok (.getfield 18, 3) := by decide +kernel
theorem dX2_isPlace_9 : decode cX2_isPlace 9 = .ok (.bipush 64, 2) := by decide +kernel
theorem dX2_isPlace_11 : decode cX2_isPlace 11 = .ok (.imul, 1) := by decide +kernel
theorem dX2_isPlace_12 : decode cX2_isPlace 12 = .ok (.if_icmp .ge 7, 3) := by decide +kernel
theorem dX2_isPlace_15 : decode cX2_isPlace 15 = .ok (.iconst 1, 1) := by decide +kernel
theorem dX2_isPlace_16 : decode cX2_isPlace 16 = .ok (.goto 4, 3) := by decide +kernel
theorem dX2_isPlace_19 : decode cX2_isPlace 19 = .ok (.iconst 0, 1) := by decide +kernel
theorem dX2_isPlace_20 : decode cX2_isPlace 20 = .ok (.ireturn, 1) := by decide +kernel
theorem dX2_isRow_0 : decode cX2_isRow 0 = .ok (.iload_n 1, 1) := by decide +kernel
theorem dX2_isRow_1 : decode cX2_isRow 1 = .ok (.ifCond .lt 15, 3) := by decide +kernel
theorem dX2_isRow_4 : decode cX2_isRow 4 = .ok (.iload_n 1, 1) := by decide +kernel
theorem dX2_isRow_5 : decode cX2_isRow 5 = .ok (.aload_n 0, 1) := by decide +kernel
theorem dX2_isRow_6 : decode cX2_isRow 6 = .ok (.getfield 76, 3) := by decide +kernel
theorem dX2_isRow_9 : decode cX2_isRow 9 = .ok (.if_icmp .ge 7, 3) := by decide +kernel
theorem dX2_isRow_12 : decode cX2_isRow 12 = .ok (.iconst 1, 1) := by decide +kernel
theorem dX2_isRow_13 : decode cX2_isRow 13 = .ok (.goto 4, 3) := by decide +kernel
theorem dX2_isRow_16 : decode cX2_isRow 16 = .ok (.iconst 0, 1) := by decide +kernel
theorem dX2_isRow_17 : decode cX2_isRow 17 = .ok (.ireturn, 1) := by decide +kernel
theorem dX2_copyOf_0 : decode cX2_copyOf 0 = .ok (.iload_n 1, 1) := by decide +kernel
theorem dX2_copyOf_1 : decode cX2_copyOf 1 = .ok (.ifCond .ne 10, 3) := by decide +kernel
theorem dX2_copyOf_4 : decode cX2_copyOf 4 = .ok (.aload_n 0, 1) := by decide +kernel
theorem dX2_copyOf_5 : decode cX2_copyOf 5 = .ok (.getfield 27, 3) := by decide +kernel
theorem dX2_copyOf_8 : decode cX2_copyOf 8 = .ok (.goto 7, 3) := by decide +kernel
theorem dX2_copyOf_11 : decode cX2_copyOf 11 = .ok (.aload_n 0, 1) := by decide +kernel
theorem dX2_copyOf_12 : decode cX2_copyOf 12 = .ok (.getfield 31, 3) := by decide +kernel
theorem dX2_copyOf_15 : decode cX2_copyOf 15 = .ok (.areturn, 1) := by decide +kernel
theorem dX2_roomFor_0 : decode cX2_roomFor 0 = .ok (.iload_n 1, 1) := by decide +kernel
theorem dX2_roomFor_1 : decode cX2_roomFor 1 = .ok (.ifCond .eq 10, 3) := by decide +kernel
theorem dX2_roomFor_4 : decode cX2_roomFor 4 = .ok (.aload_n 0, 1) := by decide +kernel
theorem dX2_roomFor_5 : decode cX2_roomFor 5 = .ok (.getfield 18, 3) := by decide +kernel
theorem dX2_roomFor_8 : decode cX2_roomFor 8 = .ok (.goto 9, 3) := by decide +kernel
theorem dX2_roomFor_11 : decode cX2_roomFor 11 = .ok (.aload_n 0, 1) := by decide +kernel
theorem dX2_roomFor_12 : decode cX2_roomFor 12 = .ok (.getfield 18, 3) := by decide +kernel
theorem dX2_roomFor_15 : decode cX2_roomFor 15 = .ok (.iconst 2, 1) := by decide +kernel
theorem dX2_roomFor_16 : decode cX2_roomFor 16 = .ok (.isub, 1) := by decide +kernel
theorem dX2_roomFor_17 : decode cX2_roomFor 17 = .ok (.istore_n 2, 1) := by decide +kernel
theorem dX2_roomFor_18 : decode cX2_roomFor 18 = .ok (.iconst 0, 1) := by decide +kernel
theorem dX2_roomFor_19 : decode cX2_roomFor 19 = .ok (.iload_n 2, 1) := by decide +kernel
theorem dX2_roomFor_20 : decode cX2_roomFor 20 = .ok (.aload_n 0, 1) := by decide +kernel
theorem dX2_roomFor_21 : decode cX2_roomFor 21 = .ok (.getfield 76, 3) := by decide +kernel
theorem dX2_roomFor_24 : decode cX2_roomFor 24 = .ok (.isub, 1) := by decide +kernel
theorem dX2_roomFor_25 : decode cX2_roomFor 25 = .ok (.invokestatic 15, 3) := by decide +kernel
theorem dX2_roomFor_28 : decode cX2_roomFor 28 = .ok (.ireturn, 1) := by decide +kernel
set_option maxRecDepth 20000 in
theorem ggX2_writeWhole_X1_take : GoodIn wsX2_writeWhole wsX1_take := goodIn_r _ [9, 10, 11, 12, 8, 13, 14, 15, 16, 17, 18, 19, 20, 21, 22, 23, 37, 38] (by decide +kernel) (by decide +kernel)
set_option maxRecDepth 20000 in
theorem gX2_writeWhole_X1_take : GoodIn wsX2_writeWhole (wsV RX2 164 RX1 yX1_take wsX1_take) := goodIn_app (goodIn_of _ (by decide +kernel)) ggX2_writeWhole_X1_take
theorem dX2_writeWhole_0 : decode cX2_writeWhole 0 = .ok (.aload_n 0, 1) := by decide +kernel
theorem dX2_writeWhole_1 : decode cX2_writeWhole 1 = .ok (.dup, 1) := by decide +kernel
theorem dX2_writeWhole_2 : decode cX2_writeWhole 2 = .ok (.getfield 156, 3) := by decide +kernel
theorem dX2_writeWhole_5 : decode cX2_writeWhole 5 = .ok (.iconst 1, 1) := by decide +kernel
theorem dX2_writeWhole_6 : decode cX2_writeWhole 6 = .ok (.iadd, 1) := by decide +kernel
theorem dX2_writeWhole_7 : decode cX2_writeWhole 7 = .ok (.putfield 156, 3) := by decide +kernel
theorem dX2_writeWhole_10 : decode cX2_writeWhole 10 = .ok (.aload_n 0, 1) := by decide +kernel
theorem dX2_writeWhole_11 : decode cX2_writeWhole 11 = .ok (.getfield 44, 3) := by decide +kernel
theorem dX2_writeWhole_14 : decode cX2_writeWhole 14 = .ok (.ifCond .ne 18, 3) := by decide +kernel
theorem dX2_writeWhole_17 : decode cX2_writeWhole 17 = .ok (.aload_n 1, 1) := by decide +kernel
theorem dX2_writeWhole_18 : decode cX2_writeWhole 18 = .ok (.aload_n 0, 1) := by decide +kernel
theorem dX2_writeWhole_19 : decode cX2_writeWhole 19 = .ok (.getfield 34, 3) := by decide +kernel
theorem dX2_writeWhole_22 : decode cX2_writeWhole 22 = .ok (.iload_n 2, 1) := by decide +kernel
theorem dX2_writeWhole_23 : decode cX2_writeWhole 23 = .ok (.aload_n 0, 1) := by decide +kernel
theorem dX2_writeWhole_24 : decode cX2_writeWhole 24 = .ok (.getfield 93, 3) := by decide +kernel
theorem dX2_writeWhole_27 : decode cX2_writeWhole 27 = .ok (.invokevirtual 164, 3) := by decide +kernel
theorem dX2_writeWhole_30 : decode cX2_writeWhole 30 = .ok (.iconst 0, 1) := by decide +kernel
theorem dX2_writeWhole_31 : decode cX2_writeWhole 31 = .ok (.ireturn, 1) := by decide +kernel
theorem dX2_writeWhole_32 : decode cX2_writeWhole 32 = .ok (.aload_n 0, 1) := by decide +kernel
theorem dX2_writeWhole_33 : decode cX2_writeWhole 33 = .ok (.getfield 44, 3) := by decide +kernel
theorem dX2_writeWhole_36 : decode cX2_writeWhole 36 = .ok (.ifCond .le 13, 3) := by decide +kernel
theorem dX2_writeWhole_39 : decode cX2_writeWhole 39 = .ok (.aload_n 0, 1) := by decide +kernel
theorem dX2_writeWhole_40 : decode cX2_writeWhole 40 = .ok (.dup, 1) := by decide +kernel
theorem dX2_writeWhole_41 : decode cX2_writeWhole 41 = .ok (.getfield 44, 3) := by decide +kernel
theorem dX2_writeWhole_44 : decode cX2_writeWhole 44 = .ok (.iconst 1, 1) := by decide +kernel
theorem dX2_writeWhole_45 : decode cX2_writeWhole 45 = .ok (.isub, 1) := by decide +kernel
theorem dX2_writeWhole_46 : decode cX2_writeWhole 46 = .ok (.putfield 44, 3) := by decide +kernel
theorem dX2_writeWhole_49 : decode cX2_writeWhole 49 = .ok (.aload_n 1, 1) := by decide +kernel
theorem dX2_writeWhole_50 : decode cX2_writeWhole 50 = .ok (.aload_n 0, 1) := by decide +kernel
theorem dX2_writeWhole_51 : decode cX2_writeWhole 51 = .ok (.getfield 34, 3) := by decide +kernel
theorem dX2_writeWhole_54 : decode cX2_writeWhole 54 = .ok (.iload_n 2, 1) := by decide +kernel
theorem dX2_writeWhole_55 : decode cX2_writeWhole 55 = .ok (.bipush 64, 2) := by decide +kernel
theorem dX2_writeWhole_57 : decode cX2_writeWhole 57 = .ok (.invokevirtual 164, 3) := by decide +kernel
theorem dX2_writeWhole_60 : decode cX2_writeWhole 60 = .ok (.iconst 1, 1) := by decide +kernel
theorem dX2_writeWhole_61 : decode cX2_writeWhole 61 = .ok (.ireturn, 1) := by decide +kernel
theorem dX2_goDown_0 : decode cX2_goDown 0 = .ok (.aload_n 0, 1) := by decide +kernel
theorem dX2_goDown_1 : decode cX2_goDown 1 = .ok (.iconst 1, 1) := by decide +kernel
theorem dX2_goDown_2 : decode cX2_goDown 2 = .ok (.putfield 47, 3) := by decide +kernel
theorem dX2_goDown_5 : decode cX2_goDown 5 = .ok (.aload_n 0, 1) := by decide +kernel
theorem dX2_goDown_6 : decode cX2_goDown 6 = .ok (.iconst (-1), 1) := by decide +kernel
theorem dX2_goDown_7 : decode cX2_goDown 7 = .ok (.putfield 44, 3) := by decide +kernel
theorem dX2_goDown_10 : decode cX2_goDown 10 = .ok (.aload_n 0, 1) := by decide +kernel
theorem dX2_goDown_11 : decode cX2_goDown 11 = .ok (.aload_n 0, 1) := by decide +kernel
theorem dX2_goDown_12 : decode cX2_goDown 12 = .ok (.getfield 83, 3) := by decide +kernel
theorem dX2_goDown_15 : decode cX2_goDown 15 = .ok (.putfield 76, 3) := by decide +kernel
theorem dX2_goDown_18 : decode cX2_goDown 18 = .ok (.aload_n 0, 1) := by decide +kernel
theorem dX2_goDown_19 : decode cX2_goDown 19 = .ok (.iconst 0, 1) := by decide +kernel
theorem dX2_goDown_20 : decode cX2_goDown 20 = .ok (.putfield 51, 3) := by decide +kernel
theorem dX2_goDown_23 : decode cX2_goDown 23 = .ok (.return_, 1) := by decide +kernel
set_option maxRecDepth 20000 in
theorem ggX2_findRow_X1_isRight : GoodIn wsX2_findRow wsX1_isRight := goodIn_r _ [8, 9, 10, 11, 7, 12, 13, 14, 15, 16, 17, 18, 19, 20, 21, 22, 23, 24, 25, 26, 27, 28, 29, 30, 31, 32, 33, 34, 35, 36, 37, 38, 39, 40, 41, 42, 43, 44, 45, 46, 47, 48, 75, 76] (by decide +kernel) (by decide +kernel)
set_option maxRecDepth 20000 in
theorem gX2_findRow_X1_isRight : GoodIn wsX2_findRow (wsV RX2 142 RX1 yX1_isRight wsX1_isRight) := goodIn_app (goodIn_of _ (by decide +kernel)) ggX2_findRow_X1_isRight
set_option maxRecDepth 20000 in
theorem ggX2_findRow_X2_mend : GoodIn wsX2_findRow wsX2_mend := goodIn_r _ [52, 53, 54, 55, 56, 7, 57, 9, 10, 11, 12, 27, 19, 20, 16, 21, 22, 58, 59, 60, 61, 62, 63, 64, 65, 66, 67, 68, 69, 70, 71, 72, 73, 74, 75, 76] (by decide +kernel) (by decide +kernel)
set_option maxRecDepth 20000 in
theorem gX2_findRow_X2_mend : GoodIn wsX2_findRow (wsV RX2 168 RX2 yX2_mend wsX2_mend) := goodIn_app (goodIn_of _ (by decide +kernel)) ggX2_findRow_X2_mend
set_option maxRecDepth 20000 in
theorem ggX2_findRow_X1_take : GoodIn wsX2_findRow wsX1_take := goodIn_r _ [57, 9, 10, 11, 7, 12, 27, 19, 20, 16, 21, 22, 58, 59, 60, 61, 75, 76] (by decide +kernel) (by decide +kernel)
set_option maxRecDepth 20000 in
theorem gX2_findRow_X1_take : GoodIn wsX2_findRow (wsV RX2 164 RX1 yX1_take wsX1_take) := goodIn_app (goodIn_of _ (by decide +kernel)) ggX2_findRow_X1_take
theorem dX2_findRow_0 : decode cX2_findRow 0 = .ok (.aload_n 0, 1) := by decide +kernel
theorem dX2_findRow_1 : decode cX2_findRow 1 = .ok (.getfield 27, 3) := by decide +kernel
theorem dX2_findRow_4 : decode cX2_findRow 4 = .ok (.iload_n 1, 1) := by decide +kernel
theorem dX2_findRow_5 : decode cX2_findRow 5 = .ok (.invokevirtual 142, 3) := by decide +kernel
theorem dX2_findRow_8 : decode cX2_findRow 8 = .ok (.istore_n 2, 1) := by decide +kernel
theorem dX2_findRow_9 : decode cX2_findRow 9 = .ok (.aload_n 0, 1) := by decide +kernel
theorem dX2_findRow_10 : decode cX2_findRow 10 = .ok (.getfield 31, 3) := by decide +kernel
theorem dX2_findRow_13 : decode cX2_findRow 13 = .ok (.iload_n 1, 1) := by decide +kernel
theorem dX2_findRow_14 : decode cX2_findRow 14 = .ok (.invokevirtual 142, 3) := by decide +kernel
theorem dX2_findRow_17 : decode cX2_findRow 17 = .ok (.istore_n 3, 1) := by decide +kernel
theorem dX2_findRow_18 : decode cX2_findRow 18 = .ok (.iload_n 2, 1) := by decide +kernel
theorem dX2_findRow_19 : decode cX2_findRow 19 = .ok (.ifCond .ne 9, 3) := by decide +kernel
theorem dX2_findRow_22 : decode cX2_findRow 22 = .ok (.iload_n 3, 1) := by decide +kernel
theorem dX2_findRow_23 : decode cX2_findRow 23 = .ok (.ifCond .ne 5, 3) := by decide +kernel
theorem dX2_findRow_26 : decode cX2_findRow 26 = .ok (.iconst 0, 1) := by decide +kernel
theorem dX2_findRow_27 : decode cX2_findRow 27 = .ok (.ireturn, 1) := by decide +kernel
theorem dX2_findRow_28 : decode cX2_findRow 28 = .ok (.iload_n 2, 1) := by decide +kernel
theorem dX2_findRow_29 : decode cX2_findRow 29 = .ok (.ifCond .ne 19, 3) := by decide +kernel
theorem dX2_findRow_32 : decode cX2_findRow 32 = .ok (.aload_n 0, 1) := by decide +kernel
theorem dX2_findRow_33 : decode cX2_findRow 33 = .ok (.aload_n 0, 1) := by decide +kernel
theorem dX2_findRow_34 : decode cX2_findRow 34 = .ok (.getfield 27, 3) := by decide +kernel
theorem dX2_findRow_37 : decode cX2_findRow 37 = .ok (.aload_n 0, 1) := by decide +kernel
theorem dX2_findRow_38 : decode cX2_findRow 38 = .ok (.getfield 31, 3) := by decide +kernel
theorem dX2_findRow_41 : decode cX2_findRow 41 = .ok (.iload_n 1, 1) := by decide +kernel
theorem dX2_findRow_42 : decode cX2_findRow 42 = .ok (.invokevirtual 168, 3) := by decide +kernel
theorem dX2_findRow_45 : decode cX2_findRow 45 = .ok (.goto 20, 3) := by decide +kernel
theorem dX2_findRow_48 : decode cX2_findRow 48 = .ok (.iload_n 3, 1) := by decide +kernel
theorem dX2_findRow_49 : decode cX2_findRow 49 = .ok (.ifCond .ne 16, 3) := by decide +kernel
theorem dX2_findRow_52 : decode cX2_findRow 52 = .ok (.aload_n 0, 1) := by decide +kernel
theorem dX2_findRow_53 : decode cX2_findRow 53 = .ok (.aload_n 0, 1) := by decide +kernel
theorem dX2_findRow_54 : decode cX2_findRow 54 = .ok (.getfield 31, 3) := by decide +kernel
theorem dX2_findRow_57 : decode cX2_findRow 57 = .ok (.aload_n 0, 1) := by decide +kernel
theorem dX2_findRow_58 : decode cX2_findRow 58 = .ok (.getfield 27, 3) := by decide +kernel
theorem dX2_findRow_61 : decode cX2_findRow 61 = .ok (.iload_n 1, 1) := by decide +kernel
theorem dX2_findRow_62 : decode cX2_findRow 62 = .ok (.invokevirtual 168, 3) := by decide +kernel
theorem dX2_findRow_65 : decode cX2_findRow 65 = .ok (.aload_n 0, 1) := by decide +kernel
theorem dX2_findRow_66 : decode cX2_findRow 66 = .ok (.getfield 34, 3) := by decide +kernel
theorem dX2_findRow_69 : decode cX2_findRow 69 = .ok (.aload_n 0, 1) := by decide +kernel
theorem dX2_findRow_70 : decode cX2_findRow 70 = .ok (.getfield 27, 3) := by decide +kernel
theorem dX2_findRow_73 : decode cX2_findRow 73 = .ok (.iload_n 1, 1) := by decide +kernel
theorem dX2_findRow_74 : decode cX2_findRow 74 = .ok (.bipush 64, 2) := by decide +kernel
theorem dX2_findRow_76 : decode cX2_findRow 76 = .ok (.invokevirtual 164, 3) := by decide +kernel
theorem dX2_findRow_79 : decode cX2_findRow 79 = .ok (.iconst 1, 1) := by decide +kernel
theorem dX2_findRow_80 : decode cX2_findRow 80 = .ok (.ireturn, 1) := by decide +kernel
set_option maxRecDepth 20000 in
theorem ggX2_mend_X1_take : GoodIn wsX2_mend wsX1_take := goodIn_r _ [6, 7, 8, 9, 5, 10, 11, 12, 13, 14, 15, 16, 17, 18, 19, 20, 34, 35] (by decide +kernel) (by decide +kernel)
set_option maxRecDepth 20000 in
theorem gX2_mend_X1_take : GoodIn wsX2_mend (wsV RX2 164 RX1 yX1_take wsX1_take) := goodIn_app (goodIn_of _ (by decide +kernel)) ggX2_mend_X1_take
theorem dX2_mend_0 : decode cX2_mend 0 = .ok (.aload_n 1, 1) := by decide +kernel
theorem dX2_mend_1 : decode cX2_mend 1 = .ok (.aload_n 2, 1) := by decide +kernel
theorem dX2_mend_2 : decode cX2_mend 2 = .ok (.iload_n 3, 1) := by decide +kernel
theorem dX2_mend_3 : decode cX2_mend 3 = .ok (.bipush 64, 2) := by decide +kernel
theorem dX2_mend_5 : decode cX2_mend 5 = .ok (.invokevirtual 164, 3) := by decide +kernel
theorem dX2_mend_8 : decode cX2_mend 8 = .ok (.aload_n 0, 1) := by decide +kernel
theorem dX2_mend_9 : decode cX2_mend 9 = .ok (.dup, 1) := by decide +kernel
theorem dX2_mend_10 : decode cX2_mend 10 = .ok (.getfield 96, 3) := by decide +kernel
theorem dX2_mend_13 : decode cX2_mend 13 = .ok (.iconst 1, 1) := by decide +kernel
theorem dX2_mend_14 : decode cX2_mend 14 = .ok (.iadd, 1) := by decide +kernel
theorem dX2_mend_15 : decode cX2_mend 15 = .ok (.putfield 96, 3) := by decide +kernel
theorem dX2_mend_18 : decode cX2_mend 18 = .ok (.return_, 1) := by decide +kernel
theorem dX3_init_0 : decode cX3_init 0 = .ok (.aload_n 0, 1) := by decide +kernel
theorem dX3_init_1 : decode cX3_init 1 = .ok (.invokespecial 1, 3) := by decide +kernel
theorem dX3_init_4 : decode cX3_init 4 = .ok (.aload_n 0, 1) := by decide +kernel
theorem dX3_init_5 : decode cX3_init 5 = .ok (.sipush 8192, 3) := by decide +kernel
theorem dX3_init_8 : decode cX3_init 8 = .ok (.newarray .int, 2) := by decide +kernel
theorem dX3_init_10 : decode cX3_init 10 = .ok (.putfield 7, 3) := by decide +kernel
theorem dX3_init_13 : decode cX3_init 13 = .ok (.aload_n 0, 1) := by decide +kernel
theorem dX3_init_14 : decode cX3_init 14 = .ok (.bipush 64, 2) := by decide +kernel
theorem dX3_init_16 : decode cX3_init 16 = .ok (.newarray .int, 2) := by decide +kernel
theorem dX3_init_18 : decode cX3_init 18 = .ok (.putfield 13, 3) := by decide +kernel
theorem dX3_init_21 : decode cX3_init 21 = .ok (.aload_n 0, 1) := by decide +kernel
theorem dX3_init_22 : decode cX3_init 22 = .ok (.bipush 64, 2) := by decide +kernel
theorem dX3_init_24 : decode cX3_init 24 = .ok (.newarray .int, 2) := by decide +kernel
theorem dX3_init_26 : decode cX3_init 26 = .ok (.putfield 16, 3) := by decide +kernel
theorem dX3_init_29 : decode cX3_init 29 = .ok (.aload_n 0, 1) := by decide +kernel
theorem dX3_init_30 : decode cX3_init 30 = .ok (.sipush 2560, 3) := by decide +kernel
theorem dX3_init_33 : decode cX3_init 33 = .ok (.newarray .int, 2) := by decide +kernel
theorem dX3_init_35 : decode cX3_init 35 = .ok (.putfield 19, 3) := by decide +kernel
theorem dX3_init_38 : decode cX3_init 38 = .ok (.aload_n 0, 1) := by decide +kernel
theorem dX3_init_39 : decode cX3_init 39 = .ok (.bipush 40, 2) := by decide +kernel
theorem dX3_init_41 : decode cX3_init 41 = .ok (.newarray .int, 2) := by decide +kernel
theorem dX3_init_43 : decode cX3_init 43 = .ok (.putfield 22, 3) := by decide +kernel
theorem dX3_init_46 : decode cX3_init 46 = .ok (.aload_n 0, 1) := by decide +kernel
theorem dX3_init_47 : decode cX3_init 47 = .ok (.iconst (-1), 1) := by decide +kernel
theorem dX3_init_48 : decode cX3_init 48 = .ok (.putfield 25, 3) := by decide +kernel
theorem dX3_init_51 : decode cX3_init 51 = .ok (.aload_n 0, 1) := by decide +kernel
theorem dX3_init_52 : decode cX3_init 52 = .ok (.bipush 64, 2) := by decide +kernel
theorem dX3_init_54 : decode cX3_init 54 = .ok (.newarray .int, 2) := by decide +kernel
theorem dX3_init_56 : decode cX3_init 56 = .ok (.putfield 29, 3) := by decide +kernel
theorem dX3_init_59 : decode cX3_init 59 = .ok (.aload_n 0, 1) := by decide +kernel
theorem dX3_init_60 : decode cX3_init 60 = .ok (.iload_n 1, 1) := by decide +kernel
theorem dX3_init_61 : decode cX3_init 61 = .ok (.iconst 4, 1) := by decide +kernel
theorem dX3_init_62 : decode cX3_init 62 = .ok (.if_icmp .ge 7, 3) := by decide +kernel
theorem dX3_init_65 : decode cX3_init 65 = .ok (.iconst 4, 1) := by decide +kernel
theorem dX3_init_66 : decode cX3_init 66 = .ok (.goto 15, 3) := by decide +kernel
theorem dX3_init_69 : decode cX3_init 69 = .ok (.iload_n 1, 1) := by decide +kernel
theorem dX3_init_70 : decode cX3_init 70 = .ok (.bipush 64, 2) := by decide +kernel
theorem dX3_init_72 : decode cX3_init 72 = .ok (.if_icmp .le 8, 3) := by decide +kernel
theorem dX3_init_75 : decode cX3_init 75 = .ok (.bipush 64, 2) := by decide +kernel
theorem dX3_init_77 : decode cX3_init 77 = .ok (.goto 4, 3) := by decide +kernel
theorem dX3_init_80 : decode cX3_init 80 = .ok (.iload_n 1, 1) := by decide +kernel
theorem dX3_init_81 : decode cX3_init 81 = .ok (.putfield 32, 3) := by decide +kernel
theorem dX3_init_84 : decode cX3_init 84 = .ok (.return_, 1) := by decide +kernel
theorem dX3_thrown_0 : decode cX3_thrown 0 = .ok (.aload_n 0, 1) := by decide +kernel
theorem dX3_thrown_1 : decode cX3_thrown 1 = .ok (.getfield 35, 3) := by decide +kernel
theorem dX3_thrown_4 : decode cX3_thrown 4 = .ok (.ireturn, 1) := by decide +kernel
theorem dX3_fails_0 : decode cX3_fails 0 = .ok (.aload_n 0, 1) := by decide +kernel
theorem dX3_fails_1 : decode cX3_fails 1 = .ok (.iload_n 1, 1) := by decide +kernel
theorem dX3_fails_2 : decode cX3_fails 2 = .ok (.ifCond .eq 7, 3) := by decide +kernel
theorem dX3_fails_5 : decode cX3_fails 5 = .ok (.iconst 1, 1) := by decide +kernel
theorem dX3_fails_6 : decode cX3_fails 6 = .ok (.goto 20, 3) := by decide +kernel
theorem dX3_fails_9 : decode cX3_fails 9 = .ok (.iload_n 2, 1) := by decide +kernel
theorem dX3_fails_10 : decode cX3_fails 10 = .ok (.ifCond .eq 7, 3) := by decide +kernel
theorem dX3_fails_13 : decode cX3_fails 13 = .ok (.iconst 2, 1) := by decide +kernel
theorem dX3_fails_14 : decode cX3_fails 14 = .ok (.goto 12, 3) := by decide +kernel
theorem dX3_fails_17 : decode cX3_fails 17 = .ok (.iload_n 3, 1) := by decide +kernel
theorem dX3_fails_18 : decode cX3_fails 18 = .ok (.ifCond .eq 7, 3) := by decide +kernel
theorem dX3_fails_21 : decode cX3_fails 21 = .ok (.iconst 3, 1) := by decide +kernel
theorem dX3_fails_22 : decode cX3_fails 22 = .ok (.goto 4, 3) := by decide +kernel
theorem dX3_fails_25 : decode cX3_fails 25 = .ok (.iconst 0, 1) := by decide +kernel
theorem dX3_fails_26 : decode cX3_fails 26 = .ok (.putfield 35, 3) := by decide +kernel
theorem dX3_fails_29 : decode cX3_fails 29 = .ok (.aload_n 0, 1) := by decide +kernel
theorem dX3_fails_30 : decode cX3_fails 30 = .ok (.getfield 35, 3) := by decide +kernel
theorem dX3_fails_33 : decode cX3_fails 33 = .ok (.ifCond .le 7, 3) := by decide +kernel
theorem dX3_fails_36 : decode cX3_fails 36 = .ok (.iconst 1, 1) := by decide +kernel
theorem dX3_fails_37 : decode cX3_fails 37 = .ok (.goto 4, 3) := by decide +kernel
theorem dX3_fails_40 : decode cX3_fails 40 = .ok (.iconst 0, 1) := by decide +kernel
theorem dX3_fails_41 : decode cX3_fails 41 = .ok (.ireturn, 1) := by decide +kernel
theorem dX3_in_0 : decode cX3_in 0 = .ok (.iload_n 0, 1) := by decide +kernel
theorem dX3_in_1 : decode cX3_in 1 = .ok (.iload_n 1, 1) := by decide +kernel
theorem dX3_in_2 : decode cX3_in 2 = .ok (.if_icmp .lt 12, 3) := by decide +kernel
theorem dX3_in_5 : decode cX3_in 5 = .ok (.iload_n 0, 1) := by decide +kernel
theorem dX3_in_6 : decode cX3_in 6 = .ok (.iload_n 2, 1) := by decide +kernel
theorem dX3_in_7 : decode cX3_in 7 = .ok (.if_icmp .gt 7, 3) := by decide +kernel
theorem dX3_in_10 : decode cX3_in 10 = .ok (.iconst 1, 1) := by decide +kernel
theorem dX3_in_11 : decode cX3_in 11 = .ok (.goto 4, 3) := by decide +kernel
theorem dX3_in_14 : decode cX3_in 14 = .ok (.iconst 0, 1) := by decide +kernel
theorem dX3_in_15 : decode cX3_in 15 = .ok (.ireturn, 1) := by decide +kernel
theorem dX3_begin_0 : decode cX3_begin 0 = .ok (.aload_n 0, 1) := by decide +kernel
theorem dX3_begin_1 : decode cX3_begin 1 = .ok (.ldc 38, 2) := by decide +kernel
theorem dX3_begin_3 : decode cX3_begin 3 = .ok (.putfield 39, 3) := by decide +kernel
theorem dX3_begin_6 : decode cX3_begin 6 = .ok (.return_, 1) := by decide +kernel
theorem dX3_goOn_0 : decode cX3_goOn 0 = .ok (.aload_n 0, 1) := by decide +kernel
theorem dX3_goOn_1 : decode cX3_goOn 1 = .ok (.getfield 39, 3) := by decide +kernel
theorem dX3_goOn_4 : decode cX3_goOn 4 = .ok (.iload_n 1, 1) := by decide +kernel
theorem dX3_goOn_5 : decode cX3_goOn 5 = .ok (.ixor, 1) := by decide +kernel
theorem dX3_goOn_6 : decode cX3_goOn 6 = .ok (.istore_n 2, 1) := by decide +kernel
theorem dX3_goOn_7 : decode cX3_goOn 7 = .ok (.aload_n 0, 1) := by decide +kernel
theorem dX3_goOn_8 : decode cX3_goOn 8 = .ok (.iload_n 2, 1) := by decide +kernel
theorem dX3_goOn_9 : decode cX3_goOn 9 = .ok (.bipush 9, 2) := by decide +kernel
theorem dX3_goOn_11 : decode cX3_goOn 11 = .ok (.ishl, 1) := by decide +kernel
theorem dX3_goOn_12 : decode cX3_goOn 12 = .ok (.iload_n 2, 1) := by decide +kernel
theorem dX3_goOn_13 : decode cX3_goOn 13 = .ok (.bipush 23, 2) := by decide +kernel
theorem dX3_goOn_15 : decode cX3_goOn 15 = .ok (.iushr, 1) := by decide +kernel
theorem dX3_goOn_16 : decode cX3_goOn 16 = .ok (.ior, 1) := by decide +kernel
theorem dX3_goOn_17 : decode cX3_goOn 17 = .ok (.ldc 42, 2) := by decide +kernel
theorem dX3_goOn_19 : decode cX3_goOn 19 = .ok (.imul, 1) := by decide +kernel
theorem dX3_goOn_20 : decode cX3_goOn 20 = .ok (.putfield 39, 3) := by decide +kernel
theorem dX3_goOn_23 : decode cX3_goOn 23 = .ok (.return_, 1) := by decide +kernel
set_option maxRecDepth 20000 in
theorem ggX3_lay_X3_begin : GoodIn wsX3_lay wsX3_begin := goodIn_r _ [10, 11, 5, 17, 18, 19, 20, 21, 22, 23, 24, 25, 26, 27, 28, 29, 30, 31, 32, 33] (by decide +kernel) (by decide +kernel)
set_option maxRecDepth 20000 in
theorem gX3_lay_X3_begin : GoodIn wsX3_lay (wsV RX3 43 RX3 yX3_begin wsX3_begin) := goodIn_app (goodIn_of _ (by decide +kernel)) ggX3_lay_X3_begin
set_option maxRecDepth 20000 in
theorem ggX3_lay_X3_goOn : GoodIn wsX3_lay wsX3_goOn := goodIn_r _ [15, 5, 16, 17, 18, 19, 20, 21, 22, 23, 24, 25, 26, 27, 28, 29, 30, 31, 32, 33] (by decide +kernel) (by decide +kernel)
set_option maxRecDepth 20000 in
theorem gX3_lay_X3_goOn : GoodIn wsX3_lay (wsV RX3 46 RX3 yX3_goOn wsX3_goOn) := goodIn_app (goodIn_of _ (by decide +kernel)) ggX3_lay_X3_goOn
theorem dX3_lay_0 : decode cX3_lay 0 = .ok (.iconst 0, 1) := by decide +kernel
theorem dX3_lay_1 : decode cX3_lay 1 = .ok (.istore_n 2, 1) := by decide +kernel
theorem dX3_lay_2 : decode cX3_lay 2 = .ok (.iload_n 2, 1) := by decide +kernel
theorem dX3_lay_3 : decode cX3_lay 3 = .ok (.bipush 64, 2) := by decide +kernel
theorem dX3_lay_5 : decode cX3_lay 5 = .ok (.if_icmp .ge 16, 3) := by decide +kernel
theorem dX3_lay_8 : decode cX3_lay 8 = .ok (.aload_n 0, 1) := by decide +kernel
theorem dX3_lay_9 : decode cX3_lay 9 = .ok (.getfield 29, 3) := by decide +kernel
theorem dX3_lay_12 : decode cX3_lay 12 = .ok (.iload_n 2, 1) := by decide +kernel
theorem dX3_lay_13 : decode cX3_lay 13 = .ok (.iconst 0, 1) := by decide +kernel
theorem dX3_lay_14 : decode cX3_lay 14 = .ok (.iastore, 1) := by decide +kernel
theorem dX3_lay_15 : decode cX3_lay 15 = .ok (.iinc 2 1, 3) := by decide +kernel
theorem dX3_lay_18 : decode cX3_lay 18 = .ok (.goto (-16), 3) := by decide +kernel
theorem dX3_lay_21 : decode cX3_lay 21 = .ok (.iconst 0, 1) := by decide +kernel
theorem dX3_lay_22 : decode cX3_lay 22 = .ok (.istore_n 2, 1) := by decide +kernel
theorem dX3_lay_23 : decode cX3_lay 23 = .ok (.iload_n 2, 1) := by decide +kernel
theorem dX3_lay_24 : decode cX3_lay 24 = .ok (.iconst 4, 1) := by decide +kernel
theorem dX3_lay_25 : decode cX3_lay 25 = .ok (.if_icmp .ge 28, 3) := by decide +kernel
theorem dX3_lay_28 : decode cX3_lay 28 = .ok (.aload_n 0, 1) := by decide +kernel
theorem dX3_lay_29 : decode cX3_lay 29 = .ok (.getfield 29, 3) := by decide +kernel
theorem dX3_lay_32 : decode cX3_lay 32 = .ok (.iload_n 2, 1) := by decide +kernel
theorem dX3_lay_33 : decode cX3_lay 33 = .ok (.iload_n 1, 1) := by decide +kernel
theorem dX3_lay_34 : decode cX3_lay 34 = .ok (.bipush 24, 2) := by decide +kernel
theorem dX3_lay_36 : decode cX3_lay 36 = .ok (.bipush 8, 2) := by decide +kernel
theorem dX3_lay_38 : decode cX3_lay 38 = .ok (.iload_n 2, 1) := by decide +kernel
theorem dX3_lay_39 : decode cX3_lay 39 = .ok (.imul, 1) := by decide +kernel
theorem dX3_lay_40 : decode cX3_lay 40 = .ok (.isub, 1) := by decide +kernel
theorem dX3_lay_41 : decode cX3_lay 41 = .ok (.ishr, 1) := by decide +kernel
theorem dX3_lay_42 : decode cX3_lay 42 = .ok (.sipush 255, 3) := by decide +kernel
theorem dX3_lay_45 : decode cX3_lay 45 = .ok (.iand, 1) := by decide +kernel
theorem dX3_lay_46 : decode cX3_lay 46 = .ok (.iastore, 1) := by decide +kernel
theorem dX3_lay_47 : decode cX3_lay 47 = .ok (.iinc 2 1, 3) := by decide +kernel
theorem dX3_lay_50 : decode cX3_lay 50 = .ok (.goto (-27), 3) := by decide +kernel
theorem dX3_lay_53 : decode cX3_lay 53 = .ok (.aload_n 0, 1) := by decide +kernel
theorem dX3_lay_54 : decode cX3_lay 54 = .ok (.getfield 29, 3) := by decide +kernel
theorem dX3_lay_57 : decode cX3_lay 57 = .ok (.iconst 4, 1) := by decide +kernel
theorem dX3_lay_58 : decode cX3_lay 58 = .ok (.aload_n 0, 1) := by decide +kernel
theorem dX3_lay_59 : decode cX3_lay 59 = .ok (.getfield 13, 3) := by decide +kernel
theorem dX3_lay_62 : decode cX3_lay 62 = .ok (.iload_n 1, 1) := by decide +kernel
theorem dX3_lay_63 : decode cX3_lay 63 = .ok (.iaload, 1) := by decide +kernel
theorem dX3_lay_64 : decode cX3_lay 64 = .ok (.iastore, 1) := by decide +kernel
theorem dX3_lay_65 : decode cX3_lay 65 = .ok (.aload_n 0, 1) := by decide +kernel
theorem dX3_lay_66 : decode cX3_lay 66 = .ok (.getfield 29, 3) := by decide +kernel
theorem dX3_lay_69 : decode cX3_lay 69 = .ok (.iconst 5, 1) := by decide +kernel
theorem dX3_lay_70 : decode cX3_lay 70 = .ok (.aload_n 0, 1) := by decide +kernel
theorem dX3_lay_71 : decode cX3_lay 71 = .ok (.getfield 16, 3) := by decide +kernel
theorem dX3_lay_74 : decode cX3_lay 74 = .ok (.iload_n 1, 1) := by decide +kernel
theorem dX3_lay_75 : decode cX3_lay 75 = .ok (.iaload, 1) := by decide +kernel
theorem dX3_lay_76 : decode cX3_lay 76 = .ok (.iastore, 1) := by decide +kernel
theorem dX3_lay_77 : decode cX3_lay 77 = .ok (.iconst 0, 1) := by decide +kernel
theorem dX3_lay_78 : decode cX3_lay 78 = .ok (.istore_n 2, 1) := by decide +kernel
theorem dX3_lay_79 : decode cX3_lay 79 = .ok (.iload_n 2, 1) := by decide +kernel
theorem dX3_lay_80 : decode cX3_lay 80 = .ok (.aload_n 0, 1) := by decide +kernel
theorem dX3_lay_81 : decode cX3_lay 81 = .ok (.getfield 16, 3) := by decide +kernel
theorem dX3_lay_84 : decode cX3_lay 84 = .ok (.iload_n 1, 1) := by decide +kernel
theorem dX3_lay_85 : decode cX3_lay 85 = .ok (.iaload, 1) := by decide +kernel
theorem dX3_lay_86 : decode cX3_lay 86 = .ok (.if_icmp .ge 29, 3) := by decide +kernel
theorem dX3_lay_89 : decode cX3_lay 89 = .ok (.aload_n 0, 1) := by decide +kernel
theorem dX3_lay_90 : decode cX3_lay 90 = .ok (.getfield 29, 3) := by decide +kernel
theorem dX3_lay_93 : decode cX3_lay 93 = .ok (.bipush 6, 2) := by decide +kernel
theorem dX3_lay_95 : decode cX3_lay 95 = .ok (.iload_n 2, 1) := by decide +kernel
theorem dX3_lay_96 : decode cX3_lay 96 = .ok (.iadd, 1) := by decide +kernel
theorem dX3_lay_97 : decode cX3_lay 97 = .ok (.aload_n 0, 1) := by decide +kernel
theorem dX3_lay_98 : decode cX3_lay 98 = .ok (.getfield 19, 3) := by decide +kernel
theorem dX3_lay_101 : decode cX3_lay 101 = .ok (.bipush 40, 2) := by decide +kernel
theorem dX3_lay_103 : decode cX3_lay 103 = .ok (.iload_n 1, 1) := by decide +kernel
theorem dX3_lay_104 : decode cX3_lay 104 = .ok (.imul, 1) := by decide +kernel
theorem dX3_lay_105 : decode cX3_lay 105 = .ok (.iload_n 2, 1) := by decide +kernel
theorem dX3_lay_106 : decode cX3_lay 106 = .ok (.iadd, 1) := by decide +kernel
theorem dX3_lay_107 : decode cX3_lay 107 = .ok (.iaload, 1) := by decide +kernel
theorem dX3_lay_108 : decode cX3_lay 108 = .ok (.iastore, 1) := by decide +kernel
theorem dX3_lay_109 : decode cX3_lay 109 = .ok (.iinc 2 1, 3) := by decide +kernel
theorem dX3_lay_112 : decode cX3_lay 112 = .ok (.goto (-33), 3) := by decide +kernel
theorem dX3_lay_115 : decode cX3_lay 115 = .ok (.bipush 6, 2) := by decide +kernel
theorem dX3_lay_117 : decode cX3_lay 117 = .ok (.aload_n 0, 1) := by decide +kernel
theorem dX3_lay_118 : decode cX3_lay 118 = .ok (.getfield 16, 3) := by decide +kernel
theorem dX3_lay_121 : decode cX3_lay 121 = .ok (.iload_n 1, 1) := by decide +kernel
theorem dX3_lay_122 : decode cX3_lay 122 = .ok (.iaload, 1) := by decide +kernel
theorem dX3_lay_123 : decode cX3_lay 123 = .ok (.iadd, 1) := by decide +kernel
theorem dX3_lay_124 : decode cX3_lay 124 = .ok (.istore_n 2, 1) := by decide +kernel
theorem dX3_lay_125 : decode cX3_lay 125 = .ok (.aload_n 0, 1) := by decide +kernel
theorem dX3_lay_126 : decode cX3_lay 126 = .ok (.invokevirtual 43, 3) := by decide +kernel
theorem dX3_lay_129 : decode cX3_lay 129 = .ok (.iconst 0, 1) := by decide +kernel
theorem dX3_lay_130 : decode cX3_lay 130 = .ok (.istore_n 3, 1) := by decide +kernel
theorem dX3_lay_131 : decode cX3_lay 131 = .ok (.iload_n 3, 1) := by decide +kernel
theorem dX3_lay_132 : decode cX3_lay 132 = .ok (.iload_n 2, 1) := by decide +kernel
theorem dX3_lay_133 : decode cX3_lay 133 = .ok (.if_icmp .ge 19, 3) := by decide +kernel
theorem dX3_lay_136 : decode cX3_lay 136 = .ok (.aload_n 0, 1) := by decide +kernel
theorem dX3_lay_137 : decode cX3_lay 137 = .ok (.aload_n 0, 1) := by decide +kernel
theorem dX3_lay_138 : decode cX3_lay 138 = .ok (.getfield 29, 3) := by decide +kernel
theorem dX3_lay_141 : decode cX3_lay 141 = .ok (.iload_n 3, 1) := by decide +kernel
theorem dX3_lay_142 : decode cX3_lay 142 = .ok (.iaload, 1) := by decide +kernel
theorem dX3_lay_143 : decode cX3_lay 143 = .ok (.invokevirtual 46, 3) := by decide +kernel
theorem dX3_lay_146 : decode cX3_lay 146 = .ok (.iinc 3 1, 3) := by decide +kernel
theorem dX3_lay_149 : decode cX3_lay 149 = .ok (.goto (-18), 3) := by decide +kernel
theorem dX3_lay_152 : decode cX3_lay 152 = .ok (.iconst 0, 1) := by decide +kernel
theorem dX3_lay_153 : decode cX3_lay 153 = .ok (.istore_n 3, 1) := by decide +kernel
theorem dX3_lay_154 : decode cX3_lay 154 = .ok (.iload_n 3, 1) := by decide +kernel
theorem dX3_lay_155 : decode cX3_lay 155 = .ok (.iconst 4, 1) := by decide +kernel
theorem dX3_lay_156 : decode cX3_lay 156 = .ok (.if_icmp .ge 33, 3) := by decide +kernel
theorem dX3_lay_159 : decode cX3_lay 159 = .ok (.aload_n 0, 1) := by decide +kernel
theorem dX3_lay_160 : decode cX3_lay 160 = .ok (.getfield 29, 3) := by decide +kernel
theorem dX3_lay_163 : decode cX3_lay 163 = .ok (.iload_n 2, 1) := by decide +kernel
theorem dX3_lay_164 : decode cX3_lay 164 = .ok (.iload_n 3, 1) := by decide +kernel
theorem dX3_lay_165 : decode cX3_lay 165 = .ok (.iadd, 1) := by decide +kernel
theorem dX3_lay_166 : decode cX3_lay 166 = .ok (.aload_n 0, 1) := by decide +kernel
theorem dX3_lay_167 : decode cX3_lay 167 = .ok (.getfield 39, 3) := by decide +kernel
theorem dX3_lay_170 : decode cX3_lay 170 = .ok (.bipush 24, 2) := by decide +kernel
theorem dX3_lay_172 : decode cX3_lay 172 = .ok (.bipush 8, 2) := by decide +kernel
theorem dX3_lay_174 : decode cX3_lay 174 = .ok (.iload_n 3, 1) := by decide +kernel
theorem dX3_lay_175 : decode cX3_lay 175 = .ok (.imul, 1) := by decide +kernel
theorem dX3_lay_176 : decode cX3_lay 176 = .ok (.isub, 1) := by decide +kernel
theorem dX3_lay_177 : decode cX3_lay 177 = .ok (.ishr, 1) := by decide +kernel
theorem dX3_lay_178 : decode cX3_lay 178 = .ok (.sipush 255, 3) := by decide +kernel
theorem dX3_lay_181 : decode cX3_lay 181 = .ok (.iand, 1) := by decide +kernel
theorem dX3_lay_182 : decode cX3_lay 182 = .ok (.iastore, 1) := by decide +kernel
theorem dX3_lay_183 : decode cX3_lay 183 = .ok (.iinc 3 1, 3) := by decide +kernel
theorem dX3_lay_186 : decode cX3_lay 186 = .ok (.goto (-32), 3) := by decide +kernel
theorem dX3_lay_189 : decode cX3_lay 189 = .ok (.return_, 1) := by decide +kernel
theorem dX3_from_0 : decode cX3_from 0 = .ok (.sipush 4096, 3) := by decide +kernel
theorem dX3_from_3 : decode cX3_from 3 = .ok (.iload_n 1, 1) := by decide +kernel
theorem dX3_from_4 : decode cX3_from 4 = .ok (.imul, 1) := by decide +kernel
theorem dX3_from_5 : decode cX3_from 5 = .ok (.bipush 64, 2) := by decide +kernel
theorem dX3_from_7 : decode cX3_from 7 = .ok (.iload_n 2, 1) := by decide +kernel
theorem dX3_from_8 : decode cX3_from 8 = .ok (.imul, 1) := by decide +kernel
theorem dX3_from_9 : decode cX3_from 9 = .ok (.iadd, 1) := by decide +kernel
theorem dX3_from_10 : decode cX3_from 10 = .ok (.ireturn, 1) := by decide +kernel
theorem dX3_four_0 : decode cX3_four 0 = .ok (.aload_n 0, 1) := by decide +kernel
theorem dX3_four_1 : decode cX3_four 1 = .ok (.getfield 7, 3) := by decide +kernel
theorem dX3_four_4 : decode cX3_four 4 = .ok (.iload_n 1, 1) := by decide +kernel
theorem dX3_four_5 : decode cX3_four 5 = .ok (.iaload, 1) := by decide +kernel
theorem dX3_four_6 : decode cX3_four 6 = .ok (.bipush 24, 2) := by decide +kernel
theorem dX3_four_8 : decode cX3_four 8 = .ok (.ishl, 1) := by decide +kernel
theorem dX3_four_9 : decode cX3_four 9 = .ok (.aload_n 0, 1) := by decide +kernel
theorem dX3_four_10 : decode cX3_four 10 = .ok (.getfield 7, 3) := by decide +kernel
theorem dX3_four_13 : decode cX3_four 13 = .ok (.iload_n 1, 1) := by decide +kernel
theorem dX3_four_14 : decode cX3_four 14 = .ok (.iconst 1, 1) := by decide +kernel
theorem dX3_four_15 : decode cX3_four 15 = .ok (.iadd, 1) := by decide +kernel
theorem dX3_four_16 : decode cX3_four 16 = .ok (.iaload, 1) := by decide +kernel
theorem dX3_four_17 : decode cX3_four 17 = .ok (.bipush 16, 2) := by decide +kernel
theorem dX3_four_19 : decode cX3_four 19 = .ok (.ishl, 1) := by decide +kernel
theorem dX3_four_20 : decode cX3_four 20 = .ok (.ior, 1) := by decide +kernel
theorem dX3_four_21 : decode cX3_four 21 = .ok (.aload_n 0, 1) := by decide +kernel
theorem dX3_four_22 : decode cX3_four 22 = .ok (.getfield 7, 3) := by decide +kernel
theorem dX3_four_25 : decode cX3_four 25 = .ok (.iload_n 1, 1) := by decide +kernel
theorem dX3_four_26 : decode cX3_four 26 = .ok (.iconst 2, 1) := by decide +kernel
theorem dX3_four_27 : decode cX3_four 27 = .ok (.iadd, 1) := by decide +kernel
theorem dX3_four_28 : decode cX3_four 28 = .ok (.iaload, 1) := by decide +kernel
theorem dX3_four_29 : decode cX3_four 29 = .ok (.bipush 8, 2) := by decide +kernel
theorem dX3_four_31 : decode cX3_four 31 = .ok (.ishl, 1) := by decide +kernel
theorem dX3_four_32 : decode cX3_four 32 = .ok (.ior, 1) := by decide +kernel
theorem dX3_four_33 : decode cX3_four 33 = .ok (.aload_n 0, 1) := by decide +kernel
theorem dX3_four_34 : decode cX3_four 34 = .ok (.getfield 7, 3) := by decide +kernel
theorem dX3_four_37 : decode cX3_four 37 = .ok (.iload_n 1, 1) := by decide +kernel
theorem dX3_four_38 : decode cX3_four 38 = .ok (.iconst 3, 1) := by decide +kernel
theorem dX3_four_39 : decode cX3_four 39 = .ok (.iadd, 1) := by decide +kernel
theorem dX3_four_40 : decode cX3_four 40 = .ok (.iaload, 1) := by decide +kernel
theorem dX3_four_41 : decode cX3_four 41 = .ok (.ior, 1) := by decide +kernel
theorem dX3_four_42 : decode cX3_four 42 = .ok (.ireturn, 1) := by decide +kernel
set_option maxRecDepth 20000 in
theorem ggX3_isRight_X3_from : GoodIn wsX3_isRight wsX3_from := goodIn_r _ [7] (by decide +kernel) (by decide +kernel)
set_option maxRecDepth 20000 in
theorem gX3_isRight_X3_from : GoodIn wsX3_isRight (wsV RX3 50 RX3 yX3_from wsX3_from) := goodIn_app (goodIn_of _ (by decide +kernel)) ggX3_isRight_X3_from
set_option maxRecDepth 20000 in
theorem ggX3_isRight_X3_four : GoodIn wsX3_isRight wsX3_four := goodIn_r _ [11, 1, 25, 26, 27, 28, 29, 30, 31, 32, 33, 34, 35, 36, 37, 38, 39, 40, 41] (by decide +kernel) (by decide +kernel)
set_option maxRecDepth 20000 in
theorem gX3_isRight_X3_four : GoodIn wsX3_isRight (wsV RX3 54 RX3 yX3_four wsX3_four) := goodIn_app (goodIn_of _ (by decide +kernel)) ggX3_isRight_X3_four
set_option maxRecDepth 20000 in
theorem ggX3_isRight_X3_in : GoodIn wsX3_isRight wsX3_in := goodIn_r _ [14] (by decide +kernel) (by decide +kernel)
set_option maxRecDepth 20000 in
theorem gX3_isRight_X3_in : GoodIn wsX3_isRight (va_wsS RX3 58 yX3_in wsX3_in) := goodIn_app (goodIn_of _ (by decide +kernel)) ggX3_isRight_X3_in
set_option maxRecDepth 20000 in
theorem ggX3_isRight_X3_begin : GoodIn wsX3_isRight wsX3_begin := goodIn_r _ [18, 19, 2, 25, 26, 27, 28, 29, 30, 31, 32, 33, 34, 35, 36, 37, 38, 39, 40, 41] (by decide +kernel) (by decide +kernel)
set_option maxRecDepth 20000 in
theorem gX3_isRight_X3_begin : GoodIn wsX3_isRight (wsV RX3 43 RX3 yX3_begin wsX3_begin) := goodIn_app (goodIn_of _ (by decide +kernel)) ggX3_isRight_X3_begin
set_option maxRecDepth 20000 in
theorem ggX3_isRight_X3_goOn : GoodIn wsX3_isRight wsX3_goOn := goodIn_r _ [23, 2, 24, 25, 26, 27, 28, 29, 30, 31, 32, 33, 34, 35, 36, 37, 38, 39, 40, 41] (by decide +kernel) (by decide +kernel)
set_option maxRecDepth 20000 in
theorem gX3_isRight_X3_goOn : GoodIn wsX3_isRight (wsV RX3 46 RX3 yX3_goOn wsX3_goOn) := goodIn_app (goodIn_of _ (by decide +kernel)) ggX3_isRight_X3_goOn
theorem dX3_isRight_0 : decode cX3_isRight 0 = .ok (.aload_n 0, 1) := by decide +kernel
theorem dX3_isRight_1 : decode cX3_isRight 1 = .ok (.iload_n 1, 1) := by decide +kernel
theorem dX3_isRight_2 : decode cX3_isRight 2 = .ok (.iload_n 2, 1) := by decide +kernel
theorem dX3_isRight_3 : decode cX3_isRight 3 = .ok (.invokevirtual 50, 3) := by decide +kernel
theorem dX3_isRight_6 : decode cX3_isRight 6 = .ok (.istore_n 3, 1) := by decide +kernel
theorem dX3_isRight_7 : decode cX3_isRight 7 = .ok (.aload_n 0, 1) := by decide +kernel
theorem dX3_isRight_8 : decode cX3_isRight 8 = .ok (.getfield 7, 3) := by decide +kernel
theorem dX3_isRight_11 : decode cX3_isRight 11 = .ok (.iload_n 3, 1) := by decide +kernel
theorem dX3_isRight_12 : decode cX3_isRight 12 = .ok (.iconst 5, 1) := by decide +kernel
theorem dX3_isRight_13 : decode cX3_isRight 13 = .ok (.iadd, 1) := by decide +kernel
theorem dX3_isRight_14 : decode cX3_isRight 14 = .ok (.iaload, 1) := by decide +kernel
theorem dX3_isRight_15 : decode cX3_isRight 15 = .ok (.istore 4, 2) := by decide +kernel
theorem dX3_isRight_17 : decode cX3_isRight 17 = .ok (.aload_n 0, 1) := by decide +kernel
theorem dX3_isRight_18 : decode cX3_isRight 18 = .ok (.iload_n 3, 1) := by decide +kernel
theorem dX3_isRight_19 : decode cX3_isRight 19 = .ok (.invokevirtual 54, 3) := by decide +kernel
theorem dX3_isRight_22 : decode cX3_isRight 22 = .ok (.iload_n 2, 1) := by decide +kernel
theorem dX3_isRight_23 : decode cX3_isRight 23 = .ok (.if_icmp .ne 27, 3) := by decide +kernel
theorem dX3_isRight_26 : decode cX3_isRight 26 = .ok (.aload_n 0, 1) := by decide +kernel
theorem dX3_isRight_27 : decode cX3_isRight 27 = .ok (.getfield 7, 3) := by decide +kernel
theorem dX3_isRight_30 : decode cX3_isRight 30 = .ok (.iload_n 3, 1) := by decide +kernel
theorem dX3_isRight_31 : decode cX3_isRight 31 = .ok (.iconst 4, 1) := by decide +kernel
theorem dX3_isRight_32 : decode cX3_isRight 32 = .ok (.iadd, 1) := by decide +kernel
theorem dX3_isRight_33 : decode cX3_isRight 33 = .ok (.iaload, 1) := by decide +kernel
theorem dX3_isRight_34 : decode cX3_isRight 34 = .ok (.iconst 1, 1) := by decide +kernel
theorem dX3_isRight_35 : decode cX3_isRight 35 = .ok (.bipush 9, 2) := by decide +kernel
theorem dX3_isRight_37 : decode cX3_isRight 37 = .ok (.invokestatic 58, 3) := by decide +kernel
theorem dX3_isRight_40 : decode cX3_isRight 40 = .ok (.ifCond .eq 10, 3) := by decide +kernel
theorem dX3_isRight_43 : decode cX3_isRight 43 = .ok (.iload 4, 2) := by decide +kernel
theorem dX3_isRight_45 : decode cX3_isRight 45 = .ok (.bipush 40, 2) := by decide +kernel
theorem dX3_isRight_47 : decode cX3_isRight 47 = .ok (.if_icmp .le 5, 3) := by decide +kernel
theorem dX3_isRight_50 : decode cX3_isRight 50 = .ok (.iconst 0, 1) := by decide +kernel
theorem dX3_isRight_51 : decode cX3_isRight 51 = .ok (.ireturn, 1) := by decide +kernel
theorem dX3_isRight_52 : decode cX3_isRight 52 = .ok (.aload_n 0, 1) := by decide +kernel
theorem dX3_isRight_53 : decode cX3_isRight 53 = .ok (.invokevirtual 43, 3) := by decide +kernel
theorem dX3_isRight_56 : decode cX3_isRight 56 = .ok (.iconst 0, 1) := by decide +kernel
theorem dX3_isRight_57 : decode cX3_isRight 57 = .ok (.istore 5, 2) := by decide +kernel
theorem dX3_isRight_59 : decode cX3_isRight 59 = .ok (.iload 5, 2) := by decide +kernel
theorem dX3_isRight_61 : decode cX3_isRight 61 = .ok (.bipush 6, 2) := by decide +kernel
theorem dX3_isRight_63 : decode cX3_isRight 63 = .ok (.iload 4, 2) := by decide +kernel
theorem dX3_isRight_65 : decode cX3_isRight 65 = .ok (.iadd, 1) := by decide +kernel
theorem dX3_isRight_66 : decode cX3_isRight 66 = .ok (.if_icmp .ge 22, 3) := by decide +kernel
theorem dX3_isRight_69 : decode cX3_isRight 69 = .ok (.aload_n 0, 1) := by decide +kernel
theorem dX3_isRight_70 : decode cX3_isRight 70 = .ok (.aload_n 0, 1) := by decide +kernel
theorem dX3_isRight_71 : decode cX3_isRight 71 = .ok (.getfield 7, 3) := by decide +kernel
theorem dX3_isRight_74 : decode cX3_isRight 74 = .ok (.iload_n 3, 1) := by decide +kernel
theorem dX3_isRight_75 : decode cX3_isRight 75 = .ok (.iload 5, 2) := by decide +kernel
theorem dX3_isRight_77 : decode cX3_isRight 77 = .ok (.iadd, 1) := by decide +kernel
theorem dX3_isRight_78 : decode cX3_isRight 78 = .ok (.iaload, 1) := by decide +kernel
theorem dX3_isRight_79 : decode cX3_isRight 79 = .ok (.invokevirtual 46, 3) := by decide +kernel
theorem dX3_isRight_82 : decode cX3_isRight 82 = .ok (.iinc 5 1, 3) := by decide +kernel
theorem dX3_isRight_85 : decode cX3_isRight 85 = .ok (.goto (-26), 3) := by decide +kernel
theorem dX3_isRight_88 : decode cX3_isRight 88 = .ok (.aload_n 0, 1) := by decide +kernel
theorem dX3_isRight_89 : decode cX3_isRight 89 = .ok (.iload_n 3, 1) := by decide +kernel
theorem dX3_isRight_90 : decode cX3_isRight 90 = .ok (.bipush 6, 2) := by decide +kernel
theorem dX3_isRight_92 : decode cX3_isRight 92 = .ok (.iadd, 1) := by decide +kernel
theorem dX3_isRight_93 : decode cX3_isRight 93 = .ok (.iload 4, 2) := by decide +kernel
theorem dX3_isRight_95 : decode cX3_isRight 95 = .ok (.iadd, 1) := by decide +kernel
theorem dX3_isRight_96 : decode cX3_isRight 96 = .ok (.invokevirtual 54, 3) := by decide +kernel
theorem dX3_isRight_99 : decode cX3_isRight 99 = .ok (.aload_n 0, 1) := by decide +kernel
theorem dX3_isRight_100 : decode cX3_isRight 100 = .ok (.getfield 39, 3) := by decide +kernel
theorem dX3_isRight_103 : decode cX3_isRight 103 = .ok (.if_icmp .ne 7, 3) := by decide +kernel
theorem dX3_isRight_106 : decode cX3_isRight 106 = .ok (.iconst 1, 1) := by decide +kernel
theorem dX3_isRight_107 : decode cX3_isRight 107 = .ok (.goto 4, 3) := by decide +kernel
theorem dX3_isRight_110 : decode cX3_isRight 110 = .ok (.iconst 0, 1) := by decide +kernel
theorem dX3_isRight_111 : decode cX3_isRight 111 = .ok (.ireturn, 1) := by decide +kernel
theorem dX3_add_0 : decode cX3_add 0 = .ok (.aload_n 0, 1) := by decide +kernel
theorem dX3_add_1 : decode cX3_add 1 = .ok (.iconst 0, 1) := by decide +kernel
theorem dX3_add_2 : decode cX3_add 2 = .ok (.putfield 35, 3) := by decide +kernel
theorem dX3_add_5 : decode cX3_add 5 = .ok (.aload_n 0, 1) := by decide +kernel
theorem dX3_add_6 : decode cX3_add 6 = .ok (.getfield 62, 3) := by decide +kernel
theorem dX3_add_9 : decode cX3_add 9 = .ok (.ifCond .ne 12, 3) := by decide +kernel
theorem dX3_add_12 : decode cX3_add 12 = .ok (.aload_n 0, 1) := by decide +kernel
theorem dX3_add_13 : decode cX3_add 13 = .ok (.getfield 66, 3) := by decide +kernel
theorem dX3_add_16 : decode cX3_add 16 = .ok (.bipush 40, 2) := by decide +kernel
theorem dX3_add_18 : decode cX3_add 18 = .ok (.if_icmp .ne 5, 3) := by decide +kernel
theorem dX3_add_21 : decode cX3_add 21 = .ok (.iconst 0, 1) := by decide +kernel
theorem dX3_add_22 : decode cX3_add 22 = .ok (.ireturn, 1) := by decide +kernel
theorem dX3_add_23 : decode cX3_add 23 = .ok (.aload_n 0, 1) := by decide +kernel
theorem dX3_add_24 : decode cX3_add 24 = .ok (.getfield 22, 3) := by decide +kernel
theorem dX3_add_27 : decode cX3_add 27 = .ok (.aload_n 0, 1) := by decide +kernel
theorem dX3_add_28 : decode cX3_add 28 = .ok (.getfield 66, 3) := by decide +kernel
theorem dX3_add_31 : decode cX3_add 31 = .ok (.iload_n 1, 1) := by decide +kernel
theorem dX3_add_32 : decode cX3_add 32 = .ok (.sipush 255, 3) := by decide +kernel
theorem dX3_add_35 : decode cX3_add 35 = .ok (.iand, 1) := by decide +kernel
theorem dX3_add_36 : decode cX3_add 36 = .ok (.iastore, 1) := by decide +kernel
theorem dX3_add_37 : decode cX3_add 37 = .ok (.aload_n 0, 1) := by decide +kernel
theorem dX3_add_38 : decode cX3_add 38 = .ok (.dup, 1) := by decide +kernel
theorem dX3_add_39 : decode cX3_add 39 = .ok (.getfield 66, 3) := by decide +kernel
theorem dX3_add_42 : decode cX3_add 42 = .ok (.iconst 1, 1) := by decide +kernel
theorem dX3_add_43 : decode cX3_add 43 = .ok (.iadd, 1) := by decide +kernel
theorem dX3_add_44 : decode cX3_add 44 = .ok (.putfield 66, 3) := by decide +kernel
theorem dX3_add_47 : decode cX3_add 47 = .ok (.iconst 1, 1) := by decide +kernel
theorem dX3_add_48 : decode cX3_add 48 = .ok (.ireturn, 1) := by decide +kernel
set_option maxRecDepth 20000 in
theorem ggX3_end_X3_in : GoodIn wsX3_end wsX3_in := goodIn_r _ [12] (by decide +kernel) (by decide +kernel)
set_option maxRecDepth 20000 in
theorem gX3_end_X3_in : GoodIn wsX3_end (va_wsS RX3 58 yX3_in wsX3_in) := goodIn_app (goodIn_of _ (by decide +kernel)) ggX3_end_X3_in
set_option maxRecDepth 20000 in
theorem ggX3_end_X3_fails : GoodIn wsX3_end wsX3_fails := goodIn_r _ [16, 17, 18, 19, 20, 21, 22, 23, 24, 25, 26, 27, 28, 29, 30, 31, 32, 33, 34] (by decide +kernel) (by decide +kernel)
set_option maxRecDepth 20000 in
theorem gX3_end_X3_fails : GoodIn wsX3_end (wsV RX3 69 RX3 yX3_fails wsX3_fails) := goodIn_app (goodIn_of _ (by decide +kernel)) ggX3_end_X3_fails
theorem dX3_end_0 : decode cX3_end 0 = .ok (.aload_n 0, 1) := by decide +kernel
theorem dX3_end_1 : decode cX3_end 1 = .ok (.iload_n 1, 1) := by decide +kernel
theorem dX3_end_2 : decode cX3_end 2 = .ok (.iconst 1, 1) := by decide +kernel
theorem dX3_end_3 : decode cX3_end 3 = .ok (.bipush 9, 2) := by decide +kernel
theorem dX3_end_5 : decode cX3_end 5 = .ok (.invokestatic 58, 3) := by decide +kernel
theorem dX3_end_8 : decode cX3_end 8 = .ok (.ifCond .ne 7, 3) := by decide +kernel
theorem dX3_end_11 : decode cX3_end 11 = .ok (.iconst 1, 1) := by decide +kernel
theorem dX3_end_12 : decode cX3_end 12 = .ok (.goto 4, 3) := by decide +kernel
theorem dX3_end_15 : decode cX3_end 15 = .ok (.iconst 0, 1) := by decide +kernel
theorem dX3_end_16 : decode cX3_end 16 = .ok (.aload_n 0, 1) := by decide +kernel
theorem dX3_end_17 : decode cX3_end 17 = .ok (.getfield 62, 3) := by decide +kernel
theorem dX3_end_20 : decode cX3_end 20 = .ok (.iconst 0, 1) := by decide +kernel
theorem dX3_end_21 : decode cX3_end 21 = .ok (.invokevirtual 69, 3) := by decide +kernel
theorem dX3_end_24 : decode cX3_end 24 = .ok (.ifCond .eq 5, 3) := by decide +kernel
theorem dX3_end_27 : decode cX3_end 27 = .ok (.iconst 0, 1) := by decide +kernel
theorem dX3_end_28 : decode cX3_end 28 = .ok (.ireturn, 1) := by decide +kernel
theorem dX3_end_29 : decode cX3_end 29 = .ok (.aload_n 0, 1) := by decide +kernel
theorem dX3_end_30 : decode cX3_end 30 = .ok (.getfield 73, 3) := by decide +kernel
theorem dX3_end_33 : decode cX3_end 33 = .ok (.iload_n 2, 1) := by decide +kernel
theorem dX3_end_34 : decode cX3_end 34 = .ok (.ifCond .eq 10, 3) := by decide +kernel
theorem dX3_end_37 : decode cX3_end 37 = .ok (.aload_n 0, 1) := by decide +kernel
theorem dX3_end_38 : decode cX3_end 38 = .ok (.getfield 32, 3) := by decide +kernel
theorem dX3_end_41 : decode cX3_end 41 = .ok (.goto 9, 3) := by decide +kernel
theorem dX3_end_44 : decode cX3_end 44 = .ok (.aload_n 0, 1) := by decide +kernel
theorem dX3_end_45 : decode cX3_end 45 = .ok (.getfield 32, 3) := by decide +kernel
theorem dX3_end_48 : decode cX3_end 48 = .ok (.iconst 2, 1) := by decide +kernel
theorem dX3_end_49 : decode cX3_end 49 = .ok (.isub, 1) := by decide +kernel
theorem dX3_end_50 : decode cX3_end 50 = .ok (.if_icmp .lt 5, 3) := by decide +kernel
theorem dX3_end_53 : decode cX3_end 53 = .ok (.iconst (-1), 1) := by decide +kernel
theorem dX3_end_54 : decode cX3_end 54 = .ok (.ireturn, 1) := by decide +kernel
theorem dX3_end_55 : decode cX3_end 55 = .ok (.aload_n 0, 1) := by decide +kernel
theorem dX3_end_56 : decode cX3_end 56 = .ok (.getfield 13, 3) := by decide +kernel
theorem dX3_end_59 : decode cX3_end 59 = .ok (.aload_n 0, 1) := by decide +kernel
theorem dX3_end_60 : decode cX3_end 60 = .ok (.getfield 73, 3) := by decide +kernel
theorem dX3_end_63 : decode cX3_end 63 = .ok (.iload_n 1, 1) := by decide +kernel
theorem dX3_end_64 : decode cX3_end 64 = .ok (.iastore, 1) := by decide +kernel
theorem dX3_end_65 : decode cX3_end 65 = .ok (.aload_n 0, 1) := by decide +kernel
theorem dX3_end_66 : decode cX3_end 66 = .ok (.getfield 16, 3) := by decide +kernel
theorem dX3_end_69 : decode cX3_end 69 = .ok (.aload_n 0, 1) := by decide +kernel
theorem dX3_end_70 : decode cX3_end 70 = .ok (.getfield 73, 3) := by decide +kernel
theorem dX3_end_73 : decode cX3_end 73 = .ok (.aload_n 0, 1) := by decide +kernel
theorem dX3_end_74 : decode cX3_end 74 = .ok (.getfield 66, 3) := by decide +kernel
theorem dX3_end_77 : decode cX3_end 77 = .ok (.iastore, 1) := by decide +kernel
theorem dX3_end_78 : decode cX3_end 78 = .ok (.iconst 0, 1) := by decide +kernel
theorem dX3_end_79 : decode cX3_end 79 = .ok (.istore_n 3, 1) := by decide +kernel
theorem dX3_end_80 : decode cX3_end 80 = .ok (.iload_n 3, 1) := by decide +kernel
theorem dX3_end_81 : decode cX3_end 81 = .ok (.aload_n 0, 1) := by decide +kernel
theorem dX3_end_82 : decode cX3_end 82 = .ok (.getfield 66, 3) := by decide +kernel
theorem dX3_end_85 : decode cX3_end 85 = .ok (.if_icmp .ge 29, 3) := by decide +kernel
theorem dX3_end_88 : decode cX3_end 88 = .ok (.aload_n 0, 1) := by decide +kernel
theorem dX3_end_89 : decode cX3_end 89 = .ok (.getfield 19, 3) := by decide +kernel
theorem dX3_end_92 : decode cX3_end 92 = .ok (.bipush 40, 2) := by decide +kernel
theorem dX3_end_94 : decode cX3_end 94 = .ok (.aload_n 0, 1) := by decide +kernel
theorem dX3_end_95 : decode cX3_end 95 = .ok (.getfield 73, 3) := by decide +kernel
theorem dX3_end_98 : decode cX3_end 98 = .ok (.imul, 1) := by decide +kernel
theorem dX3_end_99 : decode cX3_end 99 = .ok (.iload_n 3, 1) := by decide +kernel
theorem dX3_end_100 : decode cX3_end 100 = .ok (.iadd, 1) := by decide +kernel
theorem dX3_end_101 : decode cX3_end 101 = .ok (.aload_n 0, 1) := by decide +kernel
theorem dX3_end_102 : decode cX3_end 102 = .ok (.getfield 22, 3) := by decide +kernel
theorem dX3_end_105 : decode cX3_end 105 = .ok (.iload_n 3, 1) := by decide +kernel
theorem dX3_end_106 : decode cX3_end 106 = .ok (.iaload, 1) := by decide +kernel
theorem dX3_end_107 : decode cX3_end 107 = .ok (.iastore, 1) := by decide +kernel
theorem dX3_end_108 : decode cX3_end 108 = .ok (.iinc 3 1, 3) := by decide +kernel
theorem dX3_end_111 : decode cX3_end 111 = .ok (.goto (-31), 3) := by decide +kernel
theorem dX3_end_114 : decode cX3_end 114 = .ok (.aload_n 0, 1) := by decide +kernel
theorem dX3_end_115 : decode cX3_end 115 = .ok (.iconst 0, 1) := by decide +kernel
theorem dX3_end_116 : decode cX3_end 116 = .ok (.putfield 66, 3) := by decide +kernel
theorem dX3_end_119 : decode cX3_end 119 = .ok (.aload_n 0, 1) := by decide +kernel
theorem dX3_end_120 : decode cX3_end 120 = .ok (.dup, 1) := by decide +kernel
theorem dX3_end_121 : decode cX3_end 121 = .ok (.getfield 73, 3) := by decide +kernel
theorem dX3_end_124 : decode cX3_end 124 = .ok (.iconst 1, 1) := by decide +kernel
theorem dX3_end_125 : decode cX3_end 125 = .ok (.iadd, 1) := by decide +kernel
theorem dX3_end_126 : decode cX3_end 126 = .ok (.putfield 73, 3) := by decide +kernel
theorem dX3_end_129 : decode cX3_end 129 = .ok (.aload_n 0, 1) := by decide +kernel
theorem dX3_end_130 : decode cX3_end 130 = .ok (.getfield 73, 3) := by decide +kernel
theorem dX3_end_133 : decode cX3_end 133 = .ok (.iconst 1, 1) := by decide +kernel
theorem dX3_end_134 : decode cX3_end 134 = .ok (.isub, 1) := by decide +kernel
theorem dX3_end_135 : decode cX3_end 135 = .ok (.ireturn, 1) := by decide +kernel
set_option maxRecDepth 20000 in
theorem ggX3_write_X3_from : GoodIn wsX3_write wsX3_from := goodIn_r _ [10] (by decide +kernel) (by decide +kernel)
set_option maxRecDepth 20000 in
theorem gX3_write_X3_from : GoodIn wsX3_write (wsV RX3 50 RX3 yX3_from wsX3_from) := goodIn_app (goodIn_of _ (by decide +kernel)) ggX3_write_X3_from
theorem dX3_write_0 : decode cX3_write 0 = .ok (.aload_n 0, 1) := by decide +kernel
theorem dX3_write_1 : decode cX3_write 1 = .ok (.getfield 25, 3) := by decide +kernel
theorem dX3_write_4 : decode cX3_write 4 = .ok (.ifCond .ne 7, 3) := by decide +kernel
theorem dX3_write_7 : decode cX3_write 7 = .ok (.iconst 1, 1) := by decide +kernel
theorem dX3_write_8 : decode cX3_write 8 = .ok (.goto 4, 3) := by decide +kernel
theorem dX3_write_11 : decode cX3_write 11 = .ok (.iconst 0, 1) := by decide +kernel
theorem dX3_write_12 : decode cX3_write 12 = .ok (.istore_n 3, 1) := by decide +kernel
theorem dX3_write_13 : decode cX3_write 13 = .ok (.iload_n 3, 1) := by decide +kernel
theorem dX3_write_14 : decode cX3_write 14 = .ok (.ifCond .eq 10, 3) := by decide +kernel
theorem dX3_write_17 : decode cX3_write 17 = .ok (.aload_n 0, 1) := by decide +kernel
theorem dX3_write_18 : decode cX3_write 18 = .ok (.getfield 76, 3) := by decide +kernel
theorem dX3_write_21 : decode cX3_write 21 = .ok (.goto 5, 3) := by decide +kernel
theorem dX3_write_24 : decode cX3_write 24 = .ok (.bipush 64, 2) := by decide +kernel
theorem dX3_write_26 : decode cX3_write 26 = .ok (.istore 4, 2) := by decide +kernel
theorem dX3_write_28 : decode cX3_write 28 = .ok (.iconst 0, 1) := by decide +kernel
theorem dX3_write_29 : decode cX3_write 29 = .ok (.istore 5, 2) := by decide +kernel
theorem dX3_write_31 : decode cX3_write 31 = .ok (.iload 5, 2) := by decide +kernel
theorem dX3_write_33 : decode cX3_write 33 = .ok (.iload 4, 2) := by decide +kernel
theorem dX3_write_35 : decode cX3_write 35 = .ok (.if_icmp .ge 30, 3) := by decide +kernel
theorem dX3_write_38 : decode cX3_write 38 = .ok (.aload_n 0, 1) := by decide +kernel
theorem dX3_write_39 : decode cX3_write 39 = .ok (.getfield 7, 3) := by decide +kernel
theorem dX3_write_42 : decode cX3_write 42 = .ok (.aload_n 0, 1) := by decide +kernel
theorem dX3_write_43 : decode cX3_write 43 = .ok (.iload_n 1, 1) := by decide +kernel
theorem dX3_write_44 : decode cX3_write 44 = .ok (.iload_n 2, 1) := by decide +kernel
theorem dX3_write_45 : decode cX3_write 45 = .ok (.invokevirtual 50, 3) := by decide +kernel
theorem dX3_write_48 : decode cX3_write 48 = .ok (.iload 5, 2) := by decide +kernel
theorem dX3_write_50 : decode cX3_write 50 = .ok (.iadd, 1) := by decide +kernel
theorem dX3_write_51 : decode cX3_write 51 = .ok (.aload_n 0, 1) := by decide +kernel
theorem dX3_write_52 : decode cX3_write 52 = .ok (.getfield 29, 3) := by decide +kernel
theorem dX3_write_55 : decode cX3_write 55 = .ok (.iload 5, 2) := by decide +kernel
theorem dX3_write_57 : decode cX3_write 57 = .ok (.iaload, 1) := by decide +kernel
theorem dX3_write_58 : decode cX3_write 58 = .ok (.iastore, 1) := by decide +kernel
theorem dX3_write_59 : decode cX3_write 59 = .ok (.iinc 5 1, 3) := by decide +kernel
theorem dX3_write_62 : decode cX3_write 62 = .ok (.goto (-31), 3) := by decide +kernel
theorem dX3_write_65 : decode cX3_write 65 = .ok (.aload_n 0, 1) := by decide +kernel
theorem dX3_write_66 : decode cX3_write 66 = .ok (.dup, 1) := by decide +kernel
theorem dX3_write_67 : decode cX3_write 67 = .ok (.getfield 79, 3) := by decide +kernel
theorem dX3_write_70 : decode cX3_write 70 = .ok (.iconst 1, 1) := by decide +kernel
theorem dX3_write_71 : decode cX3_write 71 = .ok (.iadd, 1) := by decide +kernel
theorem dX3_write_72 : decode cX3_write 72 = .ok (.putfield 79, 3) := by decide +kernel
theorem dX3_write_75 : decode cX3_write 75 = .ok (.aload_n 0, 1) := by decide +kernel
theorem dX3_write_76 : decode cX3_write 76 = .ok (.aload_n 0, 1) := by decide +kernel
theorem dX3_write_77 : decode cX3_write 77 = .ok (.getfield 25, 3) := by decide +kernel
theorem dX3_write_80 : decode cX3_write 80 = .ok (.ifCond .le 12, 3) := by decide +kernel
theorem dX3_write_83 : decode cX3_write 83 = .ok (.aload_n 0, 1) := by decide +kernel
theorem dX3_write_84 : decode cX3_write 84 = .ok (.getfield 25, 3) := by decide +kernel
theorem dX3_write_87 : decode cX3_write 87 = .ok (.iconst 1, 1) := by decide +kernel
theorem dX3_write_88 : decode cX3_write 88 = .ok (.isub, 1) := by decide +kernel
theorem dX3_write_89 : decode cX3_write 89 = .ok (.goto 4, 3) := by decide +kernel
theorem dX3_write_92 : decode cX3_write 92 = .ok (.iconst (-1), 1) := by decide +kernel
theorem dX3_write_93 : decode cX3_write 93 = .ok (.putfield 25, 3) := by decide +kernel
theorem dX3_write_96 : decode cX3_write 96 = .ok (.iload_n 3, 1) := by decide +kernel
theorem dX3_write_97 : decode cX3_write 97 = .ok (.ifCond .ne 7, 3) := by decide +kernel
theorem dX3_write_100 : decode cX3_write 100 = .ok (.iconst 1, 1) := by decide +kernel
theorem dX3_write_101 : decode cX3_write 101 = .ok (.goto 4, 3) := by decide +kernel
theorem dX3_write_104 : decode cX3_write 104 = .ok (.iconst 0, 1) := by decide +kernel
theorem dX3_write_105 : decode cX3_write 105 = .ok (.ireturn, 1) := by decide +kernel
theorem dX3_goDown_0 : decode cX3_goDown 0 = .ok (.aload_n 0, 1) := by decide +kernel
theorem dX3_goDown_1 : decode cX3_goDown 1 = .ok (.iconst 1, 1) := by decide +kernel
theorem dX3_goDown_2 : decode cX3_goDown 2 = .ok (.putfield 62, 3) := by decide +kernel
theorem dX3_goDown_5 : decode cX3_goDown 5 = .ok (.aload_n 0, 1) := by decide +kernel
theorem dX3_goDown_6 : decode cX3_goDown 6 = .ok (.iconst 0, 1) := by decide +kernel
theorem dX3_goDown_7 : decode cX3_goDown 7 = .ok (.putfield 73, 3) := by decide +kernel
theorem dX3_goDown_10 : decode cX3_goDown 10 = .ok (.aload_n 0, 1) := by decide +kernel
theorem dX3_goDown_11 : decode cX3_goDown 11 = .ok (.iconst 0, 1) := by decide +kernel
theorem dX3_goDown_12 : decode cX3_goDown 12 = .ok (.putfield 66, 3) := by decide +kernel
theorem dX3_goDown_15 : decode cX3_goDown 15 = .ok (.aload_n 0, 1) := by decide +kernel
theorem dX3_goDown_16 : decode cX3_goDown 16 = .ok (.iconst (-1), 1) := by decide +kernel
theorem dX3_goDown_17 : decode cX3_goDown 17 = .ok (.putfield 25, 3) := by decide +kernel
theorem dX3_goDown_20 : decode cX3_goDown 20 = .ok (.return_, 1) := by decide +kernel
set_option maxRecDepth 20000 in
theorem ggX3_sync_X3_fails : GoodIn wsX3_sync wsX3_fails := goodIn_r _ [8, 9, 46, 47, 48, 49, 50, 51, 52, 53, 54, 55, 56, 57, 58, 59, 60, 61, 62] (by decide +kernel) (by decide +kernel)
set_option maxRecDepth 20000 in
theorem gX3_sync_X3_fails : GoodIn wsX3_sync (wsV RX3 69 RX3 yX3_fails wsX3_fails) := goodIn_app (goodIn_of _ (by decide +kernel)) ggX3_sync_X3_fails
set_option maxRecDepth 20000 in
theorem ggX3_sync_X3_lay : GoodIn wsX3_sync wsX3_lay := goodIn_r _ [13, 14, 15, 16, 17, 18, 19, 20, 21, 7, 22, 23, 24, 25, 26, 27, 28, 46, 47, 48, 49, 50, 51, 52, 53, 54, 55, 56, 57, 58, 59, 60, 61, 62] (by decide +kernel) (by decide +kernel)
set_option maxRecDepth 20000 in
theorem gX3_sync_X3_lay : GoodIn wsX3_sync (wsV RX3 85 RX3 yX3_lay wsX3_lay) := goodIn_app (goodIn_of _ (by decide +kernel)) ggX3_sync_X3_lay
set_option maxRecDepth 20000 in
theorem ggX3_sync_X3_write : GoodIn wsX3_sync wsX3_write := goodIn_r _ [32, 33, 34, 35, 14, 36, 37, 38, 39, 7, 40, 46, 47, 48, 49, 50, 51, 52, 53, 54, 55, 56, 57, 58, 59, 60, 61, 62] (by decide +kernel) (by decide +kernel)
set_option maxRecDepth 20000 in
theorem gX3_sync_X3_write : GoodIn wsX3_sync (wsV RX3 88 RX3 yX3_write wsX3_write) := goodIn_app (goodIn_of _ (by decide +kernel)) ggX3_sync_X3_write
set_option maxRecDepth 20000 in
theorem ggX3_sync_X3_goDown : GoodIn wsX3_sync wsX3_goDown := goodIn_r _ [44, 1, 3, 45, 33, 46, 47, 48, 49, 50, 51, 52, 53, 54, 55, 56, 57, 58, 59, 60, 61, 62] (by decide +kernel) (by decide +kernel)
set_option maxRecDepth 20000 in
theorem gX3_sync_X3_goDown : GoodIn wsX3_sync (wsV RX3 92 RX3 yX3_goDown wsX3_goDown) := goodIn_app (goodIn_of _ (by decide +kernel)) ggX3_sync_X3_goDown
theorem dX3_sync_0 : decode cX3_sync 0 = .ok (.aload_n 0, 1) := by decide +kernel
theorem dX3_sync_1 : decode cX3_sync 1 = .ok (.aload_n 0, 1) := by decide +kernel
theorem dX3_sync_2 : decode cX3_sync 2 = .ok (.getfield 62, 3) := by decide +kernel
theorem dX3_sync_5 : decode cX3_sync 5 = .ok (.iconst 0, 1) := by decide +kernel
theorem dX3_sync_6 : decode cX3_sync 6 = .ok (.iconst 0, 1) := by decide +kernel
theorem dX3_sync_7 : decode cX3_sync 7 = .ok (.invokevirtual 69, 3) := by decide +kernel
theorem dX3_sync_10 : decode cX3_sync 10 = .ok (.ifCond .eq 5, 3) := by decide +kernel
theorem dX3_sync_13 : decode cX3_sync 13 = .ok (.iconst 0, 1) := by decide +kernel
theorem dX3_sync_14 : decode cX3_sync 14 = .ok (.ireturn, 1) := by decide +kernel
theorem dX3_sync_15 : decode cX3_sync 15 = .ok (.aload_n 0, 1) := by decide +kernel
theorem dX3_sync_16 : decode cX3_sync 16 = .ok (.getfield 82, 3) := by decide +kernel
theorem dX3_sync_19 : decode cX3_sync 19 = .ok (.istore_n 1, 1) := by decide +kernel
theorem dX3_sync_20 : decode cX3_sync 20 = .ok (.iload_n 1, 1) := by decide +kernel
theorem dX3_sync_21 : decode cX3_sync 21 = .ok (.aload_n 0, 1) := by decide +kernel
theorem dX3_sync_22 : decode cX3_sync 22 = .ok (.getfield 73, 3) := by decide +kernel
theorem dX3_sync_25 : decode cX3_sync 25 = .ok (.if_icmp .ge 42, 3) := by decide +kernel
theorem dX3_sync_28 : decode cX3_sync 28 = .ok (.aload_n 0, 1) := by decide +kernel
theorem dX3_sync_29 : decode cX3_sync 29 = .ok (.iload_n 1, 1) := by decide +kernel
theorem dX3_sync_30 : decode cX3_sync 30 = .ok (.invokevirtual 85, 3) := by decide +kernel
theorem dX3_sync_33 : decode cX3_sync 33 = .ok (.iconst 0, 1) := by decide +kernel
theorem dX3_sync_34 : decode cX3_sync 34 = .ok (.istore_n 2, 1) := by decide +kernel
theorem dX3_sync_35 : decode cX3_sync 35 = .ok (.iload_n 2, 1) := by decide +kernel
theorem dX3_sync_36 : decode cX3_sync 36 = .ok (.iconst 2, 1) := by decide +kernel
theorem dX3_sync_37 : decode cX3_sync 37 = .ok (.if_icmp .ge 24, 3) := by decide +kernel
theorem dX3_sync_40 : decode cX3_sync 40 = .ok (.aload_n 0, 1) := by decide +kernel
theorem dX3_sync_41 : decode cX3_sync 41 = .ok (.iload_n 2, 1) := by decide +kernel
theorem dX3_sync_42 : decode cX3_sync 42 = .ok (.iload_n 1, 1) := by decide +kernel
theorem dX3_sync_43 : decode cX3_sync 43 = .ok (.invokevirtual 88, 3) := by decide +kernel
theorem dX3_sync_46 : decode cX3_sync 46 = .ok (.ifCond .ne 9, 3) := by decide +kernel
theorem dX3_sync_49 : decode cX3_sync 49 = .ok (.aload_n 0, 1) := by decide +kernel
theorem dX3_sync_50 : decode cX3_sync 50 = .ok (.invokevirtual 92, 3) := by decide +kernel
theorem dX3_sync_53 : decode cX3_sync 53 = .ok (.iconst (-1), 1) := by decide +kernel
theorem dX3_sync_54 : decode cX3_sync 54 = .ok (.ireturn, 1) := by decide +kernel
theorem dX3_sync_55 : decode cX3_sync 55 = .ok (.iinc 2 1, 3) := by decide +kernel
theorem dX3_sync_58 : decode cX3_sync 58 = .ok (.goto (-23), 3) := by decide +kernel
theorem dX3_sync_61 : decode cX3_sync 61 = .ok (.iinc 1 1, 3) := by decide +kernel
theorem dX3_sync_64 : decode cX3_sync 64 = .ok (.goto (-44), 3) := by decide +kernel
theorem dX3_sync_67 : decode cX3_sync 67 = .ok (.aload_n 0, 1) := by decide +kernel
theorem dX3_sync_68 : decode cX3_sync 68 = .ok (.aload_n 0, 1) := by decide +kernel
theorem dX3_sync_69 : decode cX3_sync 69 = .ok (.getfield 73, 3) := by decide +kernel
theorem dX3_sync_72 : decode cX3_sync 72 = .ok (.putfield 82, 3) := by decide +kernel
theorem dX3_sync_75 : decode cX3_sync 75 = .ok (.aload_n 0, 1) := by decide +kernel
theorem dX3_sync_76 : decode cX3_sync 76 = .ok (.getfield 73, 3) := by decide +kernel
theorem dX3_sync_79 : decode cX3_sync 79 = .ok (.ireturn, 1) := by decide +kernel
set_option maxRecDepth 20000 in
theorem ggX3_cut_X3_in : GoodIn wsX3_cut wsX3_in := goodIn_r _ [8] (by decide +kernel) (by decide +kernel)
set_option maxRecDepth 20000 in
theorem gX3_cut_X3_in : GoodIn wsX3_cut (va_wsS RX3 58 yX3_in wsX3_in) := goodIn_app (goodIn_of _ (by decide +kernel)) ggX3_cut_X3_in
theorem dX3_cut_0 : decode cX3_cut 0 = .ok (.aload_n 0, 1) := by decide +kernel
theorem dX3_cut_1 : decode cX3_cut 1 = .ok (.iconst 0, 1) := by decide +kernel
theorem dX3_cut_2 : decode cX3_cut 2 = .ok (.putfield 35, 3) := by decide +kernel
theorem dX3_cut_5 : decode cX3_cut 5 = .ok (.aload_n 0, 1) := by decide +kernel
theorem dX3_cut_6 : decode cX3_cut 6 = .ok (.getfield 62, 3) := by decide +kernel
theorem dX3_cut_9 : decode cX3_cut 9 = .ok (.ifCond .ne 18, 3) := by decide +kernel
theorem dX3_cut_12 : decode cX3_cut 12 = .ok (.iload_n 1, 1) := by decide +kernel
theorem dX3_cut_13 : decode cX3_cut 13 = .ok (.iconst (-1), 1) := by decide +kernel
theorem dX3_cut_14 : decode cX3_cut 14 = .ok (.if_icmp .lt 13, 3) := by decide +kernel
theorem dX3_cut_17 : decode cX3_cut 17 = .ok (.iload_n 2, 1) := by decide +kernel
theorem dX3_cut_18 : decode cX3_cut 18 = .ok (.iconst 0, 1) := by decide +kernel
theorem dX3_cut_19 : decode cX3_cut 19 = .ok (.bipush 63, 2) := by decide +kernel
theorem dX3_cut_21 : decode cX3_cut 21 = .ok (.invokestatic 58, 3) := by decide +kernel
theorem dX3_cut_24 : decode cX3_cut 24 = .ok (.ifCond .ne 5, 3) := by decide +kernel
theorem dX3_cut_27 : decode cX3_cut 27 = .ok (.iconst 0, 1) := by decide +kernel
theorem dX3_cut_28 : decode cX3_cut 28 = .ok (.ireturn, 1) := by decide +kernel
theorem dX3_cut_29 : decode cX3_cut 29 = .ok (.aload_n 0, 1) := by decide +kernel
theorem dX3_cut_30 : decode cX3_cut 30 = .ok (.iload_n 1, 1) := by decide +kernel
theorem dX3_cut_31 : decode cX3_cut 31 = .ok (.putfield 25, 3) := by decide +kernel
theorem dX3_cut_34 : decode cX3_cut 34 = .ok (.aload_n 0, 1) := by decide +kernel
theorem dX3_cut_35 : decode cX3_cut 35 = .ok (.iload_n 2, 1) := by decide +kernel
theorem dX3_cut_36 : decode cX3_cut 36 = .ok (.putfield 76, 3) := by decide +kernel
theorem dX3_cut_39 : decode cX3_cut 39 = .ok (.iconst 1, 1) := by decide +kernel
theorem dX3_cut_40 : decode cX3_cut 40 = .ok (.ireturn, 1) := by decide +kernel
set_option maxRecDepth 20000 in
theorem ggX3_find_X3_from : GoodIn wsX3_find wsX3_from := goodIn_r _ [9] (by decide +kernel) (by decide +kernel)
set_option maxRecDepth 20000 in
theorem gX3_find_X3_from : GoodIn wsX3_find (wsV RX3 50 RX3 yX3_from wsX3_from) := goodIn_app (goodIn_of _ (by decide +kernel)) ggX3_find_X3_from
theorem dX3_find_0 : decode cX3_find 0 = .ok (.aload_n 0, 1) := by decide +kernel
theorem dX3_find_1 : decode cX3_find 1 = .ok (.iload_n 1, 1) := by decide +kernel
theorem dX3_find_2 : decode cX3_find 2 = .ok (.iload_n 2, 1) := by decide +kernel
theorem dX3_find_3 : decode cX3_find 3 = .ok (.invokevirtual 50, 3) := by decide +kernel
theorem dX3_find_6 : decode cX3_find 6 = .ok (.istore_n 3, 1) := by decide +kernel
theorem dX3_find_7 : decode cX3_find 7 = .ok (.aload_n 0, 1) := by decide +kernel
theorem dX3_find_8 : decode cX3_find 8 = .ok (.getfield 13, 3) := by decide +kernel
theorem dX3_find_11 : decode cX3_find 11 = .ok (.iload_n 2, 1) := by decide +kernel
theorem dX3_find_12 : decode cX3_find 12 = .ok (.aload_n 0, 1) := by decide +kernel
theorem dX3_find_13 : decode cX3_find 13 = .ok (.getfield 7, 3) := by decide +kernel
theorem dX3_find_16 : decode cX3_find 16 = .ok (.iload_n 3, 1) := by decide +kernel
theorem dX3_find_17 : decode cX3_find 17 = .ok (.iconst 4, 1) := by decide +kernel
theorem dX3_find_18 : decode cX3_find 18 = .ok (.iadd, 1) := by decide +kernel
theorem dX3_find_19 : decode cX3_find 19 = .ok (.iaload, 1) := by decide +kernel
theorem dX3_find_20 : decode cX3_find 20 = .ok (.iastore, 1) := by decide +kernel
theorem dX3_find_21 : decode cX3_find 21 = .ok (.aload_n 0, 1) := by decide +kernel
theorem dX3_find_22 : decode cX3_find 22 = .ok (.getfield 16, 3) := by decide +kernel
theorem dX3_find_25 : decode cX3_find 25 = .ok (.iload_n 2, 1) := by decide +kernel
theorem dX3_find_26 : decode cX3_find 26 = .ok (.aload_n 0, 1) := by decide +kernel
theorem dX3_find_27 : decode cX3_find 27 = .ok (.getfield 7, 3) := by decide +kernel
theorem dX3_find_30 : decode cX3_find 30 = .ok (.iload_n 3, 1) := by decide +kernel
theorem dX3_find_31 : decode cX3_find 31 = .ok (.iconst 5, 1) := by decide +kernel
theorem dX3_find_32 : decode cX3_find 32 = .ok (.iadd, 1) := by decide +kernel
theorem dX3_find_33 : decode cX3_find 33 = .ok (.iaload, 1) := by decide +kernel
theorem dX3_find_34 : decode cX3_find 34 = .ok (.iastore, 1) := by decide +kernel
theorem dX3_find_35 : decode cX3_find 35 = .ok (.iconst 0, 1) := by decide +kernel
theorem dX3_find_36 : decode cX3_find 36 = .ok (.istore 4, 2) := by decide +kernel
theorem dX3_find_38 : decode cX3_find 38 = .ok (.iload 4, 2) := by decide +kernel
theorem dX3_find_40 : decode cX3_find 40 = .ok (.aload_n 0, 1) := by decide +kernel
theorem dX3_find_41 : decode cX3_find 41 = .ok (.getfield 16, 3) := by decide +kernel
theorem dX3_find_44 : decode cX3_find 44 = .ok (.iload_n 2, 1) := by decide +kernel
theorem dX3_find_45 : decode cX3_find 45 = .ok (.iaload, 1) := by decide +kernel
theorem dX3_find_46 : decode cX3_find 46 = .ok (.if_icmp .ge 33, 3) := by decide +kernel
theorem dX3_find_49 : decode cX3_find 49 = .ok (.aload_n 0, 1) := by decide +kernel
theorem dX3_find_50 : decode cX3_find 50 = .ok (.getfield 19, 3) := by decide +kernel
theorem dX3_find_53 : decode cX3_find 53 = .ok (.bipush 40, 2) := by decide +kernel
theorem dX3_find_55 : decode cX3_find 55 = .ok (.iload_n 2, 1) := by decide +kernel
theorem dX3_find_56 : decode cX3_find 56 = .ok (.imul, 1) := by decide +kernel
theorem dX3_find_57 : decode cX3_find 57 = .ok (.iload 4, 2) := by decide +kernel
theorem dX3_find_59 : decode cX3_find 59 = .ok (.iadd, 1) := by decide +kernel
theorem dX3_find_60 : decode cX3_find 60 = .ok (.aload_n 0, 1) := by decide +kernel
theorem dX3_find_61 : decode cX3_find 61 = .ok (.getfield 7, 3) := by decide +kernel
theorem dX3_find_64 : decode cX3_find 64 = .ok (.iload_n 3, 1) := by decide +kernel
theorem dX3_find_65 : decode cX3_find 65 = .ok (.bipush 6, 2) := by decide +kernel
theorem dX3_find_67 : decode cX3_find 67 = .ok (.iadd, 1) := by decide +kernel
theorem dX3_find_68 : decode cX3_find 68 = .ok (.iload 4, 2) := by decide +kernel
theorem dX3_find_70 : decode cX3_find 70 = .ok (.iadd, 1) := by decide +kernel
theorem dX3_find_71 : decode cX3_find 71 = .ok (.iaload, 1) := by decide +kernel
theorem dX3_find_72 : decode cX3_find 72 = .ok (.iastore, 1) := by decide +kernel
theorem dX3_find_73 : decode cX3_find 73 = .ok (.iinc 4 1, 3) := by decide +kernel
theorem dX3_find_76 : decode cX3_find 76 = .ok (.goto (-38), 3) := by decide +kernel
theorem dX3_find_79 : decode cX3_find 79 = .ok (.return_, 1) := by decide +kernel
set_option maxRecDepth 20000 in
theorem ggX3_mend_X3_from : GoodIn wsX3_mend wsX3_from := goodIn_r _ [7] (by decide +kernel) (by decide +kernel)
set_option maxRecDepth 20000 in
theorem gX3_mend_X3_from : GoodIn wsX3_mend (wsV RX3 50 RX3 yX3_from wsX3_from) := goodIn_app (goodIn_of _ (by decide +kernel)) ggX3_mend_X3_from
theorem dX3_mend_0 : decode cX3_mend 0 = .ok (.iconst 0, 1) := by decide +kernel
theorem dX3_mend_1 : decode cX3_mend 1 = .ok (.istore_n 3, 1) := by decide +kernel
theorem dX3_mend_2 : decode cX3_mend 2 = .ok (.iload_n 3, 1) := by decide +kernel
theorem dX3_mend_3 : decode cX3_mend 3 = .ok (.bipush 64, 2) := by decide +kernel
theorem dX3_mend_5 : decode cX3_mend 5 = .ok (.if_icmp .ge 37, 3) := by decide +kernel
theorem dX3_mend_8 : decode cX3_mend 8 = .ok (.aload_n 0, 1) := by decide +kernel
theorem dX3_mend_9 : decode cX3_mend 9 = .ok (.getfield 7, 3) := by decide +kernel
theorem dX3_mend_12 : decode cX3_mend 12 = .ok (.aload_n 0, 1) := by decide +kernel
theorem dX3_mend_13 : decode cX3_mend 13 = .ok (.iload_n 1, 1) := by decide +kernel
theorem dX3_mend_14 : decode cX3_mend 14 = .ok (.iload_n 2, 1) := by decide +kernel
theorem dX3_mend_15 : decode cX3_mend 15 = .ok (.invokevirtual 50, 3) := by decide +kernel
theorem dX3_mend_18 : decode cX3_mend 18 = .ok (.iload_n 3, 1) := by decide +kernel
theorem dX3_mend_19 : decode cX3_mend 19 = .ok (.iadd, 1) := by decide +kernel
theorem dX3_mend_20 : decode cX3_mend 20 = .ok (.aload_n 0, 1) := by decide +kernel
theorem dX3_mend_21 : decode cX3_mend 21 = .ok (.getfield 7, 3) := by decide +kernel
theorem dX3_mend_24 : decode cX3_mend 24 = .ok (.aload_n 0, 1) := by decide +kernel
theorem dX3_mend_25 : decode cX3_mend 25 = .ok (.iconst 1, 1) := by decide +kernel
theorem dX3_mend_26 : decode cX3_mend 26 = .ok (.iload_n 1, 1) := by decide +kernel
theorem dX3_mend_27 : decode cX3_mend 27 = .ok (.isub, 1) := by decide +kernel
theorem dX3_mend_28 : decode cX3_mend 28 = .ok (.iload_n 2, 1) := by decide +kernel
theorem dX3_mend_29 : decode cX3_mend 29 = .ok (.invokevirtual 50, 3) := by decide +kernel
theorem dX3_mend_32 : decode cX3_mend 32 = .ok (.iload_n 3, 1) := by decide +kernel
theorem dX3_mend_33 : decode cX3_mend 33 = .ok (.iadd, 1) := by decide +kernel
theorem dX3_mend_34 : decode cX3_mend 34 = .ok (.iaload, 1) := by decide +kernel
theorem dX3_mend_35 : decode cX3_mend 35 = .ok (.iastore, 1) := by decide +kernel
theorem dX3_mend_36 : decode cX3_mend 36 = .ok (.iinc 3 1, 3) := by decide +kernel
theorem dX3_mend_39 : decode cX3_mend 39 = .ok (.goto (-37), 3) := by decide +kernel
theorem dX3_mend_42 : decode cX3_mend 42 = .ok (.aload_n 0, 1) := by decide +kernel
theorem dX3_mend_43 : decode cX3_mend 43 = .ok (.dup, 1) := by decide +kernel
theorem dX3_mend_44 : decode cX3_mend 44 = .ok (.getfield 95, 3) := by decide +kernel
theorem dX3_mend_47 : decode cX3_mend 47 = .ok (.iconst 1, 1) := by decide +kernel
theorem dX3_mend_48 : decode cX3_mend 48 = .ok (.iadd, 1) := by decide +kernel
theorem dX3_mend_49 : decode cX3_mend 49 = .ok (.putfield 95, 3) := by decide +kernel
theorem dX3_mend_52 : decode cX3_mend 52 = .ok (.return_, 1) := by decide +kernel
set_option maxRecDepth 20000 in
theorem ggX3_start_X3_isRight : GoodIn wsX3_start wsX3_isRight := goodIn_r _ [11, 12, 13, 14, 15, 16, 10, 17, 18, 19, 20, 21, 22, 23, 24, 25, 26, 27, 28, 29, 30, 31, 32, 33, 34, 46, 47, 48, 49, 50, 51, 52, 53, 54, 55, 56, 57, 58, 59, 60, 61, 62] (by decide +kernel) (by decide +kernel)
set_option maxRecDepth 20000 in
theorem gX3_start_X3_isRight : GoodIn wsX3_start (wsV RX3 98 RX3 yX3_isRight wsX3_isRight) := goodIn_app (goodIn_of _ (by decide +kernel)) ggX3_start_X3_isRight
set_option maxRecDepth 20000 in
theorem ggX3_start_X3_find : GoodIn wsX3_start wsX3_find := goodIn_r _ [38, 39, 12, 40, 41, 14, 15, 16, 10, 17, 46, 47, 48, 49, 50, 51, 52, 53, 54, 55, 56, 57, 58, 59, 60, 61, 62] (by decide +kernel) (by decide +kernel)
set_option maxRecDepth 20000 in
theorem gX3_start_X3_find : GoodIn wsX3_start (wsV RX3 101 RX3 yX3_find wsX3_find) := goodIn_app (goodIn_of _ (by decide +kernel)) ggX3_start_X3_find
set_option maxRecDepth 20000 in
theorem ggX3_start_X3_mend : GoodIn wsX3_start wsX3_mend := goodIn_r _ [45, 12, 4, 14, 15, 16, 10, 17, 46, 47, 48, 49, 50, 51, 52, 53, 54, 55, 56, 57, 58, 59, 60, 61, 62] (by decide +kernel) (by decide +kernel)
set_option maxRecDepth 20000 in
theorem gX3_start_X3_mend : GoodIn wsX3_start (wsV RX3 105 RX3 yX3_mend wsX3_mend) := goodIn_app (goodIn_of _ (by decide +kernel)) ggX3_start_X3_mend
theorem dX3_start_0 : decode cX3_start 0 = .ok (.aload_n 0, 1) := by decide +kernel
theorem dX3_start_1 : decode cX3_start 1 = .ok (.iconst 0, 1) := by decide +kernel
theorem dX3_start_2 : decode cX3_start 2 = .ok (.putfield 35, 3) := by decide +kernel
theorem dX3_start_5 : decode cX3_start 5 = .ok (.aload_n 0, 1) := by decide +kernel
theorem dX3_start_6 : decode cX3_start 6 = .ok (.iconst 0, 1) := by decide +kernel
theorem dX3_start_7 : decode cX3_start 7 = .ok (.putfield 62, 3) := by decide +kernel
theorem dX3_start_10 : decode cX3_start 10 = .ok (.aload_n 0, 1) := by decide +kernel
theorem dX3_start_11 : decode cX3_start 11 = .ok (.iconst 0, 1) := by decide +kernel
theorem dX3_start_12 : decode cX3_start 12 = .ok (.putfield 73, 3) := by decide +kernel
theorem dX3_start_15 : decode cX3_start 15 = .ok (.aload_n 0, 1) := by decide +kernel
theorem dX3_start_16 : decode cX3_start 16 = .ok (.iconst 0, 1) := by decide +kernel
theorem dX3_start_17 : decode cX3_start 17 = .ok (.putfield 95, 3) := by decide +kernel
theorem dX3_start_20 : decode cX3_start 20 = .ok (.iconst 1, 1) := by decide +kernel
theorem dX3_start_21 : decode cX3_start 21 = .ok (.istore_n 1, 1) := by decide +kernel
theorem dX3_start_22 : decode cX3_start 22 = .ok (.iconst 0, 1) := by decide +kernel
theorem dX3_start_23 : decode cX3_start 23 = .ok (.istore_n 2, 1) := by decide +kernel
theorem dX3_start_24 : decode cX3_start 24 = .ok (.iload_n 2, 1) := by decide +kernel
theorem dX3_start_25 : decode cX3_start 25 = .ok (.aload_n 0, 1) := by decide +kernel
theorem dX3_start_26 : decode cX3_start 26 = .ok (.getfield 32, 3) := by decide +kernel
theorem dX3_start_29 : decode cX3_start 29 = .ok (.if_icmp .ge 100, 3) := by decide +kernel
theorem dX3_start_32 : decode cX3_start 32 = .ok (.iload_n 1, 1) := by decide +kernel
theorem dX3_start_33 : decode cX3_start 33 = .ok (.ifCond .eq 96, 3) := by decide +kernel
theorem dX3_start_36 : decode cX3_start 36 = .ok (.aload_n 0, 1) := by decide +kernel
theorem dX3_start_37 : decode cX3_start 37 = .ok (.iconst 0, 1) := by decide +kernel
theorem dX3_start_38 : decode cX3_start 38 = .ok (.iload_n 2, 1) := by decide +kernel
theorem dX3_start_39 : decode cX3_start 39 = .ok (.invokevirtual 98, 3) := by decide +kernel
theorem dX3_start_42 : decode cX3_start 42 = .ok (.istore_n 3, 1) := by decide +kernel
theorem dX3_start_43 : decode cX3_start 43 = .ok (.aload_n 0, 1) := by decide +kernel
theorem dX3_start_44 : decode cX3_start 44 = .ok (.iconst 1, 1) := by decide +kernel
theorem dX3_start_45 : decode cX3_start 45 = .ok (.iload_n 2, 1) := by decide +kernel
theorem dX3_start_46 : decode cX3_start 46 = .ok (.invokevirtual 98, 3) := by decide +kernel
theorem dX3_start_49 : decode cX3_start 49 = .ok (.istore 4, 2) := by decide +kernel
theorem dX3_start_51 : decode cX3_start 51 = .ok (.iload_n 3, 1) := by decide +kernel
theorem dX3_start_52 : decode cX3_start 52 = .ok (.ifCond .ne 8, 3) := by decide +kernel
theorem dX3_start_55 : decode cX3_start 55 = .ok (.iload 4, 2) := by decide +kernel
theorem dX3_start_57 : decode cX3_start 57 = .ok (.ifCond .eq 7, 3) := by decide +kernel
theorem dX3_start_60 : decode cX3_start 60 = .ok (.iconst 1, 1) := by decide +kernel
theorem dX3_start_61 : decode cX3_start 61 = .ok (.goto 4, 3) := by decide +kernel
theorem dX3_start_64 : decode cX3_start 64 = .ok (.iconst 0, 1) := by decide +kernel
theorem dX3_start_65 : decode cX3_start 65 = .ok (.istore_n 1, 1) := by decide +kernel
theorem dX3_start_66 : decode cX3_start 66 = .ok (.iload_n 1, 1) := by decide +kernel
theorem dX3_start_67 : decode cX3_start 67 = .ok (.ifCond .eq 27, 3) := by decide +kernel
theorem dX3_start_70 : decode cX3_start 70 = .ok (.aload_n 0, 1) := by decide +kernel
theorem dX3_start_71 : decode cX3_start 71 = .ok (.iload_n 3, 1) := by decide +kernel
theorem dX3_start_72 : decode cX3_start 72 = .ok (.ifCond .eq 7, 3) := by decide +kernel
theorem dX3_start_75 : decode cX3_start 75 = .ok (.iconst 0, 1) := by decide +kernel
theorem dX3_start_76 : decode cX3_start 76 = .ok (.goto 4, 3) := by decide +kernel
theorem dX3_start_79 : decode cX3_start 79 = .ok (.iconst 1, 1) := by decide +kernel
theorem dX3_start_80 : decode cX3_start 80 = .ok (.iload_n 2, 1) := by decide +kernel
theorem dX3_start_81 : decode cX3_start 81 = .ok (.invokevirtual 101, 3) := by decide +kernel
theorem dX3_start_84 : decode cX3_start 84 = .ok (.aload_n 0, 1) := by decide +kernel
theorem dX3_start_85 : decode cX3_start 85 = .ok (.dup, 1) := by decide +kernel
theorem dX3_start_86 : decode cX3_start 86 = .ok (.getfield 73, 3) := by decide +kernel
theorem dX3_start_89 : decode cX3_start 89 = .ok (.iconst 1, 1) := by decide +kernel
theorem dX3_start_90 : decode cX3_start 90 = .ok (.iadd, 1) := by decide +kernel
theorem dX3_start_91 : decode cX3_start 91 = .ok (.putfield 73, 3) := by decide +kernel
theorem dX3_start_94 : decode cX3_start 94 = .ok (.iload_n 1, 1) := by decide +kernel
theorem dX3_start_95 : decode cX3_start 95 = .ok (.ifCond .eq 13, 3) := by decide +kernel
theorem dX3_start_98 : decode cX3_start 98 = .ok (.iload_n 3, 1) := by decide +kernel
theorem dX3_start_99 : decode cX3_start 99 = .ok (.ifCond .ne 9, 3) := by decide +kernel
theorem dX3_start_102 : decode cX3_start 102 = .ok (.aload_n 0, 1) := by decide +kernel
theorem dX3_start_103 : decode cX3_start 103 = .ok (.iconst 0, 1) := by decide +kernel
theorem dX3_start_104 : decode cX3_start 104 = .ok (.iload_n 2, 1) := by decide +kernel
theorem dX3_start_105 : decode cX3_start 105 = .ok (.invokevirtual 105, 3) := by decide +kernel
theorem dX3_start_108 : decode cX3_start 108 = .ok (.iload_n 1, 1) := by decide +kernel
theorem dX3_start_109 : decode cX3_start 109 = .ok (.ifCond .eq 14, 3) := by decide +kernel
theorem dX3_start_112 : decode cX3_start 112 = .ok (.iload 4, 2) := by decide +kernel
theorem dX3_start_114 : decode cX3_start 114 = .ok (.ifCond .ne 9, 3) := by decide +kernel
theorem dX3_start_117 : decode cX3_start 117 = .ok (.aload_n 0, 1) := by decide +kernel
theorem dX3_start_118 : decode cX3_start 118 = .ok (.iconst 1, 1) := by decide +kernel
theorem dX3_start_119 : decode cX3_start 119 = .ok (.iload_n 2, 1) := by decide +kernel
theorem dX3_start_120 : decode cX3_start 120 = .ok (.invokevirtual 105, 3) := by decide +kernel
theorem dX3_start_123 : decode cX3_start 123 = .ok (.iinc 2 1, 3) := by decide +kernel
theorem dX3_start_126 : decode cX3_start 126 = .ok (.goto (-102), 3) := by decide +kernel
theorem dX3_start_129 : decode cX3_start 129 = .ok (.aload_n 0, 1) := by decide +kernel
theorem dX3_start_130 : decode cX3_start 130 = .ok (.aload_n 0, 1) := by decide +kernel
theorem dX3_start_131 : decode cX3_start 131 = .ok (.getfield 73, 3) := by decide +kernel
theorem dX3_start_134 : decode cX3_start 134 = .ok (.putfield 82, 3) := by decide +kernel
theorem dX3_start_137 : decode cX3_start 137 = .ok (.aload_n 0, 1) := by decide +kernel
theorem dX3_start_138 : decode cX3_start 138 = .ok (.getfield 73, 3) := by decide +kernel
theorem dX3_start_141 : decode cX3_start 141 = .ok (.ireturn, 1) := by decide +kernel
set_option maxRecDepth 20000 in
theorem ggX3_poke_X3_in : GoodIn wsX3_poke wsX3_in := goodIn_r _ [7] (by decide +kernel) (by decide +kernel)
set_option maxRecDepth 20000 in
theorem gX3_poke_X3_in : GoodIn wsX3_poke (va_wsS RX3 58 yX3_in wsX3_in) := goodIn_app (goodIn_of _ (by decide +kernel)) ggX3_poke_X3_in
theorem dX3_poke_0 : decode cX3_poke 0 = .ok (.aload_n 0, 1) := by decide +kernel
theorem dX3_poke_1 : decode cX3_poke 1 = .ok (.iconst 0, 1) := by decide +kernel
theorem dX3_poke_2 : decode cX3_poke 2 = .ok (.putfield 35, 3) := by decide +kernel
theorem dX3_poke_5 : decode cX3_poke 5 = .ok (.iload_n 1, 1) := by decide +kernel
theorem dX3_poke_6 : decode cX3_poke 6 = .ok (.iconst 0, 1) := by decide +kernel
theorem dX3_poke_7 : decode cX3_poke 7 = .ok (.iconst 1, 1) := by decide +kernel
theorem dX3_poke_8 : decode cX3_poke 8 = .ok (.invokestatic 58, 3) := by decide +kernel
theorem dX3_poke_11 : decode cX3_poke 11 = .ok (.ifCond .eq 31, 3) := by decide +kernel
theorem dX3_poke_14 : decode cX3_poke 14 = .ok (.iload_n 2, 1) := by decide +kernel
theorem dX3_poke_15 : decode cX3_poke 15 = .ok (.iconst 0, 1) := by decide +kernel
theorem dX3_poke_16 : decode cX3_poke 16 = .ok (.bipush 64, 2) := by decide +kernel
theorem dX3_poke_18 : decode cX3_poke 18 = .ok (.aload_n 0, 1) := by decide +kernel
theorem dX3_poke_19 : decode cX3_poke 19 = .ok (.getfield 32, 3) := by decide +kernel
theorem dX3_poke_22 : decode cX3_poke 22 = .ok (.imul, 1) := by decide +kernel
theorem dX3_poke_23 : decode cX3_poke 23 = .ok (.iconst 1, 1) := by decide +kernel
theorem dX3_poke_24 : decode cX3_poke 24 = .ok (.isub, 1) := by decide +kernel
theorem dX3_poke_25 : decode cX3_poke 25 = .ok (.invokestatic 58, 3) := by decide +kernel
theorem dX3_poke_28 : decode cX3_poke 28 = .ok (.ifCond .eq 14, 3) := by decide +kernel
theorem dX3_poke_31 : decode cX3_poke 31 = .ok (.iload_n 3, 1) := by decide +kernel
theorem dX3_poke_32 : decode cX3_poke 32 = .ok (.iconst 1, 1) := by decide +kernel
theorem dX3_poke_33 : decode cX3_poke 33 = .ok (.sipush 255, 3) := by decide +kernel
theorem dX3_poke_36 : decode cX3_poke 36 = .ok (.invokestatic 58, 3) := by decide +kernel
theorem dX3_poke_39 : decode cX3_poke 39 = .ok (.ifCond .ne 5, 3) := by decide +kernel
theorem dX3_poke_42 : decode cX3_poke 42 = .ok (.iconst 0, 1) := by decide +kernel
theorem dX3_poke_43 : decode cX3_poke 43 = .ok (.ireturn, 1) := by decide +kernel
theorem dX3_poke_44 : decode cX3_poke 44 = .ok (.aload_n 0, 1) := by decide +kernel
theorem dX3_poke_45 : decode cX3_poke 45 = .ok (.getfield 7, 3) := by decide +kernel
theorem dX3_poke_48 : decode cX3_poke 48 = .ok (.sipush 4096, 3) := by decide +kernel
theorem dX3_poke_51 : decode cX3_poke 51 = .ok (.iload_n 1, 1) := by decide +kernel
theorem dX3_poke_52 : decode cX3_poke 52 = .ok (.imul, 1) := by decide +kernel
theorem dX3_poke_53 : decode cX3_poke 53 = .ok (.iload_n 2, 1) := by decide +kernel
theorem dX3_poke_54 : decode cX3_poke 54 = .ok (.iadd, 1) := by decide +kernel
theorem dX3_poke_55 : decode cX3_poke 55 = .ok (.dup2, 1) := by decide +kernel
theorem dX3_poke_56 : decode cX3_poke 56 = .ok (.iaload, 1) := by decide +kernel
theorem dX3_poke_57 : decode cX3_poke 57 = .ok (.iload_n 3, 1) := by decide +kernel
theorem dX3_poke_58 : decode cX3_poke 58 = .ok (.ixor, 1) := by decide +kernel
theorem dX3_poke_59 : decode cX3_poke 59 = .ok (.iastore, 1) := by decide +kernel
theorem dX3_poke_60 : decode cX3_poke 60 = .ok (.iconst 1, 1) := by decide +kernel
theorem dX3_poke_61 : decode cX3_poke 61 = .ok (.ireturn, 1) := by decide +kernel
set_option maxRecDepth 20000 in
theorem ggX3_disk_X3_in : GoodIn wsX3_disk wsX3_in := goodIn_r _ [6] (by decide +kernel) (by decide +kernel)
set_option maxRecDepth 20000 in
theorem gX3_disk_X3_in : GoodIn wsX3_disk (va_wsS RX3 58 yX3_in wsX3_in) := goodIn_app (goodIn_of _ (by decide +kernel)) ggX3_disk_X3_in
set_option maxRecDepth 20000 in
theorem ggX3_disk_X3_fails : GoodIn wsX3_disk wsX3_fails := goodIn_r _ [10, 11, 12, 13, 14, 15, 16, 17, 18, 19, 20, 21, 22, 23, 24, 25, 26, 27, 28] (by decide +kernel) (by decide +kernel)
set_option maxRecDepth 20000 in
theorem gX3_disk_X3_fails : GoodIn wsX3_disk (wsV RX3 69 RX3 yX3_fails wsX3_fails) := goodIn_app (goodIn_of _ (by decide +kernel)) ggX3_disk_X3_fails
theorem dX3_disk_0 : decode cX3_disk 0 = .ok (.aload_n 0, 1) := by decide +kernel
theorem dX3_disk_1 : decode cX3_disk 1 = .ok (.iload_n 1, 1) := by decide +kernel
theorem dX3_disk_2 : decode cX3_disk 2 = .ok (.iconst 0, 1) := by decide +kernel
theorem dX3_disk_3 : decode cX3_disk 3 = .ok (.iconst 1, 1) := by decide +kernel
theorem dX3_disk_4 : decode cX3_disk 4 = .ok (.invokestatic 58, 3) := by decide +kernel
theorem dX3_disk_7 : decode cX3_disk 7 = .ok (.ifCond .ne 7, 3) := by decide +kernel
theorem dX3_disk_10 : decode cX3_disk 10 = .ok (.iconst 1, 1) := by decide +kernel
theorem dX3_disk_11 : decode cX3_disk 11 = .ok (.goto 4, 3) := by decide +kernel
theorem dX3_disk_14 : decode cX3_disk 14 = .ok (.iconst 0, 1) := by decide +kernel
theorem dX3_disk_15 : decode cX3_disk 15 = .ok (.iload_n 2, 1) := by decide +kernel
theorem dX3_disk_16 : decode cX3_disk 16 = .ok (.iconst 0, 1) := by decide +kernel
theorem dX3_disk_17 : decode cX3_disk 17 = .ok (.bipush 64, 2) := by decide +kernel
theorem dX3_disk_19 : decode cX3_disk 19 = .ok (.aload_n 0, 1) := by decide +kernel
theorem dX3_disk_20 : decode cX3_disk 20 = .ok (.getfield 32, 3) := by decide +kernel
theorem dX3_disk_23 : decode cX3_disk 23 = .ok (.imul, 1) := by decide +kernel
theorem dX3_disk_24 : decode cX3_disk 24 = .ok (.iconst 1, 1) := by decide +kernel
theorem dX3_disk_25 : decode cX3_disk 25 = .ok (.isub, 1) := by decide +kernel
theorem dX3_disk_26 : decode cX3_disk 26 = .ok (.invokestatic 58, 3) := by decide +kernel
theorem dX3_disk_29 : decode cX3_disk 29 = .ok (.ifCond .ne 7, 3) := by decide +kernel
theorem dX3_disk_32 : decode cX3_disk 32 = .ok (.iconst 1, 1) := by decide +kernel
theorem dX3_disk_33 : decode cX3_disk 33 = .ok (.goto 4, 3) := by decide +kernel
theorem dX3_disk_36 : decode cX3_disk 36 = .ok (.iconst 0, 1) := by decide +kernel
theorem dX3_disk_37 : decode cX3_disk 37 = .ok (.iconst 0, 1) := by decide +kernel
theorem dX3_disk_38 : decode cX3_disk 38 = .ok (.invokevirtual 69, 3) := by decide +kernel
theorem dX3_disk_41 : decode cX3_disk 41 = .ok (.ifCond .eq 7, 3) := by decide +kernel
theorem dX3_disk_44 : decode cX3_disk 44 = .ok (.iconst 0, 1) := by decide +kernel
theorem dX3_disk_45 : decode cX3_disk 45 = .ok (.goto 15, 3) := by decide +kernel
theorem dX3_disk_48 : decode cX3_disk 48 = .ok (.aload_n 0, 1) := by decide +kernel
theorem dX3_disk_49 : decode cX3_disk 49 = .ok (.getfield 7, 3) := by decide +kernel
theorem dX3_disk_52 : decode cX3_disk 52 = .ok (.sipush 4096, 3) := by decide +kernel
theorem dX3_disk_55 : decode cX3_disk 55 = .ok (.iload_n 1, 1) := by decide +kernel
theorem dX3_disk_56 : decode cX3_disk 56 = .ok (.imul, 1) := by decide +kernel
theorem dX3_disk_57 : decode cX3_disk 57 = .ok (.iload_n 2, 1) := by decide +kernel
theorem dX3_disk_58 : decode cX3_disk 58 = .ok (.iadd, 1) := by decide +kernel
theorem dX3_disk_59 : decode cX3_disk 59 = .ok (.iaload, 1) := by decide +kernel
theorem dX3_disk_60 : decode cX3_disk 60 = .ok (.ireturn, 1) := by decide +kernel
set_option maxRecDepth 20000 in
theorem ggX3_isRow_X3_in : GoodIn wsX3_isRow wsX3_in := goodIn_r _ [5] (by decide +kernel) (by decide +kernel)
set_option maxRecDepth 20000 in
theorem gX3_isRow_X3_in : GoodIn wsX3_isRow (va_wsS RX3 58 yX3_in wsX3_in) := goodIn_app (goodIn_of _ (by decide +kernel)) ggX3_isRow_X3_in
theorem dX3_isRow_0 : decode cX3_isRow 0 = .ok (.iload_n 1, 1) := by decide +kernel
theorem dX3_isRow_1 : decode cX3_isRow 1 = .ok (.iconst 0, 1) := by decide +kernel
theorem dX3_isRow_2 : decode cX3_isRow 2 = .ok (.aload_n 0, 1) := by decide +kernel
theorem dX3_isRow_3 : decode cX3_isRow 3 = .ok (.getfield 73, 3) := by decide +kernel
theorem dX3_isRow_6 : decode cX3_isRow 6 = .ok (.iconst 1, 1) := by decide +kernel
theorem dX3_isRow_7 : decode cX3_isRow 7 = .ok (.isub, 1) := by decide +kernel
theorem dX3_isRow_8 : decode cX3_isRow 8 = .ok (.invokestatic 58, 3) := by decide +kernel
theorem dX3_isRow_11 : decode cX3_isRow 11 = .ok (.ireturn, 1) := by decide +kernel
set_option maxRecDepth 20000 in
theorem ggX3_at_X3_isRow : GoodIn wsX3_at wsX3_isRow := goodIn_r _ [8, 9, 10, 11, 7, 12, 18, 19, 20, 21, 22, 23, 24, 25, 26, 27, 28, 29, 30, 31, 32, 33, 34] (by decide +kernel) (by decide +kernel)
set_option maxRecDepth 20000 in
theorem gX3_at_X3_isRow : GoodIn wsX3_at (wsV RX3 108 RX3 yX3_isRow wsX3_isRow) := goodIn_app (goodIn_of _ (by decide +kernel)) ggX3_at_X3_isRow
set_option maxRecDepth 20000 in
theorem ggX3_at_X3_in : GoodIn wsX3_at wsX3_in := goodIn_r _ [12] (by decide +kernel) (by decide +kernel)
set_option maxRecDepth 20000 in
theorem gX3_at_X3_in : GoodIn wsX3_at (va_wsS RX3 58 yX3_in wsX3_in) := goodIn_app (goodIn_of _ (by decide +kernel)) ggX3_at_X3_in
set_option maxRecDepth 20000 in
theorem ggX3_at_X3_fails : GoodIn wsX3_at wsX3_fails := goodIn_r _ [16, 17, 18, 19, 20, 21, 22, 23, 24, 25, 26, 27, 28, 29, 30, 31, 32, 33, 34] (by decide +kernel) (by decide +kernel)
set_option maxRecDepth 20000 in
theorem gX3_at_X3_fails : GoodIn wsX3_at (wsV RX3 69 RX3 yX3_fails wsX3_fails) := goodIn_app (goodIn_of _ (by decide +kernel)) ggX3_at_X3_fails
theorem dX3_at_0 : decode cX3_at 0 = .ok (.aload_n 0, 1) := by decide +kernel
theorem dX3_at_1 : decode cX3_at 1 = .ok (.iload_n 1, 1) := by decide +kernel
theorem dX3_at_2 : decode cX3_at 2 = .ok (.invokevirtual 108, 3) := by decide +kernel
theorem dX3_at_5 : decode cX3_at 5 = .ok (.istore_n 3, 1) := by decide +kernel
theorem dX3_at_6 : decode cX3_at 6 = .ok (.aload_n 0, 1) := by decide +kernel
theorem dX3_at_7 : decode cX3_at 7 = .ok (.aload_n 0, 1) := by decide +kernel
theorem dX3_at_8 : decode cX3_at 8 = .ok (.getfield 62, 3) := by decide +kernel
theorem dX3_at_11 : decode cX3_at 11 = .ok (.iload_n 3, 1) := by decide +kernel
theorem dX3_at_12 : decode cX3_at 12 = .ok (.ifCond .ne 7, 3) := by decide +kernel
theorem dX3_at_15 : decode cX3_at 15 = .ok (.iconst 1, 1) := by decide +kernel
theorem dX3_at_16 : decode cX3_at 16 = .ok (.goto 4, 3) := by decide +kernel
theorem dX3_at_19 : decode cX3_at 19 = .ok (.iconst 0, 1) := by decide +kernel
theorem dX3_at_20 : decode cX3_at 20 = .ok (.iload_n 3, 1) := by decide +kernel
theorem dX3_at_21 : decode cX3_at 21 = .ok (.ifCond .eq 23, 3) := by decide +kernel
theorem dX3_at_24 : decode cX3_at 24 = .ok (.iload_n 2, 1) := by decide +kernel
theorem dX3_at_25 : decode cX3_at 25 = .ok (.iconst 0, 1) := by decide +kernel
theorem dX3_at_26 : decode cX3_at 26 = .ok (.aload_n 0, 1) := by decide +kernel
theorem dX3_at_27 : decode cX3_at 27 = .ok (.getfield 16, 3) := by decide +kernel
theorem dX3_at_30 : decode cX3_at 30 = .ok (.iload_n 1, 1) := by decide +kernel
theorem dX3_at_31 : decode cX3_at 31 = .ok (.iaload, 1) := by decide +kernel
theorem dX3_at_32 : decode cX3_at 32 = .ok (.iconst 1, 1) := by decide +kernel
theorem dX3_at_33 : decode cX3_at 33 = .ok (.isub, 1) := by decide +kernel
theorem dX3_at_34 : decode cX3_at 34 = .ok (.invokestatic 58, 3) := by decide +kernel
theorem dX3_at_37 : decode cX3_at 37 = .ok (.ifCond .ne 7, 3) := by decide +kernel
theorem dX3_at_40 : decode cX3_at 40 = .ok (.iconst 1, 1) := by decide +kernel
theorem dX3_at_41 : decode cX3_at 41 = .ok (.goto 4, 3) := by decide +kernel
theorem dX3_at_44 : decode cX3_at 44 = .ok (.iconst 0, 1) := by decide +kernel
theorem dX3_at_45 : decode cX3_at 45 = .ok (.invokevirtual 69, 3) := by decide +kernel
theorem dX3_at_48 : decode cX3_at 48 = .ok (.ifCond .eq 7, 3) := by decide +kernel
theorem dX3_at_51 : decode cX3_at 51 = .ok (.iconst 0, 1) := by decide +kernel
theorem dX3_at_52 : decode cX3_at 52 = .ok (.goto 14, 3) := by decide +kernel
theorem dX3_at_55 : decode cX3_at 55 = .ok (.aload_n 0, 1) := by decide +kernel
theorem dX3_at_56 : decode cX3_at 56 = .ok (.getfield 19, 3) := by decide +kernel
theorem dX3_at_59 : decode cX3_at 59 = .ok (.bipush 40, 2) := by decide +kernel
theorem dX3_at_61 : decode cX3_at 61 = .ok (.iload_n 1, 1) := by decide +kernel
theorem dX3_at_62 : decode cX3_at 62 = .ok (.imul, 1) := by decide +kernel
theorem dX3_at_63 : decode cX3_at 63 = .ok (.iload_n 2, 1) := by decide +kernel
theorem dX3_at_64 : decode cX3_at 64 = .ok (.iadd, 1) := by decide +kernel
theorem dX3_at_65 : decode cX3_at 65 = .ok (.iaload, 1) := by decide +kernel
theorem dX3_at_66 : decode cX3_at 66 = .ok (.ireturn, 1) := by decide +kernel
set_option maxRecDepth 20000 in
theorem ggX3_verify_X3_fails : GoodIn wsX3_verify wsX3_fails := goodIn_r _ [7, 8, 36, 37, 38, 39, 40, 41, 42, 43, 44, 45, 46, 47, 48, 49, 50, 51, 52] (by decide +kernel) (by decide +kernel)
set_option maxRecDepth 20000 in
theorem gX3_verify_X3_fails : GoodIn wsX3_verify (wsV RX3 69 RX3 yX3_fails wsX3_fails) := goodIn_app (goodIn_of _ (by decide +kernel)) ggX3_verify_X3_fails
set_option maxRecDepth 20000 in
theorem ggX3_verify_X3_isRight : GoodIn wsX3_verify wsX3_isRight := goodIn_r _ [12, 13, 14, 15, 16, 17, 6, 18, 19, 20, 21, 22, 23, 24, 25, 26, 27, 28, 29, 30, 31, 32, 33, 34, 35, 36, 37, 38, 39, 40, 41, 42, 43, 44, 45, 46, 47, 48, 49, 50, 51, 52] (by decide +kernel) (by decide +kernel)
set_option maxRecDepth 20000 in
theorem gX3_verify_X3_isRight : GoodIn wsX3_verify (wsV RX3 98 RX3 yX3_isRight wsX3_isRight) := goodIn_app (goodIn_of _ (by decide +kernel)) ggX3_verify_X3_isRight
theorem dX3_verify_0 : decode cX3_verify 0 = .ok (.aload_n 0, 1) := by decide +kernel
theorem dX3_verify_1 : decode cX3_verify 1 = .ok (.aload_n 0, 1) := by decide +kernel
theorem dX3_verify_2 : decode cX3_verify 2 = .ok (.getfield 62, 3) := by decide +kernel
theorem dX3_verify_5 : decode cX3_verify 5 = .ok (.iconst 0, 1) := by decide +kernel
theorem dX3_verify_6 : decode cX3_verify 6 = .ok (.iconst 0, 1) := by decide +kernel
theorem dX3_verify_7 : decode cX3_verify 7 = .ok (.invokevirtual 69, 3) := by decide +kernel
theorem dX3_verify_10 : decode cX3_verify 10 = .ok (.ifCond .eq 5, 3) := by decide +kernel
theorem dX3_verify_13 : decode cX3_verify 13 = .ok (.iconst 0, 1) := by decide +kernel
theorem dX3_verify_14 : decode cX3_verify 14 = .ok (.ireturn, 1) := by decide +kernel
theorem dX3_verify_15 : decode cX3_verify 15 = .ok (.iconst 0, 1) := by decide +kernel
theorem dX3_verify_16 : decode cX3_verify 16 = .ok (.istore_n 1, 1) := by decide +kernel
theorem dX3_verify_17 : decode cX3_verify 17 = .ok (.iload_n 1, 1) := by decide +kernel
theorem dX3_verify_18 : decode cX3_verify 18 = .ok (.aload_n 0, 1) := by decide +kernel
theorem dX3_verify_19 : decode cX3_verify 19 = .ok (.getfield 82, 3) := by decide +kernel
theorem dX3_verify_22 : decode cX3_verify 22 = .ok (.if_icmp .ge 39, 3) := by decide +kernel
theorem dX3_verify_25 : decode cX3_verify 25 = .ok (.iconst 0, 1) := by decide +kernel
theorem dX3_verify_26 : decode cX3_verify 26 = .ok (.istore_n 2, 1) := by decide +kernel
theorem dX3_verify_27 : decode cX3_verify 27 = .ok (.iload_n 2, 1) := by decide +kernel
theorem dX3_verify_28 : decode cX3_verify 28 = .ok (.iconst 2, 1) := by decide +kernel
theorem dX3_verify_29 : decode cX3_verify 29 = .ok (.if_icmp .ge 26, 3) := by decide +kernel
theorem dX3_verify_32 : decode cX3_verify 32 = .ok (.aload_n 0, 1) := by decide +kernel
theorem dX3_verify_33 : decode cX3_verify 33 = .ok (.iload_n 2, 1) := by decide +kernel
theorem dX3_verify_34 : decode cX3_verify 34 = .ok (.iload_n 1, 1) := by decide +kernel
theorem dX3_verify_35 : decode cX3_verify 35 = .ok (.invokevirtual 98, 3) := by decide +kernel
theorem dX3_verify_38 : decode cX3_verify 38 = .ok (.ifCond .ne 11, 3) := by decide +kernel
theorem dX3_verify_41 : decode cX3_verify 41 = .ok (.iconst 1, 1) := by decide +kernel
theorem dX3_verify_42 : decode cX3_verify 42 = .ok (.iconst 2, 1) := by decide +kernel
theorem dX3_verify_43 : decode cX3_verify 43 = .ok (.iload_n 1, 1) := by decide +kernel
theorem dX3_verify_44 : decode cX3_verify 44 = .ok (.imul, 1) := by decide +kernel
theorem dX3_verify_45 : decode cX3_verify 45 = .ok (.iadd, 1) := by decide +kernel
theorem dX3_verify_46 : decode cX3_verify 46 = .ok (.iload_n 2, 1) := by decide +kernel
theorem dX3_verify_47 : decode cX3_verify 47 = .ok (.iadd, 1) := by decide +kernel
theorem dX3_verify_48 : decode cX3_verify 48 = .ok (.ireturn, 1) := by decide +kernel
theorem dX3_verify_49 : decode cX3_verify 49 = .ok (.iinc 2 1, 3) := by decide +kernel
theorem dX3_verify_52 : decode cX3_verify 52 = .ok (.goto (-25), 3) := by decide +kernel
theorem dX3_verify_55 : decode cX3_verify 55 = .ok (.iinc 1 1, 3) := by decide +kernel
theorem dX3_verify_58 : decode cX3_verify 58 = .ok (.goto (-41), 3) := by decide +kernel
theorem dX3_verify_61 : decode cX3_verify 61 = .ok (.iconst 0, 1) := by decide +kernel
theorem dX3_verify_62 : decode cX3_verify 62 = .ok (.ireturn, 1) := by decide +kernel
set_option maxRecDepth 20000 in
theorem ggX3_extract_X3_isRow : GoodIn wsX3_extract wsX3_isRow := goodIn_r _ [10, 11, 12, 13, 9, 14, 30, 31, 32, 33, 34, 35, 36, 37, 38, 39, 40, 41, 42, 43, 44, 45, 46] (by decide +kernel) (by decide +kernel)
set_option maxRecDepth 20000 in
theorem gX3_extract_X3_isRow : GoodIn wsX3_extract (wsV RX3 108 RX3 yX3_isRow wsX3_isRow) := goodIn_app (goodIn_of _ (by decide +kernel)) ggX3_extract_X3_isRow
set_option maxRecDepth 20000 in
theorem ggX3_extract_X3_fails : GoodIn wsX3_extract wsX3_fails := goodIn_r _ [18, 19, 30, 31, 32, 33, 34, 35, 36, 37, 38, 39, 40, 41, 42, 43, 44, 45, 46] (by decide +kernel) (by decide +kernel)
set_option maxRecDepth 20000 in
theorem gX3_extract_X3_fails : GoodIn wsX3_extract (wsV RX3 69 RX3 yX3_fails wsX3_fails) := goodIn_app (goodIn_of _ (by decide +kernel)) ggX3_extract_X3_fails
set_option maxRecDepth 20000 in
theorem ggX3_extract_X3_begin : GoodIn wsX3_extract wsX3_begin := goodIn_r _ [23, 24, 5, 30, 31, 32, 33, 34, 35, 36, 37, 38, 39, 40, 41, 42, 43, 44, 45, 46] (by decide +kernel) (by decide +kernel)
set_option maxRecDepth 20000 in
theorem gX3_extract_X3_begin : GoodIn wsX3_extract (wsV RX3 43 RX3 yX3_begin wsX3_begin) := goodIn_app (goodIn_of _ (by decide +kernel)) ggX3_extract_X3_begin
set_option maxRecDepth 20000 in
theorem ggX3_extract_X3_goOn : GoodIn wsX3_extract wsX3_goOn := goodIn_r _ [28, 5, 29, 30, 31, 32, 33, 34, 35, 36, 37, 38, 39, 40, 41, 42, 43, 44, 45, 46] (by decide +kernel) (by decide +kernel)
set_option maxRecDepth 20000 in
theorem gX3_extract_X3_goOn : GoodIn wsX3_extract (wsV RX3 46 RX3 yX3_goOn wsX3_goOn) := goodIn_app (goodIn_of _ (by decide +kernel)) ggX3_extract_X3_goOn
theorem dX3_extract_0 : decode cX3_extract 0 = .ok (.aload_n 0, 1) := by decide +kernel
theorem dX3_extract_1 : decode cX3_extract 1 = .ok (.aload_n 0, 1) := by decide +kernel
theorem dX3_extract_2 : decode cX3_extract 2 = .ok (.getfield 62, 3) := by decide +kernel
theorem dX3_extract_5 : decode cX3_extract 5 = .ok (.aload_n 0, 1) := by decide +kernel
theorem dX3_extract_6 : decode cX3_extract 6 = .ok (.iload_n 1, 1) := by decide +kernel
theorem dX3_extract_7 : decode cX3_extract 7 = .ok (.invokevirtual 108, 3) := by decide +kernel
theorem dX3_extract_10 : decode cX3_extract 10 = .ok (.ifCond .eq 16, 3) := by decide +kernel
theorem dX3_extract_13 : decode cX3_extract 13 = .ok (.aload_n 0, 1) := by decide +kernel
theorem dX3_extract_14 : decode cX3_extract 14 = .ok (.iload_n 2, 1) := by decide +kernel
theorem dX3_extract_15 : decode cX3_extract 15 = .ok (.invokevirtual 108, 3) := by decide +kernel
theorem dX3_extract_18 : decode cX3_extract 18 = .ok (.ifCond .eq 8, 3) := by decide +kernel
theorem dX3_extract_21 : decode cX3_extract 21 = .ok (.iload_n 1, 1) := by decide +kernel
theorem dX3_extract_22 : decode cX3_extract 22 = .ok (.iload_n 2, 1) := by decide +kernel
theorem dX3_extract_23 : decode cX3_extract 23 = .ok (.if_icmp .le 7, 3) := by decide +kernel
theorem dX3_extract_26 : decode cX3_extract 26 = .ok (.iconst 1, 1) := by decide +kernel
theorem dX3_extract_27 : decode cX3_extract 27 = .ok (.goto 4, 3) := by decide +kernel
theorem dX3_extract_30 : decode cX3_extract 30 = .ok (.iconst 0, 1) := by decide +kernel
theorem dX3_extract_31 : decode cX3_extract 31 = .ok (.iconst 0, 1) := by decide +kernel
theorem dX3_extract_32 : decode cX3_extract 32 = .ok (.invokevirtual 69, 3) := by decide +kernel
theorem dX3_extract_35 : decode cX3_extract 35 = .ok (.ifCond .eq 5, 3) := by decide +kernel
theorem dX3_extract_38 : decode cX3_extract 38 = .ok (.iconst 0, 1) := by decide +kernel
theorem dX3_extract_39 : decode cX3_extract 39 = .ok (.ireturn, 1) := by decide +kernel
theorem dX3_extract_40 : decode cX3_extract 40 = .ok (.aload_n 0, 1) := by decide +kernel
theorem dX3_extract_41 : decode cX3_extract 41 = .ok (.invokevirtual 43, 3) := by decide +kernel
theorem dX3_extract_44 : decode cX3_extract 44 = .ok (.iload_n 1, 1) := by decide +kernel
theorem dX3_extract_45 : decode cX3_extract 45 = .ok (.istore_n 3, 1) := by decide +kernel
theorem dX3_extract_46 : decode cX3_extract 46 = .ok (.iload_n 3, 1) := by decide +kernel
theorem dX3_extract_47 : decode cX3_extract 47 = .ok (.iload_n 2, 1) := by decide +kernel
theorem dX3_extract_48 : decode cX3_extract 48 = .ok (.if_icmp .gt 65, 3) := by decide +kernel
theorem dX3_extract_51 : decode cX3_extract 51 = .ok (.aload_n 0, 1) := by decide +kernel
theorem dX3_extract_52 : decode cX3_extract 52 = .ok (.aload_n 0, 1) := by decide +kernel
theorem dX3_extract_53 : decode cX3_extract 53 = .ok (.getfield 13, 3) := by decide +kernel
theorem dX3_extract_56 : decode cX3_extract 56 = .ok (.iload_n 3, 1) := by decide +kernel
theorem dX3_extract_57 : decode cX3_extract 57 = .ok (.iaload, 1) := by decide +kernel
theorem dX3_extract_58 : decode cX3_extract 58 = .ok (.invokevirtual 46, 3) := by decide +kernel
theorem dX3_extract_61 : decode cX3_extract 61 = .ok (.aload_n 0, 1) := by decide +kernel
theorem dX3_extract_62 : decode cX3_extract 62 = .ok (.aload_n 0, 1) := by decide +kernel
theorem dX3_extract_63 : decode cX3_extract 63 = .ok (.getfield 16, 3) := by decide +kernel
theorem dX3_extract_66 : decode cX3_extract 66 = .ok (.iload_n 3, 1) := by decide +kernel
theorem dX3_extract_67 : decode cX3_extract 67 = .ok (.iaload, 1) := by decide +kernel
theorem dX3_extract_68 : decode cX3_extract 68 = .ok (.invokevirtual 46, 3) := by decide +kernel
theorem dX3_extract_71 : decode cX3_extract 71 = .ok (.iconst 0, 1) := by decide +kernel
theorem dX3_extract_72 : decode cX3_extract 72 = .ok (.istore 4, 2) := by decide +kernel
theorem dX3_extract_74 : decode cX3_extract 74 = .ok (.iload 4, 2) := by decide +kernel
theorem dX3_extract_76 : decode cX3_extract 76 = .ok (.aload_n 0, 1) := by decide +kernel
theorem dX3_extract_77 : decode cX3_extract 77 = .ok (.getfield 16, 3) := by decide +kernel
theorem dX3_extract_80 : decode cX3_extract 80 = .ok (.iload_n 3, 1) := by decide +kernel
theorem dX3_extract_81 : decode cX3_extract 81 = .ok (.iaload, 1) := by decide +kernel
theorem dX3_extract_82 : decode cX3_extract 82 = .ok (.if_icmp .ge 25, 3) := by decide +kernel
theorem dX3_extract_85 : decode cX3_extract 85 = .ok (.aload_n 0, 1) := by decide +kernel
theorem dX3_extract_86 : decode cX3_extract 86 = .ok (.aload_n 0, 1) := by decide +kernel
theorem dX3_extract_87 : decode cX3_extract 87 = .ok (.getfield 19, 3) := by decide +kernel
theorem dX3_extract_90 : decode cX3_extract 90 = .ok (.bipush 40, 2) := by decide +kernel
theorem dX3_extract_92 : decode cX3_extract 92 = .ok (.iload_n 3, 1) := by decide +kernel
theorem dX3_extract_93 : decode cX3_extract 93 = .ok (.imul, 1) := by decide +kernel
theorem dX3_extract_94 : decode cX3_extract 94 = .ok (.iload 4, 2) := by decide +kernel
theorem dX3_extract_96 : decode cX3_extract 96 = .ok (.iadd, 1) := by decide +kernel
theorem dX3_extract_97 : decode cX3_extract 97 = .ok (.iaload, 1) := by decide +kernel
theorem dX3_extract_98 : decode cX3_extract 98 = .ok (.invokevirtual 46, 3) := by decide +kernel
theorem dX3_extract_101 : decode cX3_extract 101 = .ok (.iinc 4 1, 3) := by decide +kernel
theorem dX3_extract_104 : decode cX3_extract 104 = .ok (.goto (-30), 3) := by decide +kernel
theorem dX3_extract_107 : decode cX3_extract 107 = .ok (.iinc 3 1, 3) := by decide +kernel
theorem dX3_extract_110 : decode cX3_extract 110 = .ok (.goto (-64), 3) := by decide +kernel
theorem dX3_extract_113 : decode cX3_extract 113 = .ok (.aload_n 0, 1) := by decide +kernel
theorem dX3_extract_114 : decode cX3_extract 114 = .ok (.getfield 39, 3) := by decide +kernel
theorem dX3_extract_117 : decode cX3_extract 117 = .ok (.ireturn, 1) := by decide +kernel
set_option maxRecDepth 20000 in
theorem ggX3_look_X3_isRow : GoodIn wsX3_look wsX3_isRow := goodIn_r _ [9, 10, 11, 12, 8, 13, 19, 20, 21, 22, 23, 24, 25, 26, 27, 28, 29, 30, 31, 32, 33, 34, 35] (by decide +kernel) (by decide +kernel)
set_option maxRecDepth 20000 in
theorem gX3_look_X3_isRow : GoodIn wsX3_look (wsV RX3 108 RX3 yX3_isRow wsX3_isRow) := goodIn_app (goodIn_of _ (by decide +kernel)) ggX3_look_X3_isRow
set_option maxRecDepth 20000 in
theorem ggX3_look_X3_in : GoodIn wsX3_look wsX3_in := goodIn_r _ [13] (by decide +kernel) (by decide +kernel)
set_option maxRecDepth 20000 in
theorem gX3_look_X3_in : GoodIn wsX3_look (va_wsS RX3 58 yX3_in wsX3_in) := goodIn_app (goodIn_of _ (by decide +kernel)) ggX3_look_X3_in
set_option maxRecDepth 20000 in
theorem ggX3_look_X3_fails : GoodIn wsX3_look wsX3_fails := goodIn_r _ [17, 18, 19, 20, 21, 22, 23, 24, 25, 26, 27, 28, 29, 30, 31, 32, 33, 34, 35] (by decide +kernel) (by decide +kernel)
set_option maxRecDepth 20000 in
theorem gX3_look_X3_fails : GoodIn wsX3_look (wsV RX3 69 RX3 yX3_fails wsX3_fails) := goodIn_app (goodIn_of _ (by decide +kernel)) ggX3_look_X3_fails
theorem dX3_look_0 : decode cX3_look 0 = .ok (.aload_n 0, 1) := by decide +kernel
theorem dX3_look_1 : decode cX3_look 1 = .ok (.aload_n 0, 1) := by decide +kernel
theorem dX3_look_2 : decode cX3_look 2 = .ok (.getfield 62, 3) := by decide +kernel
theorem dX3_look_5 : decode cX3_look 5 = .ok (.aload_n 0, 1) := by decide +kernel
theorem dX3_look_6 : decode cX3_look 6 = .ok (.iload_n 1, 1) := by decide +kernel
theorem dX3_look_7 : decode cX3_look 7 = .ok (.invokevirtual 108, 3) := by decide +kernel
theorem dX3_look_10 : decode cX3_look 10 = .ok (.ifCond .eq 12, 3) := by decide +kernel
theorem dX3_look_13 : decode cX3_look 13 = .ok (.iload_n 2, 1) := by decide +kernel
theorem dX3_look_14 : decode cX3_look 14 = .ok (.iconst 0, 1) := by decide +kernel
theorem dX3_look_15 : decode cX3_look 15 = .ok (.iconst 2, 1) := by decide +kernel
theorem dX3_look_16 : decode cX3_look 16 = .ok (.invokestatic 58, 3) := by decide +kernel
theorem dX3_look_19 : decode cX3_look 19 = .ok (.ifCond .ne 7, 3) := by decide +kernel
theorem dX3_look_22 : decode cX3_look 22 = .ok (.iconst 1, 1) := by decide +kernel
theorem dX3_look_23 : decode cX3_look 23 = .ok (.goto 4, 3) := by decide +kernel
theorem dX3_look_26 : decode cX3_look 26 = .ok (.iconst 0, 1) := by decide +kernel
theorem dX3_look_27 : decode cX3_look 27 = .ok (.iconst 0, 1) := by decide +kernel
theorem dX3_look_28 : decode cX3_look 28 = .ok (.invokevirtual 69, 3) := by decide +kernel
theorem dX3_look_31 : decode cX3_look 31 = .ok (.ifCond .eq 5, 3) := by decide +kernel
theorem dX3_look_34 : decode cX3_look 34 = .ok (.iconst 0, 1) := by decide +kernel
theorem dX3_look_35 : decode cX3_look 35 = .ok (.ireturn, 1) := by decide +kernel
theorem dX3_look_36 : decode cX3_look 36 = .ok (.iload_n 2, 1) := by decide +kernel
theorem dX3_look_37 : decode cX3_look 37 = .ok (.ifCond .ne 12, 3) := by decide +kernel
theorem dX3_look_40 : decode cX3_look 40 = .ok (.aload_n 0, 1) := by decide +kernel
theorem dX3_look_41 : decode cX3_look 41 = .ok (.getfield 13, 3) := by decide +kernel
theorem dX3_look_44 : decode cX3_look 44 = .ok (.iload_n 1, 1) := by decide +kernel
theorem dX3_look_45 : decode cX3_look 45 = .ok (.iaload, 1) := by decide +kernel
theorem dX3_look_46 : decode cX3_look 46 = .ok (.goto 30, 3) := by decide +kernel
theorem dX3_look_49 : decode cX3_look 49 = .ok (.iload_n 2, 1) := by decide +kernel
theorem dX3_look_50 : decode cX3_look 50 = .ok (.iconst 1, 1) := by decide +kernel
theorem dX3_look_51 : decode cX3_look 51 = .ok (.if_icmp .ne 12, 3) := by decide +kernel
theorem dX3_look_54 : decode cX3_look 54 = .ok (.aload_n 0, 1) := by decide +kernel
theorem dX3_look_55 : decode cX3_look 55 = .ok (.getfield 16, 3) := by decide +kernel
theorem dX3_look_58 : decode cX3_look 58 = .ok (.iload_n 1, 1) := by decide +kernel
theorem dX3_look_59 : decode cX3_look 59 = .ok (.iaload, 1) := by decide +kernel
theorem dX3_look_60 : decode cX3_look 60 = .ok (.goto 16, 3) := by decide +kernel
theorem dX3_look_63 : decode cX3_look 63 = .ok (.iload_n 1, 1) := by decide +kernel
theorem dX3_look_64 : decode cX3_look 64 = .ok (.aload_n 0, 1) := by decide +kernel
theorem dX3_look_65 : decode cX3_look 65 = .ok (.getfield 82, 3) := by decide +kernel
theorem dX3_look_68 : decode cX3_look 68 = .ok (.if_icmp .ge 7, 3) := by decide +kernel
theorem dX3_look_71 : decode cX3_look 71 = .ok (.iconst 1, 1) := by decide +kernel
theorem dX3_look_72 : decode cX3_look 72 = .ok (.goto 4, 3) := by decide +kernel
theorem dX3_look_75 : decode cX3_look 75 = .ok (.iconst 0, 1) := by decide +kernel
theorem dX3_look_76 : decode cX3_look 76 = .ok (.ireturn, 1) := by decide +kernel
theorem dX3_count_0 : decode cX3_count 0 = .ok (.aload_n 0, 1) := by decide +kernel
theorem dX3_count_1 : decode cX3_count 1 = .ok (.iconst 0, 1) := by decide +kernel
theorem dX3_count_2 : decode cX3_count 2 = .ok (.putfield 35, 3) := by decide +kernel
theorem dX3_count_5 : decode cX3_count 5 = .ok (.iload_n 1, 1) := by decide +kernel
theorem dX3_count_6 : decode cX3_count 6 = .ok (.tableswitch 136 0 7 #[46, 51, 67, 72, 77, 90, 95, 100], 46) := by decide +kernel
theorem dX3_count_52 : decode cX3_count 52 = .ok (.aload_n 0, 1) := by decide +kernel
theorem dX3_count_53 : decode cX3_count 53 = .ok (.getfield 32, 3) := by decide +kernel
theorem dX3_count_56 : decode cX3_count 56 = .ok (.ireturn, 1) := by decide +kernel
theorem dX3_count_57 : decode cX3_count 57 = .ok (.aload_n 0, 1) := by decide +kernel
theorem dX3_count_58 : decode cX3_count 58 = .ok (.getfield 62, 3) := by decide +kernel
theorem dX3_count_61 : decode cX3_count 61 = .ok (.ifCond .eq 7, 3) := by decide +kernel
theorem dX3_count_64 : decode cX3_count 64 = .ok (.iconst (-1), 1) := by decide +kernel
theorem dX3_count_65 : decode cX3_count 65 = .ok (.goto 7, 3) := by decide +kernel
theorem dX3_count_68 : decode cX3_count 68 = .ok (.aload_n 0, 1) := by decide +kernel
theorem dX3_count_69 : decode cX3_count 69 = .ok (.getfield 73, 3) := by decide +kernel
theorem dX3_count_72 : decode cX3_count 72 = .ok (.ireturn, 1) := by decide +kernel
theorem dX3_count_73 : decode cX3_count 73 = .ok (.aload_n 0, 1) := by decide +kernel
theorem dX3_count_74 : decode cX3_count 74 = .ok (.getfield 82, 3) := by decide +kernel
theorem dX3_count_77 : decode cX3_count 77 = .ok (.ireturn, 1) := by decide +kernel
theorem dX3_count_78 : decode cX3_count 78 = .ok (.aload_n 0, 1) := by decide +kernel
theorem dX3_count_79 : decode cX3_count 79 = .ok (.getfield 66, 3) := by decide +kernel
theorem dX3_count_82 : decode cX3_count 82 = .ok (.ireturn, 1) := by decide +kernel
theorem dX3_count_83 : decode cX3_count 83 = .ok (.aload_n 0, 1) := by decide +kernel
theorem dX3_count_84 : decode cX3_count 84 = .ok (.getfield 62, 3) := by decide +kernel
theorem dX3_count_87 : decode cX3_count 87 = .ok (.ifCond .eq 7, 3) := by decide +kernel
theorem dX3_count_90 : decode cX3_count 90 = .ok (.iconst 1, 1) := by decide +kernel
theorem dX3_count_91 : decode cX3_count 91 = .ok (.goto 4, 3) := by decide +kernel
theorem dX3_count_94 : decode cX3_count 94 = .ok (.iconst 0, 1) := by decide +kernel
theorem dX3_count_95 : decode cX3_count 95 = .ok (.ireturn, 1) := by decide +kernel
theorem dX3_count_96 : decode cX3_count 96 = .ok (.aload_n 0, 1) := by decide +kernel
theorem dX3_count_97 : decode cX3_count 97 = .ok (.getfield 95, 3) := by decide +kernel
theorem dX3_count_100 : decode cX3_count 100 = .ok (.ireturn, 1) := by decide +kernel
theorem dX3_count_101 : decode cX3_count 101 = .ok (.aload_n 0, 1) := by decide +kernel
theorem dX3_count_102 : decode cX3_count 102 = .ok (.getfield 79, 3) := by decide +kernel
theorem dX3_count_105 : decode cX3_count 105 = .ok (.ireturn, 1) := by decide +kernel
theorem dX3_count_106 : decode cX3_count 106 = .ok (.aload_n 0, 1) := by decide +kernel
theorem dX3_count_107 : decode cX3_count 107 = .ok (.getfield 62, 3) := by decide +kernel
theorem dX3_count_110 : decode cX3_count 110 = .ok (.ifCond .ne 16, 3) := by decide +kernel
theorem dX3_count_113 : decode cX3_count 113 = .ok (.aload_n 0, 1) := by decide +kernel
theorem dX3_count_114 : decode cX3_count 114 = .ok (.getfield 73, 3) := by decide +kernel
theorem dX3_count_117 : decode cX3_count 117 = .ok (.aload_n 0, 1) := by decide +kernel
theorem dX3_count_118 : decode cX3_count 118 = .ok (.getfield 32, 3) := by decide +kernel
theorem dX3_count_121 : decode cX3_count 121 = .ok (.iconst 2, 1) := by decide +kernel
theorem dX3_count_122 : decode cX3_count 122 = .ok (.isub, 1) := by decide +kernel
theorem dX3_count_123 : decode cX3_count 123 = .ok (.if_icmp .le 7, 3) := by decide +kernel
theorem dX3_count_126 : decode cX3_count 126 = .ok (.iconst 0, 1) := by decide +kernel
theorem dX3_count_127 : decode cX3_count 127 = .ok (.goto 14, 3) := by decide +kernel
theorem dX3_count_130 : decode cX3_count 130 = .ok (.aload_n 0, 1) := by decide +kernel
theorem dX3_count_131 : decode cX3_count 131 = .ok (.getfield 32, 3) := by decide +kernel
theorem dX3_count_134 : decode cX3_count 134 = .ok (.iconst 2, 1) := by decide +kernel
theorem dX3_count_135 : decode cX3_count 135 = .ok (.isub, 1) := by decide +kernel
theorem dX3_count_136 : decode cX3_count 136 = .ok (.aload_n 0, 1) := by decide +kernel
theorem dX3_count_137 : decode cX3_count 137 = .ok (.getfield 73, 3) := by decide +kernel
theorem dX3_count_140 : decode cX3_count 140 = .ok (.isub, 1) := by decide +kernel
theorem dX3_count_141 : decode cX3_count 141 = .ok (.ireturn, 1) := by decide +kernel
theorem dX3_count_142 : decode cX3_count 142 = .ok (.iconst (-1), 1) := by decide +kernel
theorem dX3_count_143 : decode cX3_count 143 = .ok (.ireturn, 1) := by decide +kernel
theorem dJx00060_init_a7421_0 : decode cJx00060_init_a7421 0 = .ok (.aload_n 0, 1) := by decide +kernel
theorem dJx00060_init_a7421_1 : decode cJx00060_init_a7421 1 = .ok (.aload_n 1, 1) := by decide +kernel
theorem dJx00060_init_a7421_2 : decode cJx00060_init_a7421 2 = .ok (.invokespecial 7, 3) := by decide +kernel
theorem dJx00060_init_a7421_5 : decode cJx00060_init_a7421 5 = .ok (.return_, 1) := by decide +kernel
theorem dJ9_max_7cf53_0 : decode cJ9_max_7cf53 0 = .ok (.iload_n 0, 1) := by decide +kernel
theorem dJ9_max_7cf53_1 : decode cJ9_max_7cf53 1 = .ok (.iload_n 1, 1) := by decide +kernel
theorem dJ9_max_7cf53_2 : decode cJ9_max_7cf53 2 = .ok (.if_icmp .lt 7, 3) := by decide +kernel
theorem dJ9_max_7cf53_5 : decode cJ9_max_7cf53 5 = .ok (.iload_n 0, 1) := by decide +kernel
theorem dJ9_max_7cf53_6 : decode cJ9_max_7cf53 6 = .ok (.goto 4, 3) := by decide +kernel
theorem dJ9_max_7cf53_9 : decode cJ9_max_7cf53 9 = .ok (.iload_n 1, 1) := by decide +kernel
theorem dJ9_max_7cf53_10 : decode cJ9_max_7cf53 10 = .ok (.ireturn, 1) := by decide +kernel
theorem dJ9_min_7cf53_0 : decode cJ9_min_7cf53 0 = .ok (.iload_n 0, 1) := by decide +kernel
theorem dJ9_min_7cf53_1 : decode cJ9_min_7cf53 1 = .ok (.iload_n 1, 1) := by decide +kernel
theorem dJ9_min_7cf53_2 : decode cJ9_min_7cf53 2 = .ok (.if_icmp .gt 7, 3) := by decide +kernel
theorem dJ9_min_7cf53_5 : decode cJ9_min_7cf53 5 = .ok (.iload_n 0, 1) := by decide +kernel
theorem dJ9_min_7cf53_6 : decode cJ9_min_7cf53 6 = .ok (.goto 4, 3) := by decide +kernel
theorem dJ9_min_7cf53_9 : decode cJ9_min_7cf53 9 = .ok (.iload_n 1, 1) := by decide +kernel
theorem dJ9_min_7cf53_10 : decode cJ9_min_7cf53 10 = .ok (.ireturn, 1) := by decide +kernel
end
section
abbrev hlCl : List vw_C := [(RX0, TX0, 1), (RX1, TX1, 1), (RX2, TX2, 13), (RX3, TX3, 17)]
/-- a world at a method's start, and at its end; EX: words of the tables that no list of good words carries -/
def pw_ (dC : Nat → ClassId) (dI : Nat → Nat → Nat) (EX : State → Prop) (W : va_W) (tys : List (ClassId × FieldType)) (sz : Nat) (U : State) : Prop := U.heap.size = sz ∧ va_P (dC, dI) hlCl W U.heap ∧ va_K (dC, dI) hlCl tys U ∧ va_D (fun _ => True) W ∧ EX U
def qw_ (dC : Nat → ClassId) (dI : Nat → Nat → Nat) (A : Nat → Prop) (W : va_W) (tys : List (ClassId × FieldType)) (t : State) : Prop := va_P (dC, dI) hlCl W t.heap ∧ va_K (dC, dI) hlCl tys t ∧ va_D A W
def sx_ (EX : State → Prop) : Prop := (∀ U V : State, U.vm = V.vm → EX U → EX V) ∧ ∀ s U : State, s.WarmedH U.vm → EX s → EX U
theorem sx_T : sx_ (fun _ => True) := ⟨fun _ _ _ _ => trivial, fun _ _ _ _ => trivial⟩
abbrev rm_ (fr lo : Nat) : Room := { frames := fr, cells := 0, slots := 0, locals := lo }
/-- a contract: the answer is res, the world W becomes W1, nothing is made -/
def Mi_ (l : Launch) (y : MethodName) (ws : List Cond) (fr lo : Nat) (dC : Nat → ClassId) (dI : Nat → Nat → Nat) (EX : State → Prop) (av : List Value) (W : va_W) (tys : List (ClassId × FieldType)) (sz : Nat) (res : Int32) (W1 : va_W) : Prop :=
  Met l y ws (rm_ fr lo) (va_Pc av (pw_ dC dI EX W tys sz)) (va_Qi (fun (r : Int32) (_ : Unit) => r = res) (fun _ t => qw_ dC dI (va_A W sz) W1 tys t) (va_A W sz)) 0 0 (va_A W sz)
def Mv_ (l : Launch) (y : MethodName) (ws : List Cond) (fr lo : Nat) (dC : Nat → ClassId) (dI : Nat → Nat → Nat) (EX : State → Prop) (av : List Value) (W : va_W) (tys : List (ClassId × FieldType)) (sz : Nat) (W1 : va_W) : Prop :=
  Met l y ws (rm_ fr lo) (va_Pc av (pw_ dC dI EX W tys sz)) (va_Qv (fun (_ : Unit) => True) (fun _ t => qw_ dC dI (va_A W sz) W1 tys t) (va_A W sz)) 0 0 (va_A W sz)
def Mr_ (l : Launch) (y : MethodName) (ws : List Cond) (fr lo : Nat) (dC : Nat → ClassId) (dI : Nat → Nat → Nat) (EX : State → Prop) (av : List Value) (W : va_W) (tys : List (ClassId × FieldType)) (sz : Nat) (res : Nat) (W1 : va_W) : Prop :=
  Met l y ws (rm_ fr lo) (va_Pc av (pw_ dC dI EX W tys sz)) (va_Qr (fun (_ : Unit) => True) (fun _ a t => a = res ∧ qw_ dC dI (va_A W sz) W1 tys t) (va_A W sz)) 0 0 (va_A W sz)
theorem fm_ {α β : Type} {f : α → Option β} : ∀ {is : List α} {w : List β}, is.map f = w.map some → is.filterMap f = w
  | [], [], _ => rfl
  | [], _ :: _, h => by simp at h
  | _ :: _, [], h => by simp at h
  | i :: is, x :: w, h => by
    simp only [List.map_cons, List.cons.injEq] at h
    rw [List.filterMap_cons_some h.1, fm_ h.2]
theorem fb_ {dC : Nat → ClassId} {dI : Nat → Nat → Nat} {EX : State → Prop} {W : va_W} {tys : List (ClassId × FieldType)} {sz : Nat} {av : List Value} (hE : sx_ EX) : FrameBlind (va_Pc av (pw_ dC dI EX W tys sz)) := fun a U g mk q => by
  obtain ⟨q0, q1, qP, qK, qD, qE⟩ := q
  exact ⟨q0, q1, qP, va_K.moved (u := U) (U := U.calling g mk a) (Vm.Alike.refl U.vm) qK, qD, hE.1 U (U.calling g mk a) rfl qE⟩
theorem pu_ {dC : Nat → ClassId} {dI : Nat → Nat → Nat} {EX : State → Prop} {W : va_W} {tys : List (ClassId × FieldType)} {A : Nat → Prop} {s : State} {H : Heap} {av : List Value} (hE : sx_ EX) (hP : va_P (dC, dI) hlCl W H) (hK : va_K (dC, dI) hlCl tys s) (hD : va_D A W) (he : EX s) :
    ∀ U : State, U.heap = H → s.WarmedH U.vm → va_Pc av (pw_ dC dI EX W tys H.size) av.toArray U := fun U hU hW => ⟨rfl, by rw [hU], by rw [hU]; exact hP, va_K.moved hW.alike hK, hD.weaken (fun _ _ _ _ => trivial), hE.2 s U hW he⟩
section HC
variable {p : Program} {l : Launch} {e : Env} {R : Room} {s : State} {m : MethodId} {args : Array Value} {below : List Frame} {meth : Method} {c : Code} {H : Heap} {locs : List Loc} {cells slots : Nat} {Q : State → Prop}
variable {cc bytes : ByteArray} {nL index maxL n pc fr lo : Nat} {Ts ws : List Cond} {own C host : String} {y : MethodName} {ret : Option FieldType} {ls : Array Slot} {As rest st0 : List Value} {b : Nat} {A : Nat → Prop} {H0 : Heap} {dC : Nat → ClassId} {dI : Nat → Nat → Nat} {EX : State → Prop} {tys tysc : List (ClassId × FieldType)} {w0 wc wr w1 : va_W}
theorem hc_iV {res : Int32} (S : CallFix p m c cc nL s args Ts own) (hE : sx_ EX) (he : EX s) (hM : Mi_ l y ws fr lo dC dI EX (.ref b :: As) wc tysc H.size res w1) (cw : CallW R s args own C index y bytes maxL ret ws (rm_ fr lo) 0 0 n)
    (hK : va_K (dC, dI) hlCl tys s) (hP : va_P (dC, dI) hlCl w0 H) (hD : va_D A w0) (hS : va_S A H0 H locs) (hA : ∀ q, H0.size ≤ q → A q) (isC isR isT : List Nat) (hC : isC.map (fun i => w0[i]?) = wc.map some) (hR : isR.map (fun i => w0[i]?) = wr.map some) (hT : isT.filterMap (fun i => tys[i]?) = tysc)
    (hnC : va_nd isC = true) (hnR : va_nd isR = true) (hdis : ∀ i ∈ isR, i ∉ isC) {ci : Nat} {q : vw_C} {fs : List Value} (hc : hlCl[ci]? = some q) (hr0 : wc[0]? = some (b, .inr (ci, fs))) (hq1 : q.1 = C)
    (hn : As.length = n) (hsize : ls.size = nL) (hst : st0 = As.reverse ++ .ref b :: rest) (hW : (rest.map fun v => v.category).sum ≤ 8) (hdg : decode cc pc = .ok (.invokevirtual index, 3)) (hf : cells ≤ R.cells ∧ slots ≤ R.slots)
    (kk : ∀ (H1 : Heap) (locs1 : List Loc), va_P (dC, dI) hlCl (wr ++ w1) H1 → va_D A (wr ++ w1) → va_S A H0 H1 locs1 → W p l e R s m args below meth c H1 locs1 cells slots Q (F0 m (pc + 3) ls (.int res :: rest))) :
    W p l e R s m args below meth c H locs cells slots Q (F0 m pc ls st0) := by
  have hPc := hP.sub isC (fm_ hC)
  have hDc := hD.sub isC hnC hC
  have hKc := hK.sub isT hT
  have hFc := va_free (wc := wc) hD hS hA isC hC
  refine va_calli (va_runV (As := As) (rest := rest) S hM cw ⟨fb_ hE, by rw [← hq1]; exact va_recv hKc hPc hc hr0, pu_ hE hPc hKc hDc he⟩ rfl hn hsize hst (lv_room hW) hdg hf) hS (fun q _ h => hFc q h) hFc (fun r u t H1 locs1 ht hvm hw hB hz1 hk1 hS1 => ?_)
  obtain ⟨hP1, hK1, hD1⟩ := hB
  rw [ht] at hP1
  obtain ⟨hP2, hD2⟩ := va_join hP hD isC isR hC hR hnR hdis hk1 hFc hP1 hD1
  rw [hw]
  exact kk H1 locs1 hP2 hD2 hS1
theorem hc_vV (S : CallFix p m c cc nL s args Ts own) (hE : sx_ EX) (he : EX s) (hM : Mv_ l y ws fr lo dC dI EX (.ref b :: As) wc tysc H.size w1) (cw : CallW R s args own C index y bytes maxL ret ws (rm_ fr lo) 0 0 n)
    (hK : va_K (dC, dI) hlCl tys s) (hP : va_P (dC, dI) hlCl w0 H) (hD : va_D A w0) (hS : va_S A H0 H locs) (hA : ∀ q, H0.size ≤ q → A q) (isC isR isT : List Nat) (hC : isC.map (fun i => w0[i]?) = wc.map some) (hR : isR.map (fun i => w0[i]?) = wr.map some) (hT : isT.filterMap (fun i => tys[i]?) = tysc)
    (hnC : va_nd isC = true) (hnR : va_nd isR = true) (hdis : ∀ i ∈ isR, i ∉ isC) {ci : Nat} {q : vw_C} {fs : List Value} (hc : hlCl[ci]? = some q) (hr0 : wc[0]? = some (b, .inr (ci, fs))) (hq1 : q.1 = C)
    (hn : As.length = n) (hsize : ls.size = nL) (hst : st0 = As.reverse ++ .ref b :: rest) (hW : (rest.map fun v => v.category).sum ≤ 8) (hdg : decode cc pc = .ok (.invokevirtual index, 3)) (hf : cells ≤ R.cells ∧ slots ≤ R.slots)
    (kk : ∀ (H1 : Heap) (locs1 : List Loc), va_P (dC, dI) hlCl (wr ++ w1) H1 → va_D A (wr ++ w1) → va_S A H0 H1 locs1 → W p l e R s m args below meth c H1 locs1 cells slots Q (F0 m (pc + 3) ls rest)) :
    W p l e R s m args below meth c H locs cells slots Q (F0 m pc ls st0) := by
  have hPc := hP.sub isC (fm_ hC)
  have hDc := hD.sub isC hnC hC
  have hKc := hK.sub isT hT
  have hFc := va_free (wc := wc) hD hS hA isC hC
  refine va_callv (va_runV (As := As) (rest := rest) S hM cw ⟨fb_ hE, by rw [← hq1]; exact va_recv hKc hPc hc hr0, pu_ hE hPc hKc hDc he⟩ rfl hn hsize hst (lv_room hW) hdg hf) hS (fun q _ h => hFc q h) hFc (fun u t H1 locs1 ht hvm hw hB hz1 hk1 hS1 => ?_)
  obtain ⟨hP1, hK1, hD1⟩ := hB
  rw [ht] at hP1
  obtain ⟨hP2, hD2⟩ := va_join hP hD isC isR hC hR hnR hdis hk1 hFc hP1 hD1
  exact kk H1 locs1 hP2 hD2 hS1
theorem hc_rV {res : Nat} (S : CallFix p m c cc nL s args Ts own) (hE : sx_ EX) (he : EX s) (hM : Mr_ l y ws fr lo dC dI EX (.ref b :: As) wc tysc H.size res w1) (cw : CallW R s args own C index y bytes maxL ret ws (rm_ fr lo) 0 0 n)
    (hK : va_K (dC, dI) hlCl tys s) (hP : va_P (dC, dI) hlCl w0 H) (hD : va_D A w0) (hS : va_S A H0 H locs) (hA : ∀ q, H0.size ≤ q → A q) (isC isR isT : List Nat) (hC : isC.map (fun i => w0[i]?) = wc.map some) (hR : isR.map (fun i => w0[i]?) = wr.map some) (hT : isT.filterMap (fun i => tys[i]?) = tysc)
    (hnC : va_nd isC = true) (hnR : va_nd isR = true) (hdis : ∀ i ∈ isR, i ∉ isC) {ci : Nat} {q : vw_C} {fs : List Value} (hc : hlCl[ci]? = some q) (hr0 : wc[0]? = some (b, .inr (ci, fs))) (hq1 : q.1 = C)
    (hn : As.length = n) (hsize : ls.size = nL) (hst : st0 = As.reverse ++ .ref b :: rest) (hW : (rest.map fun v => v.category).sum ≤ 8) (hdg : decode cc pc = .ok (.invokevirtual index, 3)) (hf : cells ≤ R.cells ∧ slots ≤ R.slots)
    (kk : ∀ (H1 : Heap) (locs1 : List Loc), va_P (dC, dI) hlCl (wr ++ w1) H1 → va_D A (wr ++ w1) → va_S A H0 H1 locs1 → W p l e R s m args below meth c H1 locs1 cells slots Q (F0 m (pc + 3) ls (.ref res :: rest))) :
    W p l e R s m args below meth c H locs cells slots Q (F0 m pc ls st0) := by
  have hPc := hP.sub isC (fm_ hC)
  have hDc := hD.sub isC hnC hC
  have hKc := hK.sub isT hT
  have hFc := va_free (wc := wc) hD hS hA isC hC
  refine va_callr (va_runV (As := As) (rest := rest) S hM cw ⟨fb_ hE, by rw [← hq1]; exact va_recv hKc hPc hc hr0, pu_ hE hPc hKc hDc he⟩ rfl hn hsize hst (lv_room hW) hdg hf) hS (fun q _ h => hFc q h) hFc (fun u ra t H1 locs1 ht hvm hw hB hz1 hk1 hS1 => ?_)
  obtain ⟨hra, hP1, hK1, hD1⟩ := hB
  rw [ht] at hP1
  obtain ⟨hP2, hD2⟩ := va_join hP hD isC isR hC hR hnR hdis hk1 hFc hP1 hD1
  rw [hra]
  exact kk H1 locs1 hP2 hD2 hS1
theorem hc_iS {res : Int32} (S : CallFix p m c cc nL s args Ts own) (hE : sx_ EX) (he : EX s) (hM : Mi_ l y ws fr lo dC dI EX As [] [] H.size res []) (cw : CallB R s args own index y bytes maxL ret ws (rm_ fr lo) 0 0 n ∧ (Cond.static y).before args s = true)
    (hK : va_K (dC, dI) hlCl tys s) (hP : va_P (dC, dI) hlCl w0 H) (hD : va_D A w0) (hS : va_S A H0 H locs) (hA : ∀ q, H0.size ≤ q → A q) (isR : List Nat) (hR : isR.map (fun i => w0[i]?) = w0.map some) (hnR : va_nd isR = true)
    (hn : As.length = n) (hsize : ls.size = nL) (hst : st0 = As.reverse ++ rest) (hW : (rest.map fun v => v.category).sum ≤ 8) (hdg : decode cc pc = .ok (.invokestatic index, 3)) (hf : cells ≤ R.cells ∧ slots ≤ R.slots)
    (kk : ∀ (H1 : Heap) (locs1 : List Loc), va_P (dC, dI) hlCl w0 H1 → va_D A w0 → va_S A H0 H1 locs1 → W p l e R s m args below meth c H1 locs1 cells slots Q (F0 m (pc + 3) ls (.int res :: rest))) :
    W p l e R s m args below meth c H locs cells slots Q (F0 m pc ls st0) := by
  have hPc : va_P (dC, dI) hlCl [] H := hP.sub [] rfl
  have hDc : va_D A [] := hD.sub [] rfl rfl
  have hKc : va_K (dC, dI) hlCl [] s := hK.sub [] rfl
  have hFc := va_free (wc := []) hD hS hA [] rfl
  refine va_calli (va_runS (As := As) (rest := rest) S hM cw ⟨fb_ hE, pu_ hE hPc hKc hDc he⟩ rfl hn hsize hst (lv_room hW) hdg hf) hS (fun q _ h => hFc q h) hFc (fun r u t H1 locs1 ht hvm hw hB hz1 hk1 hS1 => ?_)
  obtain ⟨hP1, hK1, hD1⟩ := hB
  rw [ht] at hP1
  obtain ⟨hP2, hD2⟩ := va_join (w1 := []) hP hD [] isR rfl hR hnR (fun _ _ h => by cases h) hk1 hFc hP1 hD1
  rw [List.append_nil] at hP2 hD2
  rw [hw]
  exact kk H1 locs1 hP2 hD2 hS1
theorem hc_iN {res : Int32} (S : CallFix p m c cc nL s args Ts own) (hE : sx_ EX) (he : EX s) (hM : Mi_ l y ws fr lo dC dI EX As [] [] H.size res []) (cw : va_CN R s args own index y host bytes maxL ret ws (rm_ fr lo) 0 0 n ∧ (Cond.static y).before args s = true ∧ True)
    (hK : va_K (dC, dI) hlCl tys s) (hP : va_P (dC, dI) hlCl w0 H) (hD : va_D A w0) (hS : va_S A H0 H locs) (hA : ∀ q, H0.size ≤ q → A q) (isR : List Nat) (hR : isR.map (fun i => w0[i]?) = w0.map some) (hnR : va_nd isR = true)
    (hn : As.length = n) (hsize : ls.size = nL) (hst : st0 = As.reverse ++ rest) (hW : (rest.map fun v => v.category).sum ≤ 8) (hdg : decode cc pc = .ok (.invokestatic index, 3)) (hf : cells ≤ R.cells ∧ slots ≤ R.slots)
    (kk : ∀ (H1 : Heap) (locs1 : List Loc), va_P (dC, dI) hlCl w0 H1 → va_D A w0 → va_S A H0 H1 locs1 → W p l e R s m args below meth c H1 locs1 cells slots Q (F0 m (pc + 3) ls (.int res :: rest))) :
    W p l e R s m args below meth c H locs cells slots Q (F0 m pc ls st0) := by
  have hPc : va_P (dC, dI) hlCl [] H := hP.sub [] rfl
  have hDc : va_D A [] := hD.sub [] rfl rfl
  have hKc : va_K (dC, dI) hlCl [] s := hK.sub [] rfl
  have hFc := va_free (wc := []) hD hS hA [] rfl
  refine va_calli (va_runSN (As := As) (rest := rest) S hM cw ⟨fb_ hE, pu_ hE hPc hKc hDc he⟩ rfl hn hsize hst (lv_room hW) hdg hf) hS (fun q _ h => hFc q h) hFc (fun r u t H1 locs1 ht hvm hw hB hz1 hk1 hS1 => ?_)
  obtain ⟨hP1, hK1, hD1⟩ := hB
  rw [ht] at hP1
  obtain ⟨hP2, hD2⟩ := va_join (w1 := []) hP hD [] isR rfl hR hnR (fun _ _ h => by cases h) hk1 hFc hP1 hD1
  rw [List.append_nil] at hP2 hD2
  rw [hw]
  exact kk H1 locs1 hP2 hD2 hS1
/-- the ends -/
theorem hr_i {v res : Int32} {w w1 W1 : va_W} {tys0 : List (ClassId × FieldType)} (hx : p.tables.exec = Jvm.exec) (hb : c.code = cc) (hr : meth.sig.returnType = some .int) (hlocks : meth.locks = false) (hP : va_P (dC, dI) hlCl w H) (hD : va_D A w) (hK : va_K (dC, dI) hlCl tys0 s) (hS : va_S A s.heap H locs) (is it : List Nat) (hs : is.map (fun i => w[i]?) = w1.map some) (hnd : va_nd is = true) (ht0 : it.filterMap (fun i => tys0[i]?) = tys) (hv : v = res) (hw1 : W1 = w1) (hdg : decode cc pc = .ok (.ireturn, 1)) :
    W p l e R s m args below meth c H locs 0 0 (MQ below (va_Qi (fun (r : Int32) (_ : Unit) => r = res) (fun _ t => qw_ dC dI A W1 tys t) A) args s 0 0 A) (F0 m pc ls [.int v]) := by
  subst hw1
  have hP9 := hP.sub is (fm_ hs)
  have hD9 := hD.sub is hnd hs
  have hK9 := hK.sub it ht0
  exact W.iret (v := v) hx hb hr (fun t ht hW => ⟨⟨v, (), rfl, hv, by rw [ht]; exact hP9, va_K.moved hW.alike hK9, hD9⟩, hS.F ht⟩) hS.2.2 hdg hlocks
theorem hr_z {v res : Int32} {w w1 W1 : va_W} {tys0 : List (ClassId × FieldType)} (hx : p.tables.exec = Jvm.exec) (hb : c.code = cc) (hr : meth.sig.returnType = some .boolean) (hlocks : meth.locks = false) (hn : narrow .boolean (.int v) = .int v) (hP : va_P (dC, dI) hlCl w H) (hD : va_D A w) (hK : va_K (dC, dI) hlCl tys0 s) (hS : va_S A s.heap H locs) (is it : List Nat) (hs : is.map (fun i => w[i]?) = w1.map some) (hnd : va_nd is = true) (ht0 : it.filterMap (fun i => tys0[i]?) = tys) (hv : v = res) (hw1 : W1 = w1) (hdg : decode cc pc = .ok (.ireturn, 1)) :
    W p l e R s m args below meth c H locs 0 0 (MQ below (va_Qi (fun (r : Int32) (_ : Unit) => r = res) (fun _ t => qw_ dC dI A W1 tys t) A) args s 0 0 A) (F0 m pc ls [.int v]) := by
  subst hw1
  have hP9 := hP.sub is (fm_ hs)
  have hD9 := hD.sub is hnd hs
  have hK9 := hK.sub it ht0
  exact W.zret (v := v) hx hb hr hn (fun t ht hW => ⟨⟨v, (), rfl, hv, by rw [ht]; exact hP9, va_K.moved hW.alike hK9, hD9⟩, hS.F ht⟩) hS.2.2 hdg hlocks
theorem hr_v {w w1 W1 : va_W} {tys0 : List (ClassId × FieldType)} (hx : p.tables.exec = Jvm.exec) (hb : c.code = cc) (hr : meth.sig.returnType = none) (hlocks : meth.locks = false) (hP : va_P (dC, dI) hlCl w H) (hD : va_D A w) (hK : va_K (dC, dI) hlCl tys0 s) (hS : va_S A s.heap H locs) (is it : List Nat) (hs : is.map (fun i => w[i]?) = w1.map some) (hnd : va_nd is = true) (ht0 : it.filterMap (fun i => tys0[i]?) = tys) (hw1 : W1 = w1) (hdg : decode cc pc = .ok (.return_, 1)) :
    W p l e R s m args below meth c H locs 0 0 (MQ below (va_Qv (fun (_ : Unit) => True) (fun _ t => qw_ dC dI A W1 tys t) A) args s 0 0 A) (F0 m pc ls []) := by
  subst hw1
  have hP9 := hP.sub is (fm_ hs)
  have hD9 := hD.sub is hnd hs
  have hK9 := hK.sub it ht0
  exact W.vret hx hb hr (fun t ht hW => ⟨⟨(), rfl, trivial, by rw [ht]; exact hP9, va_K.moved hW.alike hK9, hD9⟩, hS.F ht⟩) hS.2.2 hdg hlocks
theorem hr_r {v res : Nat} {cn : String} {w w1 W1 : va_W} {tys0 : List (ClassId × FieldType)} (hx : p.tables.exec = Jvm.exec) (hb : c.code = cc) (hr : meth.sig.returnType = some (.object cn)) (hlocks : meth.locks = false) (hP : va_P (dC, dI) hlCl w H) (hD : va_D A w) (hK : va_K (dC, dI) hlCl tys0 s) (hS : va_S A s.heap H locs) (is it : List Nat) (hs : is.map (fun i => w[i]?) = w1.map some) (hnd : va_nd is = true) (ht0 : it.filterMap (fun i => tys0[i]?) = tys) (hv : v = res) (hw1 : W1 = w1) (hdg : decode cc pc = .ok (.areturn, 1)) :
    W p l e R s m args below meth c H locs 0 0 (MQ below (va_Qr (fun (_ : Unit) => True) (fun _ a t => a = res ∧ qw_ dC dI A W1 tys t) A) args s 0 0 A) (F0 m pc ls [.ref v]) := by
  subst hw1
  have hP9 := hP.sub is (fm_ hs)
  have hD9 := hD.sub is hnd hs
  have hK9 := hK.sub it ht0
  exact W.aret (v := .ref v) hx hb hr (Or.inl ⟨_, rfl⟩) (Or.inr ⟨_, rfl⟩) (fun t ht hW => ⟨⟨(), v, rfl, trivial, hv, by rw [ht]; exact hP9, va_K.moved hW.alike hK9, hD9⟩, hS.F ht⟩) hS.2.2 hdg hlocks
end HC
-- the heads: from a body to its contract
section HM
variable {l : Launch} {y : MethodName} {ws ws' : List Cond} {fr lo maxL sz : Nat} {cc : ByteArray} {ret : Option FieldType} {dC : Nat → ClassId} {dI : Nat → Nat → Nat} {EX : State → Prop} {av : List Value} {W0 W1 : va_W} {tys : List (ClassId × FieldType)}
def bd_ (l : Launch) (y : MethodName) (ws : List Cond) (fr lo maxL sz : Nat) (cc : ByteArray) (ret : Option FieldType) (dC : Nat → ClassId) (dI : Nat → Nat → Nat) (EX : State → Prop) (av : List Value) (W0 : va_W) (tys : List (ClassId × FieldType)) (Qc : (Nat → Prop) → Array Value → State → Outcome → State → Prop) : Prop :=
  ∀ (p : Program) (e : Env) (s : State) (m : MethodId) (below : List Frame) (meth : Method) (c : Code) (A : Nat → Prop) (H : Heap) (locs : List Loc) (ls : Array Slot), p.tables.exec = Jvm.exec → c.code = cc → meth.sig.returnType = ret → c.maxLocals = maxL → (∀ w ∈ ws, w.before av.toArray s = true) → s.vm.findClass y.cls = some m.cls → meth.locks = false → s.heap.size = sz → va_P (dC, dI) hlCl W0 H → va_K (dC, dI) hlCl tys s → va_D A W0 → EX s → (∀ q : Nat, s.heap.size ≤ q → A q) → va_S A s.heap H locs → lv_has ls maxL (lv_args 0 av) →
    W p l e (rm_ fr lo) s m av.toArray below meth c H locs 0 0 (MQ below (Qc A) av.toArray s 0 0 A) (F0 m 0 ls [])
theorem hm_ {Qc : (Nat → Prop) → Array Value → State → Outcome → State → Prop} (hy : plainName y.cls = true) (hw : ws = Cond.code y cc maxL ret :: ws') (hlen : (lg_sl av).length ≤ maxL) (body : bd_ l y ws fr lo maxL sz cc ret dC dI EX av W0 tys Qc) :
    Met l y ws (rm_ fr lo) (va_Pc av (pw_ dC dI EX W0 tys sz)) (Qc (va_A W0 sz)) 0 0 (va_A W0 sz) := by
  refine Met.ofW (cc := cc) (maxL := maxL) (ret := ret) hy hw ?_
  intro p e s m args below meth c s₁ B hml hv
  obtain ⟨rfl, hsz, hP, hK, hD0, he⟩ := hv
  have hts := atoms_spec (ws := ws) B.pre
  have hown : s.vm.findClass y.cls = some m.cls := findClass_of_methodNamed B.named
  rw [lg_entry_eq]
  exact body p e s m below meth c (va_A W0 sz) s.heap [] _ B.exec B.bytes B.returns hml hts hown B.notSynchronized hsz hP hK hD0.self he (fun q h => Or.inr (by rw [← hsz]; exact h)) va_S.rf (lv_entry av hlen)
end HM
end
section
theorem vin_ {i : Int32} {N : Nat} (hN : N < 2 ^ 31) (h1 : ¬ i < 0) (h2 : ¬ nI N ≤ i) : vp_in i N := by
  obtain ⟨j, hj, e, -⟩ := pk_mu h1 h2 hN
  rw [e]
  exact vp_in_nI hj hN

def gB (f : Nat → Int32) (N : Nat) (i : Int32) : Int32 := (if i < 0 then 0 else (if (nI N) ≤ i then 0 else (f i.toNatClampNeg) &&& 255))
set_option maxHeartbeats 4000000 in
set_option maxRecDepth 100000 in
theorem kX0_get (l : Launch) (dC : Nat → ClassId) (dI : Nat → Nat → Nat) (sz : Nat) (qb qa : Nat) (cB : ClassId) (f : Nat → Int32) (N : Nat) (i : Int32) (hN : N < 2 ^ 31) : Mi_ l yX0_get wsX0_get 0 0 dC dI (fun _ => True) [.ref qb, .int i] [(qb, .inr (0, [.ref qa])), (qa, .inl (cB, N, .inl f))] [(cB, .byte)] sz (gB f N i) [(qb, .inr (0, [.ref qa])), (qa, .inl (cB, N, .inl f))] := by
  refine hm_ (cc := cX0_get) (maxL := 2) (ret := (some .int)) (Qc := fun A => va_Qi (fun (r9 : Int32) (_ : Unit) => r9 = gB f N i) (fun _ t9 => qw_ dC dI A [(qb, .inr (0, [.ref qa])), (qa, .inl (cB, N, .inl f))] [(cB, .byte)] t9) A) (by decide) rfl (Nat.le_of_ble_eq_true rfl) ?_
  intro p e s m below meth c A H locs ls hx hb hr hml hts hown hlocks hsz hP hK hD hE hA hS hl
  have hl : lv_has ls 2 [(0, .ref qb), (1, .int i)] := hl
  have hown : s.vm.findClass RX0 = some m.cls := hown
  refine lv_iload_n hx hb dX0_get_0 rfl (lv_at hl 1 rfl) ?_
  refine lv_if_lt (tgt := 26) hx hb dX0_get_1 (by decide) (fun c_1 => ?_) (fun c_1 => ?_)
  · skip
    refine lv_iconst (v := 0) hx hb dX0_get_26 (by decide) ?_
    exact hr_i (v := 0) hx hb hr hlocks (w1 := [(qb, .inr (0, [.ref qa])), (qa, .inl (cB, N, .inl f))]) hP hD hK hS [0, 1] [0] rfl rfl rfl (by unfold gB; rw [if_pos c_1]) (rfl) dX0_get_27
  · skip
    refine lv_iload_n hx hb dX0_get_4 rfl (lv_at hl 1 rfl) ?_
    refine lv_aload_n hx hb dX0_get_5 rfl (lv_at hl 0 rfl) ?_
    refine va_get (D := (dC, dI)) (ci := 0) (v := .ref qa) (C := RX0) (T := TX0) (N := 1) hx hb hts (by decide +kernel) hown hK hP 0 rfl rfl 0 (by decide) (hts (.fieldLink RX0 15 "HouseLog$Bytes" "held" "[B") (by decide +kernel)) (fun _ h9 => h9) rfl dX0_get_6 ?_
    refine va_alen hx hb hK hP 1 0 rfl rfl (v := nI N) rfl dX0_get_9 ?_
    refine lv_icmp_ge (tgt := 26) hx hb dX0_get_10 (by decide) (fun c_10 => ?_) (fun c_10 => ?_)
    · skip
      refine lv_iconst (v := 0) hx hb dX0_get_26 (by decide) ?_
      exact hr_i (v := 0) hx hb hr hlocks (w1 := [(qb, .inr (0, [.ref qa])), (qa, .inl (cB, N, .inl f))]) hP hD hK hS [0, 1] [0] rfl rfl rfl (by unfold gB; rw [if_neg c_1, if_pos c_10]) (rfl) dX0_get_27
    · skip
      refine lv_aload_n hx hb dX0_get_13 rfl (lv_at hl 0 rfl) ?_
      refine va_get (D := (dC, dI)) (ci := 0) (v := .ref qa) (C := RX0) (T := TX0) (N := 1) hx hb hts (by decide +kernel) hown hK hP 0 rfl rfl 0 (by decide) (hts (.fieldLink RX0 15 "HouseLog$Bytes" "held" "[B") (by decide +kernel)) (fun _ h9 => h9) rfl dX0_get_14 ?_
      refine lv_iload_n hx hb dX0_get_17 rfl (lv_at hl 1 rfl) ?_
      refine va_bald hx hb hK hP 1 0 rfl rfl (i := i) (vin_ hN c_1 c_10) dX0_get_18 ?_
      refine lv_sipush (v := 255) hx hb dX0_get_19 (by decide) ?_
      refine lv_iand hx hb dX0_get_22 ?_
      refine lv_goto (tgt := 27) hx hb dX0_get_23 (by decide) ?_
      exact hr_i (v := (f i.toNatClampNeg) &&& 255) hx hb hr hlocks (w1 := [(qb, .inr (0, [.ref qa])), (qa, .inl (cB, N, .inl f))]) hP hD hK hS [0, 1] [0] rfl rfl rfl (by unfold gB; rw [if_neg c_1, if_neg c_10]) (rfl) dX0_get_27

def sB (f : Nat → Int32) (N : Nat) (i x : Int32) : Nat → Int32 := if i < 0 then f else if nI N ≤ i then f else upd f i.toNatClampNeg x.toInt8.toInt32

set_option maxHeartbeats 4000000 in
set_option maxRecDepth 100000 in
theorem kX0_set (l : Launch) (dC : Nat → ClassId) (dI : Nat → Nat → Nat) (sz : Nat) (qb qa : Nat) (cB : ClassId) (f : Nat → Int32) (N : Nat) (i x : Int32) (hN : N < 2 ^ 31) : Mv_ l yX0_set wsX0_set 0 0 dC dI (fun _ => True) [.ref qb, .int i, .int x] [(qb, .inr (0, [.ref qa])), (qa, .inl (cB, N, .inl f))] [(cB, .byte)] sz [(qb, .inr (0, [.ref qa])), (qa, .inl (cB, N, .inl (sB f N i x)))] := by
  refine hm_ (cc := cX0_set) (maxL := 3) (ret := none) (Qc := fun A => va_Qv (fun (_ : Unit) => True) (fun _ t9 => qw_ dC dI A [(qb, .inr (0, [.ref qa])), (qa, .inl (cB, N, .inl (sB f N i x)))] [(cB, .byte)] t9) A) (by decide) rfl (Nat.le_of_ble_eq_true rfl) ?_
  intro p e s m below meth c A H locs ls hx hb hr hml hts hown hlocks hsz hP hK hD hE hA hS hl
  have hl : lv_has ls 3 [(0, .ref qb), (1, .int i), (2, .int x)] := hl
  have hown : s.vm.findClass RX0 = some m.cls := hown
  refine lv_iload_n hx hb dX0_set_0 rfl (lv_at hl 1 rfl) ?_
  refine lv_if_lt (tgt := 21) hx hb dX0_set_1 (by decide) (fun c_1 => ?_) (fun c_1 => ?_)
  · skip
    exact hr_v hx hb hr hlocks (w1 := [(qb, .inr (0, [.ref qa])), (qa, .inl (cB, N, .inl f))]) hP hD hK hS [0, 1] [0] rfl rfl rfl (by unfold sB; rw [if_pos c_1]) dX0_set_21
  · skip
    refine lv_iload_n hx hb dX0_set_4 rfl (lv_at hl 1 rfl) ?_
    refine lv_aload_n hx hb dX0_set_5 rfl (lv_at hl 0 rfl) ?_
    refine va_get (D := (dC, dI)) (ci := 0) (v := .ref qa) (C := RX0) (T := TX0) (N := 1) hx hb hts (by decide +kernel) hown hK hP 0 rfl rfl 0 (by decide) (hts (.fieldLink RX0 15 "HouseLog$Bytes" "held" "[B") (by decide +kernel)) (fun _ h9 => h9) rfl dX0_set_6 ?_
    refine va_alen hx hb hK hP 1 0 rfl rfl (v := nI N) rfl dX0_set_9 ?_
    refine lv_icmp_ge (tgt := 21) hx hb dX0_set_10 (by decide) (fun c_10 => ?_) (fun c_10 => ?_)
    · skip
      exact hr_v hx hb hr hlocks (w1 := [(qb, .inr (0, [.ref qa])), (qa, .inl (cB, N, .inl f))]) hP hD hK hS [0, 1] [0] rfl rfl rfl (by unfold sB; rw [if_neg c_1, if_pos c_10]) dX0_set_21
    · skip
      refine lv_aload_n hx hb dX0_set_13 rfl (lv_at hl 0 rfl) ?_
      refine va_get (D := (dC, dI)) (ci := 0) (v := .ref qa) (C := RX0) (T := TX0) (N := 1) hx hb hts (by decide +kernel) hown hK hP 0 rfl rfl 0 (by decide) (hts (.fieldLink RX0 15 "HouseLog$Bytes" "held" "[B") (by decide +kernel)) (fun _ h9 => h9) rfl dX0_set_14 ?_
      refine lv_iload_n hx hb dX0_set_17 rfl (lv_at hl 1 rfl) ?_
      refine lv_iload_n hx hb dX0_set_18 rfl (lv_at hl 2 rfl) ?_
      refine lv_i2b (v := x.toInt8.toInt32) hx hb dX0_set_19 rfl ?_
      refine va_bast hx hb hK hP hD hS 1 0 rfl rfl (i := i) (vin_ hN c_1 c_10) dX0_set_20 (fun H locs hP hD hS => ?_)
      rw [pk_vb] at hP hD
      have hP : va_P (dC, dI) hlCl [(qb, .inr (0, [.ref qa])), (qa, .inl (cB, N, .inl (upd f i.toNatClampNeg x.toInt8.toInt32)))] H := hP
      have hD : va_D A [(qb, .inr (0, [.ref qa])), (qa, .inl (cB, N, .inl (upd f i.toNatClampNeg x.toInt8.toInt32)))] := hD
      exact hr_v hx hb hr hlocks (w1 := [(qb, .inr (0, [.ref qa])), (qa, .inl (cB, N, .inl (upd f i.toNatClampNeg x.toInt8.toInt32)))]) hP hD hK hS [0, 1] [0] rfl rfl rfl (by unfold sB; rw [if_neg c_1, if_neg c_10]) dX0_set_21

def wB (f : Nat → Int32) (N : Nat) (i : Int32) : Int32 := ((((gB f N i) <<< ((24 : Int32) &&& 31)) ||| ((gB f N (i + 1)) <<< ((16 : Int32) &&& 31))) ||| ((gB f N (i + 2)) <<< ((8 : Int32) &&& 31))) ||| (gB f N (i + 3))
set_option maxHeartbeats 4000000 in
set_option maxRecDepth 100000 in
theorem kX0_word (l : Launch) (dC : Nat → ClassId) (dI : Nat → Nat → Nat) (sz : Nat) (qb qa : Nat) (cB : ClassId) (f : Nat → Int32) (N : Nat) (i : Int32) (hN : N < 2 ^ 31) : Mi_ l yX0_word wsX0_word 1 21 dC dI (fun _ => True) [.ref qb, .int i] [(qb, .inr (0, [.ref qa])), (qa, .inl (cB, N, .inl f))] [(cB, .byte)] sz (wB f N i) [(qb, .inr (0, [.ref qa])), (qa, .inl (cB, N, .inl f))] := by
  refine hm_ (cc := cX0_word) (maxL := 2) (ret := (some .int)) (Qc := fun A => va_Qi (fun (r9 : Int32) (_ : Unit) => r9 = wB f N i) (fun _ t9 => qw_ dC dI A [(qb, .inr (0, [.ref qa])), (qa, .inl (cB, N, .inl f))] [(cB, .byte)] t9) A) (by decide) rfl (Nat.le_of_ble_eq_true rfl) ?_
  intro p e s m below meth c A H locs ls hx hb hr hml hts hown hlocks hsz hP hK hD hE hA hS hl
  have hl : lv_has ls 2 [(0, .ref qb), (1, .int i)] := hl
  have hown : s.vm.findClass RX0 = some m.cls := hown
  refine lv_aload_n hx hb dX0_word_0 rfl (lv_at hl 0 rfl) ?_
  refine lv_iload_n hx hb dX0_word_1 rfl (lv_at hl 1 rfl) ?_
  refine hc_iV (As := [.int i]) (rest := []) (wr := []) ⟨hx, hb, hml, hown, hts⟩ sx_T trivial (kX0_get l dC dI H.size qb qa cB f N i (hN)) (cwV 1 hts gX0_word_X0_get rfl rfl rfl (by decide +kernel) ⟨Nat.le_of_ble_eq_true rfl, Nat.le_of_ble_eq_true rfl⟩) hK hP hD hS hA [0, 1] [] [0] rfl rfl rfl rfl rfl (by decide) (ci := 0) rfl rfl rfl rfl hl.1 rfl (Nat.le_of_ble_eq_true rfl) dX0_word_2 ⟨Nat.zero_le _, Nat.zero_le _⟩ (fun H locs hP hD hS => ?_)
  have hP : va_P (dC, dI) hlCl [(qb, .inr (0, [.ref qa])), (qa, .inl (cB, N, .inl f))] H := hP
  have hD : va_D A [(qb, .inr (0, [.ref qa])), (qa, .inl (cB, N, .inl f))] := hD
  refine lv_bipush (v := 24) hx hb dX0_word_5 (by decide) ?_
  refine lv_ishl hx hb dX0_word_7 ?_
  refine lv_aload_n hx hb dX0_word_8 rfl (lv_at hl 0 rfl) ?_
  refine lv_iload_n hx hb dX0_word_9 rfl (lv_at hl 1 rfl) ?_
  refine lv_iconst (v := 1) hx hb dX0_word_10 (by decide) ?_
  refine lv_iadd hx hb dX0_word_11 ?_
  refine hc_iV (As := [.int (i + 1)]) (rest := [.int ((gB f N i) <<< ((24 : Int32) &&& 31))]) (wr := []) ⟨hx, hb, hml, hown, hts⟩ sx_T trivial (kX0_get l dC dI H.size qb qa cB f N (i + 1) (hN)) (cwV 1 hts gX0_word_X0_get rfl rfl rfl (by decide +kernel) ⟨Nat.le_of_ble_eq_true rfl, Nat.le_of_ble_eq_true rfl⟩) hK hP hD hS hA [0, 1] [] [0] rfl rfl rfl rfl rfl (by decide) (ci := 0) rfl rfl rfl rfl hl.1 rfl (Nat.le_of_ble_eq_true rfl) dX0_word_12 ⟨Nat.zero_le _, Nat.zero_le _⟩ (fun H locs hP hD hS => ?_)
  have hP : va_P (dC, dI) hlCl [(qb, .inr (0, [.ref qa])), (qa, .inl (cB, N, .inl f))] H := hP
  have hD : va_D A [(qb, .inr (0, [.ref qa])), (qa, .inl (cB, N, .inl f))] := hD
  refine lv_bipush (v := 16) hx hb dX0_word_15 (by decide) ?_
  refine lv_ishl hx hb dX0_word_17 ?_
  refine lv_ior hx hb dX0_word_18 ?_
  refine lv_aload_n hx hb dX0_word_19 rfl (lv_at hl 0 rfl) ?_
  refine lv_iload_n hx hb dX0_word_20 rfl (lv_at hl 1 rfl) ?_
  refine lv_iconst (v := 2) hx hb dX0_word_21 (by decide) ?_
  refine lv_iadd hx hb dX0_word_22 ?_
  refine hc_iV (As := [.int (i + 2)]) (rest := [.int (((gB f N i) <<< ((24 : Int32) &&& 31)) ||| ((gB f N (i + 1)) <<< ((16 : Int32) &&& 31)))]) (wr := []) ⟨hx, hb, hml, hown, hts⟩ sx_T trivial (kX0_get l dC dI H.size qb qa cB f N (i + 2) (hN)) (cwV 1 hts gX0_word_X0_get rfl rfl rfl (by decide +kernel) ⟨Nat.le_of_ble_eq_true rfl, Nat.le_of_ble_eq_true rfl⟩) hK hP hD hS hA [0, 1] [] [0] rfl rfl rfl rfl rfl (by decide) (ci := 0) rfl rfl rfl rfl hl.1 rfl (Nat.le_of_ble_eq_true rfl) dX0_word_23 ⟨Nat.zero_le _, Nat.zero_le _⟩ (fun H locs hP hD hS => ?_)
  have hP : va_P (dC, dI) hlCl [(qb, .inr (0, [.ref qa])), (qa, .inl (cB, N, .inl f))] H := hP
  have hD : va_D A [(qb, .inr (0, [.ref qa])), (qa, .inl (cB, N, .inl f))] := hD
  refine lv_bipush (v := 8) hx hb dX0_word_26 (by decide) ?_
  refine lv_ishl hx hb dX0_word_28 ?_
  refine lv_ior hx hb dX0_word_29 ?_
  refine lv_aload_n hx hb dX0_word_30 rfl (lv_at hl 0 rfl) ?_
  refine lv_iload_n hx hb dX0_word_31 rfl (lv_at hl 1 rfl) ?_
  refine lv_iconst (v := 3) hx hb dX0_word_32 (by decide) ?_
  refine lv_iadd hx hb dX0_word_33 ?_
  refine hc_iV (As := [.int (i + 3)]) (rest := [.int ((((gB f N i) <<< ((24 : Int32) &&& 31)) ||| ((gB f N (i + 1)) <<< ((16 : Int32) &&& 31))) ||| ((gB f N (i + 2)) <<< ((8 : Int32) &&& 31)))]) (wr := []) ⟨hx, hb, hml, hown, hts⟩ sx_T trivial (kX0_get l dC dI H.size qb qa cB f N (i + 3) (hN)) (cwV 1 hts gX0_word_X0_get rfl rfl rfl (by decide +kernel) ⟨Nat.le_of_ble_eq_true rfl, Nat.le_of_ble_eq_true rfl⟩) hK hP hD hS hA [0, 1] [] [0] rfl rfl rfl rfl rfl (by decide) (ci := 0) rfl rfl rfl rfl hl.1 rfl (Nat.le_of_ble_eq_true rfl) dX0_word_34 ⟨Nat.zero_le _, Nat.zero_le _⟩ (fun H locs hP hD hS => ?_)
  have hP : va_P (dC, dI) hlCl [(qb, .inr (0, [.ref qa])), (qa, .inl (cB, N, .inl f))] H := hP
  have hD : va_D A [(qb, .inr (0, [.ref qa])), (qa, .inl (cB, N, .inl f))] := hD
  refine lv_ior hx hb dX0_word_37 ?_
  exact hr_i (v := ((((gB f N i) <<< ((24 : Int32) &&& 31)) ||| ((gB f N (i + 1)) <<< ((16 : Int32) &&& 31))) ||| ((gB f N (i + 2)) <<< ((8 : Int32) &&& 31))) ||| (gB f N (i + 3))) hx hb hr hlocks (w1 := [(qb, .inr (0, [.ref qa])), (qa, .inl (cB, N, .inl f))]) hP hD hK hS [0, 1] [0] rfl rfl rfl (by unfold wB; rfl) (rfl) dX0_word_38

def swB (f : Nat → Int32) (N : Nat) (i x : Int32) : Nat → Int32 := sB (sB (sB (sB f N i ((x.toUInt32 >>> ((24 : Int32).toUInt32 &&& Int32.toUInt32 31)).toInt32)) N (i + 1) ((x.toUInt32 >>> ((16 : Int32).toUInt32 &&& Int32.toUInt32 31)).toInt32)) N (i + 2) ((x.toUInt32 >>> ((8 : Int32).toUInt32 &&& Int32.toUInt32 31)).toInt32)) N (i + 3) x

set_option maxHeartbeats 4000000 in
set_option maxRecDepth 100000 in
theorem kX0_setWord (l : Launch) (dC : Nat → ClassId) (dI : Nat → Nat → Nat) (sz : Nat) (qb qa : Nat) (cB : ClassId) (f : Nat → Int32) (N : Nat) (i x : Int32) (hN : N < 2 ^ 31) : Mv_ l yX0_setWord wsX0_setWord 1 22 dC dI (fun _ => True) [.ref qb, .int i, .int x] [(qb, .inr (0, [.ref qa])), (qa, .inl (cB, N, .inl f))] [(cB, .byte)] sz [(qb, .inr (0, [.ref qa])), (qa, .inl (cB, N, .inl (swB f N i x)))] := by
  refine hm_ (cc := cX0_setWord) (maxL := 3) (ret := none) (Qc := fun A => va_Qv (fun (_ : Unit) => True) (fun _ t9 => qw_ dC dI A [(qb, .inr (0, [.ref qa])), (qa, .inl (cB, N, .inl (swB f N i x)))] [(cB, .byte)] t9) A) (by decide) rfl (Nat.le_of_ble_eq_true rfl) ?_
  intro p e s m below meth c A H locs ls hx hb hr hml hts hown hlocks hsz hP hK hD hE hA hS hl
  have hl : lv_has ls 3 [(0, .ref qb), (1, .int i), (2, .int x)] := hl
  have hown : s.vm.findClass RX0 = some m.cls := hown
  refine lv_aload_n hx hb dX0_setWord_0 rfl (lv_at hl 0 rfl) ?_
  refine lv_iload_n hx hb dX0_setWord_1 rfl (lv_at hl 1 rfl) ?_
  refine lv_iload_n hx hb dX0_setWord_2 rfl (lv_at hl 2 rfl) ?_
  refine lv_bipush (v := 24) hx hb dX0_setWord_3 (by decide) ?_
  refine lv_iushr (v := (x.toUInt32 >>> ((24 : Int32).toUInt32 &&& Int32.toUInt32 31)).toInt32) hx hb dX0_setWord_5 rfl ?_
  refine hc_vV (As := [.int i, .int ((x.toUInt32 >>> ((24 : Int32).toUInt32 &&& Int32.toUInt32 31)).toInt32)]) (rest := []) (wr := []) ⟨hx, hb, hml, hown, hts⟩ sx_T trivial (kX0_set l dC dI H.size qb qa cB f N i ((x.toUInt32 >>> ((24 : Int32).toUInt32 &&& Int32.toUInt32 31)).toInt32) (hN)) (cwV 2 hts gX0_setWord_X0_set rfl rfl rfl (by decide +kernel) ⟨Nat.le_of_ble_eq_true rfl, Nat.le_of_ble_eq_true rfl⟩) hK hP hD hS hA [0, 1] [] [0] rfl rfl rfl rfl rfl (by decide) (ci := 0) rfl rfl rfl rfl hl.1 rfl (Nat.le_of_ble_eq_true rfl) dX0_setWord_6 ⟨Nat.zero_le _, Nat.zero_le _⟩ (fun H locs hP hD hS => ?_)
  have hP : va_P (dC, dI) hlCl [(qb, .inr (0, [.ref qa])), (qa, .inl (cB, N, .inl (sB f N i ((x.toUInt32 >>> ((24 : Int32).toUInt32 &&& Int32.toUInt32 31)).toInt32))))] H := hP
  have hD : va_D A [(qb, .inr (0, [.ref qa])), (qa, .inl (cB, N, .inl (sB f N i ((x.toUInt32 >>> ((24 : Int32).toUInt32 &&& Int32.toUInt32 31)).toInt32))))] := hD
  refine lv_aload_n hx hb dX0_setWord_9 rfl (lv_at hl 0 rfl) ?_
  refine lv_iload_n hx hb dX0_setWord_10 rfl (lv_at hl 1 rfl) ?_
  refine lv_iconst (v := 1) hx hb dX0_setWord_11 (by decide) ?_
  refine lv_iadd hx hb dX0_setWord_12 ?_
  refine lv_iload_n hx hb dX0_setWord_13 rfl (lv_at hl 2 rfl) ?_
  refine lv_bipush (v := 16) hx hb dX0_setWord_14 (by decide) ?_
  refine lv_iushr (v := (x.toUInt32 >>> ((16 : Int32).toUInt32 &&& Int32.toUInt32 31)).toInt32) hx hb dX0_setWord_16 rfl ?_
  refine hc_vV (As := [.int (i + 1), .int ((x.toUInt32 >>> ((16 : Int32).toUInt32 &&& Int32.toUInt32 31)).toInt32)]) (rest := []) (wr := []) ⟨hx, hb, hml, hown, hts⟩ sx_T trivial (kX0_set l dC dI H.size qb qa cB (sB f N i ((x.toUInt32 >>> ((24 : Int32).toUInt32 &&& Int32.toUInt32 31)).toInt32)) N (i + 1) ((x.toUInt32 >>> ((16 : Int32).toUInt32 &&& Int32.toUInt32 31)).toInt32) (hN)) (cwV 2 hts gX0_setWord_X0_set rfl rfl rfl (by decide +kernel) ⟨Nat.le_of_ble_eq_true rfl, Nat.le_of_ble_eq_true rfl⟩) hK hP hD hS hA [0, 1] [] [0] rfl rfl rfl rfl rfl (by decide) (ci := 0) rfl rfl rfl rfl hl.1 rfl (Nat.le_of_ble_eq_true rfl) dX0_setWord_17 ⟨Nat.zero_le _, Nat.zero_le _⟩ (fun H locs hP hD hS => ?_)
  have hP : va_P (dC, dI) hlCl [(qb, .inr (0, [.ref qa])), (qa, .inl (cB, N, .inl (sB (sB f N i ((x.toUInt32 >>> ((24 : Int32).toUInt32 &&& Int32.toUInt32 31)).toInt32)) N (i + 1) ((x.toUInt32 >>> ((16 : Int32).toUInt32 &&& Int32.toUInt32 31)).toInt32))))] H := hP
  have hD : va_D A [(qb, .inr (0, [.ref qa])), (qa, .inl (cB, N, .inl (sB (sB f N i ((x.toUInt32 >>> ((24 : Int32).toUInt32 &&& Int32.toUInt32 31)).toInt32)) N (i + 1) ((x.toUInt32 >>> ((16 : Int32).toUInt32 &&& Int32.toUInt32 31)).toInt32))))] := hD
  refine lv_aload_n hx hb dX0_setWord_20 rfl (lv_at hl 0 rfl) ?_
  refine lv_iload_n hx hb dX0_setWord_21 rfl (lv_at hl 1 rfl) ?_
  refine lv_iconst (v := 2) hx hb dX0_setWord_22 (by decide) ?_
  refine lv_iadd hx hb dX0_setWord_23 ?_
  refine lv_iload_n hx hb dX0_setWord_24 rfl (lv_at hl 2 rfl) ?_
  refine lv_bipush (v := 8) hx hb dX0_setWord_25 (by decide) ?_
  refine lv_iushr (v := (x.toUInt32 >>> ((8 : Int32).toUInt32 &&& Int32.toUInt32 31)).toInt32) hx hb dX0_setWord_27 rfl ?_
  refine hc_vV (As := [.int (i + 2), .int ((x.toUInt32 >>> ((8 : Int32).toUInt32 &&& Int32.toUInt32 31)).toInt32)]) (rest := []) (wr := []) ⟨hx, hb, hml, hown, hts⟩ sx_T trivial (kX0_set l dC dI H.size qb qa cB (sB (sB f N i ((x.toUInt32 >>> ((24 : Int32).toUInt32 &&& Int32.toUInt32 31)).toInt32)) N (i + 1) ((x.toUInt32 >>> ((16 : Int32).toUInt32 &&& Int32.toUInt32 31)).toInt32)) N (i + 2) ((x.toUInt32 >>> ((8 : Int32).toUInt32 &&& Int32.toUInt32 31)).toInt32) (hN)) (cwV 2 hts gX0_setWord_X0_set rfl rfl rfl (by decide +kernel) ⟨Nat.le_of_ble_eq_true rfl, Nat.le_of_ble_eq_true rfl⟩) hK hP hD hS hA [0, 1] [] [0] rfl rfl rfl rfl rfl (by decide) (ci := 0) rfl rfl rfl rfl hl.1 rfl (Nat.le_of_ble_eq_true rfl) dX0_setWord_28 ⟨Nat.zero_le _, Nat.zero_le _⟩ (fun H locs hP hD hS => ?_)
  have hP : va_P (dC, dI) hlCl [(qb, .inr (0, [.ref qa])), (qa, .inl (cB, N, .inl (sB (sB (sB f N i ((x.toUInt32 >>> ((24 : Int32).toUInt32 &&& Int32.toUInt32 31)).toInt32)) N (i + 1) ((x.toUInt32 >>> ((16 : Int32).toUInt32 &&& Int32.toUInt32 31)).toInt32)) N (i + 2) ((x.toUInt32 >>> ((8 : Int32).toUInt32 &&& Int32.toUInt32 31)).toInt32))))] H := hP
  have hD : va_D A [(qb, .inr (0, [.ref qa])), (qa, .inl (cB, N, .inl (sB (sB (sB f N i ((x.toUInt32 >>> ((24 : Int32).toUInt32 &&& Int32.toUInt32 31)).toInt32)) N (i + 1) ((x.toUInt32 >>> ((16 : Int32).toUInt32 &&& Int32.toUInt32 31)).toInt32)) N (i + 2) ((x.toUInt32 >>> ((8 : Int32).toUInt32 &&& Int32.toUInt32 31)).toInt32))))] := hD
  refine lv_aload_n hx hb dX0_setWord_31 rfl (lv_at hl 0 rfl) ?_
  refine lv_iload_n hx hb dX0_setWord_32 rfl (lv_at hl 1 rfl) ?_
  refine lv_iconst (v := 3) hx hb dX0_setWord_33 (by decide) ?_
  refine lv_iadd hx hb dX0_setWord_34 ?_
  refine lv_iload_n hx hb dX0_setWord_35 rfl (lv_at hl 2 rfl) ?_
  refine hc_vV (As := [.int (i + 3), .int x]) (rest := []) (wr := []) ⟨hx, hb, hml, hown, hts⟩ sx_T trivial (kX0_set l dC dI H.size qb qa cB (sB (sB (sB f N i ((x.toUInt32 >>> ((24 : Int32).toUInt32 &&& Int32.toUInt32 31)).toInt32)) N (i + 1) ((x.toUInt32 >>> ((16 : Int32).toUInt32 &&& Int32.toUInt32 31)).toInt32)) N (i + 2) ((x.toUInt32 >>> ((8 : Int32).toUInt32 &&& Int32.toUInt32 31)).toInt32)) N (i + 3) x (hN)) (cwV 2 hts gX0_setWord_X0_set rfl rfl rfl (by decide +kernel) ⟨Nat.le_of_ble_eq_true rfl, Nat.le_of_ble_eq_true rfl⟩) hK hP hD hS hA [0, 1] [] [0] rfl rfl rfl rfl rfl (by decide) (ci := 0) rfl rfl rfl rfl hl.1 rfl (Nat.le_of_ble_eq_true rfl) dX0_setWord_36 ⟨Nat.zero_le _, Nat.zero_le _⟩ (fun H locs hP hD hS => ?_)
  have hP : va_P (dC, dI) hlCl [(qb, .inr (0, [.ref qa])), (qa, .inl (cB, N, .inl (sB (sB (sB (sB f N i ((x.toUInt32 >>> ((24 : Int32).toUInt32 &&& Int32.toUInt32 31)).toInt32)) N (i + 1) ((x.toUInt32 >>> ((16 : Int32).toUInt32 &&& Int32.toUInt32 31)).toInt32)) N (i + 2) ((x.toUInt32 >>> ((8 : Int32).toUInt32 &&& Int32.toUInt32 31)).toInt32)) N (i + 3) x)))] H := hP
  have hD : va_D A [(qb, .inr (0, [.ref qa])), (qa, .inl (cB, N, .inl (sB (sB (sB (sB f N i ((x.toUInt32 >>> ((24 : Int32).toUInt32 &&& Int32.toUInt32 31)).toInt32)) N (i + 1) ((x.toUInt32 >>> ((16 : Int32).toUInt32 &&& Int32.toUInt32 31)).toInt32)) N (i + 2) ((x.toUInt32 >>> ((8 : Int32).toUInt32 &&& Int32.toUInt32 31)).toInt32)) N (i + 3) x)))] := hD
  exact hr_v hx hb hr hlocks (w1 := [(qb, .inr (0, [.ref qa])), (qa, .inl (cB, N, .inl (sB (sB (sB (sB f N i ((x.toUInt32 >>> ((24 : Int32).toUInt32 &&& Int32.toUInt32 31)).toInt32)) N (i + 1) ((x.toUInt32 >>> ((16 : Int32).toUInt32 &&& Int32.toUInt32 31)).toInt32)) N (i + 2) ((x.toUInt32 >>> ((8 : Int32).toUInt32 &&& Int32.toUInt32 31)).toInt32)) N (i + 3) x)))]) hP hD hK hS [0, 1] [0] rfl rfl rfl (rfl) dX0_setWord_39

def mixI (s b : Int32) : Int32 := ((s ^^^ b) <<< ((9 : Int32) &&& 31) ||| ((s ^^^ b).toUInt32 >>> ((23 : Int32).toUInt32 &&& Int32.toUInt32 31)).toInt32) * (-2048144789)
theorem mixI_f (s b : Int32) : ((s ^^^ b) <<< ((9 : Int32) &&& 31) ||| ((s ^^^ b).toUInt32 >>> ((23 : Int32).toUInt32 &&& Int32.toUInt32 31)).toInt32) * (-2048144789) = mixI s b := rfl
/-- the sum s gone on over k bytes from place a -/
def sumB (f : Nat → Int32) (N a : Nat) (s : Int32) : Nat → Int32
  | 0 => s
  | k + 1 => mixI (sumB f N a s k) (gB f N (nI (a + k)))
theorem sumB_s (f : Nat → Int32) (N a : Nat) (s : Int32) (k : Nat) : sumB f N a s (k + 1) = mixI (sumB f N a s k) (gB f N (nI (a + k))) := rfl

set_option maxHeartbeats 4000000 in
set_option maxRecDepth 100000 in
theorem kX0_sumOn (l : Launch) (dC : Nat → ClassId) (dI : Nat → Nat → Nat) (sz : Nat) (qb qa : Nat) (cB : ClassId) (f : Nat → Int32) (N : Nat) (s0 : Int32) (a b : Nat) (hN : N < 2 ^ 31) (hab : a ≤ b) (hb2 : b < 2 ^ 31) : Mi_ l yX0_sumOn wsX0_sumOn 1 21 dC dI (fun _ => True) [.ref qb, .int s0, .int (nI a), .int (nI b)] [(qb, .inr (0, [.ref qa])), (qa, .inl (cB, N, .inl f))] [(cB, .byte)] sz (sumB f N a s0 (b - a)) [(qb, .inr (0, [.ref qa])), (qa, .inl (cB, N, .inl f))] := by
  refine hm_ (cc := cX0_sumOn) (maxL := 7) (ret := (some .int)) (Qc := fun A => va_Qi (fun (r9 : Int32) (_ : Unit) => r9 = sumB f N a s0 (b - a)) (fun _ t9 => qw_ dC dI A [(qb, .inr (0, [.ref qa])), (qa, .inl (cB, N, .inl f))] [(cB, .byte)] t9) A) (by decide) rfl (Nat.le_of_ble_eq_true rfl) ?_
  intro p e s m below meth c A H locs ls hx hb hr hml hts hown hlocks hsz hP hK hD hE hA hS hl
  have hl : lv_has ls 7 [(0, .ref qb), (1, .int s0), (2, .int (nI a)), (3, .int (nI b))] := hl
  have hown : s.vm.findClass RX0 = some m.cls := hown
  have loop : ∀ (k0 : Nat) (i : Nat) (H : Heap) (locs : List Loc) (ls : Array Slot), (a + i + k0 = b) → va_P (dC, dI) hlCl [(qb, .inr (0, [.ref qa])), (qa, .inl (cB, N, .inl f))] H → va_D A [(qb, .inr (0, [.ref qa])), (qa, .inl (cB, N, .inl f))] → va_S A s.heap H locs → lv_has ls 7 [(0, .ref qb), (1, .int s0), (2, .int (nI a)), (3, .int (nI b)), (4, .int (sumB f N a s0 i)), (5, .int (nI (a + i)))] → W p l e (rm_ 1 21) s m [.ref qb, .int s0, .int (nI a), .int (nI b)].toArray below meth c H locs 0 0 (MQ below ((fun A => va_Qi (fun (r9 : Int32) (_ : Unit) => r9 = sumB f N a s0 (b - a)) (fun _ t9 => qw_ dC dI A [(qb, .inr (0, [.ref qa])), (qa, .inl (cB, N, .inl f))] [(cB, .byte)] t9) A) A) [.ref qb, .int s0, .int (nI a), .int (nI b)].toArray s 0 0 A) (F0 m 6 ls []) := by
    intro k0
    induction k0 with
    | zero =>
      intro i H locs ls hi hP hD hS hl
      refine lv_iload hx hb dX0_sumOn_6 (lv_at hl 5 rfl) ?_
      refine lv_iload_n hx hb dX0_sumOn_8 rfl (lv_at hl 3 rfl) ?_
      refine lv_icmp_ge (tgt := 45) hx hb dX0_sumOn_9 (by decide) (fun c_9 => ?_) (fun c_9 => ?_)
      · skip
        refine lv_iload hx hb dX0_sumOn_45 (lv_at hl 4 rfl) ?_
        exact hr_i (v := sumB f N a s0 i) hx hb hr hlocks (w1 := [(qb, .inr (0, [.ref qa])), (qa, .inl (cB, N, .inl f))]) hP hD hK hS [0, 1] [0] rfl rfl rfl (by rw [show i = b - a by omega]) (rfl) dX0_sumOn_47
      · exact absurd (nI_le (show b ≤ a + i by omega) (by omega)) c_9
    | succ k0 ih =>
      intro i H locs ls hi hP hD hS hl
      refine lv_iload hx hb dX0_sumOn_6 (lv_at hl 5 rfl) ?_
      refine lv_iload_n hx hb dX0_sumOn_8 rfl (lv_at hl 3 rfl) ?_
      refine lv_icmp_ge (tgt := 45) hx hb dX0_sumOn_9 (by decide) (fun c_9 => ?_) (fun c_9 => ?_)
      · exact absurd c_9 (nI_ge (show a + i < b by omega) hb2)
      · skip
        refine lv_iload hx hb dX0_sumOn_12 (lv_at hl 4 rfl) ?_
        refine lv_aload_n hx hb dX0_sumOn_14 rfl (lv_at hl 0 rfl) ?_
        refine lv_iload hx hb dX0_sumOn_15 (lv_at hl 5 rfl) ?_
        refine hc_iV (As := [.int (nI (a + i))]) (rest := [.int (sumB f N a s0 i)]) (wr := []) ⟨hx, hb, hml, hown, hts⟩ sx_T trivial (kX0_get l dC dI H.size qb qa cB f N (nI (a + i)) (hN)) (cwV 1 hts gX0_sumOn_X0_get rfl rfl rfl (by decide +kernel) ⟨Nat.le_of_ble_eq_true rfl, Nat.le_of_ble_eq_true rfl⟩) hK hP hD hS hA [0, 1] [] [0] rfl rfl rfl rfl rfl (by decide) (ci := 0) rfl rfl rfl rfl hl.1 rfl (Nat.le_of_ble_eq_true rfl) dX0_sumOn_17 ⟨Nat.zero_le _, Nat.zero_le _⟩ (fun H locs hP hD hS => ?_)
        have hP : va_P (dC, dI) hlCl [(qb, .inr (0, [.ref qa])), (qa, .inl (cB, N, .inl f))] H := hP
        have hD : va_D A [(qb, .inr (0, [.ref qa])), (qa, .inl (cB, N, .inl f))] := hD
        refine lv_ixor hx hb dX0_sumOn_20 ?_
        refine lv_istore (lv' := [(6, .int ((sumB f N a s0 i) ^^^ (gB f N (nI (a + i))))), (0, .ref qb), (1, .int s0), (2, .int (nI a)), (3, .int (nI b)), (4, .int (sumB f N a s0 i)), (5, .int (nI (a + i)))]) hx hb dX0_sumOn_21 hl (by decide) rfl (fun ls hl => ?_)
        refine lv_iload hx hb dX0_sumOn_23 (lv_at hl 0 rfl) ?_
        refine lv_bipush (v := 9) hx hb dX0_sumOn_25 (by decide) ?_
        refine lv_ishl hx hb dX0_sumOn_27 ?_
        refine lv_iload hx hb dX0_sumOn_28 (lv_at hl 0 rfl) ?_
        refine lv_bipush (v := 23) hx hb dX0_sumOn_30 (by decide) ?_
        refine lv_iushr (v := (((sumB f N a s0 i) ^^^ (gB f N (nI (a + i)))).toUInt32 >>> ((23 : Int32).toUInt32 &&& Int32.toUInt32 31)).toInt32) hx hb dX0_sumOn_32 rfl ?_
        refine lv_ior hx hb dX0_sumOn_33 ?_
        refine lv_ldc (v := (-2048144789)) hx hb hown (hts (.constant RX0 29 (-2048144789)) (by decide +kernel)) dX0_sumOn_34 ?_
        refine lv_imul hx hb dX0_sumOn_36 ?_
        rw [mixI_f, ← sumB_s]
        refine lv_istore (lv' := [(4, .int (sumB f N a s0 (i + 1))), (6, .int ((sumB f N a s0 i) ^^^ (gB f N (nI (a + i))))), (0, .ref qb), (1, .int s0), (2, .int (nI a)), (3, .int (nI b)), (5, .int (nI (a + i)))]) hx hb dX0_sumOn_37 hl (by decide) rfl (fun ls hl => ?_)
        refine lv_iinc (v := nI (a + (i + 1))) (lv' := [(5, .int (nI (a + (i + 1)))), (4, .int (sumB f N a s0 (i + 1))), (6, .int ((sumB f N a s0 i) ^^^ (gB f N (nI (a + i))))), (0, .ref qb), (1, .int s0), (2, .int (nI a)), (3, .int (nI b))]) hx hb dX0_sumOn_39 hl (k := 6) rfl (nI_1 (a + i)) (by decide) rfl (fun ls hl => ?_)
        refine lv_goto (tgt := 6) hx hb dX0_sumOn_42 (by decide) ?_
        exact ih (i + 1) H locs ls (by omega) hP hD hS (lv_sub hl [3, 4, 5, 6, 1, 0] rfl)
  refine lv_iload_n hx hb dX0_sumOn_0 rfl (lv_at hl 1 rfl) ?_
  refine lv_istore (lv' := [(4, .int s0), (0, .ref qb), (1, .int s0), (2, .int (nI a)), (3, .int (nI b))]) hx hb dX0_sumOn_1 hl (by decide) rfl (fun ls hl => ?_)
  refine lv_iload_n hx hb dX0_sumOn_3 rfl (lv_at hl 3 rfl) ?_
  refine lv_istore (lv' := [(5, .int (nI a)), (4, .int s0), (0, .ref qb), (1, .int s0), (2, .int (nI a)), (3, .int (nI b))]) hx hb dX0_sumOn_4 hl (by decide) rfl (fun ls hl => ?_)
  exact loop (b - a) 0 H locs ls (by omega) hP hD hS (lv_sub hl [2, 3, 4, 5, 1, 0] rfl)
end
section
set_option maxHeartbeats 4000000 in
set_option maxRecDepth 100000 in
theorem kX1_firstPlace (l : Launch) (dC : Nat → ClassId) (dI : Nat → Nat → Nat) (sz : Nat) (i : Int32)  : Mi_ l yX1_firstPlace wsX1_firstPlace 0 0 dC dI (fun _ => True) [.int i] [] [] sz (i * 64) [] := by
  refine hm_ (cc := cX1_firstPlace) (maxL := 1) (ret := (some .int)) (Qc := fun A => va_Qi (fun (r9 : Int32) (_ : Unit) => r9 = i * 64) (fun _ t9 => qw_ dC dI A [] [] t9) A) (by decide) rfl (Nat.le_of_ble_eq_true rfl) ?_
  intro p e s m below meth c A H locs ls hx hb hr hml hts hown hlocks hsz hP hK hD hE hA hS hl
  have hl : lv_has ls 1 [(0, .int i)] := hl
  have hown : s.vm.findClass RX1 = some m.cls := hown
  refine lv_iload_n hx hb dX1_firstPlace_0 rfl (lv_at hl 0 rfl) ?_
  refine lv_bipush (v := 64) hx hb dX1_firstPlace_1 (by decide) ?_
  refine lv_imul hx hb dX1_firstPlace_3 ?_
  exact hr_i (v := i * 64) hx hb hr hlocks (w1 := []) hP hD hK hS [] [] rfl rfl rfl (rfl) (rfl) dX1_firstPlace_4

theorem fp_ (k : Nat) : nI k * 64 = nI (k * 64) := pk_mul k 64
theorem gB_n (f : Nat → Int32) (N : Nat) (i : Int32) : ∃ j : Nat, j < 256 ∧ gB f N i = nI j := by
  unfold gB
  split
  · exact ⟨0, by decide, rfl⟩
  · split
    · exact ⟨0, by decide, rfl⟩
    · exact pk_andE _ (m := 255) 8 (by decide)
/-- the length that sector k bears -/
def lnN (f : Nat → Int32) (N k : Nat) : Nat := (gB f N (nI k * 64 + 5)).toNatClampNeg
theorem lnN_e (f : Nat → Int32) (N k : Nat) : gB f N (nI k * 64 + 5) = nI (lnN f N k) ∧ lnN f N k < 256 := by
  obtain ⟨j, hj, e⟩ := gB_n f N (nI k * 64 + 5)
  unfold lnN
  rw [e, nI_clamp (by omega)]
  exact ⟨rfl, hj⟩
theorem sp_ (f : Nat → Int32) (N k : Nat) : nI k * 64 + 6 + gB f N (nI k * 64 + 5) = nI (k * 64 + 6 + lnN f N k) := by
  rw [(lnN_e f N k).1, fp_, ← nI_add, ← nI_add]
  rfl

set_option maxHeartbeats 4000000 in
set_option maxRecDepth 100000 in
theorem kX1_kind (l : Launch) (dC : Nat → ClassId) (dI : Nat → Nat → Nat) (sz : Nat) (qs qb qa : Nat) (cB : ClassId) (f : Nat → Int32) (N : Nat) (i : Int32) (hN : N < 2 ^ 31) : Mi_ l yX1_kind wsX1_kind 1 21 dC dI (fun _ => True) [.ref qs, .int i] [(qs, .inr (1, [.ref qb])), (qb, .inr (0, [.ref qa])), (qa, .inl (cB, N, .inl f))] [(cB, .byte)] sz (gB f N ((i * 64) + 4)) [(qs, .inr (1, [.ref qb])), (qb, .inr (0, [.ref qa])), (qa, .inl (cB, N, .inl f))] := by
  refine hm_ (cc := cX1_kind) (maxL := 2) (ret := (some .int)) (Qc := fun A => va_Qi (fun (r9 : Int32) (_ : Unit) => r9 = gB f N ((i * 64) + 4)) (fun _ t9 => qw_ dC dI A [(qs, .inr (1, [.ref qb])), (qb, .inr (0, [.ref qa])), (qa, .inl (cB, N, .inl f))] [(cB, .byte)] t9) A) (by decide) rfl (Nat.le_of_ble_eq_true rfl) ?_
  intro p e s m below meth c A H locs ls hx hb hr hml hts hown hlocks hsz hP hK hD hE hA hS hl
  have hl : lv_has ls 2 [(0, .ref qs), (1, .int i)] := hl
  have hown : s.vm.findClass RX1 = some m.cls := hown
  refine lv_aload_n hx hb dX1_kind_0 rfl (lv_at hl 0 rfl) ?_
  refine va_get (D := (dC, dI)) (ci := 1) (v := .ref qb) (C := RX1) (T := TX1) (N := 1) hx hb hts (by decide +kernel) hown hK hP 0 rfl rfl 0 (by decide) (hts (.fieldLink RX1 14 "HouseLog$Sectors" "bytes" "LHouseLog$Bytes;") (by decide +kernel)) (fun _ h9 => h9) rfl dX1_kind_1 ?_
  refine lv_iload_n hx hb dX1_kind_4 rfl (lv_at hl 1 rfl) ?_
  refine hc_iS (As := [.int i]) (rest := [.ref qb]) ⟨hx, hb, hml, hown, hts⟩ sx_T trivial (kX1_firstPlace l dC dI H.size i ) (va_cwS 1 hts gX1_kind_X1_firstPlace rfl rfl rfl (by decide +kernel) ⟨Nat.le_of_ble_eq_true rfl, Nat.le_of_ble_eq_true rfl⟩) hK hP hD hS hA [0, 1, 2] rfl rfl rfl hl.1 rfl (Nat.le_of_ble_eq_true rfl) dX1_kind_5 ⟨Nat.zero_le _, Nat.zero_le _⟩ (fun H locs hP hD hS => ?_)
  refine lv_iconst (v := 4) hx hb dX1_kind_8 (by decide) ?_
  refine lv_iadd hx hb dX1_kind_9 ?_
  refine hc_iV (As := [.int ((i * 64) + 4)]) (rest := []) (wr := [(qs, .inr (1, [.ref qb]))]) ⟨hx, hb, hml, hown, hts⟩ sx_T trivial (kX0_get l dC dI H.size qb qa cB f N ((i * 64) + 4) (hN)) (cwV 1 hts gX1_kind_X0_get rfl rfl rfl (by decide +kernel) ⟨Nat.le_of_ble_eq_true rfl, Nat.le_of_ble_eq_true rfl⟩) hK hP hD hS hA [1, 2] [0] [0] rfl rfl rfl rfl rfl (by decide) (ci := 0) rfl rfl rfl rfl hl.1 rfl (Nat.le_of_ble_eq_true rfl) dX1_kind_10 ⟨Nat.zero_le _, Nat.zero_le _⟩ (fun H locs hP hD hS => ?_)
  have hP : va_P (dC, dI) hlCl [(qs, .inr (1, [.ref qb])), (qb, .inr (0, [.ref qa])), (qa, .inl (cB, N, .inl f))] H := hP
  have hD : va_D A [(qs, .inr (1, [.ref qb])), (qb, .inr (0, [.ref qa])), (qa, .inl (cB, N, .inl f))] := hD
  exact hr_i (v := gB f N ((i * 64) + 4)) hx hb hr hlocks (w1 := [(qs, .inr (1, [.ref qb])), (qb, .inr (0, [.ref qa])), (qa, .inl (cB, N, .inl f))]) hP hD hK hS [0, 1, 2] [0] rfl rfl rfl (rfl) (rfl) dX1_kind_13

set_option maxHeartbeats 4000000 in
set_option maxRecDepth 100000 in
theorem kX1_length (l : Launch) (dC : Nat → ClassId) (dI : Nat → Nat → Nat) (sz : Nat) (qs qb qa : Nat) (cB : ClassId) (f : Nat → Int32) (N : Nat) (i : Int32) (hN : N < 2 ^ 31) : Mi_ l yX1_length wsX1_length 1 21 dC dI (fun _ => True) [.ref qs, .int i] [(qs, .inr (1, [.ref qb])), (qb, .inr (0, [.ref qa])), (qa, .inl (cB, N, .inl f))] [(cB, .byte)] sz (gB f N ((i * 64) + 5)) [(qs, .inr (1, [.ref qb])), (qb, .inr (0, [.ref qa])), (qa, .inl (cB, N, .inl f))] := by
  refine hm_ (cc := cX1_length) (maxL := 2) (ret := (some .int)) (Qc := fun A => va_Qi (fun (r9 : Int32) (_ : Unit) => r9 = gB f N ((i * 64) + 5)) (fun _ t9 => qw_ dC dI A [(qs, .inr (1, [.ref qb])), (qb, .inr (0, [.ref qa])), (qa, .inl (cB, N, .inl f))] [(cB, .byte)] t9) A) (by decide) rfl (Nat.le_of_ble_eq_true rfl) ?_
  intro p e s m below meth c A H locs ls hx hb hr hml hts hown hlocks hsz hP hK hD hE hA hS hl
  have hl : lv_has ls 2 [(0, .ref qs), (1, .int i)] := hl
  have hown : s.vm.findClass RX1 = some m.cls := hown
  refine lv_aload_n hx hb dX1_length_0 rfl (lv_at hl 0 rfl) ?_
  refine va_get (D := (dC, dI)) (ci := 1) (v := .ref qb) (C := RX1) (T := TX1) (N := 1) hx hb hts (by decide +kernel) hown hK hP 0 rfl rfl 0 (by decide) (hts (.fieldLink RX1 14 "HouseLog$Sectors" "bytes" "LHouseLog$Bytes;") (by decide +kernel)) (fun _ h9 => h9) rfl dX1_length_1 ?_
  refine lv_iload_n hx hb dX1_length_4 rfl (lv_at hl 1 rfl) ?_
  refine hc_iS (As := [.int i]) (rest := [.ref qb]) ⟨hx, hb, hml, hown, hts⟩ sx_T trivial (kX1_firstPlace l dC dI H.size i ) (va_cwS 1 hts gX1_length_X1_firstPlace rfl rfl rfl (by decide +kernel) ⟨Nat.le_of_ble_eq_true rfl, Nat.le_of_ble_eq_true rfl⟩) hK hP hD hS hA [0, 1, 2] rfl rfl rfl hl.1 rfl (Nat.le_of_ble_eq_true rfl) dX1_length_5 ⟨Nat.zero_le _, Nat.zero_le _⟩ (fun H locs hP hD hS => ?_)
  refine lv_iconst (v := 5) hx hb dX1_length_8 (by decide) ?_
  refine lv_iadd hx hb dX1_length_9 ?_
  refine hc_iV (As := [.int ((i * 64) + 5)]) (rest := []) (wr := [(qs, .inr (1, [.ref qb]))]) ⟨hx, hb, hml, hown, hts⟩ sx_T trivial (kX0_get l dC dI H.size qb qa cB f N ((i * 64) + 5) (hN)) (cwV 1 hts gX1_length_X0_get rfl rfl rfl (by decide +kernel) ⟨Nat.le_of_ble_eq_true rfl, Nat.le_of_ble_eq_true rfl⟩) hK hP hD hS hA [1, 2] [0] [0] rfl rfl rfl rfl rfl (by decide) (ci := 0) rfl rfl rfl rfl hl.1 rfl (Nat.le_of_ble_eq_true rfl) dX1_length_10 ⟨Nat.zero_le _, Nat.zero_le _⟩ (fun H locs hP hD hS => ?_)
  have hP : va_P (dC, dI) hlCl [(qs, .inr (1, [.ref qb])), (qb, .inr (0, [.ref qa])), (qa, .inl (cB, N, .inl f))] H := hP
  have hD : va_D A [(qs, .inr (1, [.ref qb])), (qb, .inr (0, [.ref qa])), (qa, .inl (cB, N, .inl f))] := hD
  exact hr_i (v := gB f N ((i * 64) + 5)) hx hb hr hlocks (w1 := [(qs, .inr (1, [.ref qb])), (qb, .inr (0, [.ref qa])), (qa, .inl (cB, N, .inl f))]) hP hD hK hS [0, 1, 2] [0] rfl rfl rfl (rfl) (rfl) dX1_length_13

set_option maxHeartbeats 4000000 in
set_option maxRecDepth 100000 in
theorem kX1_content (l : Launch) (dC : Nat → ClassId) (dI : Nat → Nat → Nat) (sz : Nat) (qs qb qa : Nat) (cB : ClassId) (f : Nat → Int32) (N : Nat) (i : Int32) (j : Int32) (hN : N < 2 ^ 31) : Mi_ l yX1_content wsX1_content 1 21 dC dI (fun _ => True) [.ref qs, .int i, .int j] [(qs, .inr (1, [.ref qb])), (qb, .inr (0, [.ref qa])), (qa, .inl (cB, N, .inl f))] [(cB, .byte)] sz (gB f N (((i * 64) + 6) + j)) [(qs, .inr (1, [.ref qb])), (qb, .inr (0, [.ref qa])), (qa, .inl (cB, N, .inl f))] := by
  refine hm_ (cc := cX1_content) (maxL := 3) (ret := (some .int)) (Qc := fun A => va_Qi (fun (r9 : Int32) (_ : Unit) => r9 = gB f N (((i * 64) + 6) + j)) (fun _ t9 => qw_ dC dI A [(qs, .inr (1, [.ref qb])), (qb, .inr (0, [.ref qa])), (qa, .inl (cB, N, .inl f))] [(cB, .byte)] t9) A) (by decide) rfl (Nat.le_of_ble_eq_true rfl) ?_
  intro p e s m below meth c A H locs ls hx hb hr hml hts hown hlocks hsz hP hK hD hE hA hS hl
  have hl : lv_has ls 3 [(0, .ref qs), (1, .int i), (2, .int j)] := hl
  have hown : s.vm.findClass RX1 = some m.cls := hown
  refine lv_aload_n hx hb dX1_content_0 rfl (lv_at hl 0 rfl) ?_
  refine va_get (D := (dC, dI)) (ci := 1) (v := .ref qb) (C := RX1) (T := TX1) (N := 1) hx hb hts (by decide +kernel) hown hK hP 0 rfl rfl 0 (by decide) (hts (.fieldLink RX1 14 "HouseLog$Sectors" "bytes" "LHouseLog$Bytes;") (by decide +kernel)) (fun _ h9 => h9) rfl dX1_content_1 ?_
  refine lv_iload_n hx hb dX1_content_4 rfl (lv_at hl 1 rfl) ?_
  refine hc_iS (As := [.int i]) (rest := [.ref qb]) ⟨hx, hb, hml, hown, hts⟩ sx_T trivial (kX1_firstPlace l dC dI H.size i ) (va_cwS 1 hts gX1_content_X1_firstPlace rfl rfl rfl (by decide +kernel) ⟨Nat.le_of_ble_eq_true rfl, Nat.le_of_ble_eq_true rfl⟩) hK hP hD hS hA [0, 1, 2] rfl rfl rfl hl.1 rfl (Nat.le_of_ble_eq_true rfl) dX1_content_5 ⟨Nat.zero_le _, Nat.zero_le _⟩ (fun H locs hP hD hS => ?_)
  refine lv_bipush (v := 6) hx hb dX1_content_8 (by decide) ?_
  refine lv_iadd hx hb dX1_content_10 ?_
  refine lv_iload_n hx hb dX1_content_11 rfl (lv_at hl 2 rfl) ?_
  refine lv_iadd hx hb dX1_content_12 ?_
  refine hc_iV (As := [.int (((i * 64) + 6) + j)]) (rest := []) (wr := [(qs, .inr (1, [.ref qb]))]) ⟨hx, hb, hml, hown, hts⟩ sx_T trivial (kX0_get l dC dI H.size qb qa cB f N (((i * 64) + 6) + j) (hN)) (cwV 1 hts gX1_content_X0_get rfl rfl rfl (by decide +kernel) ⟨Nat.le_of_ble_eq_true rfl, Nat.le_of_ble_eq_true rfl⟩) hK hP hD hS hA [1, 2] [0] [0] rfl rfl rfl rfl rfl (by decide) (ci := 0) rfl rfl rfl rfl hl.1 rfl (Nat.le_of_ble_eq_true rfl) dX1_content_13 ⟨Nat.zero_le _, Nat.zero_le _⟩ (fun H locs hP hD hS => ?_)
  have hP : va_P (dC, dI) hlCl [(qs, .inr (1, [.ref qb])), (qb, .inr (0, [.ref qa])), (qa, .inl (cB, N, .inl f))] H := hP
  have hD : va_D A [(qs, .inr (1, [.ref qb])), (qb, .inr (0, [.ref qa])), (qa, .inl (cB, N, .inl f))] := hD
  exact hr_i (v := gB f N (((i * 64) + 6) + j)) hx hb hr hlocks (w1 := [(qs, .inr (1, [.ref qb])), (qb, .inr (0, [.ref qa])), (qa, .inl (cB, N, .inl f))]) hP hD hK hS [0, 1, 2] [0] rfl rfl rfl (rfl) (rfl) dX1_content_16

set_option maxHeartbeats 4000000 in
set_option maxRecDepth 100000 in
theorem kX1_sumPlace (l : Launch) (dC : Nat → ClassId) (dI : Nat → Nat → Nat) (sz : Nat) (qs qb qa : Nat) (cB : ClassId) (f : Nat → Int32) (N : Nat) (i : Int32) (hN : N < 2 ^ 31) : Mi_ l yX1_sumPlace wsX1_sumPlace 2 42 dC dI (fun _ => True) [.ref qs, .int i] [(qs, .inr (1, [.ref qb])), (qb, .inr (0, [.ref qa])), (qa, .inl (cB, N, .inl f))] [(cB, .byte)] sz (i * 64 + 6 + gB f N (i * 64 + 5)) [(qs, .inr (1, [.ref qb])), (qb, .inr (0, [.ref qa])), (qa, .inl (cB, N, .inl f))] := by
  refine hm_ (cc := cX1_sumPlace) (maxL := 2) (ret := (some .int)) (Qc := fun A => va_Qi (fun (r9 : Int32) (_ : Unit) => r9 = i * 64 + 6 + gB f N (i * 64 + 5)) (fun _ t9 => qw_ dC dI A [(qs, .inr (1, [.ref qb])), (qb, .inr (0, [.ref qa])), (qa, .inl (cB, N, .inl f))] [(cB, .byte)] t9) A) (by decide) rfl (Nat.le_of_ble_eq_true rfl) ?_
  intro p e s m below meth c A H locs ls hx hb hr hml hts hown hlocks hsz hP hK hD hE hA hS hl
  have hl : lv_has ls 2 [(0, .ref qs), (1, .int i)] := hl
  have hown : s.vm.findClass RX1 = some m.cls := hown
  refine lv_iload_n hx hb dX1_sumPlace_0 rfl (lv_at hl 1 rfl) ?_
  refine hc_iS (As := [.int i]) (rest := []) ⟨hx, hb, hml, hown, hts⟩ sx_T trivial (kX1_firstPlace l dC dI H.size i ) (va_cwS 1 hts gX1_sumPlace_X1_firstPlace rfl rfl rfl (by decide +kernel) ⟨Nat.le_of_ble_eq_true rfl, Nat.le_of_ble_eq_true rfl⟩) hK hP hD hS hA [0, 1, 2] rfl rfl rfl hl.1 rfl (Nat.le_of_ble_eq_true rfl) dX1_sumPlace_1 ⟨Nat.zero_le _, Nat.zero_le _⟩ (fun H locs hP hD hS => ?_)
  refine lv_bipush (v := 6) hx hb dX1_sumPlace_4 (by decide) ?_
  refine lv_iadd hx hb dX1_sumPlace_6 ?_
  refine lv_aload_n hx hb dX1_sumPlace_7 rfl (lv_at hl 0 rfl) ?_
  refine lv_iload_n hx hb dX1_sumPlace_8 rfl (lv_at hl 1 rfl) ?_
  refine hc_iV (As := [.int i]) (rest := [.int ((i * 64) + 6)]) (wr := []) ⟨hx, hb, hml, hown, hts⟩ sx_T trivial (kX1_length l dC dI H.size qs qb qa cB f N i (hN)) (cwV 1 hts gX1_sumPlace_X1_length rfl rfl rfl (by decide +kernel) ⟨Nat.le_of_ble_eq_true rfl, Nat.le_of_ble_eq_true rfl⟩) hK hP hD hS hA [0, 1, 2] [] [0] rfl rfl rfl rfl rfl (by decide) (ci := 1) rfl rfl rfl rfl hl.1 rfl (Nat.le_of_ble_eq_true rfl) dX1_sumPlace_9 ⟨Nat.zero_le _, Nat.zero_le _⟩ (fun H locs hP hD hS => ?_)
  have hP : va_P (dC, dI) hlCl [(qs, .inr (1, [.ref qb])), (qb, .inr (0, [.ref qa])), (qa, .inl (cB, N, .inl f))] H := hP
  have hD : va_D A [(qs, .inr (1, [.ref qb])), (qb, .inr (0, [.ref qa])), (qa, .inl (cB, N, .inl f))] := hD
  refine lv_iadd hx hb dX1_sumPlace_12 ?_
  exact hr_i (v := ((i * 64) + 6) + (gB f N ((i * 64) + 5))) hx hb hr hlocks (w1 := [(qs, .inr (1, [.ref qb])), (qb, .inr (0, [.ref qa])), (qa, .inl (cB, N, .inl f))]) hP hD hK hS [0, 1, 2] [0] rfl rfl rfl (rfl) (rfl) dX1_sumPlace_13

def rsI (f : Nat → Int32) (N k : Nat) : Int32 := sumB f N (k * 64) (-1756908916) (k * 64 + 6 + lnN f N k - k * 64)

set_option maxHeartbeats 4000000 in
set_option maxRecDepth 100000 in
theorem kX1_rowSum (l : Launch) (dC : Nat → ClassId) (dI : Nat → Nat → Nat) (sz : Nat) (qs qb qa : Nat) (cB : ClassId) (f : Nat → Int32) (N : Nat) (k : Nat) (hN : N < 2 ^ 31) (hk : k < 1000) : Mi_ l yX1_rowSum wsX1_rowSum 3 63 dC dI (fun _ => True) [.ref qs, .int (nI k)] [(qs, .inr (1, [.ref qb])), (qb, .inr (0, [.ref qa])), (qa, .inl (cB, N, .inl f))] [(cB, .byte)] sz (rsI f N k) [(qs, .inr (1, [.ref qb])), (qb, .inr (0, [.ref qa])), (qa, .inl (cB, N, .inl f))] := by
  refine hm_ (cc := cX1_rowSum) (maxL := 2) (ret := (some .int)) (Qc := fun A => va_Qi (fun (r9 : Int32) (_ : Unit) => r9 = rsI f N k) (fun _ t9 => qw_ dC dI A [(qs, .inr (1, [.ref qb])), (qb, .inr (0, [.ref qa])), (qa, .inl (cB, N, .inl f))] [(cB, .byte)] t9) A) (by decide) rfl (Nat.le_of_ble_eq_true rfl) ?_
  intro p e s m below meth c A H locs ls hx hb hr hml hts hown hlocks hsz hP hK hD hE hA hS hl
  have hl : lv_has ls 2 [(0, .ref qs), (1, .int (nI k))] := hl
  have hown : s.vm.findClass RX1 = some m.cls := hown
  refine lv_aload_n hx hb dX1_rowSum_0 rfl (lv_at hl 0 rfl) ?_
  refine va_get (D := (dC, dI)) (ci := 1) (v := .ref qb) (C := RX1) (T := TX1) (N := 1) hx hb hts (by decide +kernel) hown hK hP 0 rfl rfl 0 (by decide) (hts (.fieldLink RX1 14 "HouseLog$Sectors" "bytes" "LHouseLog$Bytes;") (by decide +kernel)) (fun _ h9 => h9) rfl dX1_rowSum_1 ?_
  refine lv_ldc (v := (-1756908916)) hx hb hown (hts (.constant RX1 57 (-1756908916)) (by decide +kernel)) dX1_rowSum_4 ?_
  refine lv_iload_n hx hb dX1_rowSum_6 rfl (lv_at hl 1 rfl) ?_
  refine hc_iS (As := [.int (nI k)]) (rest := [.int (-1756908916), .ref qb]) ⟨hx, hb, hml, hown, hts⟩ sx_T trivial (kX1_firstPlace l dC dI H.size (nI k) ) (va_cwS 1 hts gX1_rowSum_X1_firstPlace rfl rfl rfl (by decide +kernel) ⟨Nat.le_of_ble_eq_true rfl, Nat.le_of_ble_eq_true rfl⟩) hK hP hD hS hA [0, 1, 2] rfl rfl rfl hl.1 rfl (Nat.le_of_ble_eq_true rfl) dX1_rowSum_7 ⟨Nat.zero_le _, Nat.zero_le _⟩ (fun H locs hP hD hS => ?_)
  refine lv_aload_n hx hb dX1_rowSum_10 rfl (lv_at hl 0 rfl) ?_
  refine lv_iload_n hx hb dX1_rowSum_11 rfl (lv_at hl 1 rfl) ?_
  refine hc_iV (As := [.int (nI k)]) (rest := [.int ((nI k) * 64), .int (-1756908916), .ref qb]) (wr := []) ⟨hx, hb, hml, hown, hts⟩ sx_T trivial (kX1_sumPlace l dC dI H.size qs qb qa cB f N (nI k) (hN)) (cwV 1 hts gX1_rowSum_X1_sumPlace rfl rfl rfl (by decide +kernel) ⟨Nat.le_of_ble_eq_true rfl, Nat.le_of_ble_eq_true rfl⟩) hK hP hD hS hA [0, 1, 2] [] [0] rfl rfl rfl rfl rfl (by decide) (ci := 1) rfl rfl rfl rfl hl.1 rfl (Nat.le_of_ble_eq_true rfl) dX1_rowSum_12 ⟨Nat.zero_le _, Nat.zero_le _⟩ (fun H locs hP hD hS => ?_)
  have hP : va_P (dC, dI) hlCl [(qs, .inr (1, [.ref qb])), (qb, .inr (0, [.ref qa])), (qa, .inl (cB, N, .inl f))] H := hP
  have hD : va_D A [(qs, .inr (1, [.ref qb])), (qb, .inr (0, [.ref qa])), (qa, .inl (cB, N, .inl f))] := hD
  rw [sp_, fp_]
  refine hc_iV (As := [.int (-1756908916), .int (nI (k * 64)), .int (nI (k * 64 + 6 + lnN f N k))]) (rest := []) (wr := [(qs, .inr (1, [.ref qb]))]) ⟨hx, hb, hml, hown, hts⟩ sx_T trivial (kX0_sumOn l dC dI H.size qb qa cB f N (-1756908916) (k * 64) (k * 64 + 6 + lnN f N k) (hN) (by omega) (by have h9 := (lnN_e f N k).2; omega)) (cwV 3 hts gX1_rowSum_X0_sumOn rfl rfl rfl (by decide +kernel) ⟨Nat.le_of_ble_eq_true rfl, Nat.le_of_ble_eq_true rfl⟩) hK hP hD hS hA [1, 2] [0] [0] rfl rfl rfl rfl rfl (by decide) (ci := 0) rfl rfl rfl rfl hl.1 rfl (Nat.le_of_ble_eq_true rfl) dX1_rowSum_15 ⟨Nat.zero_le _, Nat.zero_le _⟩ (fun H locs hP hD hS => ?_)
  have hP : va_P (dC, dI) hlCl [(qs, .inr (1, [.ref qb])), (qb, .inr (0, [.ref qa])), (qa, .inl (cB, N, .inl f))] H := hP
  have hD : va_D A [(qs, .inr (1, [.ref qb])), (qb, .inr (0, [.ref qa])), (qa, .inl (cB, N, .inl f))] := hD
  exact hr_i (v := sumB f N (k * 64) (-1756908916) ((k * 64 + 6 + lnN f N k) - (k * 64))) hx hb hr hlocks (w1 := [(qs, .inr (1, [.ref qb])), (qb, .inr (0, [.ref qa])), (qa, .inl (cB, N, .inl f))]) hP hD hK hS [0, 1, 2] [0] rfl rfl rfl (rfl) (rfl) dX1_rowSum_18

def sbI (f : Nat → Int32) (N : Nat) (s0 : Int32) (k : Nat) : Int32 := sumB f N (k * 64 + 4) s0 (k * 64 + 6 + lnN f N k - (k * 64 + 4))

set_option maxHeartbeats 4000000 in
set_option maxRecDepth 100000 in
theorem kX1_sumBehindNumber (l : Launch) (dC : Nat → ClassId) (dI : Nat → Nat → Nat) (sz : Nat) (qs qb qa : Nat) (cB : ClassId) (f : Nat → Int32) (N : Nat) (s0 : Int32) (k : Nat) (hN : N < 2 ^ 31) (hk : k < 1000) : Mi_ l yX1_sumBehindNumber wsX1_sumBehindNumber 3 63 dC dI (fun _ => True) [.ref qs, .int s0, .int (nI k)] [(qs, .inr (1, [.ref qb])), (qb, .inr (0, [.ref qa])), (qa, .inl (cB, N, .inl f))] [(cB, .byte)] sz (sbI f N s0 k) [(qs, .inr (1, [.ref qb])), (qb, .inr (0, [.ref qa])), (qa, .inl (cB, N, .inl f))] := by
  refine hm_ (cc := cX1_sumBehindNumber) (maxL := 3) (ret := (some .int)) (Qc := fun A => va_Qi (fun (r9 : Int32) (_ : Unit) => r9 = sbI f N s0 k) (fun _ t9 => qw_ dC dI A [(qs, .inr (1, [.ref qb])), (qb, .inr (0, [.ref qa])), (qa, .inl (cB, N, .inl f))] [(cB, .byte)] t9) A) (by decide) rfl (Nat.le_of_ble_eq_true rfl) ?_
  intro p e s m below meth c A H locs ls hx hb hr hml hts hown hlocks hsz hP hK hD hE hA hS hl
  have hl : lv_has ls 3 [(0, .ref qs), (1, .int s0), (2, .int (nI k))] := hl
  have hown : s.vm.findClass RX1 = some m.cls := hown
  refine lv_aload_n hx hb dX1_sumBehindNumber_0 rfl (lv_at hl 0 rfl) ?_
  refine va_get (D := (dC, dI)) (ci := 1) (v := .ref qb) (C := RX1) (T := TX1) (N := 1) hx hb hts (by decide +kernel) hown hK hP 0 rfl rfl 0 (by decide) (hts (.fieldLink RX1 14 "HouseLog$Sectors" "bytes" "LHouseLog$Bytes;") (by decide +kernel)) (fun _ h9 => h9) rfl dX1_sumBehindNumber_1 ?_
  refine lv_iload_n hx hb dX1_sumBehindNumber_4 rfl (lv_at hl 1 rfl) ?_
  refine lv_iload_n hx hb dX1_sumBehindNumber_5 rfl (lv_at hl 2 rfl) ?_
  refine hc_iS (As := [.int (nI k)]) (rest := [.int s0, .ref qb]) ⟨hx, hb, hml, hown, hts⟩ sx_T trivial (kX1_firstPlace l dC dI H.size (nI k) ) (va_cwS 1 hts gX1_sumBehindNumber_X1_firstPlace rfl rfl rfl (by decide +kernel) ⟨Nat.le_of_ble_eq_true rfl, Nat.le_of_ble_eq_true rfl⟩) hK hP hD hS hA [0, 1, 2] rfl rfl rfl hl.1 rfl (Nat.le_of_ble_eq_true rfl) dX1_sumBehindNumber_6 ⟨Nat.zero_le _, Nat.zero_le _⟩ (fun H locs hP hD hS => ?_)
  refine lv_iconst (v := 4) hx hb dX1_sumBehindNumber_9 (by decide) ?_
  refine lv_iadd hx hb dX1_sumBehindNumber_10 ?_
  refine lv_aload_n hx hb dX1_sumBehindNumber_11 rfl (lv_at hl 0 rfl) ?_
  refine lv_iload_n hx hb dX1_sumBehindNumber_12 rfl (lv_at hl 2 rfl) ?_
  refine hc_iV (As := [.int (nI k)]) (rest := [.int (((nI k) * 64) + 4), .int s0, .ref qb]) (wr := []) ⟨hx, hb, hml, hown, hts⟩ sx_T trivial (kX1_sumPlace l dC dI H.size qs qb qa cB f N (nI k) (hN)) (cwV 1 hts gX1_sumBehindNumber_X1_sumPlace rfl rfl rfl (by decide +kernel) ⟨Nat.le_of_ble_eq_true rfl, Nat.le_of_ble_eq_true rfl⟩) hK hP hD hS hA [0, 1, 2] [] [0] rfl rfl rfl rfl rfl (by decide) (ci := 1) rfl rfl rfl rfl hl.1 rfl (Nat.le_of_ble_eq_true rfl) dX1_sumBehindNumber_13 ⟨Nat.zero_le _, Nat.zero_le _⟩ (fun H locs hP hD hS => ?_)
  have hP : va_P (dC, dI) hlCl [(qs, .inr (1, [.ref qb])), (qb, .inr (0, [.ref qa])), (qa, .inl (cB, N, .inl f))] H := hP
  have hD : va_D A [(qs, .inr (1, [.ref qb])), (qb, .inr (0, [.ref qa])), (qa, .inl (cB, N, .inl f))] := hD
  rw [sp_, fp_, show (4 : Int32) = nI 4 from rfl, nI_add]
  refine hc_iV (As := [.int s0, .int (nI (k * 64 + 4)), .int (nI (k * 64 + 6 + lnN f N k))]) (rest := []) (wr := [(qs, .inr (1, [.ref qb]))]) ⟨hx, hb, hml, hown, hts⟩ sx_T trivial (kX0_sumOn l dC dI H.size qb qa cB f N s0 (k * 64 + 4) (k * 64 + 6 + lnN f N k) (hN) (by omega) (by have h9 := (lnN_e f N k).2; omega)) (cwV 3 hts gX1_sumBehindNumber_X0_sumOn rfl rfl rfl (by decide +kernel) ⟨Nat.le_of_ble_eq_true rfl, Nat.le_of_ble_eq_true rfl⟩) hK hP hD hS hA [1, 2] [0] [0] rfl rfl rfl rfl rfl (by decide) (ci := 0) rfl rfl rfl rfl hl.1 rfl (Nat.le_of_ble_eq_true rfl) dX1_sumBehindNumber_16 ⟨Nat.zero_le _, Nat.zero_le _⟩ (fun H locs hP hD hS => ?_)
  have hP : va_P (dC, dI) hlCl [(qs, .inr (1, [.ref qb])), (qb, .inr (0, [.ref qa])), (qa, .inl (cB, N, .inl f))] H := hP
  have hD : va_D A [(qs, .inr (1, [.ref qb])), (qb, .inr (0, [.ref qa])), (qa, .inl (cB, N, .inl f))] := hD
  exact hr_i (v := sumB f N (k * 64 + 4) s0 ((k * 64 + 6 + lnN f N k) - (k * 64 + 4))) hx hb hr hlocks (w1 := [(qs, .inr (1, [.ref qb])), (qb, .inr (0, [.ref qa])), (qa, .inl (cB, N, .inl f))]) hP hD hK hS [0, 1, 2] [0] rfl rfl rfl (rfl) (rfl) dX1_sumBehindNumber_19

def ikI (x : Int32) : Int32 := (if x < 1 then 0 else (if 9 < x then 0 else 1))
set_option maxHeartbeats 4000000 in
set_option maxRecDepth 100000 in
theorem kX2_isKind (l : Launch) (dC : Nat → ClassId) (dI : Nat → Nat → Nat) (sz : Nat) (x : Int32)  : Mi_ l yX2_isKind wsX2_isKind 0 0 dC dI (fun _ => True) [.int x] [] [] sz (ikI x) [] := by
  refine hm_ (cc := cX2_isKind) (maxL := 1) (ret := (some .boolean)) (Qc := fun A => va_Qi (fun (r9 : Int32) (_ : Unit) => r9 = ikI x) (fun _ t9 => qw_ dC dI A [] [] t9) A) (by decide) rfl (Nat.le_of_ble_eq_true rfl) ?_
  intro p e s m below meth c A H locs ls hx hb hr hml hts hown hlocks hsz hP hK hD hE hA hS hl
  have hl : lv_has ls 1 [(0, .int x)] := hl
  have hown : s.vm.findClass RX2 = some m.cls := hown
  refine lv_iload_n hx hb dX2_isKind_0 rfl (lv_at hl 0 rfl) ?_
  refine lv_iconst (v := 1) hx hb dX2_isKind_1 (by decide) ?_
  refine lv_icmp_lt (tgt := 15) hx hb dX2_isKind_2 (by decide) (fun c_2 => ?_) (fun c_2 => ?_)
  · skip
    refine lv_iconst (v := 0) hx hb dX2_isKind_15 (by decide) ?_
    exact hr_z (v := 0) hx hb hr hlocks (by decide) (w1 := []) hP hD hK hS [] [] rfl rfl rfl (by unfold ikI; rw [if_pos c_2]) (rfl) dX2_isKind_16
  · skip
    refine lv_iload_n hx hb dX2_isKind_5 rfl (lv_at hl 0 rfl) ?_
    refine lv_bipush (v := 9) hx hb dX2_isKind_6 (by decide) ?_
    refine lv_icmp_gt (tgt := 15) hx hb dX2_isKind_8 (by decide) (fun c_8 => ?_) (fun c_8 => ?_)
    · skip
      refine lv_iconst (v := 0) hx hb dX2_isKind_15 (by decide) ?_
      exact hr_z (v := 0) hx hb hr hlocks (by decide) (w1 := []) hP hD hK hS [] [] rfl rfl rfl (by unfold ikI; rw [if_neg c_2, if_pos c_8]) (rfl) dX2_isKind_16
    · skip
      refine lv_iconst (v := 1) hx hb dX2_isKind_11 (by decide) ?_
      refine lv_goto (tgt := 16) hx hb dX2_isKind_12 (by decide) ?_
      exact hr_z (v := 1) hx hb hr hlocks (by decide) (w1 := []) hP hD hK hS [] [] rfl rfl rfl (by unfold ikI; rw [if_neg c_2, if_neg c_8]) (rfl) dX2_isKind_16

/-- words of the tables about nest mates -/
def zN (U : State) : Prop := va_Nw (.methodLinkNest RX1 33 yX2_isKind "HouseLog") U ∧ va_Nw (.fieldLinkNest RX2 112 "HouseLog$Sectors" "bytes" "LHouseLog$Bytes;" "HouseLog") U
theorem sx_N : sx_ zN := ⟨fun U V h q => ⟨va_Nw.same rfl h q.1, va_Nw.same rfl h q.2⟩, fun s U hW q => ⟨va_Nw.warmM hW q.1, va_Nw.warmF hW q.2⟩⟩

def rtI (f : Nat → Int32) (N : Nat) (k : Nat) : Int32 := (if (wB f N ((nI k) * 64)) = (nI k) then (if (ikI (gB f N (((nI k) * 64) + 4))) = 0 then 0 else (if 40 < (gB f N (((nI k) * 64) + 5)) then 0 else (if (wB f N ((nI k) * 64 + 6 + gB f N ((nI k) * 64 + 5))) = (rsI f N k) then 1 else 0))) else 0)
set_option maxHeartbeats 4000000 in
set_option maxRecDepth 100000 in
theorem kX1_isRight (l : Launch) (dC : Nat → ClassId) (dI : Nat → Nat → Nat) (sz : Nat) (qs qb qa : Nat) (cB : ClassId) (f : Nat → Int32) (N : Nat) (k : Nat) (hN : N < 2 ^ 31) (hk : k < 1000) : Mi_ l yX1_isRight wsX1_isRight 4 84 dC dI zN [.ref qs, .int (nI k)] [(qs, .inr (1, [.ref qb])), (qb, .inr (0, [.ref qa])), (qa, .inl (cB, N, .inl f))] [(cB, .byte)] sz (rtI f N k) [(qs, .inr (1, [.ref qb])), (qb, .inr (0, [.ref qa])), (qa, .inl (cB, N, .inl f))] := by
  refine hm_ (cc := cX1_isRight) (maxL := 2) (ret := (some .boolean)) (Qc := fun A => va_Qi (fun (r9 : Int32) (_ : Unit) => r9 = rtI f N k) (fun _ t9 => qw_ dC dI A [(qs, .inr (1, [.ref qb])), (qb, .inr (0, [.ref qa])), (qa, .inl (cB, N, .inl f))] [(cB, .byte)] t9) A) (by decide) rfl (Nat.le_of_ble_eq_true rfl) ?_
  intro p e s m below meth c A H locs ls hx hb hr hml hts hown hlocks hsz hP hK hD hE hA hS hl
  have hl : lv_has ls 2 [(0, .ref qs), (1, .int (nI k))] := hl
  have hown : s.vm.findClass RX1 = some m.cls := hown
  refine lv_aload_n hx hb dX1_isRight_0 rfl (lv_at hl 0 rfl) ?_
  refine va_get (D := (dC, dI)) (ci := 1) (v := .ref qb) (C := RX1) (T := TX1) (N := 1) hx hb hts (by decide +kernel) hown hK hP 0 rfl rfl 0 (by decide) (hts (.fieldLink RX1 14 "HouseLog$Sectors" "bytes" "LHouseLog$Bytes;") (by decide +kernel)) (fun _ h9 => h9) rfl dX1_isRight_1 ?_
  refine lv_iload_n hx hb dX1_isRight_4 rfl (lv_at hl 1 rfl) ?_
  refine hc_iS (As := [.int (nI k)]) (rest := [.ref qb]) ⟨hx, hb, hml, hown, hts⟩ sx_T trivial (kX1_firstPlace l dC dI H.size (nI k) ) (va_cwS 1 hts gX1_isRight_X1_firstPlace rfl rfl rfl (by decide +kernel) ⟨Nat.le_of_ble_eq_true rfl, Nat.le_of_ble_eq_true rfl⟩) hK hP hD hS hA [0, 1, 2] rfl rfl rfl hl.1 rfl (Nat.le_of_ble_eq_true rfl) dX1_isRight_5 ⟨Nat.zero_le _, Nat.zero_le _⟩ (fun H locs hP hD hS => ?_)
  refine hc_iV (As := [.int ((nI k) * 64)]) (rest := []) (wr := [(qs, .inr (1, [.ref qb]))]) ⟨hx, hb, hml, hown, hts⟩ sx_T trivial (kX0_word l dC dI H.size qb qa cB f N ((nI k) * 64) (hN)) (cwV 1 hts gX1_isRight_X0_word rfl rfl rfl (by decide +kernel) ⟨Nat.le_of_ble_eq_true rfl, Nat.le_of_ble_eq_true rfl⟩) hK hP hD hS hA [1, 2] [0] [0] rfl rfl rfl rfl rfl (by decide) (ci := 0) rfl rfl rfl rfl hl.1 rfl (Nat.le_of_ble_eq_true rfl) dX1_isRight_8 ⟨Nat.zero_le _, Nat.zero_le _⟩ (fun H locs hP hD hS => ?_)
  have hP : va_P (dC, dI) hlCl [(qs, .inr (1, [.ref qb])), (qb, .inr (0, [.ref qa])), (qa, .inl (cB, N, .inl f))] H := hP
  have hD : va_D A [(qs, .inr (1, [.ref qb])), (qb, .inr (0, [.ref qa])), (qa, .inl (cB, N, .inl f))] := hD
  refine lv_iload_n hx hb dX1_isRight_11 rfl (lv_at hl 1 rfl) ?_
  refine lv_icmp_ne (tgt := 60) hx hb dX1_isRight_12 (by decide) (fun c_12 => ?_) (fun c_12 => ?_)
  · skip
    refine lv_iconst (v := 0) hx hb dX1_isRight_60 (by decide) ?_
    exact hr_z (v := 0) hx hb hr hlocks (by decide) (w1 := [(qs, .inr (1, [.ref qb])), (qb, .inr (0, [.ref qa])), (qa, .inl (cB, N, .inl f))]) hP hD hK hS [0, 1, 2] [0] rfl rfl rfl (by unfold rtI; rw [if_neg c_12]) (rfl) dX1_isRight_61
  · skip
    refine lv_aload_n hx hb dX1_isRight_15 rfl (lv_at hl 0 rfl) ?_
    refine lv_iload_n hx hb dX1_isRight_16 rfl (lv_at hl 1 rfl) ?_
    refine hc_iV (As := [.int (nI k)]) (rest := []) (wr := []) ⟨hx, hb, hml, hown, hts⟩ sx_T trivial (kX1_kind l dC dI H.size qs qb qa cB f N (nI k) (hN)) (cwV 1 hts gX1_isRight_X1_kind rfl rfl rfl (by decide +kernel) ⟨Nat.le_of_ble_eq_true rfl, Nat.le_of_ble_eq_true rfl⟩) hK hP hD hS hA [0, 1, 2] [] [0] rfl rfl rfl rfl rfl (by decide) (ci := 1) rfl rfl rfl rfl hl.1 rfl (Nat.le_of_ble_eq_true rfl) dX1_isRight_17 ⟨Nat.zero_le _, Nat.zero_le _⟩ (fun H locs hP hD hS => ?_)
    have hP : va_P (dC, dI) hlCl [(qs, .inr (1, [.ref qb])), (qb, .inr (0, [.ref qa])), (qa, .inl (cB, N, .inl f))] H := hP
    have hD : va_D A [(qs, .inr (1, [.ref qb])), (qb, .inr (0, [.ref qa])), (qa, .inl (cB, N, .inl f))] := hD
    refine hc_iN (As := [.int (gB f N (((nI k) * 64) + 4))]) (rest := []) ⟨hx, hb, hml, hown, hts⟩ sx_T trivial (kX2_isKind l dC dI H.size (gB f N (((nI k) * 64) + 4)) ) (⟨va_cnB 1 hts gX1_isRight_X2_isKind_n33 rfl rfl rfl hE.1 (hts (.initialized RX2) (by decide +kernel)) (by decide +kernel) ⟨Nat.le_of_ble_eq_true rfl, Nat.le_of_ble_eq_true rfl⟩, hts (.static yX2_isKind) (by decide +kernel), trivial⟩) hK hP hD hS hA [0, 1, 2] rfl rfl rfl hl.1 rfl (Nat.le_of_ble_eq_true rfl) dX1_isRight_20 ⟨Nat.zero_le _, Nat.zero_le _⟩ (fun H locs hP hD hS => ?_)
    refine lv_if_eq (tgt := 60) hx hb dX1_isRight_23 (by decide) (fun c_23 => ?_) (fun c_23 => ?_)
    · skip
      refine lv_iconst (v := 0) hx hb dX1_isRight_60 (by decide) ?_
      exact hr_z (v := 0) hx hb hr hlocks (by decide) (w1 := [(qs, .inr (1, [.ref qb])), (qb, .inr (0, [.ref qa])), (qa, .inl (cB, N, .inl f))]) hP hD hK hS [0, 1, 2] [0] rfl rfl rfl (by unfold rtI; rw [if_pos c_12, if_pos c_23]) (rfl) dX1_isRight_61
    · skip
      refine lv_aload_n hx hb dX1_isRight_26 rfl (lv_at hl 0 rfl) ?_
      refine lv_iload_n hx hb dX1_isRight_27 rfl (lv_at hl 1 rfl) ?_
      refine hc_iV (As := [.int (nI k)]) (rest := []) (wr := []) ⟨hx, hb, hml, hown, hts⟩ sx_T trivial (kX1_length l dC dI H.size qs qb qa cB f N (nI k) (hN)) (cwV 1 hts gX1_isRight_X1_length rfl rfl rfl (by decide +kernel) ⟨Nat.le_of_ble_eq_true rfl, Nat.le_of_ble_eq_true rfl⟩) hK hP hD hS hA [0, 1, 2] [] [0] rfl rfl rfl rfl rfl (by decide) (ci := 1) rfl rfl rfl rfl hl.1 rfl (Nat.le_of_ble_eq_true rfl) dX1_isRight_28 ⟨Nat.zero_le _, Nat.zero_le _⟩ (fun H locs hP hD hS => ?_)
      have hP : va_P (dC, dI) hlCl [(qs, .inr (1, [.ref qb])), (qb, .inr (0, [.ref qa])), (qa, .inl (cB, N, .inl f))] H := hP
      have hD : va_D A [(qs, .inr (1, [.ref qb])), (qb, .inr (0, [.ref qa])), (qa, .inl (cB, N, .inl f))] := hD
      refine lv_bipush (v := 40) hx hb dX1_isRight_31 (by decide) ?_
      refine lv_icmp_gt (tgt := 60) hx hb dX1_isRight_33 (by decide) (fun c_33 => ?_) (fun c_33 => ?_)
      · skip
        refine lv_iconst (v := 0) hx hb dX1_isRight_60 (by decide) ?_
        exact hr_z (v := 0) hx hb hr hlocks (by decide) (w1 := [(qs, .inr (1, [.ref qb])), (qb, .inr (0, [.ref qa])), (qa, .inl (cB, N, .inl f))]) hP hD hK hS [0, 1, 2] [0] rfl rfl rfl (by unfold rtI; rw [if_pos c_12, if_neg c_23, if_pos c_33]) (rfl) dX1_isRight_61
      · skip
        refine lv_aload_n hx hb dX1_isRight_36 rfl (lv_at hl 0 rfl) ?_
        refine va_get (D := (dC, dI)) (ci := 1) (v := .ref qb) (C := RX1) (T := TX1) (N := 1) hx hb hts (by decide +kernel) hown hK hP 0 rfl rfl 0 (by decide) (hts (.fieldLink RX1 14 "HouseLog$Sectors" "bytes" "LHouseLog$Bytes;") (by decide +kernel)) (fun _ h9 => h9) rfl dX1_isRight_37 ?_
        refine lv_aload_n hx hb dX1_isRight_40 rfl (lv_at hl 0 rfl) ?_
        refine lv_iload_n hx hb dX1_isRight_41 rfl (lv_at hl 1 rfl) ?_
        refine hc_iV (As := [.int (nI k)]) (rest := [.ref qb]) (wr := []) ⟨hx, hb, hml, hown, hts⟩ sx_T trivial (kX1_sumPlace l dC dI H.size qs qb qa cB f N (nI k) (hN)) (cwV 1 hts gX1_isRight_X1_sumPlace rfl rfl rfl (by decide +kernel) ⟨Nat.le_of_ble_eq_true rfl, Nat.le_of_ble_eq_true rfl⟩) hK hP hD hS hA [0, 1, 2] [] [0] rfl rfl rfl rfl rfl (by decide) (ci := 1) rfl rfl rfl rfl hl.1 rfl (Nat.le_of_ble_eq_true rfl) dX1_isRight_42 ⟨Nat.zero_le _, Nat.zero_le _⟩ (fun H locs hP hD hS => ?_)
        have hP : va_P (dC, dI) hlCl [(qs, .inr (1, [.ref qb])), (qb, .inr (0, [.ref qa])), (qa, .inl (cB, N, .inl f))] H := hP
        have hD : va_D A [(qs, .inr (1, [.ref qb])), (qb, .inr (0, [.ref qa])), (qa, .inl (cB, N, .inl f))] := hD
        refine hc_iV (As := [.int ((nI k) * 64 + 6 + gB f N ((nI k) * 64 + 5))]) (rest := []) (wr := [(qs, .inr (1, [.ref qb]))]) ⟨hx, hb, hml, hown, hts⟩ sx_T trivial (kX0_word l dC dI H.size qb qa cB f N ((nI k) * 64 + 6 + gB f N ((nI k) * 64 + 5)) (hN)) (cwV 1 hts gX1_isRight_X0_word rfl rfl rfl (by decide +kernel) ⟨Nat.le_of_ble_eq_true rfl, Nat.le_of_ble_eq_true rfl⟩) hK hP hD hS hA [1, 2] [0] [0] rfl rfl rfl rfl rfl (by decide) (ci := 0) rfl rfl rfl rfl hl.1 rfl (Nat.le_of_ble_eq_true rfl) dX1_isRight_45 ⟨Nat.zero_le _, Nat.zero_le _⟩ (fun H locs hP hD hS => ?_)
        have hP : va_P (dC, dI) hlCl [(qs, .inr (1, [.ref qb])), (qb, .inr (0, [.ref qa])), (qa, .inl (cB, N, .inl f))] H := hP
        have hD : va_D A [(qs, .inr (1, [.ref qb])), (qb, .inr (0, [.ref qa])), (qa, .inl (cB, N, .inl f))] := hD
        refine lv_aload_n hx hb dX1_isRight_48 rfl (lv_at hl 0 rfl) ?_
        refine lv_iload_n hx hb dX1_isRight_49 rfl (lv_at hl 1 rfl) ?_
        refine hc_iV (As := [.int (nI k)]) (rest := [.int (wB f N ((nI k) * 64 + 6 + gB f N ((nI k) * 64 + 5)))]) (wr := []) ⟨hx, hb, hml, hown, hts⟩ sx_T trivial (kX1_rowSum l dC dI H.size qs qb qa cB f N k (hN) (hk)) (cwV 1 hts gX1_isRight_X1_rowSum rfl rfl rfl (by decide +kernel) ⟨Nat.le_of_ble_eq_true rfl, Nat.le_of_ble_eq_true rfl⟩) hK hP hD hS hA [0, 1, 2] [] [0] rfl rfl rfl rfl rfl (by decide) (ci := 1) rfl rfl rfl rfl hl.1 rfl (Nat.le_of_ble_eq_true rfl) dX1_isRight_50 ⟨Nat.zero_le _, Nat.zero_le _⟩ (fun H locs hP hD hS => ?_)
        have hP : va_P (dC, dI) hlCl [(qs, .inr (1, [.ref qb])), (qb, .inr (0, [.ref qa])), (qa, .inl (cB, N, .inl f))] H := hP
        have hD : va_D A [(qs, .inr (1, [.ref qb])), (qb, .inr (0, [.ref qa])), (qa, .inl (cB, N, .inl f))] := hD
        refine lv_icmp_ne (tgt := 60) hx hb dX1_isRight_53 (by decide) (fun c_53 => ?_) (fun c_53 => ?_)
        · skip
          refine lv_iconst (v := 0) hx hb dX1_isRight_60 (by decide) ?_
          exact hr_z (v := 0) hx hb hr hlocks (by decide) (w1 := [(qs, .inr (1, [.ref qb])), (qb, .inr (0, [.ref qa])), (qa, .inl (cB, N, .inl f))]) hP hD hK hS [0, 1, 2] [0] rfl rfl rfl (by unfold rtI; rw [if_pos c_12, if_neg c_23, if_neg c_33, if_neg c_53]) (rfl) dX1_isRight_61
        · skip
          refine lv_iconst (v := 1) hx hb dX1_isRight_56 (by decide) ?_
          refine lv_goto (tgt := 61) hx hb dX1_isRight_57 (by decide) ?_
          exact hr_z (v := 1) hx hb hr hlocks (by decide) (w1 := [(qs, .inr (1, [.ref qb])), (qb, .inr (0, [.ref qa])), (qa, .inl (cB, N, .inl f))]) hP hD hK hS [0, 1, 2] [0] rfl rfl rfl (by unfold rtI; rw [if_pos c_12, if_neg c_23, if_neg c_33, if_pos c_53]) (rfl) dX1_isRight_61

def tkB (f : Nat → Int32) (N : Nat) (g : Nat → Int32) (a : Nat) : Nat → Nat → Int32
  | 0 => f
  | i + 1 => sB (tkB f N g a i) N (nI (a + i)) (gB g N (nI (a + i)))
theorem tkB_s (f : Nat → Int32) (N : Nat) (g : Nat → Int32) (a i : Nat) : tkB f N g a (i + 1) = sB (tkB f N g a i) N (nI (a + i)) (gB g N (nI (a + i))) := rfl

set_option maxHeartbeats 4000000 in
set_option maxRecDepth 100000 in
theorem kX1_take (l : Launch) (dC : Nat → ClassId) (dI : Nat → Nat → Nat) (sz : Nat) (qs qb qa qs2 qb2 qa2 : Nat) (cB cB2 : ClassId) (f : Nat → Int32) (N : Nat) (g : Nat → Int32) (k t : Nat) (hN : N < 2 ^ 31) (hk : k < 1000) (ht : t ≤ 64) : Mv_ l yX1_take wsX1_take 1 22 dC dI (fun _ => True) [.ref qs, .ref qs2, .int (nI k), .int (nI t)] [(qs, .inr (1, [.ref qb])), (qb, .inr (0, [.ref qa])), (qa, .inl (cB, N, .inl f)), (qs2, .inr (1, [.ref qb2])), (qb2, .inr (0, [.ref qa2])), (qa2, .inl (cB2, N, .inl g))] [(cB, .byte), (cB2, .byte)] sz [(qs, .inr (1, [.ref qb])), (qb, .inr (0, [.ref qa])), (qa, .inl (cB, N, .inl (tkB f N g (k * 64) t))), (qs2, .inr (1, [.ref qb2])), (qb2, .inr (0, [.ref qa2])), (qa2, .inl (cB2, N, .inl g))] := by
  refine hm_ (cc := cX1_take) (maxL := 6) (ret := none) (Qc := fun A => va_Qv (fun (_ : Unit) => True) (fun _ t9 => qw_ dC dI A [(qs, .inr (1, [.ref qb])), (qb, .inr (0, [.ref qa])), (qa, .inl (cB, N, .inl (tkB f N g (k * 64) t))), (qs2, .inr (1, [.ref qb2])), (qb2, .inr (0, [.ref qa2])), (qa2, .inl (cB2, N, .inl g))] [(cB, .byte), (cB2, .byte)] t9) A) (by decide) rfl (Nat.le_of_ble_eq_true rfl) ?_
  intro p e s m below meth c A H locs ls hx hb hr hml hts hown hlocks hsz hP hK hD hE hA hS hl
  have hl : lv_has ls 6 [(0, .ref qs), (1, .ref qs2), (2, .int (nI k)), (3, .int (nI t))] := hl
  have hown : s.vm.findClass RX1 = some m.cls := hown
  have loop : ∀ (k0 : Nat) (i : Nat) (H : Heap) (locs : List Loc) (ls : Array Slot), (i + k0 = t) → va_P (dC, dI) hlCl [(qs, .inr (1, [.ref qb])), (qb, .inr (0, [.ref qa])), (qa, .inl (cB, N, .inl (tkB f N g (k * 64) i))), (qs2, .inr (1, [.ref qb2])), (qb2, .inr (0, [.ref qa2])), (qa2, .inl (cB2, N, .inl g))] H → va_D A [(qs, .inr (1, [.ref qb])), (qb, .inr (0, [.ref qa])), (qa, .inl (cB, N, .inl (tkB f N g (k * 64) i))), (qs2, .inr (1, [.ref qb2])), (qb2, .inr (0, [.ref qa2])), (qa2, .inl (cB2, N, .inl g))] → va_S A s.heap H locs → lv_has ls 6 [(0, .ref qs), (1, .ref qs2), (2, .int (nI k)), (3, .int (nI t)), (4, .int (nI (k * 64))), (5, .int (nI (k * 64 + i)))] → W p l e (rm_ 1 22) s m [.ref qs, .ref qs2, .int (nI k), .int (nI t)].toArray below meth c H locs 0 0 (MQ below ((fun A => va_Qv (fun (_ : Unit) => True) (fun _ t9 => qw_ dC dI A [(qs, .inr (1, [.ref qb])), (qb, .inr (0, [.ref qa])), (qa, .inl (cB, N, .inl (tkB f N g (k * 64) t))), (qs2, .inr (1, [.ref qb2])), (qb2, .inr (0, [.ref qa2])), (qa2, .inl (cB2, N, .inl g))] [(cB, .byte), (cB2, .byte)] t9) A) A) [.ref qs, .ref qs2, .int (nI k), .int (nI t)].toArray s 0 0 A) (F0 m 10 ls []) := by
    intro k0
    induction k0 with
    | zero =>
      intro i H locs ls hi hP hD hS hl
      refine lv_iload hx hb dX1_take_10 (lv_at hl 5 rfl) ?_
      refine lv_iload hx hb dX1_take_12 (lv_at hl 4 rfl) ?_
      refine lv_iload_n hx hb dX1_take_14 rfl (lv_at hl 3 rfl) ?_
      refine lv_iadd hx hb dX1_take_15 ?_
      rw [nI_add]
      refine lv_icmp_ge (tgt := 43) hx hb dX1_take_16 (by decide) (fun c_16 => ?_) (fun c_16 => ?_)
      · skip
        exact hr_v hx hb hr hlocks (w1 := [(qs, .inr (1, [.ref qb])), (qb, .inr (0, [.ref qa])), (qa, .inl (cB, N, .inl (tkB f N g (k * 64) i))), (qs2, .inr (1, [.ref qb2])), (qb2, .inr (0, [.ref qa2])), (qa2, .inl (cB2, N, .inl g))]) hP hD hK hS [0, 1, 2, 3, 4, 5] [0, 1] rfl rfl rfl (by rw [show i = t by omega]) dX1_take_43
      · exact absurd (nI_le (show k * 64 + t ≤ k * 64 + i by omega) (by omega)) c_16
    | succ k0 ih =>
      intro i H locs ls hi hP hD hS hl
      refine lv_iload hx hb dX1_take_10 (lv_at hl 5 rfl) ?_
      refine lv_iload hx hb dX1_take_12 (lv_at hl 4 rfl) ?_
      refine lv_iload_n hx hb dX1_take_14 rfl (lv_at hl 3 rfl) ?_
      refine lv_iadd hx hb dX1_take_15 ?_
      rw [nI_add]
      refine lv_icmp_ge (tgt := 43) hx hb dX1_take_16 (by decide) (fun c_16 => ?_) (fun c_16 => ?_)
      · exact absurd c_16 (nI_ge (show k * 64 + i < k * 64 + t by omega) (by omega))
      · skip
        refine lv_aload_n hx hb dX1_take_19 rfl (lv_at hl 0 rfl) ?_
        refine va_get (D := (dC, dI)) (ci := 1) (v := .ref qb) (C := RX1) (T := TX1) (N := 1) hx hb hts (by decide +kernel) hown hK hP 0 rfl rfl 0 (by decide) (hts (.fieldLink RX1 14 "HouseLog$Sectors" "bytes" "LHouseLog$Bytes;") (by decide +kernel)) (fun _ h9 => h9) rfl dX1_take_20 ?_
        refine lv_iload hx hb dX1_take_23 (lv_at hl 5 rfl) ?_
        refine lv_aload_n hx hb dX1_take_25 rfl (lv_at hl 1 rfl) ?_
        refine va_get (D := (dC, dI)) (ci := 1) (v := .ref qb2) (C := RX1) (T := TX1) (N := 1) hx hb hts (by decide +kernel) hown hK hP 3 rfl rfl 0 (by decide) (hts (.fieldLink RX1 14 "HouseLog$Sectors" "bytes" "LHouseLog$Bytes;") (by decide +kernel)) (fun _ h9 => h9) rfl dX1_take_26 ?_
        refine lv_iload hx hb dX1_take_29 (lv_at hl 5 rfl) ?_
        refine hc_iV (As := [.int (nI (k * 64 + i))]) (rest := [.int (nI (k * 64 + i)), .ref qb]) (wr := [(qs, .inr (1, [.ref qb])), (qb, .inr (0, [.ref qa])), (qa, .inl (cB, N, .inl (tkB f N g (k * 64) i))), (qs2, .inr (1, [.ref qb2]))]) ⟨hx, hb, hml, hown, hts⟩ sx_T trivial (kX0_get l dC dI H.size qb2 qa2 cB2 g N (nI (k * 64 + i)) (hN)) (cwV 1 hts gX1_take_X0_get rfl rfl rfl (by decide +kernel) ⟨Nat.le_of_ble_eq_true rfl, Nat.le_of_ble_eq_true rfl⟩) hK hP hD hS hA [4, 5] [0, 1, 2, 3] [1] rfl rfl rfl rfl rfl (by decide) (ci := 0) rfl rfl rfl rfl hl.1 rfl (Nat.le_of_ble_eq_true rfl) dX1_take_31 ⟨Nat.zero_le _, Nat.zero_le _⟩ (fun H locs hP hD hS => ?_)
        have hP : va_P (dC, dI) hlCl [(qs, .inr (1, [.ref qb])), (qb, .inr (0, [.ref qa])), (qa, .inl (cB, N, .inl (tkB f N g (k * 64) i))), (qs2, .inr (1, [.ref qb2])), (qb2, .inr (0, [.ref qa2])), (qa2, .inl (cB2, N, .inl g))] H := hP
        have hD : va_D A [(qs, .inr (1, [.ref qb])), (qb, .inr (0, [.ref qa])), (qa, .inl (cB, N, .inl (tkB f N g (k * 64) i))), (qs2, .inr (1, [.ref qb2])), (qb2, .inr (0, [.ref qa2])), (qa2, .inl (cB2, N, .inl g))] := hD
        refine hc_vV (As := [.int (nI (k * 64 + i)), .int (gB g N (nI (k * 64 + i)))]) (rest := []) (wr := [(qs, .inr (1, [.ref qb])), (qs2, .inr (1, [.ref qb2])), (qb2, .inr (0, [.ref qa2])), (qa2, .inl (cB2, N, .inl g))]) ⟨hx, hb, hml, hown, hts⟩ sx_T trivial (kX0_set l dC dI H.size qb qa cB (tkB f N g (k * 64) i) N (nI (k * 64 + i)) (gB g N (nI (k * 64 + i))) (hN)) (cwV 2 hts gX1_take_X0_set rfl rfl rfl (by decide +kernel) ⟨Nat.le_of_ble_eq_true rfl, Nat.le_of_ble_eq_true rfl⟩) hK hP hD hS hA [1, 2] [0, 3, 4, 5] [0] rfl rfl rfl rfl rfl (by decide) (ci := 0) rfl rfl rfl rfl hl.1 rfl (Nat.le_of_ble_eq_true rfl) dX1_take_34 ⟨Nat.zero_le _, Nat.zero_le _⟩ (fun H locs hP hD hS => ?_)
        have hP : va_P (dC, dI) hlCl [(qs, .inr (1, [.ref qb])), (qb, .inr (0, [.ref qa])), (qa, .inl (cB, N, .inl (sB (tkB f N g (k * 64) i) N (nI (k * 64 + i)) (gB g N (nI (k * 64 + i)))))), (qs2, .inr (1, [.ref qb2])), (qb2, .inr (0, [.ref qa2])), (qa2, .inl (cB2, N, .inl g))] H := hP.sub [0, 4, 5, 1, 2, 3] rfl
        have hD : va_D A [(qs, .inr (1, [.ref qb])), (qb, .inr (0, [.ref qa])), (qa, .inl (cB, N, .inl (sB (tkB f N g (k * 64) i) N (nI (k * 64 + i)) (gB g N (nI (k * 64 + i)))))), (qs2, .inr (1, [.ref qb2])), (qb2, .inr (0, [.ref qa2])), (qa2, .inl (cB2, N, .inl g))] := hD.sub [0, 4, 5, 1, 2, 3] (by decide) rfl
        rw [← tkB_s] at hP hD
        refine lv_iinc (v := nI (k * 64 + (i + 1))) (lv' := [(5, .int (nI (k * 64 + (i + 1)))), (0, .ref qs), (1, .ref qs2), (2, .int (nI k)), (3, .int (nI t)), (4, .int (nI (k * 64)))]) hx hb dX1_take_37 hl (k := 5) rfl (nI_1 (k * 64 + i)) (by decide) rfl (fun ls hl => ?_)
        refine lv_goto (tgt := 10) hx hb dX1_take_40 (by decide) ?_
        exact ih (i + 1) H locs ls (by omega) hP hD hS (lv_sub hl [1, 2, 3, 4, 5, 0] rfl)
  refine lv_iload_n hx hb dX1_take_0 rfl (lv_at hl 2 rfl) ?_
  refine hc_iS (As := [.int (nI k)]) (rest := []) ⟨hx, hb, hml, hown, hts⟩ sx_T trivial (kX1_firstPlace l dC dI H.size (nI k) ) (va_cwS 1 hts gX1_take_X1_firstPlace rfl rfl rfl (by decide +kernel) ⟨Nat.le_of_ble_eq_true rfl, Nat.le_of_ble_eq_true rfl⟩) hK hP hD hS hA [0, 1, 2, 3, 4, 5] rfl rfl rfl hl.1 rfl (Nat.le_of_ble_eq_true rfl) dX1_take_1 ⟨Nat.zero_le _, Nat.zero_le _⟩ (fun H locs hP hD hS => ?_)
  rw [fp_]
  refine lv_istore (lv' := [(4, .int (nI (k * 64))), (0, .ref qs), (1, .ref qs2), (2, .int (nI k)), (3, .int (nI t))]) hx hb dX1_take_4 hl (by decide) rfl (fun ls hl => ?_)
  refine lv_iload hx hb dX1_take_6 (lv_at hl 0 rfl) ?_
  refine lv_istore (lv' := [(5, .int (nI (k * 64))), (4, .int (nI (k * 64))), (0, .ref qs), (1, .ref qs2), (2, .int (nI k)), (3, .int (nI t))]) hx hb dX1_take_8 hl (by decide) rfl (fun ls hl => ?_)
  exact loop t 0 H locs ls (by omega) hP hD hS (lv_sub hl [2, 3, 4, 5, 1, 0] rfl)

def cpB (f : Nat → Int32) (N : Nat) (g : Nat → Int32) (M a : Nat) : Nat → Nat → Int32
  | 0 => f
  | i + 1 => sB (cpB f N g M a i) N (nI a + 6 + nI i) (gB g M (nI i))
theorem cpB_s (f : Nat → Int32) (N : Nat) (g : Nat → Int32) (M a i : Nat) : cpB f N g M a (i + 1) = sB (cpB f N g M a i) N (nI a + 6 + nI i) (gB g M (nI i)) := rfl
def zrB (f : Nat → Int32) (N a : Nat) : Nat → Nat → Int32
  | 0 => f
  | i + 1 => sB (zrB f N a i) N (nI (a + i)) 0
theorem zrB_s (f : Nat → Int32) (N a i : Nat) : zrB f N a (i + 1) = sB (zrB f N a i) N (nI (a + i)) 0 := rfl
def c1B (f : Nat → Int32) (N k : Nat) (kd : Int32) (len : Nat) : Nat → Int32 := sB (sB (swB f N (nI (k * 64)) (nI k)) N (nI (k * 64) + 4) kd) N (nI (k * 64) + 5) (nI len)
def c3B (f : Nat → Int32) (N k : Nat) : Nat → Int32 := swB f N (nI (k * 64 + 6 + lnN f N k)) (rsI f N k)
def c4B (f : Nat → Int32) (N k : Nat) : Nat → Int32 := zrB f N (k * 64 + 6 + lnN f N k + 4) (k * 64 + 64 - (k * 64 + 6 + lnN f N k + 4))
def cmB (f : Nat → Int32) (N : Nat) (g : Nat → Int32) (M k : Nat) (kd : Int32) (len : Nat) : Nat → Int32 := c4B (c3B (cpB (c1B f N k kd len) N g M (k * 64) len) N k) N k

set_option maxHeartbeats 4000000 in
set_option maxRecDepth 100000 in
theorem kX1_compose (l : Launch) (dC : Nat → ClassId) (dI : Nat → Nat → Nat) (sz : Nat) (qs qb qa qb2 qa2 : Nat) (cB cB2 : ClassId) (f : Nat → Int32) (N : Nat) (g : Nat → Int32) (M k : Nat) (kd : Int32) (len : Nat) (hN : N < 2 ^ 31) (hM : M < 2 ^ 31) (hk : k < 1000) (hlen : len ≤ 40) : Mv_ l yX1_compose wsX1_compose 4 84 dC dI (fun _ => True) [.ref qs, .int (nI k), .int kd, .ref qb2, .int (nI len)] [(qs, .inr (1, [.ref qb])), (qb, .inr (0, [.ref qa])), (qa, .inl (cB, N, .inl f)), (qb2, .inr (0, [.ref qa2])), (qa2, .inl (cB2, M, .inl g))] [(cB, .byte), (cB2, .byte)] sz [(qs, .inr (1, [.ref qb])), (qb, .inr (0, [.ref qa])), (qa, .inl (cB, N, .inl (cmB f N g M k kd len))), (qb2, .inr (0, [.ref qa2])), (qa2, .inl (cB2, M, .inl g))] := by
  refine hm_ (cc := cX1_compose) (maxL := 7) (ret := none) (Qc := fun A => va_Qv (fun (_ : Unit) => True) (fun _ t9 => qw_ dC dI A [(qs, .inr (1, [.ref qb])), (qb, .inr (0, [.ref qa])), (qa, .inl (cB, N, .inl (cmB f N g M k kd len))), (qb2, .inr (0, [.ref qa2])), (qa2, .inl (cB2, M, .inl g))] [(cB, .byte), (cB2, .byte)] t9) A) (by decide) rfl (Nat.le_of_ble_eq_true rfl) ?_
  intro p e s m below meth c A H locs ls hx hb hr hml hts hown hlocks hsz hP hK hD hE hA hS hl
  have hl : lv_has ls 7 [(0, .ref qs), (1, .int (nI k)), (2, .int kd), (3, .ref qb2), (4, .int (nI len))] := hl
  have hown : s.vm.findClass RX1 = some m.cls := hown
  have loop2 : ∀ (k0 : Nat) (b0 : Nat) (f3 : Nat → Int32) (i : Nat) (H : Heap) (locs : List Loc) (ls : Array Slot), (i + k0 = k * 64 + 64 - b0) → (b0 < 100000) → (zrB f3 N b0 (k * 64 + 64 - b0) = cmB f N g M k kd len) → va_P (dC, dI) hlCl [(qs, .inr (1, [.ref qb])), (qb, .inr (0, [.ref qa])), (qa, .inl (cB, N, .inl (zrB f3 N b0 i))), (qb2, .inr (0, [.ref qa2])), (qa2, .inl (cB2, M, .inl g))] H → va_D A [(qs, .inr (1, [.ref qb])), (qb, .inr (0, [.ref qa])), (qa, .inl (cB, N, .inl (zrB f3 N b0 i))), (qb2, .inr (0, [.ref qa2])), (qa2, .inl (cB2, M, .inl g))] → va_S A s.heap H locs → lv_has ls 7 [(0, .ref qs), (1, .int (nI k)), (2, .int kd), (3, .ref qb2), (4, .int (nI len)), (5, .int (nI (k * 64))), (6, .int (nI (b0 + i)))] → W p l e (rm_ 4 84) s m [.ref qs, .int (nI k), .int kd, .ref qb2, .int (nI len)].toArray below meth c H locs 0 0 (MQ below ((fun A => va_Qv (fun (_ : Unit) => True) (fun _ t9 => qw_ dC dI A [(qs, .inr (1, [.ref qb])), (qb, .inr (0, [.ref qa])), (qa, .inl (cB, N, .inl (cmB f N g M k kd len))), (qb2, .inr (0, [.ref qa2])), (qa2, .inl (cB2, M, .inl g))] [(cB, .byte), (cB2, .byte)] t9) A) A) [.ref qs, .int (nI k), .int kd, .ref qb2, .int (nI len)].toArray s 0 0 A) (F0 m 104 ls []) := by
    intro k0
    induction k0 with
    | zero =>
      intro b0 f3 i H locs ls hi hbb hfin hP hD hS hl
      refine lv_iload hx hb dX1_compose_104 (lv_at hl 6 rfl) ?_
      refine lv_iload hx hb dX1_compose_106 (lv_at hl 5 rfl) ?_
      refine lv_bipush (v := 64) hx hb dX1_compose_108 (by decide) ?_
      refine lv_iadd hx hb dX1_compose_110 ?_
      rw [show (64 : Int32) = nI 64 from rfl, nI_add]
      refine lv_icmp_ge (tgt := 130) hx hb dX1_compose_111 (by decide) (fun c_111 => ?_) (fun c_111 => ?_)
      · skip
        exact hr_v hx hb hr hlocks (w1 := [(qs, .inr (1, [.ref qb])), (qb, .inr (0, [.ref qa])), (qa, .inl (cB, N, .inl (zrB f3 N b0 i))), (qb2, .inr (0, [.ref qa2])), (qa2, .inl (cB2, M, .inl g))]) hP hD hK hS [0, 1, 2, 3, 4] [0, 1] rfl rfl rfl (by rw [← hfin, show i = k * 64 + 64 - b0 by omega]) dX1_compose_130
      · exact absurd (nI_le (show k * 64 + 64 ≤ b0 + i by omega) (by omega)) c_111
    | succ k0 ih =>
      intro b0 f3 i H locs ls hi hbb hfin hP hD hS hl
      refine lv_iload hx hb dX1_compose_104 (lv_at hl 6 rfl) ?_
      refine lv_iload hx hb dX1_compose_106 (lv_at hl 5 rfl) ?_
      refine lv_bipush (v := 64) hx hb dX1_compose_108 (by decide) ?_
      refine lv_iadd hx hb dX1_compose_110 ?_
      rw [show (64 : Int32) = nI 64 from rfl, nI_add]
      refine lv_icmp_ge (tgt := 130) hx hb dX1_compose_111 (by decide) (fun c_111 => ?_) (fun c_111 => ?_)
      · exact absurd c_111 (nI_ge (show b0 + i < k * 64 + 64 by omega) (by omega))
      · skip
        refine lv_aload_n hx hb dX1_compose_114 rfl (lv_at hl 0 rfl) ?_
        refine va_get (D := (dC, dI)) (ci := 1) (v := .ref qb) (C := RX1) (T := TX1) (N := 1) hx hb hts (by decide +kernel) hown hK hP 0 rfl rfl 0 (by decide) (hts (.fieldLink RX1 14 "HouseLog$Sectors" "bytes" "LHouseLog$Bytes;") (by decide +kernel)) (fun _ h9 => h9) rfl dX1_compose_115 ?_
        refine lv_iload hx hb dX1_compose_118 (lv_at hl 6 rfl) ?_
        refine lv_iconst (v := 0) hx hb dX1_compose_120 (by decide) ?_
        refine hc_vV (As := [.int (nI (b0 + i)), .int 0]) (rest := []) (wr := [(qs, .inr (1, [.ref qb])), (qb2, .inr (0, [.ref qa2])), (qa2, .inl (cB2, M, .inl g))]) ⟨hx, hb, hml, hown, hts⟩ sx_T trivial (kX0_set l dC dI H.size qb qa cB (zrB f3 N b0 i) N (nI (b0 + i)) 0 (hN)) (cwV 2 hts gX1_compose_X0_set rfl rfl rfl (by decide +kernel) ⟨Nat.le_of_ble_eq_true rfl, Nat.le_of_ble_eq_true rfl⟩) hK hP hD hS hA [1, 2] [0, 3, 4] [0] rfl rfl rfl rfl rfl (by decide) (ci := 0) rfl rfl rfl rfl hl.1 rfl (Nat.le_of_ble_eq_true rfl) dX1_compose_121 ⟨Nat.zero_le _, Nat.zero_le _⟩ (fun H locs hP hD hS => ?_)
        have hP : va_P (dC, dI) hlCl [(qs, .inr (1, [.ref qb])), (qb, .inr (0, [.ref qa])), (qa, .inl (cB, N, .inl (sB (zrB f3 N b0 i) N (nI (b0 + i)) 0))), (qb2, .inr (0, [.ref qa2])), (qa2, .inl (cB2, M, .inl g))] H := hP.sub [0, 3, 4, 1, 2] rfl
        have hD : va_D A [(qs, .inr (1, [.ref qb])), (qb, .inr (0, [.ref qa])), (qa, .inl (cB, N, .inl (sB (zrB f3 N b0 i) N (nI (b0 + i)) 0))), (qb2, .inr (0, [.ref qa2])), (qa2, .inl (cB2, M, .inl g))] := hD.sub [0, 3, 4, 1, 2] (by decide) rfl
        rw [← zrB_s] at hP hD
        refine lv_iinc (v := nI (b0 + (i + 1))) (lv' := [(6, .int (nI (b0 + (i + 1)))), (0, .ref qs), (1, .int (nI k)), (2, .int kd), (3, .ref qb2), (4, .int (nI len)), (5, .int (nI (k * 64)))]) hx hb dX1_compose_124 hl (k := 6) rfl (nI_1 (b0 + i)) (by decide) rfl (fun ls hl => ?_)
        refine lv_goto (tgt := 104) hx hb dX1_compose_127 (by decide) ?_
        exact ih b0 f3 (i + 1) H locs ls (by omega) (hbb) (hfin) hP hD hS (lv_sub hl [1, 2, 3, 4, 5, 6, 0] rfl)
  have loop1 : ∀ (k0 : Nat) (i : Nat) (H : Heap) (locs : List Loc) (ls : Array Slot), (i + k0 = len) → va_P (dC, dI) hlCl [(qs, .inr (1, [.ref qb])), (qb, .inr (0, [.ref qa])), (qa, .inl (cB, N, .inl (cpB (c1B f N k kd len) N g M (k * 64) i))), (qb2, .inr (0, [.ref qa2])), (qa2, .inl (cB2, M, .inl g))] H → va_D A [(qs, .inr (1, [.ref qb])), (qb, .inr (0, [.ref qa])), (qa, .inl (cB, N, .inl (cpB (c1B f N k kd len) N g M (k * 64) i))), (qb2, .inr (0, [.ref qa2])), (qa2, .inl (cB2, M, .inl g))] → va_S A s.heap H locs → lv_has ls 7 [(0, .ref qs), (1, .int (nI k)), (2, .int kd), (3, .ref qb2), (4, .int (nI len)), (5, .int (nI (k * 64))), (6, .int (nI i))] → W p l e (rm_ 4 84) s m [.ref qs, .int (nI k), .int kd, .ref qb2, .int (nI len)].toArray below meth c H locs 0 0 (MQ below ((fun A => va_Qv (fun (_ : Unit) => True) (fun _ t9 => qw_ dC dI A [(qs, .inr (1, [.ref qb])), (qb, .inr (0, [.ref qa])), (qa, .inl (cB, N, .inl (cmB f N g M k kd len))), (qb2, .inr (0, [.ref qa2])), (qa2, .inl (cB2, M, .inl g))] [(cB, .byte), (cB2, .byte)] t9) A) A) [.ref qs, .int (nI k), .int kd, .ref qb2, .int (nI len)].toArray s 0 0 A) (F0 m 44 ls []) := by
    intro k0
    induction k0 with
    | zero =>
      intro i H locs ls hi hP hD hS hl
      refine lv_iload hx hb dX1_compose_44 (lv_at hl 6 rfl) ?_
      refine lv_iload hx hb dX1_compose_46 (lv_at hl 4 rfl) ?_
      refine lv_icmp_ge (tgt := 78) hx hb dX1_compose_48 (by decide) (fun c_48 => ?_) (fun c_48 => ?_)
      · skip
        rw [show i = len by omega] at hP hD
        refine lv_aload_n hx hb dX1_compose_78 rfl (lv_at hl 0 rfl) ?_
        refine va_get (D := (dC, dI)) (ci := 1) (v := .ref qb) (C := RX1) (T := TX1) (N := 1) hx hb hts (by decide +kernel) hown hK hP 0 rfl rfl 0 (by decide) (hts (.fieldLink RX1 14 "HouseLog$Sectors" "bytes" "LHouseLog$Bytes;") (by decide +kernel)) (fun _ h9 => h9) rfl dX1_compose_79 ?_
        refine lv_aload_n hx hb dX1_compose_82 rfl (lv_at hl 0 rfl) ?_
        refine lv_iload_n hx hb dX1_compose_83 rfl (lv_at hl 1 rfl) ?_
        refine hc_iV (As := [.int (nI k)]) (rest := [.ref qb]) (wr := [(qb2, .inr (0, [.ref qa2])), (qa2, .inl (cB2, M, .inl g))]) ⟨hx, hb, hml, hown, hts⟩ sx_T trivial (kX1_sumPlace l dC dI H.size qs qb qa cB (cpB (c1B f N k kd len) N g M (k * 64) len) N (nI k) (hN)) (cwV 1 hts gX1_compose_X1_sumPlace rfl rfl rfl (by decide +kernel) ⟨Nat.le_of_ble_eq_true rfl, Nat.le_of_ble_eq_true rfl⟩) hK hP hD hS hA [0, 1, 2] [3, 4] [0] rfl rfl rfl rfl rfl (by decide) (ci := 1) rfl rfl rfl rfl hl.1 rfl (Nat.le_of_ble_eq_true rfl) dX1_compose_84 ⟨Nat.zero_le _, Nat.zero_le _⟩ (fun H locs hP hD hS => ?_)
        have hP : va_P (dC, dI) hlCl [(qs, .inr (1, [.ref qb])), (qb, .inr (0, [.ref qa])), (qa, .inl (cB, N, .inl (cpB (c1B f N k kd len) N g M (k * 64) len))), (qb2, .inr (0, [.ref qa2])), (qa2, .inl (cB2, M, .inl g))] H := hP.sub [2, 3, 4, 0, 1] rfl
        have hD : va_D A [(qs, .inr (1, [.ref qb])), (qb, .inr (0, [.ref qa])), (qa, .inl (cB, N, .inl (cpB (c1B f N k kd len) N g M (k * 64) len))), (qb2, .inr (0, [.ref qa2])), (qa2, .inl (cB2, M, .inl g))] := hD.sub [2, 3, 4, 0, 1] (by decide) rfl
        refine lv_aload_n hx hb dX1_compose_87 rfl (lv_at hl 0 rfl) ?_
        refine lv_iload_n hx hb dX1_compose_88 rfl (lv_at hl 1 rfl) ?_
        refine hc_iV (As := [.int (nI k)]) (rest := [.int ((nI k) * 64 + 6 + gB (cpB (c1B f N k kd len) N g M (k * 64) len) N ((nI k) * 64 + 5)), .ref qb]) (wr := [(qb2, .inr (0, [.ref qa2])), (qa2, .inl (cB2, M, .inl g))]) ⟨hx, hb, hml, hown, hts⟩ sx_T trivial (kX1_rowSum l dC dI H.size qs qb qa cB (cpB (c1B f N k kd len) N g M (k * 64) len) N k (hN) (hk)) (cwV 1 hts gX1_compose_X1_rowSum rfl rfl rfl (by decide +kernel) ⟨Nat.le_of_ble_eq_true rfl, Nat.le_of_ble_eq_true rfl⟩) hK hP hD hS hA [0, 1, 2] [3, 4] [0] rfl rfl rfl rfl rfl (by decide) (ci := 1) rfl rfl rfl rfl hl.1 rfl (Nat.le_of_ble_eq_true rfl) dX1_compose_89 ⟨Nat.zero_le _, Nat.zero_le _⟩ (fun H locs hP hD hS => ?_)
        have hP : va_P (dC, dI) hlCl [(qs, .inr (1, [.ref qb])), (qb, .inr (0, [.ref qa])), (qa, .inl (cB, N, .inl (cpB (c1B f N k kd len) N g M (k * 64) len))), (qb2, .inr (0, [.ref qa2])), (qa2, .inl (cB2, M, .inl g))] H := hP.sub [2, 3, 4, 0, 1] rfl
        have hD : va_D A [(qs, .inr (1, [.ref qb])), (qb, .inr (0, [.ref qa])), (qa, .inl (cB, N, .inl (cpB (c1B f N k kd len) N g M (k * 64) len))), (qb2, .inr (0, [.ref qa2])), (qa2, .inl (cB2, M, .inl g))] := hD.sub [2, 3, 4, 0, 1] (by decide) rfl
        rw [sp_]
        refine hc_vV (As := [.int (nI (k * 64 + 6 + lnN (cpB (c1B f N k kd len) N g M (k * 64) len) N k)), .int (rsI (cpB (c1B f N k kd len) N g M (k * 64) len) N k)]) (rest := []) (wr := [(qs, .inr (1, [.ref qb])), (qb2, .inr (0, [.ref qa2])), (qa2, .inl (cB2, M, .inl g))]) ⟨hx, hb, hml, hown, hts⟩ sx_T trivial (kX0_setWord l dC dI H.size qb qa cB (cpB (c1B f N k kd len) N g M (k * 64) len) N (nI (k * 64 + 6 + lnN (cpB (c1B f N k kd len) N g M (k * 64) len) N k)) (rsI (cpB (c1B f N k kd len) N g M (k * 64) len) N k) (hN)) (cwV 2 hts gX1_compose_X0_setWord rfl rfl rfl (by decide +kernel) ⟨Nat.le_of_ble_eq_true rfl, Nat.le_of_ble_eq_true rfl⟩) hK hP hD hS hA [1, 2] [0, 3, 4] [0] rfl rfl rfl rfl rfl (by decide) (ci := 0) rfl rfl rfl rfl hl.1 rfl (Nat.le_of_ble_eq_true rfl) dX1_compose_92 ⟨Nat.zero_le _, Nat.zero_le _⟩ (fun H locs hP hD hS => ?_)
        have hP : va_P (dC, dI) hlCl [(qs, .inr (1, [.ref qb])), (qb, .inr (0, [.ref qa])), (qa, .inl (cB, N, .inl (swB (cpB (c1B f N k kd len) N g M (k * 64) len) N (nI (k * 64 + 6 + lnN (cpB (c1B f N k kd len) N g M (k * 64) len) N k)) (rsI (cpB (c1B f N k kd len) N g M (k * 64) len) N k)))), (qb2, .inr (0, [.ref qa2])), (qa2, .inl (cB2, M, .inl g))] H := hP.sub [0, 3, 4, 1, 2] rfl
        have hD : va_D A [(qs, .inr (1, [.ref qb])), (qb, .inr (0, [.ref qa])), (qa, .inl (cB, N, .inl (swB (cpB (c1B f N k kd len) N g M (k * 64) len) N (nI (k * 64 + 6 + lnN (cpB (c1B f N k kd len) N g M (k * 64) len) N k)) (rsI (cpB (c1B f N k kd len) N g M (k * 64) len) N k)))), (qb2, .inr (0, [.ref qa2])), (qa2, .inl (cB2, M, .inl g))] := hD.sub [0, 3, 4, 1, 2] (by decide) rfl
        rw [show swB (cpB (c1B f N k kd len) N g M (k * 64) len) N (nI (k * 64 + 6 + lnN (cpB (c1B f N k kd len) N g M (k * 64) len) N k)) (rsI (cpB (c1B f N k kd len) N g M (k * 64) len) N k) = c3B (cpB (c1B f N k kd len) N g M (k * 64) len) N k from rfl] at hP hD
        refine lv_aload_n hx hb dX1_compose_95 rfl (lv_at hl 0 rfl) ?_
        refine lv_iload_n hx hb dX1_compose_96 rfl (lv_at hl 1 rfl) ?_
        refine hc_iV (As := [.int (nI k)]) (rest := []) (wr := [(qb2, .inr (0, [.ref qa2])), (qa2, .inl (cB2, M, .inl g))]) ⟨hx, hb, hml, hown, hts⟩ sx_T trivial (kX1_sumPlace l dC dI H.size qs qb qa cB (c3B (cpB (c1B f N k kd len) N g M (k * 64) len) N k) N (nI k) (hN)) (cwV 1 hts gX1_compose_X1_sumPlace rfl rfl rfl (by decide +kernel) ⟨Nat.le_of_ble_eq_true rfl, Nat.le_of_ble_eq_true rfl⟩) hK hP hD hS hA [0, 1, 2] [3, 4] [0] rfl rfl rfl rfl rfl (by decide) (ci := 1) rfl rfl rfl rfl hl.1 rfl (Nat.le_of_ble_eq_true rfl) dX1_compose_97 ⟨Nat.zero_le _, Nat.zero_le _⟩ (fun H locs hP hD hS => ?_)
        have hP : va_P (dC, dI) hlCl [(qs, .inr (1, [.ref qb])), (qb, .inr (0, [.ref qa])), (qa, .inl (cB, N, .inl (c3B (cpB (c1B f N k kd len) N g M (k * 64) len) N k))), (qb2, .inr (0, [.ref qa2])), (qa2, .inl (cB2, M, .inl g))] H := hP.sub [2, 3, 4, 0, 1] rfl
        have hD : va_D A [(qs, .inr (1, [.ref qb])), (qb, .inr (0, [.ref qa])), (qa, .inl (cB, N, .inl (c3B (cpB (c1B f N k kd len) N g M (k * 64) len) N k))), (qb2, .inr (0, [.ref qa2])), (qa2, .inl (cB2, M, .inl g))] := hD.sub [2, 3, 4, 0, 1] (by decide) rfl
        refine lv_iconst (v := 4) hx hb dX1_compose_100 (by decide) ?_
        refine lv_iadd hx hb dX1_compose_101 ?_
        rw [sp_, show (4 : Int32) = nI 4 from rfl, nI_add]
        refine lv_istore (lv' := [(6, .int (nI (k * 64 + 6 + lnN (c3B (cpB (c1B f N k kd len) N g M (k * 64) len) N k) N k + 4))), (0, .ref qs), (1, .int (nI k)), (2, .int kd), (3, .ref qb2), (4, .int (nI len)), (5, .int (nI (k * 64)))]) hx hb dX1_compose_102 hl (by decide) rfl (fun ls hl => ?_)
        exact loop2 (k * 64 + 64 - (k * 64 + 6 + lnN (c3B (cpB (c1B f N k kd len) N g M (k * 64) len) N k) N k + 4)) (k * 64 + 6 + lnN (c3B (cpB (c1B f N k kd len) N g M (k * 64) len) N k) N k + 4) (c3B (cpB (c1B f N k kd len) N g M (k * 64) len) N k) 0 H locs ls (by omega) (by have h9 := (lnN_e (c3B (cpB (c1B f N k kd len) N g M (k * 64) len) N k) N k).2; omega) (rfl) hP hD hS (lv_sub hl [1, 2, 3, 4, 5, 6, 0] rfl)
      · exact absurd (nI_le (show len ≤ i by omega) (by omega)) c_48
    | succ k0 ih =>
      intro i H locs ls hi hP hD hS hl
      refine lv_iload hx hb dX1_compose_44 (lv_at hl 6 rfl) ?_
      refine lv_iload hx hb dX1_compose_46 (lv_at hl 4 rfl) ?_
      refine lv_icmp_ge (tgt := 78) hx hb dX1_compose_48 (by decide) (fun c_48 => ?_) (fun c_48 => ?_)
      · exact absurd c_48 (nI_ge (show i < len by omega) (by omega))
      · skip
        refine lv_aload_n hx hb dX1_compose_51 rfl (lv_at hl 0 rfl) ?_
        refine va_get (D := (dC, dI)) (ci := 1) (v := .ref qb) (C := RX1) (T := TX1) (N := 1) hx hb hts (by decide +kernel) hown hK hP 0 rfl rfl 0 (by decide) (hts (.fieldLink RX1 14 "HouseLog$Sectors" "bytes" "LHouseLog$Bytes;") (by decide +kernel)) (fun _ h9 => h9) rfl dX1_compose_52 ?_
        refine lv_iload hx hb dX1_compose_55 (lv_at hl 5 rfl) ?_
        refine lv_bipush (v := 6) hx hb dX1_compose_57 (by decide) ?_
        refine lv_iadd hx hb dX1_compose_59 ?_
        refine lv_iload hx hb dX1_compose_60 (lv_at hl 6 rfl) ?_
        refine lv_iadd hx hb dX1_compose_62 ?_
        refine lv_aload_n hx hb dX1_compose_63 rfl (lv_at hl 3 rfl) ?_
        refine lv_iload hx hb dX1_compose_64 (lv_at hl 6 rfl) ?_
        refine hc_iV (As := [.int (nI i)]) (rest := [.int (((nI (k * 64)) + 6) + (nI i)), .ref qb]) (wr := [(qs, .inr (1, [.ref qb])), (qb, .inr (0, [.ref qa])), (qa, .inl (cB, N, .inl (cpB (c1B f N k kd len) N g M (k * 64) i)))]) ⟨hx, hb, hml, hown, hts⟩ sx_T trivial (kX0_get l dC dI H.size qb2 qa2 cB2 g M (nI i) (hM)) (cwV 1 hts gX1_compose_X0_get rfl rfl rfl (by decide +kernel) ⟨Nat.le_of_ble_eq_true rfl, Nat.le_of_ble_eq_true rfl⟩) hK hP hD hS hA [3, 4] [0, 1, 2] [1] rfl rfl rfl rfl rfl (by decide) (ci := 0) rfl rfl rfl rfl hl.1 rfl (Nat.le_of_ble_eq_true rfl) dX1_compose_66 ⟨Nat.zero_le _, Nat.zero_le _⟩ (fun H locs hP hD hS => ?_)
        have hP : va_P (dC, dI) hlCl [(qs, .inr (1, [.ref qb])), (qb, .inr (0, [.ref qa])), (qa, .inl (cB, N, .inl (cpB (c1B f N k kd len) N g M (k * 64) i))), (qb2, .inr (0, [.ref qa2])), (qa2, .inl (cB2, M, .inl g))] H := hP
        have hD : va_D A [(qs, .inr (1, [.ref qb])), (qb, .inr (0, [.ref qa])), (qa, .inl (cB, N, .inl (cpB (c1B f N k kd len) N g M (k * 64) i))), (qb2, .inr (0, [.ref qa2])), (qa2, .inl (cB2, M, .inl g))] := hD
        refine hc_vV (As := [.int (((nI (k * 64)) + 6) + (nI i)), .int (gB g M (nI i))]) (rest := []) (wr := [(qs, .inr (1, [.ref qb])), (qb2, .inr (0, [.ref qa2])), (qa2, .inl (cB2, M, .inl g))]) ⟨hx, hb, hml, hown, hts⟩ sx_T trivial (kX0_set l dC dI H.size qb qa cB (cpB (c1B f N k kd len) N g M (k * 64) i) N (((nI (k * 64)) + 6) + (nI i)) (gB g M (nI i)) (hN)) (cwV 2 hts gX1_compose_X0_set rfl rfl rfl (by decide +kernel) ⟨Nat.le_of_ble_eq_true rfl, Nat.le_of_ble_eq_true rfl⟩) hK hP hD hS hA [1, 2] [0, 3, 4] [0] rfl rfl rfl rfl rfl (by decide) (ci := 0) rfl rfl rfl rfl hl.1 rfl (Nat.le_of_ble_eq_true rfl) dX1_compose_69 ⟨Nat.zero_le _, Nat.zero_le _⟩ (fun H locs hP hD hS => ?_)
        have hP : va_P (dC, dI) hlCl [(qs, .inr (1, [.ref qb])), (qb, .inr (0, [.ref qa])), (qa, .inl (cB, N, .inl (sB (cpB (c1B f N k kd len) N g M (k * 64) i) N (((nI (k * 64)) + 6) + (nI i)) (gB g M (nI i))))), (qb2, .inr (0, [.ref qa2])), (qa2, .inl (cB2, M, .inl g))] H := hP.sub [0, 3, 4, 1, 2] rfl
        have hD : va_D A [(qs, .inr (1, [.ref qb])), (qb, .inr (0, [.ref qa])), (qa, .inl (cB, N, .inl (sB (cpB (c1B f N k kd len) N g M (k * 64) i) N (((nI (k * 64)) + 6) + (nI i)) (gB g M (nI i))))), (qb2, .inr (0, [.ref qa2])), (qa2, .inl (cB2, M, .inl g))] := hD.sub [0, 3, 4, 1, 2] (by decide) rfl
        rw [← cpB_s] at hP hD
        refine lv_iinc (v := nI (i + 1)) (lv' := [(6, .int (nI (i + 1))), (0, .ref qs), (1, .int (nI k)), (2, .int kd), (3, .ref qb2), (4, .int (nI len)), (5, .int (nI (k * 64)))]) hx hb dX1_compose_72 hl (k := 6) rfl (nI_1 i) (by decide) rfl (fun ls hl => ?_)
        refine lv_goto (tgt := 44) hx hb dX1_compose_75 (by decide) ?_
        exact ih (i + 1) H locs ls (by omega) hP hD hS (lv_sub hl [1, 2, 3, 4, 5, 6, 0] rfl)
  refine lv_iload_n hx hb dX1_compose_0 rfl (lv_at hl 1 rfl) ?_
  refine hc_iS (As := [.int (nI k)]) (rest := []) ⟨hx, hb, hml, hown, hts⟩ sx_T trivial (kX1_firstPlace l dC dI H.size (nI k) ) (va_cwS 1 hts gX1_compose_X1_firstPlace rfl rfl rfl (by decide +kernel) ⟨Nat.le_of_ble_eq_true rfl, Nat.le_of_ble_eq_true rfl⟩) hK hP hD hS hA [0, 1, 2, 3, 4] rfl rfl rfl hl.1 rfl (Nat.le_of_ble_eq_true rfl) dX1_compose_1 ⟨Nat.zero_le _, Nat.zero_le _⟩ (fun H locs hP hD hS => ?_)
  rw [fp_]
  refine lv_istore (lv' := [(5, .int (nI (k * 64))), (0, .ref qs), (1, .int (nI k)), (2, .int kd), (3, .ref qb2), (4, .int (nI len))]) hx hb dX1_compose_4 hl (by decide) rfl (fun ls hl => ?_)
  refine lv_aload_n hx hb dX1_compose_6 rfl (lv_at hl 1 rfl) ?_
  refine va_get (D := (dC, dI)) (ci := 1) (v := .ref qb) (C := RX1) (T := TX1) (N := 1) hx hb hts (by decide +kernel) hown hK hP 0 rfl rfl 0 (by decide) (hts (.fieldLink RX1 14 "HouseLog$Sectors" "bytes" "LHouseLog$Bytes;") (by decide +kernel)) (fun _ h9 => h9) rfl dX1_compose_7 ?_
  refine lv_iload hx hb dX1_compose_10 (lv_at hl 0 rfl) ?_
  refine lv_iload_n hx hb dX1_compose_12 rfl (lv_at hl 2 rfl) ?_
  refine hc_vV (As := [.int (nI (k * 64)), .int (nI k)]) (rest := []) (wr := [(qs, .inr (1, [.ref qb])), (qb2, .inr (0, [.ref qa2])), (qa2, .inl (cB2, M, .inl g))]) ⟨hx, hb, hml, hown, hts⟩ sx_T trivial (kX0_setWord l dC dI H.size qb qa cB f N (nI (k * 64)) (nI k) (hN)) (cwV 2 hts gX1_compose_X0_setWord rfl rfl rfl (by decide +kernel) ⟨Nat.le_of_ble_eq_true rfl, Nat.le_of_ble_eq_true rfl⟩) hK hP hD hS hA [1, 2] [0, 3, 4] [0] rfl rfl rfl rfl rfl (by decide) (ci := 0) rfl rfl rfl rfl hl.1 rfl (Nat.le_of_ble_eq_true rfl) dX1_compose_13 ⟨Nat.zero_le _, Nat.zero_le _⟩ (fun H locs hP hD hS => ?_)
  have hP : va_P (dC, dI) hlCl [(qs, .inr (1, [.ref qb])), (qb, .inr (0, [.ref qa])), (qa, .inl (cB, N, .inl (swB f N (nI (k * 64)) (nI k)))), (qb2, .inr (0, [.ref qa2])), (qa2, .inl (cB2, M, .inl g))] H := hP.sub [0, 3, 4, 1, 2] rfl
  have hD : va_D A [(qs, .inr (1, [.ref qb])), (qb, .inr (0, [.ref qa])), (qa, .inl (cB, N, .inl (swB f N (nI (k * 64)) (nI k)))), (qb2, .inr (0, [.ref qa2])), (qa2, .inl (cB2, M, .inl g))] := hD.sub [0, 3, 4, 1, 2] (by decide) rfl
  refine lv_aload_n hx hb dX1_compose_16 rfl (lv_at hl 1 rfl) ?_
  refine va_get (D := (dC, dI)) (ci := 1) (v := .ref qb) (C := RX1) (T := TX1) (N := 1) hx hb hts (by decide +kernel) hown hK hP 0 rfl rfl 0 (by decide) (hts (.fieldLink RX1 14 "HouseLog$Sectors" "bytes" "LHouseLog$Bytes;") (by decide +kernel)) (fun _ h9 => h9) rfl dX1_compose_17 ?_
  refine lv_iload hx hb dX1_compose_20 (lv_at hl 0 rfl) ?_
  refine lv_iconst (v := 4) hx hb dX1_compose_22 (by decide) ?_
  refine lv_iadd hx hb dX1_compose_23 ?_
  refine lv_iload_n hx hb dX1_compose_24 rfl (lv_at hl 3 rfl) ?_
  refine hc_vV (As := [.int ((nI (k * 64)) + 4), .int kd]) (rest := []) (wr := [(qs, .inr (1, [.ref qb])), (qb2, .inr (0, [.ref qa2])), (qa2, .inl (cB2, M, .inl g))]) ⟨hx, hb, hml, hown, hts⟩ sx_T trivial (kX0_set l dC dI H.size qb qa cB (swB f N (nI (k * 64)) (nI k)) N ((nI (k * 64)) + 4) kd (hN)) (cwV 2 hts gX1_compose_X0_set rfl rfl rfl (by decide +kernel) ⟨Nat.le_of_ble_eq_true rfl, Nat.le_of_ble_eq_true rfl⟩) hK hP hD hS hA [1, 2] [0, 3, 4] [0] rfl rfl rfl rfl rfl (by decide) (ci := 0) rfl rfl rfl rfl hl.1 rfl (Nat.le_of_ble_eq_true rfl) dX1_compose_25 ⟨Nat.zero_le _, Nat.zero_le _⟩ (fun H locs hP hD hS => ?_)
  have hP : va_P (dC, dI) hlCl [(qs, .inr (1, [.ref qb])), (qb, .inr (0, [.ref qa])), (qa, .inl (cB, N, .inl (sB (swB f N (nI (k * 64)) (nI k)) N ((nI (k * 64)) + 4) kd))), (qb2, .inr (0, [.ref qa2])), (qa2, .inl (cB2, M, .inl g))] H := hP.sub [0, 3, 4, 1, 2] rfl
  have hD : va_D A [(qs, .inr (1, [.ref qb])), (qb, .inr (0, [.ref qa])), (qa, .inl (cB, N, .inl (sB (swB f N (nI (k * 64)) (nI k)) N ((nI (k * 64)) + 4) kd))), (qb2, .inr (0, [.ref qa2])), (qa2, .inl (cB2, M, .inl g))] := hD.sub [0, 3, 4, 1, 2] (by decide) rfl
  refine lv_aload_n hx hb dX1_compose_28 rfl (lv_at hl 1 rfl) ?_
  refine va_get (D := (dC, dI)) (ci := 1) (v := .ref qb) (C := RX1) (T := TX1) (N := 1) hx hb hts (by decide +kernel) hown hK hP 0 rfl rfl 0 (by decide) (hts (.fieldLink RX1 14 "HouseLog$Sectors" "bytes" "LHouseLog$Bytes;") (by decide +kernel)) (fun _ h9 => h9) rfl dX1_compose_29 ?_
  refine lv_iload hx hb dX1_compose_32 (lv_at hl 0 rfl) ?_
  refine lv_iconst (v := 5) hx hb dX1_compose_34 (by decide) ?_
  refine lv_iadd hx hb dX1_compose_35 ?_
  refine lv_iload hx hb dX1_compose_36 (lv_at hl 5 rfl) ?_
  refine hc_vV (As := [.int ((nI (k * 64)) + 5), .int (nI len)]) (rest := []) (wr := [(qs, .inr (1, [.ref qb])), (qb2, .inr (0, [.ref qa2])), (qa2, .inl (cB2, M, .inl g))]) ⟨hx, hb, hml, hown, hts⟩ sx_T trivial (kX0_set l dC dI H.size qb qa cB (sB (swB f N (nI (k * 64)) (nI k)) N ((nI (k * 64)) + 4) kd) N ((nI (k * 64)) + 5) (nI len) (hN)) (cwV 2 hts gX1_compose_X0_set rfl rfl rfl (by decide +kernel) ⟨Nat.le_of_ble_eq_true rfl, Nat.le_of_ble_eq_true rfl⟩) hK hP hD hS hA [1, 2] [0, 3, 4] [0] rfl rfl rfl rfl rfl (by decide) (ci := 0) rfl rfl rfl rfl hl.1 rfl (Nat.le_of_ble_eq_true rfl) dX1_compose_38 ⟨Nat.zero_le _, Nat.zero_le _⟩ (fun H locs hP hD hS => ?_)
  have hP : va_P (dC, dI) hlCl [(qs, .inr (1, [.ref qb])), (qb, .inr (0, [.ref qa])), (qa, .inl (cB, N, .inl (sB (sB (swB f N (nI (k * 64)) (nI k)) N ((nI (k * 64)) + 4) kd) N ((nI (k * 64)) + 5) (nI len)))), (qb2, .inr (0, [.ref qa2])), (qa2, .inl (cB2, M, .inl g))] H := hP.sub [0, 3, 4, 1, 2] rfl
  have hD : va_D A [(qs, .inr (1, [.ref qb])), (qb, .inr (0, [.ref qa])), (qa, .inl (cB, N, .inl (sB (sB (swB f N (nI (k * 64)) (nI k)) N ((nI (k * 64)) + 4) kd) N ((nI (k * 64)) + 5) (nI len)))), (qb2, .inr (0, [.ref qa2])), (qa2, .inl (cB2, M, .inl g))] := hD.sub [0, 3, 4, 1, 2] (by decide) rfl
  rw [show sB (sB (swB f N (nI (k * 64)) (nI k)) N (nI (k * 64) + 4) kd) N (nI (k * 64) + 5) (nI len) = c1B f N k kd len from rfl] at hP hD
  refine lv_iconst (v := 0) hx hb dX1_compose_41 (by decide) ?_
  refine lv_istore (lv' := [(6, .int 0), (5, .int (nI (k * 64))), (0, .ref qs), (1, .int (nI k)), (2, .int kd), (3, .ref qb2), (4, .int (nI len))]) hx hb dX1_compose_42 hl (by decide) rfl (fun ls hl => ?_)
  exact loop1 len 0 H locs ls (by omega) hP hD hS (lv_sub hl [2, 3, 4, 5, 6, 1, 0] rfl)
end
section
theorem sw_ (x : Int32) (m : Nat) (hm : m < 2 ^ 31) : (x.toInt < 0 ∨ (m : Int) < x.toInt) ∨ ∃ j : Nat, j ≤ m ∧ x = nI j := by
  by_cases h : x.toInt < 0
  · exact Or.inl (Or.inl h)
  · by_cases h2 : (m : Int) < x.toInt
    · exact Or.inl (Or.inr h2)
    · refine Or.inr ⟨x.toInt.toNat, by omega, ?_⟩
      apply Int32.toInt_inj.mp
      rw [nI_toInt (by omega)]
      omega
theorem sw_ne {x : Int32} (m i : Nat) (hi : i ≤ m) (hm : m < 2 ^ 31) (h : x.toInt < 0 ∨ (m : Int) < x.toInt) : ¬ x = nI i := by
  intro e
  rw [e, nI_toInt (by omega)] at h
  omega

def icI (x : Int32) : Int32 := (if x = 0 then 1 else (if x = 1 then 1 else 0))
set_option maxHeartbeats 4000000 in
set_option maxRecDepth 100000 in
theorem kX2_isCopy (l : Launch) (dC : Nat → ClassId) (dI : Nat → Nat → Nat) (sz : Nat) (x : Int32)  : Mi_ l yX2_isCopy wsX2_isCopy 0 0 dC dI (fun _ => True) [.int x] [] [] sz (icI x) [] := by
  refine hm_ (cc := cX2_isCopy) (maxL := 1) (ret := (some .boolean)) (Qc := fun A => va_Qi (fun (r9 : Int32) (_ : Unit) => r9 = icI x) (fun _ t9 => qw_ dC dI A [] [] t9) A) (by decide) rfl (Nat.le_of_ble_eq_true rfl) ?_
  intro p e s m below meth c A H locs ls hx hb hr hml hts hown hlocks hsz hP hK hD hE hA hS hl
  have hl : lv_has ls 1 [(0, .int x)] := hl
  have hown : s.vm.findClass RX2 = some m.cls := hown
  refine lv_iload_n hx hb dX2_isCopy_0 rfl (lv_at hl 0 rfl) ?_
  refine lv_if_eq (tgt := 9) hx hb dX2_isCopy_1 (by decide) (fun c_1 => ?_) (fun c_1 => ?_)
  · skip
    refine lv_iconst (v := 1) hx hb dX2_isCopy_9 (by decide) ?_
    refine lv_goto (tgt := 14) hx hb dX2_isCopy_10 (by decide) ?_
    exact hr_z (v := 1) hx hb hr hlocks (by decide) (w1 := []) hP hD hK hS [] [] rfl rfl rfl (by unfold icI; rw [if_pos c_1]) (rfl) dX2_isCopy_14
  · skip
    refine lv_iload_n hx hb dX2_isCopy_4 rfl (lv_at hl 0 rfl) ?_
    refine lv_iconst (v := 1) hx hb dX2_isCopy_5 (by decide) ?_
    refine lv_icmp_ne (tgt := 13) hx hb dX2_isCopy_6 (by decide) (fun c_6 => ?_) (fun c_6 => ?_)
    · skip
      refine lv_iconst (v := 0) hx hb dX2_isCopy_13 (by decide) ?_
      exact hr_z (v := 0) hx hb hr hlocks (by decide) (w1 := []) hP hD hK hS [] [] rfl rfl rfl (by unfold icI; rw [if_neg c_1, if_neg c_6]) (rfl) dX2_isCopy_14
    · skip
      refine lv_iconst (v := 1) hx hb dX2_isCopy_9 (by decide) ?_
      refine lv_goto (tgt := 14) hx hb dX2_isCopy_10 (by decide) ?_
      exact hr_z (v := 1) hx hb hr hlocks (by decide) (w1 := []) hP hD hK hS [] [] rfl rfl rfl (by unfold icI; rw [if_neg c_1, if_pos c_6]) (rfl) dX2_isCopy_14

def ipI (n : Nat) (i : Int32) : Int32 := (if i < 0 then 0 else (if ((nI n) * 64) ≤ i then 0 else 1))
set_option maxHeartbeats 4000000 in
set_option maxRecDepth 100000 in
theorem kX2_isPlace (l : Launch) (dC : Nat → ClassId) (dI : Nat → Nat → Nat) (sz : Nat) (qh qs0 qs1 qsm qbc : Nat) (n : Nat) (cb rw ak dn ct tn md wr : Int32) (i : Int32)  : Mi_ l yX2_isPlace wsX2_isPlace 0 0 dC dI (fun _ => True) [.ref qh, .int i] [(qh, .inr (2, [.int (nI n), .ref qs0, .ref qs1, .ref qsm, .ref qbc, .int cb, .int rw, .int ak, .int dn, .int ct, .int tn, .int md, .int wr]))] [] sz (ipI n i) [(qh, .inr (2, [.int (nI n), .ref qs0, .ref qs1, .ref qsm, .ref qbc, .int cb, .int rw, .int ak, .int dn, .int ct, .int tn, .int md, .int wr]))] := by
  refine hm_ (cc := cX2_isPlace) (maxL := 2) (ret := (some .boolean)) (Qc := fun A => va_Qi (fun (r9 : Int32) (_ : Unit) => r9 = ipI n i) (fun _ t9 => qw_ dC dI A [(qh, .inr (2, [.int (nI n), .ref qs0, .ref qs1, .ref qsm, .ref qbc, .int cb, .int rw, .int ak, .int dn, .int ct, .int tn, .int md, .int wr]))] [] t9) A) (by decide) rfl (Nat.le_of_ble_eq_true rfl) ?_
  intro p e s m below meth c A H locs ls hx hb hr hml hts hown hlocks hsz hP hK hD hE hA hS hl
  have hl : lv_has ls 2 [(0, .ref qh), (1, .int i)] := hl
  have hown : s.vm.findClass RX2 = some m.cls := hown
  refine lv_iload_n hx hb dX2_isPlace_0 rfl (lv_at hl 1 rfl) ?_
  refine lv_if_lt (tgt := 19) hx hb dX2_isPlace_1 (by decide) (fun c_1 => ?_) (fun c_1 => ?_)
  · skip
    refine lv_iconst (v := 0) hx hb dX2_isPlace_19 (by decide) ?_
    exact hr_z (v := 0) hx hb hr hlocks (by decide) (w1 := [(qh, .inr (2, [.int (nI n), .ref qs0, .ref qs1, .ref qsm, .ref qbc, .int cb, .int rw, .int ak, .int dn, .int ct, .int tn, .int md, .int wr]))]) hP hD hK hS [0] [] rfl rfl rfl (by unfold ipI; rw [if_pos c_1]) (rfl) dX2_isPlace_20
  · skip
    refine lv_iload_n hx hb dX2_isPlace_4 rfl (lv_at hl 1 rfl) ?_
    refine lv_aload_n hx hb dX2_isPlace_5 rfl (lv_at hl 0 rfl) ?_
    refine va_get (D := (dC, dI)) (ci := 2) (v := .int (nI n)) (C := RX2) (T := TX2) (N := 13) hx hb hts (by decide +kernel) hown hK hP 0 rfl rfl 0 (by decide) (hts (.fieldLink RX2 18 "HouseLog" "sectors" "I") (by decide +kernel)) (fun _ h9 => h9) rfl dX2_isPlace_6 ?_
    refine lv_bipush (v := 64) hx hb dX2_isPlace_9 (by decide) ?_
    refine lv_imul hx hb dX2_isPlace_11 ?_
    refine lv_icmp_ge (tgt := 19) hx hb dX2_isPlace_12 (by decide) (fun c_12 => ?_) (fun c_12 => ?_)
    · skip
      refine lv_iconst (v := 0) hx hb dX2_isPlace_19 (by decide) ?_
      exact hr_z (v := 0) hx hb hr hlocks (by decide) (w1 := [(qh, .inr (2, [.int (nI n), .ref qs0, .ref qs1, .ref qsm, .ref qbc, .int cb, .int rw, .int ak, .int dn, .int ct, .int tn, .int md, .int wr]))]) hP hD hK hS [0] [] rfl rfl rfl (by unfold ipI; rw [if_neg c_1, if_pos c_12]) (rfl) dX2_isPlace_20
    · skip
      refine lv_iconst (v := 1) hx hb dX2_isPlace_15 (by decide) ?_
      refine lv_goto (tgt := 20) hx hb dX2_isPlace_16 (by decide) ?_
      exact hr_z (v := 1) hx hb hr hlocks (by decide) (w1 := [(qh, .inr (2, [.int (nI n), .ref qs0, .ref qs1, .ref qsm, .ref qbc, .int cb, .int rw, .int ak, .int dn, .int ct, .int tn, .int md, .int wr]))]) hP hD hK hS [0] [] rfl rfl rfl (by unfold ipI; rw [if_neg c_1, if_neg c_12]) (rfl) dX2_isPlace_20

def irI (rw : Int32) (i : Int32) : Int32 := (if i < 0 then 0 else (if rw ≤ i then 0 else 1))
set_option maxHeartbeats 4000000 in
set_option maxRecDepth 100000 in
theorem kX2_isRow (l : Launch) (dC : Nat → ClassId) (dI : Nat → Nat → Nat) (sz : Nat) (qh qs0 qs1 qsm qbc : Nat) (n : Nat) (cb rw ak dn ct tn md wr : Int32) (i : Int32)  : Mi_ l yX2_isRow wsX2_isRow 0 0 dC dI (fun _ => True) [.ref qh, .int i] [(qh, .inr (2, [.int (nI n), .ref qs0, .ref qs1, .ref qsm, .ref qbc, .int cb, .int rw, .int ak, .int dn, .int ct, .int tn, .int md, .int wr]))] [] sz (irI rw i) [(qh, .inr (2, [.int (nI n), .ref qs0, .ref qs1, .ref qsm, .ref qbc, .int cb, .int rw, .int ak, .int dn, .int ct, .int tn, .int md, .int wr]))] := by
  refine hm_ (cc := cX2_isRow) (maxL := 2) (ret := (some .boolean)) (Qc := fun A => va_Qi (fun (r9 : Int32) (_ : Unit) => r9 = irI rw i) (fun _ t9 => qw_ dC dI A [(qh, .inr (2, [.int (nI n), .ref qs0, .ref qs1, .ref qsm, .ref qbc, .int cb, .int rw, .int ak, .int dn, .int ct, .int tn, .int md, .int wr]))] [] t9) A) (by decide) rfl (Nat.le_of_ble_eq_true rfl) ?_
  intro p e s m below meth c A H locs ls hx hb hr hml hts hown hlocks hsz hP hK hD hE hA hS hl
  have hl : lv_has ls 2 [(0, .ref qh), (1, .int i)] := hl
  have hown : s.vm.findClass RX2 = some m.cls := hown
  refine lv_iload_n hx hb dX2_isRow_0 rfl (lv_at hl 1 rfl) ?_
  refine lv_if_lt (tgt := 16) hx hb dX2_isRow_1 (by decide) (fun c_1 => ?_) (fun c_1 => ?_)
  · skip
    refine lv_iconst (v := 0) hx hb dX2_isRow_16 (by decide) ?_
    exact hr_z (v := 0) hx hb hr hlocks (by decide) (w1 := [(qh, .inr (2, [.int (nI n), .ref qs0, .ref qs1, .ref qsm, .ref qbc, .int cb, .int rw, .int ak, .int dn, .int ct, .int tn, .int md, .int wr]))]) hP hD hK hS [0] [] rfl rfl rfl (by unfold irI; rw [if_pos c_1]) (rfl) dX2_isRow_17
  · skip
    refine lv_iload_n hx hb dX2_isRow_4 rfl (lv_at hl 1 rfl) ?_
    refine lv_aload_n hx hb dX2_isRow_5 rfl (lv_at hl 0 rfl) ?_
    refine va_get (D := (dC, dI)) (ci := 2) (v := .int rw) (C := RX2) (T := TX2) (N := 13) hx hb hts (by decide +kernel) hown hK hP 0 rfl rfl 6 (by decide) (hts (.fieldLink RX2 76 "HouseLog" "rows" "I") (by decide +kernel)) (fun _ h9 => h9) rfl dX2_isRow_6 ?_
    refine lv_icmp_ge (tgt := 16) hx hb dX2_isRow_9 (by decide) (fun c_9 => ?_) (fun c_9 => ?_)
    · skip
      refine lv_iconst (v := 0) hx hb dX2_isRow_16 (by decide) ?_
      exact hr_z (v := 0) hx hb hr hlocks (by decide) (w1 := [(qh, .inr (2, [.int (nI n), .ref qs0, .ref qs1, .ref qsm, .ref qbc, .int cb, .int rw, .int ak, .int dn, .int ct, .int tn, .int md, .int wr]))]) hP hD hK hS [0] [] rfl rfl rfl (by unfold irI; rw [if_neg c_1, if_pos c_9]) (rfl) dX2_isRow_17
    · skip
      refine lv_iconst (v := 1) hx hb dX2_isRow_12 (by decide) ?_
      refine lv_goto (tgt := 17) hx hb dX2_isRow_13 (by decide) ?_
      exact hr_z (v := 1) hx hb hr hlocks (by decide) (w1 := [(qh, .inr (2, [.int (nI n), .ref qs0, .ref qs1, .ref qsm, .ref qbc, .int cb, .int rw, .int ak, .int dn, .int ct, .int tn, .int md, .int wr]))]) hP hD hK hS [0] [] rfl rfl rfl (by unfold irI; rw [if_neg c_1, if_neg c_9]) (rfl) dX2_isRow_17

set_option maxHeartbeats 4000000 in
set_option maxRecDepth 100000 in
theorem kX2_copyOf (l : Launch) (dC : Nat → ClassId) (dI : Nat → Nat → Nat) (sz : Nat) (qh qs0 qs1 qsm qbc : Nat) (n : Nat) (cb rw ak dn ct tn md wr : Int32) (x : Int32)  : Mr_ l yX2_copyOf wsX2_copyOf 0 0 dC dI (fun _ => True) [.ref qh, .int x] [(qh, .inr (2, [.int (nI n), .ref qs0, .ref qs1, .ref qsm, .ref qbc, .int cb, .int rw, .int ak, .int dn, .int ct, .int tn, .int md, .int wr]))] [] sz (if x = 0 then qs0 else qs1) [(qh, .inr (2, [.int (nI n), .ref qs0, .ref qs1, .ref qsm, .ref qbc, .int cb, .int rw, .int ak, .int dn, .int ct, .int tn, .int md, .int wr]))] := by
  refine hm_ (cc := cX2_copyOf) (maxL := 2) (ret := (some (.object "HouseLog$Sectors"))) (Qc := fun A => va_Qr (fun (_ : Unit) => True) (fun _ a9 t9 => a9 = (if x = 0 then qs0 else qs1) ∧ qw_ dC dI A [(qh, .inr (2, [.int (nI n), .ref qs0, .ref qs1, .ref qsm, .ref qbc, .int cb, .int rw, .int ak, .int dn, .int ct, .int tn, .int md, .int wr]))] [] t9) A) (by decide) rfl (Nat.le_of_ble_eq_true rfl) ?_
  intro p e s m below meth c A H locs ls hx hb hr hml hts hown hlocks hsz hP hK hD hE hA hS hl
  have hl : lv_has ls 2 [(0, .ref qh), (1, .int x)] := hl
  have hown : s.vm.findClass RX2 = some m.cls := hown
  refine lv_iload_n hx hb dX2_copyOf_0 rfl (lv_at hl 1 rfl) ?_
  refine lv_if_ne (tgt := 11) hx hb dX2_copyOf_1 (by decide) (fun c_1 => ?_) (fun c_1 => ?_)
  · skip
    refine lv_aload_n hx hb dX2_copyOf_11 rfl (lv_at hl 0 rfl) ?_
    refine va_get (D := (dC, dI)) (ci := 2) (v := .ref qs1) (C := RX2) (T := TX2) (N := 13) hx hb hts (by decide +kernel) hown hK hP 0 rfl rfl 2 (by decide) (hts (.fieldLink RX2 31 "HouseLog" "copy1" "LHouseLog$Sectors;") (by decide +kernel)) (fun _ h9 => h9) rfl dX2_copyOf_12 ?_
    exact hr_r (v := qs1) hx hb hr hlocks (w1 := [(qh, .inr (2, [.int (nI n), .ref qs0, .ref qs1, .ref qsm, .ref qbc, .int cb, .int rw, .int ak, .int dn, .int ct, .int tn, .int md, .int wr]))]) hP hD hK hS [0] [] rfl rfl rfl (by rw [if_neg c_1]) (rfl) dX2_copyOf_15
  · skip
    refine lv_aload_n hx hb dX2_copyOf_4 rfl (lv_at hl 0 rfl) ?_
    refine va_get (D := (dC, dI)) (ci := 2) (v := .ref qs0) (C := RX2) (T := TX2) (N := 13) hx hb hts (by decide +kernel) hown hK hP 0 rfl rfl 1 (by decide) (hts (.fieldLink RX2 27 "HouseLog" "copy0" "LHouseLog$Sectors;") (by decide +kernel)) (fun _ h9 => h9) rfl dX2_copyOf_5 ?_
    refine lv_goto (tgt := 15) hx hb dX2_copyOf_8 (by decide) ?_
    exact hr_r (v := qs0) hx hb hr hlocks (w1 := [(qh, .inr (2, [.int (nI n), .ref qs0, .ref qs1, .ref qsm, .ref qbc, .int cb, .int rw, .int ak, .int dn, .int ct, .int tn, .int md, .int wr]))]) hP hD hK hS [0] [] rfl rfl rfl (by rw [if_pos c_1]) (rfl) dX2_copyOf_15

def rmI (n : Nat) (rw : Int32) (x : Int32) : Int32 := (if x = 0 then if 0 < (((nI n) - 2) - rw) then ((nI n) - 2) - rw else 0 else if 0 < ((nI n) - rw) then (nI n) - rw else 0)
set_option maxHeartbeats 4000000 in
set_option maxRecDepth 100000 in
theorem kX2_roomFor (l : Launch) (dC : Nat → ClassId) (dI : Nat → Nat → Nat) (sz : Nat) (qh qs0 qs1 qsm qbc : Nat) (n : Nat) (cb rw ak dn ct tn md wr : Int32) (x : Int32)  : Mi_ l yX2_roomFor wsX2_roomFor 1 13 dC dI (fun _ => True) [.ref qh, .int x] [(qh, .inr (2, [.int (nI n), .ref qs0, .ref qs1, .ref qsm, .ref qbc, .int cb, .int rw, .int ak, .int dn, .int ct, .int tn, .int md, .int wr]))] [] sz (rmI n rw x) [(qh, .inr (2, [.int (nI n), .ref qs0, .ref qs1, .ref qsm, .ref qbc, .int cb, .int rw, .int ak, .int dn, .int ct, .int tn, .int md, .int wr]))] := by
  refine hm_ (cc := cX2_roomFor) (maxL := 3) (ret := (some .int)) (Qc := fun A => va_Qi (fun (r9 : Int32) (_ : Unit) => r9 = rmI n rw x) (fun _ t9 => qw_ dC dI A [(qh, .inr (2, [.int (nI n), .ref qs0, .ref qs1, .ref qsm, .ref qbc, .int cb, .int rw, .int ak, .int dn, .int ct, .int tn, .int md, .int wr]))] [] t9) A) (by decide) rfl (Nat.le_of_ble_eq_true rfl) ?_
  intro p e s m below meth c A H locs ls hx hb hr hml hts hown hlocks hsz hP hK hD hE hA hS hl
  have hl : lv_has ls 3 [(0, .ref qh), (1, .int x)] := hl
  have hown : s.vm.findClass RX2 = some m.cls := hown
  refine lv_iload_n hx hb dX2_roomFor_0 rfl (lv_at hl 1 rfl) ?_
  refine lv_if_eq (tgt := 11) hx hb dX2_roomFor_1 (by decide) (fun c_1 => ?_) (fun c_1 => ?_)
  · skip
    refine lv_aload_n hx hb dX2_roomFor_11 rfl (lv_at hl 0 rfl) ?_
    refine va_get (D := (dC, dI)) (ci := 2) (v := .int (nI n)) (C := RX2) (T := TX2) (N := 13) hx hb hts (by decide +kernel) hown hK hP 0 rfl rfl 0 (by decide) (hts (.fieldLink RX2 18 "HouseLog" "sectors" "I") (by decide +kernel)) (fun _ h9 => h9) rfl dX2_roomFor_12 ?_
    refine lv_iconst (v := 2) hx hb dX2_roomFor_15 (by decide) ?_
    refine lv_isub hx hb dX2_roomFor_16 ?_
    refine lv_istore_n (lv' := [(2, .int ((nI n) - 2)), (0, .ref qh), (1, .int x)]) hx hb dX2_roomFor_17 rfl hl (by decide) rfl (fun ls hl => ?_)
    refine lv_iconst (v := 0) hx hb dX2_roomFor_18 (by decide) ?_
    refine lv_iload_n hx hb dX2_roomFor_19 rfl (lv_at hl 0 rfl) ?_
    refine lv_aload_n hx hb dX2_roomFor_20 rfl (lv_at hl 1 rfl) ?_
    refine va_get (D := (dC, dI)) (ci := 2) (v := .int rw) (C := RX2) (T := TX2) (N := 13) hx hb hts (by decide +kernel) hown hK hP 0 rfl rfl 6 (by decide) (hts (.fieldLink RX2 76 "HouseLog" "rows" "I") (by decide +kernel)) (fun _ h9 => h9) rfl dX2_roomFor_21 ?_
    refine lv_isub hx hb dX2_roomFor_24 ?_
    refine va_mmax hx hb (by rw [hml]; exact hl.1.symm) hown (hts (.methodLink RX2 15 Lib.Math.max.name) (by decide +kernel)) (hts (.static Lib.Math.max.name) (by decide +kernel)) (hts (.initialized "java/lang/Math") (by decide +kernel)) (hts (.code Lib.Math.max.name Lib.Math.max.code 2 (some .int)) (by decide +kernel)) (Nat.le_of_ble_eq_true rfl) (Nat.le_of_ble_eq_true rfl) (Nat.zero_le _) (Nat.zero_le _) dX2_roomFor_25 ?_
    exact hr_i (v := if 0 < (((nI n) - 2) - rw) then ((nI n) - 2) - rw else 0) hx hb hr hlocks (w1 := [(qh, .inr (2, [.int (nI n), .ref qs0, .ref qs1, .ref qsm, .ref qbc, .int cb, .int rw, .int ak, .int dn, .int ct, .int tn, .int md, .int wr]))]) hP hD hK hS [0] [] rfl rfl rfl (by unfold rmI; rw [if_pos c_1]) (rfl) dX2_roomFor_28
  · skip
    refine lv_aload_n hx hb dX2_roomFor_4 rfl (lv_at hl 0 rfl) ?_
    refine va_get (D := (dC, dI)) (ci := 2) (v := .int (nI n)) (C := RX2) (T := TX2) (N := 13) hx hb hts (by decide +kernel) hown hK hP 0 rfl rfl 0 (by decide) (hts (.fieldLink RX2 18 "HouseLog" "sectors" "I") (by decide +kernel)) (fun _ h9 => h9) rfl dX2_roomFor_5 ?_
    refine lv_goto (tgt := 17) hx hb dX2_roomFor_8 (by decide) ?_
    refine lv_istore_n (lv' := [(2, .int (nI n)), (0, .ref qh), (1, .int x)]) hx hb dX2_roomFor_17 rfl hl (by decide) rfl (fun ls hl => ?_)
    refine lv_iconst (v := 0) hx hb dX2_roomFor_18 (by decide) ?_
    refine lv_iload_n hx hb dX2_roomFor_19 rfl (lv_at hl 0 rfl) ?_
    refine lv_aload_n hx hb dX2_roomFor_20 rfl (lv_at hl 1 rfl) ?_
    refine va_get (D := (dC, dI)) (ci := 2) (v := .int rw) (C := RX2) (T := TX2) (N := 13) hx hb hts (by decide +kernel) hown hK hP 0 rfl rfl 6 (by decide) (hts (.fieldLink RX2 76 "HouseLog" "rows" "I") (by decide +kernel)) (fun _ h9 => h9) rfl dX2_roomFor_21 ?_
    refine lv_isub hx hb dX2_roomFor_24 ?_
    refine va_mmax hx hb (by rw [hml]; exact hl.1.symm) hown (hts (.methodLink RX2 15 Lib.Math.max.name) (by decide +kernel)) (hts (.static Lib.Math.max.name) (by decide +kernel)) (hts (.initialized "java/lang/Math") (by decide +kernel)) (hts (.code Lib.Math.max.name Lib.Math.max.code 2 (some .int)) (by decide +kernel)) (Nat.le_of_ble_eq_true rfl) (Nat.le_of_ble_eq_true rfl) (Nat.zero_le _) (Nat.zero_le _) dX2_roomFor_25 ?_
    exact hr_i (v := if 0 < ((nI n) - rw) then (nI n) - rw else 0) hx hb hr hlocks (w1 := [(qh, .inr (2, [.int (nI n), .ref qs0, .ref qs1, .ref qsm, .ref qbc, .int cb, .int rw, .int ak, .int dn, .int ct, .int tn, .int md, .int wr]))]) hP hD hK hS [0] [] rfl rfl rfl (by unfold rmI; rw [if_neg c_1]) (rfl) dX2_roomFor_28

set_option maxHeartbeats 4000000 in
set_option maxRecDepth 100000 in
theorem kX2_goDown (l : Launch) (dC : Nat → ClassId) (dI : Nat → Nat → Nat) (sz : Nat) (qh qs0 qs1 qsm qbc : Nat) (n : Nat) (cb rw ak dn ct tn md wr : Int32)  : Mv_ l yX2_goDown wsX2_goDown 0 0 dC dI (fun _ => True) [.ref qh] [(qh, .inr (2, [.int (nI n), .ref qs0, .ref qs1, .ref qsm, .ref qbc, .int cb, .int rw, .int ak, .int dn, .int ct, .int tn, .int md, .int wr]))] [] sz [(qh, .inr (2, [.int (nI n), .ref qs0, .ref qs1, .ref qsm, .ref qbc, .int 0, .int ak, .int ak, .int 1, .int (-1), .int tn, .int md, .int wr]))] := by
  refine hm_ (cc := cX2_goDown) (maxL := 1) (ret := none) (Qc := fun A => va_Qv (fun (_ : Unit) => True) (fun _ t9 => qw_ dC dI A [(qh, .inr (2, [.int (nI n), .ref qs0, .ref qs1, .ref qsm, .ref qbc, .int 0, .int ak, .int ak, .int 1, .int (-1), .int tn, .int md, .int wr]))] [] t9) A) (by decide) rfl (Nat.le_of_ble_eq_true rfl) ?_
  intro p e s m below meth c A H locs ls hx hb hr hml hts hown hlocks hsz hP hK hD hE hA hS hl
  have hl : lv_has ls 1 [(0, .ref qh)] := hl
  have hown : s.vm.findClass RX2 = some m.cls := hown
  refine lv_aload_n hx hb dX2_goDown_0 rfl (lv_at hl 0 rfl) ?_
  refine lv_iconst (v := 1) hx hb dX2_goDown_1 (by decide) ?_
  refine va_put (D := (dC, dI)) (ci := 2) (v := .int 1) (ty := .boolean) (C := RX2) (T := TX2) (N := 13) hx hb hts (by decide +kernel) tyX2 tyX2_ok nmX2 hown hK hP hD hS 0 rfl rfl 8 (by decide) (hts (.fieldLink RX2 47 "HouseLog" "down" "Z") (by decide +kernel)) (fun _ h9 => h9) rfl (by decide +kernel) (by decide) (by decide) (Nat.le_of_ble_eq_true rfl) dX2_goDown_2 (fun H locs hP hD hS => ?_)
  have hP : va_P (dC, dI) hlCl [(qh, .inr (2, [.int (nI n), .ref qs0, .ref qs1, .ref qsm, .ref qbc, .int cb, .int rw, .int ak, .int 1, .int ct, .int tn, .int md, .int wr]))] H := hP
  have hD : va_D A [(qh, .inr (2, [.int (nI n), .ref qs0, .ref qs1, .ref qsm, .ref qbc, .int cb, .int rw, .int ak, .int 1, .int ct, .int tn, .int md, .int wr]))] := hD
  refine lv_aload_n hx hb dX2_goDown_5 rfl (lv_at hl 0 rfl) ?_
  refine lv_iconst (v := (-1)) hx hb dX2_goDown_6 (by decide) ?_
  refine va_put (D := (dC, dI)) (ci := 2) (v := .int (-1)) (ty := .int) (C := RX2) (T := TX2) (N := 13) hx hb hts (by decide +kernel) tyX2 tyX2_ok nmX2 hown hK hP hD hS 0 rfl rfl 9 (by decide) (hts (.fieldLink RX2 44 "HouseLog" "writesUntilCut" "I") (by decide +kernel)) (fun _ h9 => h9) rfl (by decide +kernel) rfl rfl (Nat.le_of_ble_eq_true rfl) dX2_goDown_7 (fun H locs hP hD hS => ?_)
  have hP : va_P (dC, dI) hlCl [(qh, .inr (2, [.int (nI n), .ref qs0, .ref qs1, .ref qsm, .ref qbc, .int cb, .int rw, .int ak, .int 1, .int (-1), .int tn, .int md, .int wr]))] H := hP
  have hD : va_D A [(qh, .inr (2, [.int (nI n), .ref qs0, .ref qs1, .ref qsm, .ref qbc, .int cb, .int rw, .int ak, .int 1, .int (-1), .int tn, .int md, .int wr]))] := hD
  refine lv_aload_n hx hb dX2_goDown_10 rfl (lv_at hl 0 rfl) ?_
  refine lv_aload_n hx hb dX2_goDown_11 rfl (lv_at hl 0 rfl) ?_
  refine va_get (D := (dC, dI)) (ci := 2) (v := .int ak) (C := RX2) (T := TX2) (N := 13) hx hb hts (by decide +kernel) hown hK hP 0 rfl rfl 7 (by decide) (hts (.fieldLink RX2 83 "HouseLog" "acknowledged" "I") (by decide +kernel)) (fun _ h9 => h9) rfl dX2_goDown_12 ?_
  refine va_put (D := (dC, dI)) (ci := 2) (v := .int ak) (ty := .int) (C := RX2) (T := TX2) (N := 13) hx hb hts (by decide +kernel) tyX2 tyX2_ok nmX2 hown hK hP hD hS 0 rfl rfl 6 (by decide) (hts (.fieldLink RX2 76 "HouseLog" "rows" "I") (by decide +kernel)) (fun _ h9 => h9) rfl (by decide +kernel) rfl rfl (Nat.le_of_ble_eq_true rfl) dX2_goDown_15 (fun H locs hP hD hS => ?_)
  have hP : va_P (dC, dI) hlCl [(qh, .inr (2, [.int (nI n), .ref qs0, .ref qs1, .ref qsm, .ref qbc, .int cb, .int ak, .int ak, .int 1, .int (-1), .int tn, .int md, .int wr]))] H := hP
  have hD : va_D A [(qh, .inr (2, [.int (nI n), .ref qs0, .ref qs1, .ref qsm, .ref qbc, .int cb, .int ak, .int ak, .int 1, .int (-1), .int tn, .int md, .int wr]))] := hD
  refine lv_aload_n hx hb dX2_goDown_18 rfl (lv_at hl 0 rfl) ?_
  refine lv_iconst (v := 0) hx hb dX2_goDown_19 (by decide) ?_
  refine va_put (D := (dC, dI)) (ci := 2) (v := .int 0) (ty := .int) (C := RX2) (T := TX2) (N := 13) hx hb hts (by decide +kernel) tyX2 tyX2_ok nmX2 hown hK hP hD hS 0 rfl rfl 5 (by decide) (hts (.fieldLink RX2 51 "HouseLog" "collectedBytes" "I") (by decide +kernel)) (fun _ h9 => h9) rfl (by decide +kernel) rfl rfl (Nat.le_of_ble_eq_true rfl) dX2_goDown_20 (fun H locs hP hD hS => ?_)
  have hP : va_P (dC, dI) hlCl [(qh, .inr (2, [.int (nI n), .ref qs0, .ref qs1, .ref qsm, .ref qbc, .int 0, .int ak, .int ak, .int 1, .int (-1), .int tn, .int md, .int wr]))] H := hP
  have hD : va_D A [(qh, .inr (2, [.int (nI n), .ref qs0, .ref qs1, .ref qsm, .ref qbc, .int 0, .int ak, .int ak, .int 1, .int (-1), .int tn, .int md, .int wr]))] := hD
  exact hr_v hx hb hr hlocks (w1 := [(qh, .inr (2, [.int (nI n), .ref qs0, .ref qs1, .ref qsm, .ref qbc, .int 0, .int ak, .int ak, .int 1, .int (-1), .int tn, .int md, .int wr]))]) hP hD hK hS [0] [] rfl rfl rfl (rfl) dX2_goDown_23

def adOK (dn cb : Int32) : Prop := dn = 0 ∧ cb < 40
def adC (co : Nat → Int32) (dn cb b : Int32) : Nat → Int32 := if dn = 0 then (if cb < 40 then sB co 40 cb b else co) else co
def adN (dn cb : Int32) : Int32 := if dn = 0 then (if cb < 40 then cb + 1 else cb) else cb

def adI (cb dn : Int32) : Int32 := (if dn = 0 then (if cb < 40 then 1 else 0) else 0)
set_option maxHeartbeats 4000000 in
set_option maxRecDepth 100000 in
theorem kX2_add (l : Launch) (dC : Nat → ClassId) (dI : Nat → Nat → Nat) (sz : Nat) (qh qs0 qs1 qsm qbc qac : Nat) (cBc : ClassId) (n : Nat) (co : Nat → Int32) (cb rw ak dn ct tn md wr : Int32) (b : Int32)  : Mi_ l yX2_add wsX2_add 1 22 dC dI (fun _ => True) [.ref qh, .int b] [(qh, .inr (2, [.int (nI n), .ref qs0, .ref qs1, .ref qsm, .ref qbc, .int cb, .int rw, .int ak, .int dn, .int ct, .int tn, .int md, .int wr])), (qbc, .inr (0, [.ref qac])), (qac, .inl (cBc, 40, .inl co))] [(cBc, .byte)] sz (adI cb dn) [(qh, .inr (2, [.int (nI n), .ref qs0, .ref qs1, .ref qsm, .ref qbc, .int (adN dn cb), .int rw, .int ak, .int dn, .int ct, .int tn, .int md, .int wr])), (qbc, .inr (0, [.ref qac])), (qac, .inl (cBc, 40, .inl (adC co dn cb b)))] := by
  refine hm_ (cc := cX2_add) (maxL := 2) (ret := (some .boolean)) (Qc := fun A => va_Qi (fun (r9 : Int32) (_ : Unit) => r9 = adI cb dn) (fun _ t9 => qw_ dC dI A [(qh, .inr (2, [.int (nI n), .ref qs0, .ref qs1, .ref qsm, .ref qbc, .int (adN dn cb), .int rw, .int ak, .int dn, .int ct, .int tn, .int md, .int wr])), (qbc, .inr (0, [.ref qac])), (qac, .inl (cBc, 40, .inl (adC co dn cb b)))] [(cBc, .byte)] t9) A) (by decide) rfl (Nat.le_of_ble_eq_true rfl) ?_
  intro p e s m below meth c A H locs ls hx hb hr hml hts hown hlocks hsz hP hK hD hE hA hS hl
  have hl : lv_has ls 2 [(0, .ref qh), (1, .int b)] := hl
  have hown : s.vm.findClass RX2 = some m.cls := hown
  refine lv_aload_n hx hb dX2_add_0 rfl (lv_at hl 0 rfl) ?_
  refine va_get (D := (dC, dI)) (ci := 2) (v := .int dn) (C := RX2) (T := TX2) (N := 13) hx hb hts (by decide +kernel) hown hK hP 0 rfl rfl 8 (by decide) (hts (.fieldLink RX2 47 "HouseLog" "down" "Z") (by decide +kernel)) (fun _ h9 => h9) rfl dX2_add_1 ?_
  refine lv_if_ne (tgt := 16) hx hb dX2_add_4 (by decide) (fun c_4 => ?_) (fun c_4 => ?_)
  · skip
    refine lv_iconst (v := 0) hx hb dX2_add_16 (by decide) ?_
    exact hr_z (v := 0) hx hb hr hlocks (by decide) (w1 := [(qh, .inr (2, [.int (nI n), .ref qs0, .ref qs1, .ref qsm, .ref qbc, .int cb, .int rw, .int ak, .int dn, .int ct, .int tn, .int md, .int wr])), (qbc, .inr (0, [.ref qac])), (qac, .inl (cBc, 40, .inl co))]) hP hD hK hS [0, 1, 2] [0] rfl rfl rfl (by unfold adI; rw [if_neg c_4]) (by simp only [adN, adC, if_neg c_4]) dX2_add_17
  · skip
    refine lv_aload_n hx hb dX2_add_7 rfl (lv_at hl 0 rfl) ?_
    refine va_get (D := (dC, dI)) (ci := 2) (v := .int cb) (C := RX2) (T := TX2) (N := 13) hx hb hts (by decide +kernel) hown hK hP 0 rfl rfl 5 (by decide) (hts (.fieldLink RX2 51 "HouseLog" "collectedBytes" "I") (by decide +kernel)) (fun _ h9 => h9) rfl dX2_add_8 ?_
    refine lv_bipush (v := 40) hx hb dX2_add_11 (by decide) ?_
    refine lv_icmp_lt (tgt := 18) hx hb dX2_add_13 (by decide) (fun c_13 => ?_) (fun c_13 => ?_)
    · skip
      refine lv_aload_n hx hb dX2_add_18 rfl (lv_at hl 0 rfl) ?_
      refine va_get (D := (dC, dI)) (ci := 2) (v := .ref qbc) (C := RX2) (T := TX2) (N := 13) hx hb hts (by decide +kernel) hown hK hP 0 rfl rfl 4 (by decide) (hts (.fieldLink RX2 40 "HouseLog" "collected" "LHouseLog$Bytes;") (by decide +kernel)) (fun _ h9 => h9) rfl dX2_add_19 ?_
      refine lv_aload_n hx hb dX2_add_22 rfl (lv_at hl 0 rfl) ?_
      refine va_get (D := (dC, dI)) (ci := 2) (v := .int cb) (C := RX2) (T := TX2) (N := 13) hx hb hts (by decide +kernel) hown hK hP 0 rfl rfl 5 (by decide) (hts (.fieldLink RX2 51 "HouseLog" "collectedBytes" "I") (by decide +kernel)) (fun _ h9 => h9) rfl dX2_add_23 ?_
      refine lv_iload_n hx hb dX2_add_26 rfl (lv_at hl 1 rfl) ?_
      refine hc_vV (As := [.int cb, .int b]) (rest := []) (wr := [(qh, .inr (2, [.int (nI n), .ref qs0, .ref qs1, .ref qsm, .ref qbc, .int cb, .int rw, .int ak, .int dn, .int ct, .int tn, .int md, .int wr]))]) ⟨hx, hb, hml, hown, hts⟩ sx_T trivial (kX0_set l dC dI H.size qbc qac cBc co 40 cb b (by decide)) (cwV 2 hts gX2_add_X0_set rfl rfl rfl (by decide +kernel) ⟨Nat.le_of_ble_eq_true rfl, Nat.le_of_ble_eq_true rfl⟩) hK hP hD hS hA [1, 2] [0] [0] rfl rfl rfl rfl rfl (by decide) (ci := 0) rfl rfl rfl rfl hl.1 rfl (Nat.le_of_ble_eq_true rfl) dX2_add_27 ⟨Nat.zero_le _, Nat.zero_le _⟩ (fun H locs hP hD hS => ?_)
      have hP : va_P (dC, dI) hlCl [(qh, .inr (2, [.int (nI n), .ref qs0, .ref qs1, .ref qsm, .ref qbc, .int cb, .int rw, .int ak, .int dn, .int ct, .int tn, .int md, .int wr])), (qbc, .inr (0, [.ref qac])), (qac, .inl (cBc, 40, .inl (sB co 40 cb b)))] H := hP
      have hD : va_D A [(qh, .inr (2, [.int (nI n), .ref qs0, .ref qs1, .ref qsm, .ref qbc, .int cb, .int rw, .int ak, .int dn, .int ct, .int tn, .int md, .int wr])), (qbc, .inr (0, [.ref qac])), (qac, .inl (cBc, 40, .inl (sB co 40 cb b)))] := hD
      refine lv_aload_n hx hb dX2_add_30 rfl (lv_at hl 0 rfl) ?_
      refine lv_dup hx hb dX2_add_31 rfl ?_
      refine va_get (D := (dC, dI)) (ci := 2) (v := .int cb) (C := RX2) (T := TX2) (N := 13) hx hb hts (by decide +kernel) hown hK hP 0 rfl rfl 5 (by decide) (hts (.fieldLink RX2 51 "HouseLog" "collectedBytes" "I") (by decide +kernel)) (fun _ h9 => h9) rfl dX2_add_32 ?_
      refine lv_iconst (v := 1) hx hb dX2_add_35 (by decide) ?_
      refine lv_iadd hx hb dX2_add_36 ?_
      refine va_put (D := (dC, dI)) (ci := 2) (v := .int (cb + 1)) (ty := .int) (C := RX2) (T := TX2) (N := 13) hx hb hts (by decide +kernel) tyX2 tyX2_ok nmX2 hown hK hP hD hS 0 rfl rfl 5 (by decide) (hts (.fieldLink RX2 51 "HouseLog" "collectedBytes" "I") (by decide +kernel)) (fun _ h9 => h9) rfl (by decide +kernel) rfl rfl (Nat.le_of_ble_eq_true rfl) dX2_add_37 (fun H locs hP hD hS => ?_)
      have hP : va_P (dC, dI) hlCl [(qh, .inr (2, [.int (nI n), .ref qs0, .ref qs1, .ref qsm, .ref qbc, .int (cb + 1), .int rw, .int ak, .int dn, .int ct, .int tn, .int md, .int wr])), (qbc, .inr (0, [.ref qac])), (qac, .inl (cBc, 40, .inl (sB co 40 cb b)))] H := hP
      have hD : va_D A [(qh, .inr (2, [.int (nI n), .ref qs0, .ref qs1, .ref qsm, .ref qbc, .int (cb + 1), .int rw, .int ak, .int dn, .int ct, .int tn, .int md, .int wr])), (qbc, .inr (0, [.ref qac])), (qac, .inl (cBc, 40, .inl (sB co 40 cb b)))] := hD
      refine lv_iconst (v := 1) hx hb dX2_add_40 (by decide) ?_
      exact hr_z (v := 1) hx hb hr hlocks (by decide) (w1 := [(qh, .inr (2, [.int (nI n), .ref qs0, .ref qs1, .ref qsm, .ref qbc, .int (cb + 1), .int rw, .int ak, .int dn, .int ct, .int tn, .int md, .int wr])), (qbc, .inr (0, [.ref qac])), (qac, .inl (cBc, 40, .inl (sB co 40 cb b)))]) hP hD hK hS [0, 1, 2] [0] rfl rfl rfl (by unfold adI; rw [if_pos c_4, if_pos c_13]) (by simp only [adN, adC, if_pos c_4, if_pos c_13]) dX2_add_41
    · skip
      refine lv_iconst (v := 0) hx hb dX2_add_16 (by decide) ?_
      exact hr_z (v := 0) hx hb hr hlocks (by decide) (w1 := [(qh, .inr (2, [.int (nI n), .ref qs0, .ref qs1, .ref qsm, .ref qbc, .int cb, .int rw, .int ak, .int dn, .int ct, .int tn, .int md, .int wr])), (qbc, .inr (0, [.ref qac])), (qac, .inl (cBc, 40, .inl co))]) hP hD hK hS [0, 1, 2] [0] rfl rfl rfl (by unfold adI; rw [if_pos c_4, if_neg c_13]) (by simp only [adN, adC, if_pos c_4, if_neg c_13]) dX2_add_17

def cuK (dn keep tear ct : Int32) : Int32 := if dn = 0 then (if keep < -1 then ct else if tear < 0 then ct else if tear < 64 then keep else ct) else ct
def cuT (dn keep tear tn : Int32) : Int32 := if dn = 0 then (if keep < -1 then tn else if tear < 0 then tn else if tear < 64 then tear else tn) else tn

def cuI (dn : Int32) (keep tear : Int32) : Int32 := (if dn = 0 then (if keep < (-1) then 0 else (if tear < 0 then 0 else (if tear < 64 then 1 else 0))) else 0)
set_option maxHeartbeats 4000000 in
set_option maxRecDepth 100000 in
theorem kX2_cut (l : Launch) (dC : Nat → ClassId) (dI : Nat → Nat → Nat) (sz : Nat) (qh qs0 qs1 qsm qbc : Nat) (n : Nat) (cb rw ak dn ct tn md wr : Int32) (keep tear : Int32)  : Mi_ l yX2_cut wsX2_cut 0 0 dC dI (fun _ => True) [.ref qh, .int keep, .int tear] [(qh, .inr (2, [.int (nI n), .ref qs0, .ref qs1, .ref qsm, .ref qbc, .int cb, .int rw, .int ak, .int dn, .int ct, .int tn, .int md, .int wr]))] [] sz (cuI dn keep tear) [(qh, .inr (2, [.int (nI n), .ref qs0, .ref qs1, .ref qsm, .ref qbc, .int cb, .int rw, .int ak, .int dn, .int (cuK dn keep tear ct), .int (cuT dn keep tear tn), .int md, .int wr]))] := by
  refine hm_ (cc := cX2_cut) (maxL := 3) (ret := (some .boolean)) (Qc := fun A => va_Qi (fun (r9 : Int32) (_ : Unit) => r9 = cuI dn keep tear) (fun _ t9 => qw_ dC dI A [(qh, .inr (2, [.int (nI n), .ref qs0, .ref qs1, .ref qsm, .ref qbc, .int cb, .int rw, .int ak, .int dn, .int (cuK dn keep tear ct), .int (cuT dn keep tear tn), .int md, .int wr]))] [] t9) A) (by decide) rfl (Nat.le_of_ble_eq_true rfl) ?_
  intro p e s m below meth c A H locs ls hx hb hr hml hts hown hlocks hsz hP hK hD hE hA hS hl
  have hl : lv_has ls 3 [(0, .ref qh), (1, .int keep), (2, .int tear)] := hl
  have hown : s.vm.findClass RX2 = some m.cls := hown
  refine lv_aload_n hx hb dX2_cut_0 rfl (lv_at hl 0 rfl) ?_
  refine va_get (D := (dC, dI)) (ci := 2) (v := .int dn) (C := RX2) (T := TX2) (N := 13) hx hb hts (by decide +kernel) hown hK hP 0 rfl rfl 8 (by decide) (hts (.fieldLink RX2 47 "HouseLog" "down" "Z") (by decide +kernel)) (fun _ h9 => h9) rfl dX2_cut_1 ?_
  refine lv_if_ne (tgt := 22) hx hb dX2_cut_4 (by decide) (fun c_4 => ?_) (fun c_4 => ?_)
  · skip
    refine lv_iconst (v := 0) hx hb dX2_cut_22 (by decide) ?_
    exact hr_z (v := 0) hx hb hr hlocks (by decide) (w1 := [(qh, .inr (2, [.int (nI n), .ref qs0, .ref qs1, .ref qsm, .ref qbc, .int cb, .int rw, .int ak, .int dn, .int ct, .int tn, .int md, .int wr]))]) hP hD hK hS [0] [] rfl rfl rfl (by unfold cuI; rw [if_neg c_4]) (by simp only [cuK, cuT, if_neg c_4]) dX2_cut_23
  · skip
    refine lv_iload_n hx hb dX2_cut_7 rfl (lv_at hl 1 rfl) ?_
    refine lv_iconst (v := (-1)) hx hb dX2_cut_8 (by decide) ?_
    refine lv_icmp_lt (tgt := 22) hx hb dX2_cut_9 (by decide) (fun c_9 => ?_) (fun c_9 => ?_)
    · skip
      refine lv_iconst (v := 0) hx hb dX2_cut_22 (by decide) ?_
      exact hr_z (v := 0) hx hb hr hlocks (by decide) (w1 := [(qh, .inr (2, [.int (nI n), .ref qs0, .ref qs1, .ref qsm, .ref qbc, .int cb, .int rw, .int ak, .int dn, .int ct, .int tn, .int md, .int wr]))]) hP hD hK hS [0] [] rfl rfl rfl (by unfold cuI; rw [if_pos c_4, if_pos c_9]) (by simp only [cuK, cuT, if_pos c_4, if_pos c_9]) dX2_cut_23
    · skip
      refine lv_iload_n hx hb dX2_cut_12 rfl (lv_at hl 2 rfl) ?_
      refine lv_if_lt (tgt := 22) hx hb dX2_cut_13 (by decide) (fun c_13 => ?_) (fun c_13 => ?_)
      · skip
        refine lv_iconst (v := 0) hx hb dX2_cut_22 (by decide) ?_
        exact hr_z (v := 0) hx hb hr hlocks (by decide) (w1 := [(qh, .inr (2, [.int (nI n), .ref qs0, .ref qs1, .ref qsm, .ref qbc, .int cb, .int rw, .int ak, .int dn, .int ct, .int tn, .int md, .int wr]))]) hP hD hK hS [0] [] rfl rfl rfl (by unfold cuI; rw [if_pos c_4, if_neg c_9, if_pos c_13]) (by simp only [cuK, cuT, if_pos c_4, if_neg c_9, if_pos c_13]) dX2_cut_23
      · skip
        refine lv_iload_n hx hb dX2_cut_16 rfl (lv_at hl 2 rfl) ?_
        refine lv_bipush (v := 64) hx hb dX2_cut_17 (by decide) ?_
        refine lv_icmp_lt (tgt := 24) hx hb dX2_cut_19 (by decide) (fun c_19 => ?_) (fun c_19 => ?_)
        · skip
          refine lv_aload_n hx hb dX2_cut_24 rfl (lv_at hl 0 rfl) ?_
          refine lv_iload_n hx hb dX2_cut_25 rfl (lv_at hl 1 rfl) ?_
          refine va_put (D := (dC, dI)) (ci := 2) (v := .int keep) (ty := .int) (C := RX2) (T := TX2) (N := 13) hx hb hts (by decide +kernel) tyX2 tyX2_ok nmX2 hown hK hP hD hS 0 rfl rfl 9 (by decide) (hts (.fieldLink RX2 44 "HouseLog" "writesUntilCut" "I") (by decide +kernel)) (fun _ h9 => h9) rfl (by decide +kernel) rfl rfl (Nat.le_of_ble_eq_true rfl) dX2_cut_26 (fun H locs hP hD hS => ?_)
          have hP : va_P (dC, dI) hlCl [(qh, .inr (2, [.int (nI n), .ref qs0, .ref qs1, .ref qsm, .ref qbc, .int cb, .int rw, .int ak, .int dn, .int keep, .int tn, .int md, .int wr]))] H := hP
          have hD : va_D A [(qh, .inr (2, [.int (nI n), .ref qs0, .ref qs1, .ref qsm, .ref qbc, .int cb, .int rw, .int ak, .int dn, .int keep, .int tn, .int md, .int wr]))] := hD
          refine lv_aload_n hx hb dX2_cut_29 rfl (lv_at hl 0 rfl) ?_
          refine lv_iload_n hx hb dX2_cut_30 rfl (lv_at hl 2 rfl) ?_
          refine va_put (D := (dC, dI)) (ci := 2) (v := .int tear) (ty := .int) (C := RX2) (T := TX2) (N := 13) hx hb hts (by decide +kernel) tyX2 tyX2_ok nmX2 hown hK hP hD hS 0 rfl rfl 10 (by decide) (hts (.fieldLink RX2 93 "HouseLog" "tornBytes" "I") (by decide +kernel)) (fun _ h9 => h9) rfl (by decide +kernel) rfl rfl (Nat.le_of_ble_eq_true rfl) dX2_cut_31 (fun H locs hP hD hS => ?_)
          have hP : va_P (dC, dI) hlCl [(qh, .inr (2, [.int (nI n), .ref qs0, .ref qs1, .ref qsm, .ref qbc, .int cb, .int rw, .int ak, .int dn, .int keep, .int tear, .int md, .int wr]))] H := hP
          have hD : va_D A [(qh, .inr (2, [.int (nI n), .ref qs0, .ref qs1, .ref qsm, .ref qbc, .int cb, .int rw, .int ak, .int dn, .int keep, .int tear, .int md, .int wr]))] := hD
          refine lv_iconst (v := 1) hx hb dX2_cut_34 (by decide) ?_
          exact hr_z (v := 1) hx hb hr hlocks (by decide) (w1 := [(qh, .inr (2, [.int (nI n), .ref qs0, .ref qs1, .ref qsm, .ref qbc, .int cb, .int rw, .int ak, .int dn, .int keep, .int tear, .int md, .int wr]))]) hP hD hK hS [0] [] rfl rfl rfl (by unfold cuI; rw [if_pos c_4, if_neg c_9, if_neg c_13, if_pos c_19]) (by simp only [cuK, cuT, if_pos c_4, if_neg c_9, if_neg c_13, if_pos c_19]) dX2_cut_35
        · skip
          refine lv_iconst (v := 0) hx hb dX2_cut_22 (by decide) ?_
          exact hr_z (v := 0) hx hb hr hlocks (by decide) (w1 := [(qh, .inr (2, [.int (nI n), .ref qs0, .ref qs1, .ref qsm, .ref qbc, .int cb, .int rw, .int ak, .int dn, .int ct, .int tn, .int md, .int wr]))]) hP hD hK hS [0] [] rfl rfl rfl (by unfold cuI; rw [if_pos c_4, if_neg c_9, if_neg c_13, if_neg c_19]) (by simp only [cuK, cuT, if_pos c_4, if_neg c_9, if_neg c_13, if_neg c_19]) dX2_cut_23

set_option maxHeartbeats 4000000 in
set_option maxRecDepth 100000 in
theorem kX2_mend (l : Launch) (dC : Nat → ClassId) (dI : Nat → Nat → Nat) (sz : Nat) (qh qs0 qs1 qsm qbc qs qb qa qs2 qb2 qa2 : Nat) (cB cB2 : ClassId) (n : Nat) (f : Nat → Int32) (N : Nat) (g : Nat → Int32) (cb rw ak dn ct tn md wr : Int32) (k : Nat) (hN : N < 2 ^ 31) (hk : k < 1000) : Mv_ l yX2_mend wsX2_mend 2 47 dC dI (fun _ => True) [.ref qh, .ref qs, .ref qs2, .int (nI k)] [(qh, .inr (2, [.int (nI n), .ref qs0, .ref qs1, .ref qsm, .ref qbc, .int cb, .int rw, .int ak, .int dn, .int ct, .int tn, .int md, .int wr])), (qs, .inr (1, [.ref qb])), (qb, .inr (0, [.ref qa])), (qa, .inl (cB, N, .inl f)), (qs2, .inr (1, [.ref qb2])), (qb2, .inr (0, [.ref qa2])), (qa2, .inl (cB2, N, .inl g))] [(cB, .byte), (cB2, .byte)] sz [(qh, .inr (2, [.int (nI n), .ref qs0, .ref qs1, .ref qsm, .ref qbc, .int cb, .int rw, .int ak, .int dn, .int ct, .int tn, .int (md + 1), .int wr])), (qs, .inr (1, [.ref qb])), (qb, .inr (0, [.ref qa])), (qa, .inl (cB, N, .inl (tkB f N g (k * 64) 64))), (qs2, .inr (1, [.ref qb2])), (qb2, .inr (0, [.ref qa2])), (qa2, .inl (cB2, N, .inl g))] := by
  refine hm_ (cc := cX2_mend) (maxL := 4) (ret := none) (Qc := fun A => va_Qv (fun (_ : Unit) => True) (fun _ t9 => qw_ dC dI A [(qh, .inr (2, [.int (nI n), .ref qs0, .ref qs1, .ref qsm, .ref qbc, .int cb, .int rw, .int ak, .int dn, .int ct, .int tn, .int (md + 1), .int wr])), (qs, .inr (1, [.ref qb])), (qb, .inr (0, [.ref qa])), (qa, .inl (cB, N, .inl (tkB f N g (k * 64) 64))), (qs2, .inr (1, [.ref qb2])), (qb2, .inr (0, [.ref qa2])), (qa2, .inl (cB2, N, .inl g))] [(cB, .byte), (cB2, .byte)] t9) A) (by decide) rfl (Nat.le_of_ble_eq_true rfl) ?_
  intro p e s m below meth c A H locs ls hx hb hr hml hts hown hlocks hsz hP hK hD hE hA hS hl
  have hl : lv_has ls 4 [(0, .ref qh), (1, .ref qs), (2, .ref qs2), (3, .int (nI k))] := hl
  have hown : s.vm.findClass RX2 = some m.cls := hown
  refine lv_aload_n hx hb dX2_mend_0 rfl (lv_at hl 1 rfl) ?_
  refine lv_aload_n hx hb dX2_mend_1 rfl (lv_at hl 2 rfl) ?_
  refine lv_iload_n hx hb dX2_mend_2 rfl (lv_at hl 3 rfl) ?_
  refine lv_bipush (v := 64) hx hb dX2_mend_3 (by decide) ?_
  refine hc_vV (As := [.ref qs2, .int (nI k), .int 64]) (rest := []) (wr := [(qh, .inr (2, [.int (nI n), .ref qs0, .ref qs1, .ref qsm, .ref qbc, .int cb, .int rw, .int ak, .int dn, .int ct, .int tn, .int md, .int wr]))]) ⟨hx, hb, hml, hown, hts⟩ sx_T trivial (kX1_take l dC dI H.size qs qb qa qs2 qb2 qa2 cB cB2 f N g k 64 (hN) (hk) (by decide)) (cwV 3 hts gX2_mend_X1_take rfl rfl rfl (by decide +kernel) ⟨Nat.le_of_ble_eq_true rfl, Nat.le_of_ble_eq_true rfl⟩) hK hP hD hS hA [1, 2, 3, 4, 5, 6] [0] [0, 1] rfl rfl rfl rfl rfl (by decide) (ci := 1) rfl rfl rfl rfl hl.1 rfl (Nat.le_of_ble_eq_true rfl) dX2_mend_5 ⟨Nat.zero_le _, Nat.zero_le _⟩ (fun H locs hP hD hS => ?_)
  have hP : va_P (dC, dI) hlCl [(qh, .inr (2, [.int (nI n), .ref qs0, .ref qs1, .ref qsm, .ref qbc, .int cb, .int rw, .int ak, .int dn, .int ct, .int tn, .int md, .int wr])), (qs, .inr (1, [.ref qb])), (qb, .inr (0, [.ref qa])), (qa, .inl (cB, N, .inl (tkB f N g (k * 64) 64))), (qs2, .inr (1, [.ref qb2])), (qb2, .inr (0, [.ref qa2])), (qa2, .inl (cB2, N, .inl g))] H := hP
  have hD : va_D A [(qh, .inr (2, [.int (nI n), .ref qs0, .ref qs1, .ref qsm, .ref qbc, .int cb, .int rw, .int ak, .int dn, .int ct, .int tn, .int md, .int wr])), (qs, .inr (1, [.ref qb])), (qb, .inr (0, [.ref qa])), (qa, .inl (cB, N, .inl (tkB f N g (k * 64) 64))), (qs2, .inr (1, [.ref qb2])), (qb2, .inr (0, [.ref qa2])), (qa2, .inl (cB2, N, .inl g))] := hD
  refine lv_aload_n hx hb dX2_mend_8 rfl (lv_at hl 0 rfl) ?_
  refine lv_dup hx hb dX2_mend_9 rfl ?_
  refine va_get (D := (dC, dI)) (ci := 2) (v := .int md) (C := RX2) (T := TX2) (N := 13) hx hb hts (by decide +kernel) hown hK hP 0 rfl rfl 11 (by decide) (hts (.fieldLink RX2 96 "HouseLog" "mended" "I") (by decide +kernel)) (fun _ h9 => h9) rfl dX2_mend_10 ?_
  refine lv_iconst (v := 1) hx hb dX2_mend_13 (by decide) ?_
  refine lv_iadd hx hb dX2_mend_14 ?_
  refine va_put (D := (dC, dI)) (ci := 2) (v := .int (md + 1)) (ty := .int) (C := RX2) (T := TX2) (N := 13) hx hb hts (by decide +kernel) tyX2 tyX2_ok nmX2 hown hK hP hD hS 0 rfl rfl 11 (by decide) (hts (.fieldLink RX2 96 "HouseLog" "mended" "I") (by decide +kernel)) (fun _ h9 => h9) rfl (by decide +kernel) rfl rfl (Nat.le_of_ble_eq_true rfl) dX2_mend_15 (fun H locs hP hD hS => ?_)
  have hP : va_P (dC, dI) hlCl [(qh, .inr (2, [.int (nI n), .ref qs0, .ref qs1, .ref qsm, .ref qbc, .int cb, .int rw, .int ak, .int dn, .int ct, .int tn, .int (md + 1), .int wr])), (qs, .inr (1, [.ref qb])), (qb, .inr (0, [.ref qa])), (qa, .inl (cB, N, .inl (tkB f N g (k * 64) 64))), (qs2, .inr (1, [.ref qb2])), (qb2, .inr (0, [.ref qa2])), (qa2, .inl (cB2, N, .inl g))] H := hP
  have hD : va_D A [(qh, .inr (2, [.int (nI n), .ref qs0, .ref qs1, .ref qsm, .ref qbc, .int cb, .int rw, .int ak, .int dn, .int ct, .int tn, .int (md + 1), .int wr])), (qs, .inr (1, [.ref qb])), (qb, .inr (0, [.ref qa])), (qa, .inl (cB, N, .inl (tkB f N g (k * 64) 64))), (qs2, .inr (1, [.ref qb2])), (qb2, .inr (0, [.ref qa2])), (qa2, .inl (cB2, N, .inl g))] := hD
  exact hr_v hx hb hr hlocks (w1 := [(qh, .inr (2, [.int (nI n), .ref qs0, .ref qs1, .ref qsm, .ref qbc, .int cb, .int rw, .int ak, .int dn, .int ct, .int tn, .int (md + 1), .int wr])), (qs, .inr (1, [.ref qb])), (qb, .inr (0, [.ref qa])), (qa, .inl (cB, N, .inl (tkB f N g (k * 64) 64))), (qs2, .inr (1, [.ref qb2])), (qb2, .inr (0, [.ref qa2])), (qa2, .inl (cB2, N, .inl g))]) hP hD hK hS [0, 1, 2, 3, 4, 5, 6] [0, 1] rfl rfl rfl (rfl) dX2_mend_18

def wtN (ct : Int32) (tt : Nat) : Nat := if ct = 0 then tt else 64
def wcI (ct : Int32) : Int32 := if ct = 0 then ct else if ct ≤ 0 then ct else ct - 1

def wwI (ct : Int32) : Int32 := (if ct = 0 then 0 else (if ct ≤ 0 then 1 else 1))
set_option maxHeartbeats 4000000 in
set_option maxRecDepth 100000 in
theorem kX2_writeWhole (l : Launch) (dC : Nat → ClassId) (dI : Nat → Nat → Nat) (sz : Nat) (qh qs0 qs1 qsm qbc qs qb qa qbm qam : Nat) (cB cBm : ClassId) (n : Nat) (f mm : Nat → Int32) (N : Nat) (cb rw ak dn ct : Int32) (tt : Nat) (md wr : Int32) (k : Nat) (hN : N < 2 ^ 31) (hk : k < 1000) (htt : tt ≤ 63) : Mi_ l yX2_writeWhole wsX2_writeWhole 2 47 dC dI (fun _ => True) [.ref qh, .ref qs, .int (nI k)] [(qh, .inr (2, [.int (nI n), .ref qs0, .ref qs1, .ref qsm, .ref qbc, .int cb, .int rw, .int ak, .int dn, .int ct, .int (nI tt), .int md, .int wr])), (qs, .inr (1, [.ref qb])), (qb, .inr (0, [.ref qa])), (qa, .inl (cB, N, .inl f)), (qsm, .inr (1, [.ref qbm])), (qbm, .inr (0, [.ref qam])), (qam, .inl (cBm, N, .inl mm))] [(cB, .byte), (cBm, .byte)] sz (wwI ct) [(qh, .inr (2, [.int (nI n), .ref qs0, .ref qs1, .ref qsm, .ref qbc, .int cb, .int rw, .int ak, .int dn, .int (wcI ct), .int (nI tt), .int md, .int (wr + 1)])), (qs, .inr (1, [.ref qb])), (qb, .inr (0, [.ref qa])), (qa, .inl (cB, N, .inl (tkB f N mm (k * 64) (wtN ct tt)))), (qsm, .inr (1, [.ref qbm])), (qbm, .inr (0, [.ref qam])), (qam, .inl (cBm, N, .inl mm))] := by
  refine hm_ (cc := cX2_writeWhole) (maxL := 3) (ret := (some .boolean)) (Qc := fun A => va_Qi (fun (r9 : Int32) (_ : Unit) => r9 = wwI ct) (fun _ t9 => qw_ dC dI A [(qh, .inr (2, [.int (nI n), .ref qs0, .ref qs1, .ref qsm, .ref qbc, .int cb, .int rw, .int ak, .int dn, .int (wcI ct), .int (nI tt), .int md, .int (wr + 1)])), (qs, .inr (1, [.ref qb])), (qb, .inr (0, [.ref qa])), (qa, .inl (cB, N, .inl (tkB f N mm (k * 64) (wtN ct tt)))), (qsm, .inr (1, [.ref qbm])), (qbm, .inr (0, [.ref qam])), (qam, .inl (cBm, N, .inl mm))] [(cB, .byte), (cBm, .byte)] t9) A) (by decide) rfl (Nat.le_of_ble_eq_true rfl) ?_
  intro p e s m below meth c A H locs ls hx hb hr hml hts hown hlocks hsz hP hK hD hE hA hS hl
  have hl : lv_has ls 3 [(0, .ref qh), (1, .ref qs), (2, .int (nI k))] := hl
  have hown : s.vm.findClass RX2 = some m.cls := hown
  refine lv_aload_n hx hb dX2_writeWhole_0 rfl (lv_at hl 0 rfl) ?_
  refine lv_dup hx hb dX2_writeWhole_1 rfl ?_
  refine va_get (D := (dC, dI)) (ci := 2) (v := .int wr) (C := RX2) (T := TX2) (N := 13) hx hb hts (by decide +kernel) hown hK hP 0 rfl rfl 12 (by decide) (hts (.fieldLink RX2 156 "HouseLog" "writes" "I") (by decide +kernel)) (fun _ h9 => h9) rfl dX2_writeWhole_2 ?_
  refine lv_iconst (v := 1) hx hb dX2_writeWhole_5 (by decide) ?_
  refine lv_iadd hx hb dX2_writeWhole_6 ?_
  refine va_put (D := (dC, dI)) (ci := 2) (v := .int (wr + 1)) (ty := .int) (C := RX2) (T := TX2) (N := 13) hx hb hts (by decide +kernel) tyX2 tyX2_ok nmX2 hown hK hP hD hS 0 rfl rfl 12 (by decide) (hts (.fieldLink RX2 156 "HouseLog" "writes" "I") (by decide +kernel)) (fun _ h9 => h9) rfl (by decide +kernel) rfl rfl (Nat.le_of_ble_eq_true rfl) dX2_writeWhole_7 (fun H locs hP hD hS => ?_)
  have hP : va_P (dC, dI) hlCl [(qh, .inr (2, [.int (nI n), .ref qs0, .ref qs1, .ref qsm, .ref qbc, .int cb, .int rw, .int ak, .int dn, .int ct, .int (nI tt), .int md, .int (wr + 1)])), (qs, .inr (1, [.ref qb])), (qb, .inr (0, [.ref qa])), (qa, .inl (cB, N, .inl f)), (qsm, .inr (1, [.ref qbm])), (qbm, .inr (0, [.ref qam])), (qam, .inl (cBm, N, .inl mm))] H := hP
  have hD : va_D A [(qh, .inr (2, [.int (nI n), .ref qs0, .ref qs1, .ref qsm, .ref qbc, .int cb, .int rw, .int ak, .int dn, .int ct, .int (nI tt), .int md, .int (wr + 1)])), (qs, .inr (1, [.ref qb])), (qb, .inr (0, [.ref qa])), (qa, .inl (cB, N, .inl f)), (qsm, .inr (1, [.ref qbm])), (qbm, .inr (0, [.ref qam])), (qam, .inl (cBm, N, .inl mm))] := hD
  refine lv_aload_n hx hb dX2_writeWhole_10 rfl (lv_at hl 0 rfl) ?_
  refine va_get (D := (dC, dI)) (ci := 2) (v := .int ct) (C := RX2) (T := TX2) (N := 13) hx hb hts (by decide +kernel) hown hK hP 0 rfl rfl 9 (by decide) (hts (.fieldLink RX2 44 "HouseLog" "writesUntilCut" "I") (by decide +kernel)) (fun _ h9 => h9) rfl dX2_writeWhole_11 ?_
  refine lv_if_ne (tgt := 32) hx hb dX2_writeWhole_14 (by decide) (fun c_14 => ?_) (fun c_14 => ?_)
  · skip
    refine lv_aload_n hx hb dX2_writeWhole_32 rfl (lv_at hl 0 rfl) ?_
    refine va_get (D := (dC, dI)) (ci := 2) (v := .int ct) (C := RX2) (T := TX2) (N := 13) hx hb hts (by decide +kernel) hown hK hP 0 rfl rfl 9 (by decide) (hts (.fieldLink RX2 44 "HouseLog" "writesUntilCut" "I") (by decide +kernel)) (fun _ h9 => h9) rfl dX2_writeWhole_33 ?_
    refine lv_if_le (tgt := 49) hx hb dX2_writeWhole_36 (by decide) (fun c_36 => ?_) (fun c_36 => ?_)
    · skip
      refine lv_aload_n hx hb dX2_writeWhole_49 rfl (lv_at hl 1 rfl) ?_
      refine lv_aload_n hx hb dX2_writeWhole_50 rfl (lv_at hl 0 rfl) ?_
      refine va_get (D := (dC, dI)) (ci := 2) (v := .ref qsm) (C := RX2) (T := TX2) (N := 13) hx hb hts (by decide +kernel) hown hK hP 0 rfl rfl 3 (by decide) (hts (.fieldLink RX2 34 "HouseLog" "memory" "LHouseLog$Sectors;") (by decide +kernel)) (fun _ h9 => h9) rfl dX2_writeWhole_51 ?_
      refine lv_iload_n hx hb dX2_writeWhole_54 rfl (lv_at hl 2 rfl) ?_
      refine lv_bipush (v := 64) hx hb dX2_writeWhole_55 (by decide) ?_
      refine hc_vV (As := [.ref qsm, .int (nI k), .int 64]) (rest := []) (wr := [(qh, .inr (2, [.int (nI n), .ref qs0, .ref qs1, .ref qsm, .ref qbc, .int cb, .int rw, .int ak, .int dn, .int ct, .int (nI tt), .int md, .int (wr + 1)]))]) ⟨hx, hb, hml, hown, hts⟩ sx_T trivial (kX1_take l dC dI H.size qs qb qa qsm qbm qam cB cBm f N mm k 64 (hN) (hk) (by decide)) (cwV 3 hts gX2_writeWhole_X1_take rfl rfl rfl (by decide +kernel) ⟨Nat.le_of_ble_eq_true rfl, Nat.le_of_ble_eq_true rfl⟩) hK hP hD hS hA [1, 2, 3, 4, 5, 6] [0] [0, 1] rfl rfl rfl rfl rfl (by decide) (ci := 1) rfl rfl rfl rfl hl.1 rfl (Nat.le_of_ble_eq_true rfl) dX2_writeWhole_57 ⟨Nat.zero_le _, Nat.zero_le _⟩ (fun H locs hP hD hS => ?_)
      have hP : va_P (dC, dI) hlCl [(qh, .inr (2, [.int (nI n), .ref qs0, .ref qs1, .ref qsm, .ref qbc, .int cb, .int rw, .int ak, .int dn, .int ct, .int (nI tt), .int md, .int (wr + 1)])), (qs, .inr (1, [.ref qb])), (qb, .inr (0, [.ref qa])), (qa, .inl (cB, N, .inl (tkB f N mm (k * 64) 64))), (qsm, .inr (1, [.ref qbm])), (qbm, .inr (0, [.ref qam])), (qam, .inl (cBm, N, .inl mm))] H := hP
      have hD : va_D A [(qh, .inr (2, [.int (nI n), .ref qs0, .ref qs1, .ref qsm, .ref qbc, .int cb, .int rw, .int ak, .int dn, .int ct, .int (nI tt), .int md, .int (wr + 1)])), (qs, .inr (1, [.ref qb])), (qb, .inr (0, [.ref qa])), (qa, .inl (cB, N, .inl (tkB f N mm (k * 64) 64))), (qsm, .inr (1, [.ref qbm])), (qbm, .inr (0, [.ref qam])), (qam, .inl (cBm, N, .inl mm))] := hD
      refine lv_iconst (v := 1) hx hb dX2_writeWhole_60 (by decide) ?_
      exact hr_z (v := 1) hx hb hr hlocks (by decide) (w1 := [(qh, .inr (2, [.int (nI n), .ref qs0, .ref qs1, .ref qsm, .ref qbc, .int cb, .int rw, .int ak, .int dn, .int ct, .int (nI tt), .int md, .int (wr + 1)])), (qs, .inr (1, [.ref qb])), (qb, .inr (0, [.ref qa])), (qa, .inl (cB, N, .inl (tkB f N mm (k * 64) 64))), (qsm, .inr (1, [.ref qbm])), (qbm, .inr (0, [.ref qam])), (qam, .inl (cBm, N, .inl mm))]) hP hD hK hS [0, 1, 2, 3, 4, 5, 6] [0, 1] rfl rfl rfl (by unfold wwI; rw [if_neg c_14, if_pos c_36]) (by simp only [wtN, wcI, if_neg c_14, if_pos c_36]) dX2_writeWhole_61
    · skip
      refine lv_aload_n hx hb dX2_writeWhole_39 rfl (lv_at hl 0 rfl) ?_
      refine lv_dup hx hb dX2_writeWhole_40 rfl ?_
      refine va_get (D := (dC, dI)) (ci := 2) (v := .int ct) (C := RX2) (T := TX2) (N := 13) hx hb hts (by decide +kernel) hown hK hP 0 rfl rfl 9 (by decide) (hts (.fieldLink RX2 44 "HouseLog" "writesUntilCut" "I") (by decide +kernel)) (fun _ h9 => h9) rfl dX2_writeWhole_41 ?_
      refine lv_iconst (v := 1) hx hb dX2_writeWhole_44 (by decide) ?_
      refine lv_isub hx hb dX2_writeWhole_45 ?_
      refine va_put (D := (dC, dI)) (ci := 2) (v := .int (ct - 1)) (ty := .int) (C := RX2) (T := TX2) (N := 13) hx hb hts (by decide +kernel) tyX2 tyX2_ok nmX2 hown hK hP hD hS 0 rfl rfl 9 (by decide) (hts (.fieldLink RX2 44 "HouseLog" "writesUntilCut" "I") (by decide +kernel)) (fun _ h9 => h9) rfl (by decide +kernel) rfl rfl (Nat.le_of_ble_eq_true rfl) dX2_writeWhole_46 (fun H locs hP hD hS => ?_)
      have hP : va_P (dC, dI) hlCl [(qh, .inr (2, [.int (nI n), .ref qs0, .ref qs1, .ref qsm, .ref qbc, .int cb, .int rw, .int ak, .int dn, .int (ct - 1), .int (nI tt), .int md, .int (wr + 1)])), (qs, .inr (1, [.ref qb])), (qb, .inr (0, [.ref qa])), (qa, .inl (cB, N, .inl f)), (qsm, .inr (1, [.ref qbm])), (qbm, .inr (0, [.ref qam])), (qam, .inl (cBm, N, .inl mm))] H := hP
      have hD : va_D A [(qh, .inr (2, [.int (nI n), .ref qs0, .ref qs1, .ref qsm, .ref qbc, .int cb, .int rw, .int ak, .int dn, .int (ct - 1), .int (nI tt), .int md, .int (wr + 1)])), (qs, .inr (1, [.ref qb])), (qb, .inr (0, [.ref qa])), (qa, .inl (cB, N, .inl f)), (qsm, .inr (1, [.ref qbm])), (qbm, .inr (0, [.ref qam])), (qam, .inl (cBm, N, .inl mm))] := hD
      refine lv_aload_n hx hb dX2_writeWhole_49 rfl (lv_at hl 1 rfl) ?_
      refine lv_aload_n hx hb dX2_writeWhole_50 rfl (lv_at hl 0 rfl) ?_
      refine va_get (D := (dC, dI)) (ci := 2) (v := .ref qsm) (C := RX2) (T := TX2) (N := 13) hx hb hts (by decide +kernel) hown hK hP 0 rfl rfl 3 (by decide) (hts (.fieldLink RX2 34 "HouseLog" "memory" "LHouseLog$Sectors;") (by decide +kernel)) (fun _ h9 => h9) rfl dX2_writeWhole_51 ?_
      refine lv_iload_n hx hb dX2_writeWhole_54 rfl (lv_at hl 2 rfl) ?_
      refine lv_bipush (v := 64) hx hb dX2_writeWhole_55 (by decide) ?_
      refine hc_vV (As := [.ref qsm, .int (nI k), .int 64]) (rest := []) (wr := [(qh, .inr (2, [.int (nI n), .ref qs0, .ref qs1, .ref qsm, .ref qbc, .int cb, .int rw, .int ak, .int dn, .int (ct - 1), .int (nI tt), .int md, .int (wr + 1)]))]) ⟨hx, hb, hml, hown, hts⟩ sx_T trivial (kX1_take l dC dI H.size qs qb qa qsm qbm qam cB cBm f N mm k 64 (hN) (hk) (by decide)) (cwV 3 hts gX2_writeWhole_X1_take rfl rfl rfl (by decide +kernel) ⟨Nat.le_of_ble_eq_true rfl, Nat.le_of_ble_eq_true rfl⟩) hK hP hD hS hA [1, 2, 3, 4, 5, 6] [0] [0, 1] rfl rfl rfl rfl rfl (by decide) (ci := 1) rfl rfl rfl rfl hl.1 rfl (Nat.le_of_ble_eq_true rfl) dX2_writeWhole_57 ⟨Nat.zero_le _, Nat.zero_le _⟩ (fun H locs hP hD hS => ?_)
      have hP : va_P (dC, dI) hlCl [(qh, .inr (2, [.int (nI n), .ref qs0, .ref qs1, .ref qsm, .ref qbc, .int cb, .int rw, .int ak, .int dn, .int (ct - 1), .int (nI tt), .int md, .int (wr + 1)])), (qs, .inr (1, [.ref qb])), (qb, .inr (0, [.ref qa])), (qa, .inl (cB, N, .inl (tkB f N mm (k * 64) 64))), (qsm, .inr (1, [.ref qbm])), (qbm, .inr (0, [.ref qam])), (qam, .inl (cBm, N, .inl mm))] H := hP
      have hD : va_D A [(qh, .inr (2, [.int (nI n), .ref qs0, .ref qs1, .ref qsm, .ref qbc, .int cb, .int rw, .int ak, .int dn, .int (ct - 1), .int (nI tt), .int md, .int (wr + 1)])), (qs, .inr (1, [.ref qb])), (qb, .inr (0, [.ref qa])), (qa, .inl (cB, N, .inl (tkB f N mm (k * 64) 64))), (qsm, .inr (1, [.ref qbm])), (qbm, .inr (0, [.ref qam])), (qam, .inl (cBm, N, .inl mm))] := hD
      refine lv_iconst (v := 1) hx hb dX2_writeWhole_60 (by decide) ?_
      exact hr_z (v := 1) hx hb hr hlocks (by decide) (w1 := [(qh, .inr (2, [.int (nI n), .ref qs0, .ref qs1, .ref qsm, .ref qbc, .int cb, .int rw, .int ak, .int dn, .int (ct - 1), .int (nI tt), .int md, .int (wr + 1)])), (qs, .inr (1, [.ref qb])), (qb, .inr (0, [.ref qa])), (qa, .inl (cB, N, .inl (tkB f N mm (k * 64) 64))), (qsm, .inr (1, [.ref qbm])), (qbm, .inr (0, [.ref qam])), (qam, .inl (cBm, N, .inl mm))]) hP hD hK hS [0, 1, 2, 3, 4, 5, 6] [0, 1] rfl rfl rfl (by unfold wwI; rw [if_neg c_14, if_neg c_36]) (by simp only [wtN, wcI, if_neg c_14, if_neg c_36]) dX2_writeWhole_61
  · skip
    refine lv_aload_n hx hb dX2_writeWhole_17 rfl (lv_at hl 1 rfl) ?_
    refine lv_aload_n hx hb dX2_writeWhole_18 rfl (lv_at hl 0 rfl) ?_
    refine va_get (D := (dC, dI)) (ci := 2) (v := .ref qsm) (C := RX2) (T := TX2) (N := 13) hx hb hts (by decide +kernel) hown hK hP 0 rfl rfl 3 (by decide) (hts (.fieldLink RX2 34 "HouseLog" "memory" "LHouseLog$Sectors;") (by decide +kernel)) (fun _ h9 => h9) rfl dX2_writeWhole_19 ?_
    refine lv_iload_n hx hb dX2_writeWhole_22 rfl (lv_at hl 2 rfl) ?_
    refine lv_aload_n hx hb dX2_writeWhole_23 rfl (lv_at hl 0 rfl) ?_
    refine va_get (D := (dC, dI)) (ci := 2) (v := .int (nI tt)) (C := RX2) (T := TX2) (N := 13) hx hb hts (by decide +kernel) hown hK hP 0 rfl rfl 10 (by decide) (hts (.fieldLink RX2 93 "HouseLog" "tornBytes" "I") (by decide +kernel)) (fun _ h9 => h9) rfl dX2_writeWhole_24 ?_
    refine hc_vV (As := [.ref qsm, .int (nI k), .int (nI tt)]) (rest := []) (wr := [(qh, .inr (2, [.int (nI n), .ref qs0, .ref qs1, .ref qsm, .ref qbc, .int cb, .int rw, .int ak, .int dn, .int ct, .int (nI tt), .int md, .int (wr + 1)]))]) ⟨hx, hb, hml, hown, hts⟩ sx_T trivial (kX1_take l dC dI H.size qs qb qa qsm qbm qam cB cBm f N mm k tt (hN) (hk) (by omega)) (cwV 3 hts gX2_writeWhole_X1_take rfl rfl rfl (by decide +kernel) ⟨Nat.le_of_ble_eq_true rfl, Nat.le_of_ble_eq_true rfl⟩) hK hP hD hS hA [1, 2, 3, 4, 5, 6] [0] [0, 1] rfl rfl rfl rfl rfl (by decide) (ci := 1) rfl rfl rfl rfl hl.1 rfl (Nat.le_of_ble_eq_true rfl) dX2_writeWhole_27 ⟨Nat.zero_le _, Nat.zero_le _⟩ (fun H locs hP hD hS => ?_)
    have hP : va_P (dC, dI) hlCl [(qh, .inr (2, [.int (nI n), .ref qs0, .ref qs1, .ref qsm, .ref qbc, .int cb, .int rw, .int ak, .int dn, .int ct, .int (nI tt), .int md, .int (wr + 1)])), (qs, .inr (1, [.ref qb])), (qb, .inr (0, [.ref qa])), (qa, .inl (cB, N, .inl (tkB f N mm (k * 64) tt))), (qsm, .inr (1, [.ref qbm])), (qbm, .inr (0, [.ref qam])), (qam, .inl (cBm, N, .inl mm))] H := hP
    have hD : va_D A [(qh, .inr (2, [.int (nI n), .ref qs0, .ref qs1, .ref qsm, .ref qbc, .int cb, .int rw, .int ak, .int dn, .int ct, .int (nI tt), .int md, .int (wr + 1)])), (qs, .inr (1, [.ref qb])), (qb, .inr (0, [.ref qa])), (qa, .inl (cB, N, .inl (tkB f N mm (k * 64) tt))), (qsm, .inr (1, [.ref qbm])), (qbm, .inr (0, [.ref qam])), (qam, .inl (cBm, N, .inl mm))] := hD
    refine lv_iconst (v := 0) hx hb dX2_writeWhole_30 (by decide) ?_
    exact hr_z (v := 0) hx hb hr hlocks (by decide) (w1 := [(qh, .inr (2, [.int (nI n), .ref qs0, .ref qs1, .ref qsm, .ref qbc, .int cb, .int rw, .int ak, .int dn, .int ct, .int (nI tt), .int md, .int (wr + 1)])), (qs, .inr (1, [.ref qb])), (qb, .inr (0, [.ref qa])), (qa, .inl (cB, N, .inl (tkB f N mm (k * 64) tt))), (qsm, .inr (1, [.ref qbm])), (qbm, .inr (0, [.ref qam])), (qam, .inl (cBm, N, .inl mm))]) hP hD hK hS [0, 1, 2, 3, 4, 5, 6] [0, 1] rfl rfl rfl (by unfold wwI; rw [if_pos c_14]) (by simp only [wtN, wcI, if_pos c_14]) dX2_writeWhole_31

def fr0 (c0 c1 : Nat → Int32) (N k : Nat) : Nat → Int32 := if rtI c0 N k = 0 then (if rtI c1 N k = 0 then c0 else tkB c0 N c1 (k * 64) 64) else c0
def fr1 (c0 c1 : Nat → Int32) (N k : Nat) : Nat → Int32 := if rtI c0 N k = 0 then c1 else (if rtI c1 N k = 0 then tkB c1 N c0 (k * 64) 64 else c1)
def frm (c0 c1 mm : Nat → Int32) (N k : Nat) : Nat → Int32 := if rtI c0 N k = 0 then (if rtI c1 N k = 0 then mm else tkB mm N (tkB c0 N c1 (k * 64) 64) (k * 64) 64) else tkB mm N c0 (k * 64) 64
def frd (c0 c1 : Nat → Int32) (N k : Nat) (md : Int32) : Int32 := if rtI c0 N k = 0 then (if rtI c1 N k = 0 then md else md + 1) else (if rtI c1 N k = 0 then md + 1 else md)

def frI (c0 c1 : Nat → Int32) (N : Nat) (k : Nat) : Int32 := (if (rtI c0 N k) = 0 then (if (rtI c1 N k) = 0 then 0 else 1) else (if (rtI c1 N k) = 0 then 1 else 1))
set_option maxHeartbeats 4000000 in
set_option maxRecDepth 100000 in
theorem kX2_findRow (l : Launch) (dC : Nat → ClassId) (dI : Nat → Nat → Nat) (sz : Nat) (qh qs0 qb0 qa0 qs1 qb1 qa1 qsm qbm qam qbc : Nat) (cB0 cB1 cBm : ClassId) (n : Nat) (c0 c1 mm : Nat → Int32) (N : Nat) (cb rw ak dn ct tn md wr : Int32) (k : Nat) (hN : N < 2 ^ 31) (hk : k < 1000) : Mi_ l yX2_findRow wsX2_findRow 5 105 dC dI zN [.ref qh, .int (nI k)] [(qh, .inr (2, [.int (nI n), .ref qs0, .ref qs1, .ref qsm, .ref qbc, .int cb, .int rw, .int ak, .int dn, .int ct, .int tn, .int md, .int wr])), (qs0, .inr (1, [.ref qb0])), (qb0, .inr (0, [.ref qa0])), (qa0, .inl (cB0, N, .inl c0)), (qs1, .inr (1, [.ref qb1])), (qb1, .inr (0, [.ref qa1])), (qa1, .inl (cB1, N, .inl c1)), (qsm, .inr (1, [.ref qbm])), (qbm, .inr (0, [.ref qam])), (qam, .inl (cBm, N, .inl mm))] [(cB0, .byte), (cB1, .byte), (cBm, .byte)] sz (frI c0 c1 N k) [(qh, .inr (2, [.int (nI n), .ref qs0, .ref qs1, .ref qsm, .ref qbc, .int cb, .int rw, .int ak, .int dn, .int ct, .int tn, .int (frd c0 c1 N k md), .int wr])), (qs0, .inr (1, [.ref qb0])), (qb0, .inr (0, [.ref qa0])), (qa0, .inl (cB0, N, .inl (fr0 c0 c1 N k))), (qs1, .inr (1, [.ref qb1])), (qb1, .inr (0, [.ref qa1])), (qa1, .inl (cB1, N, .inl (fr1 c0 c1 N k))), (qsm, .inr (1, [.ref qbm])), (qbm, .inr (0, [.ref qam])), (qam, .inl (cBm, N, .inl (frm c0 c1 mm N k)))] := by
  refine hm_ (cc := cX2_findRow) (maxL := 4) (ret := (some .boolean)) (Qc := fun A => va_Qi (fun (r9 : Int32) (_ : Unit) => r9 = frI c0 c1 N k) (fun _ t9 => qw_ dC dI A [(qh, .inr (2, [.int (nI n), .ref qs0, .ref qs1, .ref qsm, .ref qbc, .int cb, .int rw, .int ak, .int dn, .int ct, .int tn, .int (frd c0 c1 N k md), .int wr])), (qs0, .inr (1, [.ref qb0])), (qb0, .inr (0, [.ref qa0])), (qa0, .inl (cB0, N, .inl (fr0 c0 c1 N k))), (qs1, .inr (1, [.ref qb1])), (qb1, .inr (0, [.ref qa1])), (qa1, .inl (cB1, N, .inl (fr1 c0 c1 N k))), (qsm, .inr (1, [.ref qbm])), (qbm, .inr (0, [.ref qam])), (qam, .inl (cBm, N, .inl (frm c0 c1 mm N k)))] [(cB0, .byte), (cB1, .byte), (cBm, .byte)] t9) A) (by decide) rfl (Nat.le_of_ble_eq_true rfl) ?_
  intro p e s m below meth c A H locs ls hx hb hr hml hts hown hlocks hsz hP hK hD hE hA hS hl
  have hl : lv_has ls 4 [(0, .ref qh), (1, .int (nI k))] := hl
  have hown : s.vm.findClass RX2 = some m.cls := hown
  refine lv_aload_n hx hb dX2_findRow_0 rfl (lv_at hl 0 rfl) ?_
  refine va_get (D := (dC, dI)) (ci := 2) (v := .ref qs0) (C := RX2) (T := TX2) (N := 13) hx hb hts (by decide +kernel) hown hK hP 0 rfl rfl 1 (by decide) (hts (.fieldLink RX2 27 "HouseLog" "copy0" "LHouseLog$Sectors;") (by decide +kernel)) (fun _ h9 => h9) rfl dX2_findRow_1 ?_
  refine lv_iload_n hx hb dX2_findRow_4 rfl (lv_at hl 1 rfl) ?_
  refine hc_iV (As := [.int (nI k)]) (rest := []) (wr := [(qh, .inr (2, [.int (nI n), .ref qs0, .ref qs1, .ref qsm, .ref qbc, .int cb, .int rw, .int ak, .int dn, .int ct, .int tn, .int md, .int wr])), (qs1, .inr (1, [.ref qb1])), (qb1, .inr (0, [.ref qa1])), (qa1, .inl (cB1, N, .inl c1)), (qsm, .inr (1, [.ref qbm])), (qbm, .inr (0, [.ref qam])), (qam, .inl (cBm, N, .inl mm))]) ⟨hx, hb, hml, hown, hts⟩ sx_N hE (kX1_isRight l dC dI H.size qs0 qb0 qa0 cB0 c0 N k (hN) (hk)) (cwV 1 hts gX2_findRow_X1_isRight rfl rfl rfl (by decide +kernel) ⟨Nat.le_of_ble_eq_true rfl, Nat.le_of_ble_eq_true rfl⟩) hK hP hD hS hA [1, 2, 3] [0, 4, 5, 6, 7, 8, 9] [0] rfl rfl rfl rfl rfl (by decide) (ci := 1) rfl rfl rfl rfl hl.1 rfl (Nat.le_of_ble_eq_true rfl) dX2_findRow_5 ⟨Nat.zero_le _, Nat.zero_le _⟩ (fun H locs hP hD hS => ?_)
  have hP : va_P (dC, dI) hlCl [(qh, .inr (2, [.int (nI n), .ref qs0, .ref qs1, .ref qsm, .ref qbc, .int cb, .int rw, .int ak, .int dn, .int ct, .int tn, .int md, .int wr])), (qs0, .inr (1, [.ref qb0])), (qb0, .inr (0, [.ref qa0])), (qa0, .inl (cB0, N, .inl c0)), (qs1, .inr (1, [.ref qb1])), (qb1, .inr (0, [.ref qa1])), (qa1, .inl (cB1, N, .inl c1)), (qsm, .inr (1, [.ref qbm])), (qbm, .inr (0, [.ref qam])), (qam, .inl (cBm, N, .inl mm))] H := hP.sub [0, 7, 8, 9, 1, 2, 3, 4, 5, 6] rfl
  have hD : va_D A [(qh, .inr (2, [.int (nI n), .ref qs0, .ref qs1, .ref qsm, .ref qbc, .int cb, .int rw, .int ak, .int dn, .int ct, .int tn, .int md, .int wr])), (qs0, .inr (1, [.ref qb0])), (qb0, .inr (0, [.ref qa0])), (qa0, .inl (cB0, N, .inl c0)), (qs1, .inr (1, [.ref qb1])), (qb1, .inr (0, [.ref qa1])), (qa1, .inl (cB1, N, .inl c1)), (qsm, .inr (1, [.ref qbm])), (qbm, .inr (0, [.ref qam])), (qam, .inl (cBm, N, .inl mm))] := hD.sub [0, 7, 8, 9, 1, 2, 3, 4, 5, 6] (by decide) rfl
  refine lv_istore_n (lv' := [(2, .int (rtI c0 N k)), (0, .ref qh), (1, .int (nI k))]) hx hb dX2_findRow_8 rfl hl (by decide) rfl (fun ls hl => ?_)
  refine lv_aload_n hx hb dX2_findRow_9 rfl (lv_at hl 1 rfl) ?_
  refine va_get (D := (dC, dI)) (ci := 2) (v := .ref qs1) (C := RX2) (T := TX2) (N := 13) hx hb hts (by decide +kernel) hown hK hP 0 rfl rfl 2 (by decide) (hts (.fieldLink RX2 31 "HouseLog" "copy1" "LHouseLog$Sectors;") (by decide +kernel)) (fun _ h9 => h9) rfl dX2_findRow_10 ?_
  refine lv_iload_n hx hb dX2_findRow_13 rfl (lv_at hl 2 rfl) ?_
  refine hc_iV (As := [.int (nI k)]) (rest := []) (wr := [(qh, .inr (2, [.int (nI n), .ref qs0, .ref qs1, .ref qsm, .ref qbc, .int cb, .int rw, .int ak, .int dn, .int ct, .int tn, .int md, .int wr])), (qs0, .inr (1, [.ref qb0])), (qb0, .inr (0, [.ref qa0])), (qa0, .inl (cB0, N, .inl c0)), (qsm, .inr (1, [.ref qbm])), (qbm, .inr (0, [.ref qam])), (qam, .inl (cBm, N, .inl mm))]) ⟨hx, hb, hml, hown, hts⟩ sx_N hE (kX1_isRight l dC dI H.size qs1 qb1 qa1 cB1 c1 N k (hN) (hk)) (cwV 1 hts gX2_findRow_X1_isRight rfl rfl rfl (by decide +kernel) ⟨Nat.le_of_ble_eq_true rfl, Nat.le_of_ble_eq_true rfl⟩) hK hP hD hS hA [4, 5, 6] [0, 1, 2, 3, 7, 8, 9] [1] rfl rfl rfl rfl rfl (by decide) (ci := 1) rfl rfl rfl rfl hl.1 rfl (Nat.le_of_ble_eq_true rfl) dX2_findRow_14 ⟨Nat.zero_le _, Nat.zero_le _⟩ (fun H locs hP hD hS => ?_)
  have hP : va_P (dC, dI) hlCl [(qh, .inr (2, [.int (nI n), .ref qs0, .ref qs1, .ref qsm, .ref qbc, .int cb, .int rw, .int ak, .int dn, .int ct, .int tn, .int md, .int wr])), (qs0, .inr (1, [.ref qb0])), (qb0, .inr (0, [.ref qa0])), (qa0, .inl (cB0, N, .inl c0)), (qs1, .inr (1, [.ref qb1])), (qb1, .inr (0, [.ref qa1])), (qa1, .inl (cB1, N, .inl c1)), (qsm, .inr (1, [.ref qbm])), (qbm, .inr (0, [.ref qam])), (qam, .inl (cBm, N, .inl mm))] H := hP.sub [0, 1, 2, 3, 7, 8, 9, 4, 5, 6] rfl
  have hD : va_D A [(qh, .inr (2, [.int (nI n), .ref qs0, .ref qs1, .ref qsm, .ref qbc, .int cb, .int rw, .int ak, .int dn, .int ct, .int tn, .int md, .int wr])), (qs0, .inr (1, [.ref qb0])), (qb0, .inr (0, [.ref qa0])), (qa0, .inl (cB0, N, .inl c0)), (qs1, .inr (1, [.ref qb1])), (qb1, .inr (0, [.ref qa1])), (qa1, .inl (cB1, N, .inl c1)), (qsm, .inr (1, [.ref qbm])), (qbm, .inr (0, [.ref qam])), (qam, .inl (cBm, N, .inl mm))] := hD.sub [0, 1, 2, 3, 7, 8, 9, 4, 5, 6] (by decide) rfl
  refine lv_istore_n (lv' := [(3, .int (rtI c1 N k)), (2, .int (rtI c0 N k)), (0, .ref qh), (1, .int (nI k))]) hx hb dX2_findRow_17 rfl hl (by decide) rfl (fun ls hl => ?_)
  refine lv_iload_n hx hb dX2_findRow_18 rfl (lv_at hl 1 rfl) ?_
  refine lv_if_ne (tgt := 28) hx hb dX2_findRow_19 (by decide) (fun c_19 => ?_) (fun c_19 => ?_)
  · skip
    refine lv_iload_n hx hb dX2_findRow_28 rfl (lv_at hl 1 rfl) ?_
    refine lv_if_ne (tgt := 48) hx hb dX2_findRow_29 (by decide) (fun c_29 => ?_) (fun c_29 => ?_)
    · skip
      refine lv_iload_n hx hb dX2_findRow_48 rfl (lv_at hl 0 rfl) ?_
      refine lv_if_ne (tgt := 65) hx hb dX2_findRow_49 (by decide) (fun c_49 => ?_) (fun c_49 => ?_)
      · skip
        refine lv_aload_n hx hb dX2_findRow_65 rfl (lv_at hl 2 rfl) ?_
        refine va_get (D := (dC, dI)) (ci := 2) (v := .ref qsm) (C := RX2) (T := TX2) (N := 13) hx hb hts (by decide +kernel) hown hK hP 0 rfl rfl 3 (by decide) (hts (.fieldLink RX2 34 "HouseLog" "memory" "LHouseLog$Sectors;") (by decide +kernel)) (fun _ h9 => h9) rfl dX2_findRow_66 ?_
        refine lv_aload_n hx hb dX2_findRow_69 rfl (lv_at hl 2 rfl) ?_
        refine va_get (D := (dC, dI)) (ci := 2) (v := .ref qs0) (C := RX2) (T := TX2) (N := 13) hx hb hts (by decide +kernel) hown hK hP 0 rfl rfl 1 (by decide) (hts (.fieldLink RX2 27 "HouseLog" "copy0" "LHouseLog$Sectors;") (by decide +kernel)) (fun _ h9 => h9) rfl dX2_findRow_70 ?_
        refine lv_iload_n hx hb dX2_findRow_73 rfl (lv_at hl 3 rfl) ?_
        refine lv_bipush (v := 64) hx hb dX2_findRow_74 (by decide) ?_
        refine hc_vV (As := [.ref qs0, .int (nI k), .int 64]) (rest := []) (wr := [(qh, .inr (2, [.int (nI n), .ref qs0, .ref qs1, .ref qsm, .ref qbc, .int cb, .int rw, .int ak, .int dn, .int ct, .int tn, .int md, .int wr])), (qs1, .inr (1, [.ref qb1])), (qb1, .inr (0, [.ref qa1])), (qa1, .inl (cB1, N, .inl c1))]) ⟨hx, hb, hml, hown, hts⟩ sx_T trivial (kX1_take l dC dI H.size qsm qbm qam qs0 qb0 qa0 cBm cB0 mm N c0 k 64 (hN) (hk) (by decide)) (cwV 3 hts gX2_findRow_X1_take rfl rfl rfl (by decide +kernel) ⟨Nat.le_of_ble_eq_true rfl, Nat.le_of_ble_eq_true rfl⟩) hK hP hD hS hA [7, 8, 9, 1, 2, 3] [0, 4, 5, 6] [2, 0] rfl rfl rfl rfl rfl (by decide) (ci := 1) rfl rfl rfl rfl hl.1 rfl (Nat.le_of_ble_eq_true rfl) dX2_findRow_76 ⟨Nat.zero_le _, Nat.zero_le _⟩ (fun H locs hP hD hS => ?_)
        have hP : va_P (dC, dI) hlCl [(qh, .inr (2, [.int (nI n), .ref qs0, .ref qs1, .ref qsm, .ref qbc, .int cb, .int rw, .int ak, .int dn, .int ct, .int tn, .int md, .int wr])), (qs0, .inr (1, [.ref qb0])), (qb0, .inr (0, [.ref qa0])), (qa0, .inl (cB0, N, .inl c0)), (qs1, .inr (1, [.ref qb1])), (qb1, .inr (0, [.ref qa1])), (qa1, .inl (cB1, N, .inl c1)), (qsm, .inr (1, [.ref qbm])), (qbm, .inr (0, [.ref qam])), (qam, .inl (cBm, N, .inl (tkB mm N c0 (k * 64) 64)))] H := hP.sub [0, 7, 8, 9, 1, 2, 3, 4, 5, 6] rfl
        have hD : va_D A [(qh, .inr (2, [.int (nI n), .ref qs0, .ref qs1, .ref qsm, .ref qbc, .int cb, .int rw, .int ak, .int dn, .int ct, .int tn, .int md, .int wr])), (qs0, .inr (1, [.ref qb0])), (qb0, .inr (0, [.ref qa0])), (qa0, .inl (cB0, N, .inl c0)), (qs1, .inr (1, [.ref qb1])), (qb1, .inr (0, [.ref qa1])), (qa1, .inl (cB1, N, .inl c1)), (qsm, .inr (1, [.ref qbm])), (qbm, .inr (0, [.ref qam])), (qam, .inl (cBm, N, .inl (tkB mm N c0 (k * 64) 64)))] := hD.sub [0, 7, 8, 9, 1, 2, 3, 4, 5, 6] (by decide) rfl
        refine lv_iconst (v := 1) hx hb dX2_findRow_79 (by decide) ?_
        exact hr_z (v := 1) hx hb hr hlocks (by decide) (w1 := [(qh, .inr (2, [.int (nI n), .ref qs0, .ref qs1, .ref qsm, .ref qbc, .int cb, .int rw, .int ak, .int dn, .int ct, .int tn, .int md, .int wr])), (qs0, .inr (1, [.ref qb0])), (qb0, .inr (0, [.ref qa0])), (qa0, .inl (cB0, N, .inl c0)), (qs1, .inr (1, [.ref qb1])), (qb1, .inr (0, [.ref qa1])), (qa1, .inl (cB1, N, .inl c1)), (qsm, .inr (1, [.ref qbm])), (qbm, .inr (0, [.ref qam])), (qam, .inl (cBm, N, .inl (tkB mm N c0 (k * 64) 64)))]) hP hD hK hS [0, 1, 2, 3, 4, 5, 6, 7, 8, 9] [0, 1, 2] rfl rfl rfl (by unfold frI; rw [if_neg c_19, if_neg c_49]) (by simp only [fr0, fr1, frm, frd, if_neg c_19, if_neg c_49]) dX2_findRow_80
      · skip
        refine lv_aload_n hx hb dX2_findRow_52 rfl (lv_at hl 2 rfl) ?_
        refine lv_aload_n hx hb dX2_findRow_53 rfl (lv_at hl 2 rfl) ?_
        refine va_get (D := (dC, dI)) (ci := 2) (v := .ref qs1) (C := RX2) (T := TX2) (N := 13) hx hb hts (by decide +kernel) hown hK hP 0 rfl rfl 2 (by decide) (hts (.fieldLink RX2 31 "HouseLog" "copy1" "LHouseLog$Sectors;") (by decide +kernel)) (fun _ h9 => h9) rfl dX2_findRow_54 ?_
        refine lv_aload_n hx hb dX2_findRow_57 rfl (lv_at hl 2 rfl) ?_
        refine va_get (D := (dC, dI)) (ci := 2) (v := .ref qs0) (C := RX2) (T := TX2) (N := 13) hx hb hts (by decide +kernel) hown hK hP 0 rfl rfl 1 (by decide) (hts (.fieldLink RX2 27 "HouseLog" "copy0" "LHouseLog$Sectors;") (by decide +kernel)) (fun _ h9 => h9) rfl dX2_findRow_58 ?_
        refine lv_iload_n hx hb dX2_findRow_61 rfl (lv_at hl 3 rfl) ?_
        refine hc_vV (As := [.ref qs1, .ref qs0, .int (nI k)]) (rest := []) (wr := [(qsm, .inr (1, [.ref qbm])), (qbm, .inr (0, [.ref qam])), (qam, .inl (cBm, N, .inl mm))]) ⟨hx, hb, hml, hown, hts⟩ sx_T trivial (kX2_mend l dC dI H.size qh qs0 qs1 qsm qbc qs1 qb1 qa1 qs0 qb0 qa0 cB1 cB0 n c1 N c0 cb rw ak dn ct tn md wr k (hN) (hk)) (cwV 3 hts gX2_findRow_X2_mend rfl rfl rfl (by decide +kernel) ⟨Nat.le_of_ble_eq_true rfl, Nat.le_of_ble_eq_true rfl⟩) hK hP hD hS hA [0, 4, 5, 6, 1, 2, 3] [7, 8, 9] [1, 0] rfl rfl rfl rfl rfl (by decide) (ci := 2) rfl rfl rfl rfl hl.1 rfl (Nat.le_of_ble_eq_true rfl) dX2_findRow_62 ⟨Nat.zero_le _, Nat.zero_le _⟩ (fun H locs hP hD hS => ?_)
        have hP : va_P (dC, dI) hlCl [(qh, .inr (2, [.int (nI n), .ref qs0, .ref qs1, .ref qsm, .ref qbc, .int cb, .int rw, .int ak, .int dn, .int ct, .int tn, .int (md + 1), .int wr])), (qs0, .inr (1, [.ref qb0])), (qb0, .inr (0, [.ref qa0])), (qa0, .inl (cB0, N, .inl c0)), (qs1, .inr (1, [.ref qb1])), (qb1, .inr (0, [.ref qa1])), (qa1, .inl (cB1, N, .inl (tkB c1 N c0 (k * 64) 64))), (qsm, .inr (1, [.ref qbm])), (qbm, .inr (0, [.ref qam])), (qam, .inl (cBm, N, .inl mm))] H := hP.sub [3, 7, 8, 9, 4, 5, 6, 0, 1, 2] rfl
        have hD : va_D A [(qh, .inr (2, [.int (nI n), .ref qs0, .ref qs1, .ref qsm, .ref qbc, .int cb, .int rw, .int ak, .int dn, .int ct, .int tn, .int (md + 1), .int wr])), (qs0, .inr (1, [.ref qb0])), (qb0, .inr (0, [.ref qa0])), (qa0, .inl (cB0, N, .inl c0)), (qs1, .inr (1, [.ref qb1])), (qb1, .inr (0, [.ref qa1])), (qa1, .inl (cB1, N, .inl (tkB c1 N c0 (k * 64) 64))), (qsm, .inr (1, [.ref qbm])), (qbm, .inr (0, [.ref qam])), (qam, .inl (cBm, N, .inl mm))] := hD.sub [3, 7, 8, 9, 4, 5, 6, 0, 1, 2] (by decide) rfl
        refine lv_aload_n hx hb dX2_findRow_65 rfl (lv_at hl 2 rfl) ?_
        refine va_get (D := (dC, dI)) (ci := 2) (v := .ref qsm) (C := RX2) (T := TX2) (N := 13) hx hb hts (by decide +kernel) hown hK hP 0 rfl rfl 3 (by decide) (hts (.fieldLink RX2 34 "HouseLog" "memory" "LHouseLog$Sectors;") (by decide +kernel)) (fun _ h9 => h9) rfl dX2_findRow_66 ?_
        refine lv_aload_n hx hb dX2_findRow_69 rfl (lv_at hl 2 rfl) ?_
        refine va_get (D := (dC, dI)) (ci := 2) (v := .ref qs0) (C := RX2) (T := TX2) (N := 13) hx hb hts (by decide +kernel) hown hK hP 0 rfl rfl 1 (by decide) (hts (.fieldLink RX2 27 "HouseLog" "copy0" "LHouseLog$Sectors;") (by decide +kernel)) (fun _ h9 => h9) rfl dX2_findRow_70 ?_
        refine lv_iload_n hx hb dX2_findRow_73 rfl (lv_at hl 3 rfl) ?_
        refine lv_bipush (v := 64) hx hb dX2_findRow_74 (by decide) ?_
        refine hc_vV (As := [.ref qs0, .int (nI k), .int 64]) (rest := []) (wr := [(qh, .inr (2, [.int (nI n), .ref qs0, .ref qs1, .ref qsm, .ref qbc, .int cb, .int rw, .int ak, .int dn, .int ct, .int tn, .int (md + 1), .int wr])), (qs1, .inr (1, [.ref qb1])), (qb1, .inr (0, [.ref qa1])), (qa1, .inl (cB1, N, .inl (tkB c1 N c0 (k * 64) 64)))]) ⟨hx, hb, hml, hown, hts⟩ sx_T trivial (kX1_take l dC dI H.size qsm qbm qam qs0 qb0 qa0 cBm cB0 mm N c0 k 64 (hN) (hk) (by decide)) (cwV 3 hts gX2_findRow_X1_take rfl rfl rfl (by decide +kernel) ⟨Nat.le_of_ble_eq_true rfl, Nat.le_of_ble_eq_true rfl⟩) hK hP hD hS hA [7, 8, 9, 1, 2, 3] [0, 4, 5, 6] [2, 0] rfl rfl rfl rfl rfl (by decide) (ci := 1) rfl rfl rfl rfl hl.1 rfl (Nat.le_of_ble_eq_true rfl) dX2_findRow_76 ⟨Nat.zero_le _, Nat.zero_le _⟩ (fun H locs hP hD hS => ?_)
        have hP : va_P (dC, dI) hlCl [(qh, .inr (2, [.int (nI n), .ref qs0, .ref qs1, .ref qsm, .ref qbc, .int cb, .int rw, .int ak, .int dn, .int ct, .int tn, .int (md + 1), .int wr])), (qs0, .inr (1, [.ref qb0])), (qb0, .inr (0, [.ref qa0])), (qa0, .inl (cB0, N, .inl c0)), (qs1, .inr (1, [.ref qb1])), (qb1, .inr (0, [.ref qa1])), (qa1, .inl (cB1, N, .inl (tkB c1 N c0 (k * 64) 64))), (qsm, .inr (1, [.ref qbm])), (qbm, .inr (0, [.ref qam])), (qam, .inl (cBm, N, .inl (tkB mm N c0 (k * 64) 64)))] H := hP.sub [0, 7, 8, 9, 1, 2, 3, 4, 5, 6] rfl
        have hD : va_D A [(qh, .inr (2, [.int (nI n), .ref qs0, .ref qs1, .ref qsm, .ref qbc, .int cb, .int rw, .int ak, .int dn, .int ct, .int tn, .int (md + 1), .int wr])), (qs0, .inr (1, [.ref qb0])), (qb0, .inr (0, [.ref qa0])), (qa0, .inl (cB0, N, .inl c0)), (qs1, .inr (1, [.ref qb1])), (qb1, .inr (0, [.ref qa1])), (qa1, .inl (cB1, N, .inl (tkB c1 N c0 (k * 64) 64))), (qsm, .inr (1, [.ref qbm])), (qbm, .inr (0, [.ref qam])), (qam, .inl (cBm, N, .inl (tkB mm N c0 (k * 64) 64)))] := hD.sub [0, 7, 8, 9, 1, 2, 3, 4, 5, 6] (by decide) rfl
        refine lv_iconst (v := 1) hx hb dX2_findRow_79 (by decide) ?_
        exact hr_z (v := 1) hx hb hr hlocks (by decide) (w1 := [(qh, .inr (2, [.int (nI n), .ref qs0, .ref qs1, .ref qsm, .ref qbc, .int cb, .int rw, .int ak, .int dn, .int ct, .int tn, .int (md + 1), .int wr])), (qs0, .inr (1, [.ref qb0])), (qb0, .inr (0, [.ref qa0])), (qa0, .inl (cB0, N, .inl c0)), (qs1, .inr (1, [.ref qb1])), (qb1, .inr (0, [.ref qa1])), (qa1, .inl (cB1, N, .inl (tkB c1 N c0 (k * 64) 64))), (qsm, .inr (1, [.ref qbm])), (qbm, .inr (0, [.ref qam])), (qam, .inl (cBm, N, .inl (tkB mm N c0 (k * 64) 64)))]) hP hD hK hS [0, 1, 2, 3, 4, 5, 6, 7, 8, 9] [0, 1, 2] rfl rfl rfl (by unfold frI; rw [if_neg c_19, if_pos c_49]) (by simp only [fr0, fr1, frm, frd, if_neg c_19, if_pos c_49]) dX2_findRow_80
    · exact absurd c_29 c_19
  · skip
    refine lv_iload_n hx hb dX2_findRow_22 rfl (lv_at hl 0 rfl) ?_
    refine lv_if_ne (tgt := 28) hx hb dX2_findRow_23 (by decide) (fun c_23 => ?_) (fun c_23 => ?_)
    · skip
      refine lv_iload_n hx hb dX2_findRow_28 rfl (lv_at hl 1 rfl) ?_
      refine lv_if_ne (tgt := 48) hx hb dX2_findRow_29 (by decide) (fun c_29 => ?_) (fun c_29 => ?_)
      · exact absurd c_19 c_29
      · skip
        refine lv_aload_n hx hb dX2_findRow_32 rfl (lv_at hl 2 rfl) ?_
        refine lv_aload_n hx hb dX2_findRow_33 rfl (lv_at hl 2 rfl) ?_
        refine va_get (D := (dC, dI)) (ci := 2) (v := .ref qs0) (C := RX2) (T := TX2) (N := 13) hx hb hts (by decide +kernel) hown hK hP 0 rfl rfl 1 (by decide) (hts (.fieldLink RX2 27 "HouseLog" "copy0" "LHouseLog$Sectors;") (by decide +kernel)) (fun _ h9 => h9) rfl dX2_findRow_34 ?_
        refine lv_aload_n hx hb dX2_findRow_37 rfl (lv_at hl 2 rfl) ?_
        refine va_get (D := (dC, dI)) (ci := 2) (v := .ref qs1) (C := RX2) (T := TX2) (N := 13) hx hb hts (by decide +kernel) hown hK hP 0 rfl rfl 2 (by decide) (hts (.fieldLink RX2 31 "HouseLog" "copy1" "LHouseLog$Sectors;") (by decide +kernel)) (fun _ h9 => h9) rfl dX2_findRow_38 ?_
        refine lv_iload_n hx hb dX2_findRow_41 rfl (lv_at hl 3 rfl) ?_
        refine hc_vV (As := [.ref qs0, .ref qs1, .int (nI k)]) (rest := []) (wr := [(qsm, .inr (1, [.ref qbm])), (qbm, .inr (0, [.ref qam])), (qam, .inl (cBm, N, .inl mm))]) ⟨hx, hb, hml, hown, hts⟩ sx_T trivial (kX2_mend l dC dI H.size qh qs0 qs1 qsm qbc qs0 qb0 qa0 qs1 qb1 qa1 cB0 cB1 n c0 N c1 cb rw ak dn ct tn md wr k (hN) (hk)) (cwV 3 hts gX2_findRow_X2_mend rfl rfl rfl (by decide +kernel) ⟨Nat.le_of_ble_eq_true rfl, Nat.le_of_ble_eq_true rfl⟩) hK hP hD hS hA [0, 1, 2, 3, 4, 5, 6] [7, 8, 9] [0, 1] rfl rfl rfl rfl rfl (by decide) (ci := 2) rfl rfl rfl rfl hl.1 rfl (Nat.le_of_ble_eq_true rfl) dX2_findRow_42 ⟨Nat.zero_le _, Nat.zero_le _⟩ (fun H locs hP hD hS => ?_)
        have hP : va_P (dC, dI) hlCl [(qh, .inr (2, [.int (nI n), .ref qs0, .ref qs1, .ref qsm, .ref qbc, .int cb, .int rw, .int ak, .int dn, .int ct, .int tn, .int (md + 1), .int wr])), (qs0, .inr (1, [.ref qb0])), (qb0, .inr (0, [.ref qa0])), (qa0, .inl (cB0, N, .inl (tkB c0 N c1 (k * 64) 64))), (qs1, .inr (1, [.ref qb1])), (qb1, .inr (0, [.ref qa1])), (qa1, .inl (cB1, N, .inl c1)), (qsm, .inr (1, [.ref qbm])), (qbm, .inr (0, [.ref qam])), (qam, .inl (cBm, N, .inl mm))] H := hP.sub [3, 4, 5, 6, 7, 8, 9, 0, 1, 2] rfl
        have hD : va_D A [(qh, .inr (2, [.int (nI n), .ref qs0, .ref qs1, .ref qsm, .ref qbc, .int cb, .int rw, .int ak, .int dn, .int ct, .int tn, .int (md + 1), .int wr])), (qs0, .inr (1, [.ref qb0])), (qb0, .inr (0, [.ref qa0])), (qa0, .inl (cB0, N, .inl (tkB c0 N c1 (k * 64) 64))), (qs1, .inr (1, [.ref qb1])), (qb1, .inr (0, [.ref qa1])), (qa1, .inl (cB1, N, .inl c1)), (qsm, .inr (1, [.ref qbm])), (qbm, .inr (0, [.ref qam])), (qam, .inl (cBm, N, .inl mm))] := hD.sub [3, 4, 5, 6, 7, 8, 9, 0, 1, 2] (by decide) rfl
        refine lv_goto (tgt := 65) hx hb dX2_findRow_45 (by decide) ?_
        refine lv_aload_n hx hb dX2_findRow_65 rfl (lv_at hl 2 rfl) ?_
        refine va_get (D := (dC, dI)) (ci := 2) (v := .ref qsm) (C := RX2) (T := TX2) (N := 13) hx hb hts (by decide +kernel) hown hK hP 0 rfl rfl 3 (by decide) (hts (.fieldLink RX2 34 "HouseLog" "memory" "LHouseLog$Sectors;") (by decide +kernel)) (fun _ h9 => h9) rfl dX2_findRow_66 ?_
        refine lv_aload_n hx hb dX2_findRow_69 rfl (lv_at hl 2 rfl) ?_
        refine va_get (D := (dC, dI)) (ci := 2) (v := .ref qs0) (C := RX2) (T := TX2) (N := 13) hx hb hts (by decide +kernel) hown hK hP 0 rfl rfl 1 (by decide) (hts (.fieldLink RX2 27 "HouseLog" "copy0" "LHouseLog$Sectors;") (by decide +kernel)) (fun _ h9 => h9) rfl dX2_findRow_70 ?_
        refine lv_iload_n hx hb dX2_findRow_73 rfl (lv_at hl 3 rfl) ?_
        refine lv_bipush (v := 64) hx hb dX2_findRow_74 (by decide) ?_
        refine hc_vV (As := [.ref qs0, .int (nI k), .int 64]) (rest := []) (wr := [(qh, .inr (2, [.int (nI n), .ref qs0, .ref qs1, .ref qsm, .ref qbc, .int cb, .int rw, .int ak, .int dn, .int ct, .int tn, .int (md + 1), .int wr])), (qs1, .inr (1, [.ref qb1])), (qb1, .inr (0, [.ref qa1])), (qa1, .inl (cB1, N, .inl c1))]) ⟨hx, hb, hml, hown, hts⟩ sx_T trivial (kX1_take l dC dI H.size qsm qbm qam qs0 qb0 qa0 cBm cB0 mm N (tkB c0 N c1 (k * 64) 64) k 64 (hN) (hk) (by decide)) (cwV 3 hts gX2_findRow_X1_take rfl rfl rfl (by decide +kernel) ⟨Nat.le_of_ble_eq_true rfl, Nat.le_of_ble_eq_true rfl⟩) hK hP hD hS hA [7, 8, 9, 1, 2, 3] [0, 4, 5, 6] [2, 0] rfl rfl rfl rfl rfl (by decide) (ci := 1) rfl rfl rfl rfl hl.1 rfl (Nat.le_of_ble_eq_true rfl) dX2_findRow_76 ⟨Nat.zero_le _, Nat.zero_le _⟩ (fun H locs hP hD hS => ?_)
        have hP : va_P (dC, dI) hlCl [(qh, .inr (2, [.int (nI n), .ref qs0, .ref qs1, .ref qsm, .ref qbc, .int cb, .int rw, .int ak, .int dn, .int ct, .int tn, .int (md + 1), .int wr])), (qs0, .inr (1, [.ref qb0])), (qb0, .inr (0, [.ref qa0])), (qa0, .inl (cB0, N, .inl (tkB c0 N c1 (k * 64) 64))), (qs1, .inr (1, [.ref qb1])), (qb1, .inr (0, [.ref qa1])), (qa1, .inl (cB1, N, .inl c1)), (qsm, .inr (1, [.ref qbm])), (qbm, .inr (0, [.ref qam])), (qam, .inl (cBm, N, .inl (tkB mm N (tkB c0 N c1 (k * 64) 64) (k * 64) 64)))] H := hP.sub [0, 7, 8, 9, 1, 2, 3, 4, 5, 6] rfl
        have hD : va_D A [(qh, .inr (2, [.int (nI n), .ref qs0, .ref qs1, .ref qsm, .ref qbc, .int cb, .int rw, .int ak, .int dn, .int ct, .int tn, .int (md + 1), .int wr])), (qs0, .inr (1, [.ref qb0])), (qb0, .inr (0, [.ref qa0])), (qa0, .inl (cB0, N, .inl (tkB c0 N c1 (k * 64) 64))), (qs1, .inr (1, [.ref qb1])), (qb1, .inr (0, [.ref qa1])), (qa1, .inl (cB1, N, .inl c1)), (qsm, .inr (1, [.ref qbm])), (qbm, .inr (0, [.ref qam])), (qam, .inl (cBm, N, .inl (tkB mm N (tkB c0 N c1 (k * 64) 64) (k * 64) 64)))] := hD.sub [0, 7, 8, 9, 1, 2, 3, 4, 5, 6] (by decide) rfl
        refine lv_iconst (v := 1) hx hb dX2_findRow_79 (by decide) ?_
        exact hr_z (v := 1) hx hb hr hlocks (by decide) (w1 := [(qh, .inr (2, [.int (nI n), .ref qs0, .ref qs1, .ref qsm, .ref qbc, .int cb, .int rw, .int ak, .int dn, .int ct, .int tn, .int (md + 1), .int wr])), (qs0, .inr (1, [.ref qb0])), (qb0, .inr (0, [.ref qa0])), (qa0, .inl (cB0, N, .inl (tkB c0 N c1 (k * 64) 64))), (qs1, .inr (1, [.ref qb1])), (qb1, .inr (0, [.ref qa1])), (qa1, .inl (cB1, N, .inl c1)), (qsm, .inr (1, [.ref qbm])), (qbm, .inr (0, [.ref qam])), (qam, .inl (cBm, N, .inl (tkB mm N (tkB c0 N c1 (k * 64) 64) (k * 64) 64)))]) hP hD hK hS [0, 1, 2, 3, 4, 5, 6, 7, 8, 9] [0, 1, 2] rfl rfl rfl (by unfold frI; rw [if_pos c_19, if_neg c_23]) (by simp only [fr0, fr1, frm, frd, if_pos c_19, if_neg c_23]) dX2_findRow_80
    · skip
      refine lv_iconst (v := 0) hx hb dX2_findRow_26 (by decide) ?_
      exact hr_z (v := 0) hx hb hr hlocks (by decide) (w1 := [(qh, .inr (2, [.int (nI n), .ref qs0, .ref qs1, .ref qsm, .ref qbc, .int cb, .int rw, .int ak, .int dn, .int ct, .int tn, .int md, .int wr])), (qs0, .inr (1, [.ref qb0])), (qb0, .inr (0, [.ref qa0])), (qa0, .inl (cB0, N, .inl c0)), (qs1, .inr (1, [.ref qb1])), (qb1, .inr (0, [.ref qa1])), (qa1, .inl (cB1, N, .inl c1)), (qsm, .inr (1, [.ref qbm])), (qbm, .inr (0, [.ref qam])), (qam, .inl (cBm, N, .inl mm))]) hP hD hK hS [0, 1, 2, 3, 4, 5, 6, 7, 8, 9] [0, 1, 2] rfl rfl rfl (by unfold frI; rw [if_pos c_19, if_pos c_23]) (by simp only [fr0, fr1, frm, frd, if_pos c_19, if_pos c_23]) dX2_findRow_27
end
section
theorem frz_ {c0 c1 mm : Nat → Int32} {N k : Nat} {md : Int32} (h : frI c0 c1 N k = 0) : fr0 c0 c1 N k = c0 ∧ fr1 c0 c1 N k = c1 ∧ frm c0 c1 mm N k = mm ∧ frd c0 c1 N k md = md := by
  unfold frI at h
  unfold fr0 fr1 frm frd
  by_cases h0 : rtI c0 N k = 0
  · by_cases h1 : rtI c1 N k = 0
    · simp [h0, h1]
    · simp [h0, h1] at h
  · simp [h0] at h
def stS (N : Nat) (c0 c1 mm : Nat → Int32) : Nat → (Nat → Int32) × (Nat → Int32) × (Nat → Int32) × Int32
  | 0 => (c0, c1, mm, 0)
  | i + 1 => (fr0 (stS N c0 c1 mm i).1 (stS N c0 c1 mm i).2.1 N i, fr1 (stS N c0 c1 mm i).1 (stS N c0 c1 mm i).2.1 N i, frm (stS N c0 c1 mm i).1 (stS N c0 c1 mm i).2.1 (stS N c0 c1 mm i).2.2.1 N i, frd (stS N c0 c1 mm i).1 (stS N c0 c1 mm i).2.1 N i (stS N c0 c1 mm i).2.2.2)
def stR (N : Nat) (c0 c1 mm : Nat → Int32) : Nat → Nat → Nat
  | 0, i => i
  | k + 1, i => if frI (stS N c0 c1 mm i).1 (stS N c0 c1 mm i).2.1 N i = 0 then i else stR N c0 c1 mm k (i + 1)

set_option maxHeartbeats 4000000 in
set_option maxRecDepth 100000 in
theorem kX2_start (l : Launch) (dC : Nat → ClassId) (dI : Nat → Nat → Nat) (sz : Nat) (qh qs0 qb0 qa0 qs1 qb1 qa1 qsm qbm qam qbc : Nat) (cB0 cB1 cBm : ClassId) (n : Nat) (c0 c1 mm : Nat → Int32) (N : Nat) (cb rw ak dn ct tn md wr : Int32) (hN : N < 2 ^ 31) (hn : n ≤ 64) : Mi_ l yX2_start wsX2_start 6 128 dC dI zN [.ref qh] [(qh, .inr (2, [.int (nI n), .ref qs0, .ref qs1, .ref qsm, .ref qbc, .int cb, .int rw, .int ak, .int dn, .int ct, .int tn, .int md, .int wr])), (qs0, .inr (1, [.ref qb0])), (qb0, .inr (0, [.ref qa0])), (qa0, .inl (cB0, N, .inl c0)), (qs1, .inr (1, [.ref qb1])), (qb1, .inr (0, [.ref qa1])), (qa1, .inl (cB1, N, .inl c1)), (qsm, .inr (1, [.ref qbm])), (qbm, .inr (0, [.ref qam])), (qam, .inl (cBm, N, .inl mm))] [(cB0, .byte), (cB1, .byte), (cBm, .byte)] sz (nI (stR N c0 c1 mm n 0)) [(qh, .inr (2, [.int (nI n), .ref qs0, .ref qs1, .ref qsm, .ref qbc, .int cb, .int (nI (stR N c0 c1 mm n 0)), .int (nI (stR N c0 c1 mm n 0)), .int 0, .int ct, .int tn, .int ((stS N c0 c1 mm (stR N c0 c1 mm n 0)).2.2.2), .int wr])), (qs0, .inr (1, [.ref qb0])), (qb0, .inr (0, [.ref qa0])), (qa0, .inl (cB0, N, .inl ((stS N c0 c1 mm (stR N c0 c1 mm n 0)).1))), (qs1, .inr (1, [.ref qb1])), (qb1, .inr (0, [.ref qa1])), (qa1, .inl (cB1, N, .inl ((stS N c0 c1 mm (stR N c0 c1 mm n 0)).2.1))), (qsm, .inr (1, [.ref qbm])), (qbm, .inr (0, [.ref qam])), (qam, .inl (cBm, N, .inl ((stS N c0 c1 mm (stR N c0 c1 mm n 0)).2.2.1)))] := by
  refine hm_ (cc := cX2_start) (maxL := 1) (ret := (some .int)) (Qc := fun A => va_Qi (fun (r9 : Int32) (_ : Unit) => r9 = nI (stR N c0 c1 mm n 0)) (fun _ t9 => qw_ dC dI A [(qh, .inr (2, [.int (nI n), .ref qs0, .ref qs1, .ref qsm, .ref qbc, .int cb, .int (nI (stR N c0 c1 mm n 0)), .int (nI (stR N c0 c1 mm n 0)), .int 0, .int ct, .int tn, .int ((stS N c0 c1 mm (stR N c0 c1 mm n 0)).2.2.2), .int wr])), (qs0, .inr (1, [.ref qb0])), (qb0, .inr (0, [.ref qa0])), (qa0, .inl (cB0, N, .inl ((stS N c0 c1 mm (stR N c0 c1 mm n 0)).1))), (qs1, .inr (1, [.ref qb1])), (qb1, .inr (0, [.ref qa1])), (qa1, .inl (cB1, N, .inl ((stS N c0 c1 mm (stR N c0 c1 mm n 0)).2.1))), (qsm, .inr (1, [.ref qbm])), (qbm, .inr (0, [.ref qam])), (qam, .inl (cBm, N, .inl ((stS N c0 c1 mm (stR N c0 c1 mm n 0)).2.2.1)))] [(cB0, .byte), (cB1, .byte), (cBm, .byte)] t9) A) (by decide) rfl (Nat.le_of_ble_eq_true rfl) ?_
  intro p e s m below meth c A H locs ls hx hb hr hml hts hown hlocks hsz hP hK hD hE hA hS hl
  have hl : lv_has ls 1 [(0, .ref qh)] := hl
  have hown : s.vm.findClass RX2 = some m.cls := hown
  have loop : ∀ (k0 : Nat) (i : Nat) (H : Heap) (locs : List Loc) (ls : Array Slot), (i + k0 = n) → (stR N c0 c1 mm k0 i = (stR N c0 c1 mm n 0)) → va_P (dC, dI) hlCl [(qh, .inr (2, [.int (nI n), .ref qs0, .ref qs1, .ref qsm, .ref qbc, .int cb, .int (nI i), .int ak, .int dn, .int ct, .int tn, .int ((stS N c0 c1 mm i).2.2.2), .int wr])), (qs0, .inr (1, [.ref qb0])), (qb0, .inr (0, [.ref qa0])), (qa0, .inl (cB0, N, .inl ((stS N c0 c1 mm i).1))), (qs1, .inr (1, [.ref qb1])), (qb1, .inr (0, [.ref qa1])), (qa1, .inl (cB1, N, .inl ((stS N c0 c1 mm i).2.1))), (qsm, .inr (1, [.ref qbm])), (qbm, .inr (0, [.ref qam])), (qam, .inl (cBm, N, .inl ((stS N c0 c1 mm i).2.2.1)))] H → va_D A [(qh, .inr (2, [.int (nI n), .ref qs0, .ref qs1, .ref qsm, .ref qbc, .int cb, .int (nI i), .int ak, .int dn, .int ct, .int tn, .int ((stS N c0 c1 mm i).2.2.2), .int wr])), (qs0, .inr (1, [.ref qb0])), (qb0, .inr (0, [.ref qa0])), (qa0, .inl (cB0, N, .inl ((stS N c0 c1 mm i).1))), (qs1, .inr (1, [.ref qb1])), (qb1, .inr (0, [.ref qa1])), (qa1, .inl (cB1, N, .inl ((stS N c0 c1 mm i).2.1))), (qsm, .inr (1, [.ref qbm])), (qbm, .inr (0, [.ref qam])), (qam, .inl (cBm, N, .inl ((stS N c0 c1 mm i).2.2.1)))] → va_S A s.heap H locs → lv_has ls 1 [(0, .ref qh)] → W p l e (rm_ 6 128) s m [.ref qh].toArray below meth c H locs 0 0 (MQ below ((fun A => va_Qi (fun (r9 : Int32) (_ : Unit) => r9 = nI (stR N c0 c1 mm n 0)) (fun _ t9 => qw_ dC dI A [(qh, .inr (2, [.int (nI n), .ref qs0, .ref qs1, .ref qsm, .ref qbc, .int cb, .int (nI (stR N c0 c1 mm n 0)), .int (nI (stR N c0 c1 mm n 0)), .int 0, .int ct, .int tn, .int ((stS N c0 c1 mm (stR N c0 c1 mm n 0)).2.2.2), .int wr])), (qs0, .inr (1, [.ref qb0])), (qb0, .inr (0, [.ref qa0])), (qa0, .inl (cB0, N, .inl ((stS N c0 c1 mm (stR N c0 c1 mm n 0)).1))), (qs1, .inr (1, [.ref qb1])), (qb1, .inr (0, [.ref qa1])), (qa1, .inl (cB1, N, .inl ((stS N c0 c1 mm (stR N c0 c1 mm n 0)).2.1))), (qsm, .inr (1, [.ref qbm])), (qbm, .inr (0, [.ref qam])), (qam, .inl (cBm, N, .inl ((stS N c0 c1 mm (stR N c0 c1 mm n 0)).2.2.1)))] [(cB0, .byte), (cB1, .byte), (cBm, .byte)] t9) A) A) [.ref qh].toArray s 0 0 A) (F0 m 10 ls []) := by
    intro k0
    induction k0 with
    | zero =>
      intro i H locs ls hi hR hP hD hS hl
      have hR2 : i = (stR N c0 c1 mm n 0) := hR
      refine lv_aload_n hx hb dX2_start_10 rfl (lv_at hl 0 rfl) ?_
      refine va_get (D := (dC, dI)) (ci := 2) (v := .int (nI i)) (C := RX2) (T := TX2) (N := 13) hx hb hts (by decide +kernel) hown hK hP 0 rfl rfl 6 (by decide) (hts (.fieldLink RX2 76 "HouseLog" "rows" "I") (by decide +kernel)) (fun _ h9 => h9) rfl dX2_start_11 ?_
      refine lv_aload_n hx hb dX2_start_14 rfl (lv_at hl 0 rfl) ?_
      refine va_get (D := (dC, dI)) (ci := 2) (v := .int (nI n)) (C := RX2) (T := TX2) (N := 13) hx hb hts (by decide +kernel) hown hK hP 0 rfl rfl 0 (by decide) (hts (.fieldLink RX2 18 "HouseLog" "sectors" "I") (by decide +kernel)) (fun _ h9 => h9) rfl dX2_start_15 ?_
      refine lv_icmp_ge (tgt := 45) hx hb dX2_start_18 (by decide) (fun c_18 => ?_) (fun c_18 => ?_)
      · skip
        refine lv_aload_n hx hb dX2_start_45 rfl (lv_at hl 0 rfl) ?_
        refine lv_aload_n hx hb dX2_start_46 rfl (lv_at hl 0 rfl) ?_
        refine va_get (D := (dC, dI)) (ci := 2) (v := .int (nI i)) (C := RX2) (T := TX2) (N := 13) hx hb hts (by decide +kernel) hown hK hP 0 rfl rfl 6 (by decide) (hts (.fieldLink RX2 76 "HouseLog" "rows" "I") (by decide +kernel)) (fun _ h9 => h9) rfl dX2_start_47 ?_
        refine va_put (D := (dC, dI)) (ci := 2) (v := .int (nI i)) (ty := .int) (C := RX2) (T := TX2) (N := 13) hx hb hts (by decide +kernel) tyX2 tyX2_ok nmX2 hown hK hP hD hS 0 rfl rfl 7 (by decide) (hts (.fieldLink RX2 83 "HouseLog" "acknowledged" "I") (by decide +kernel)) (fun _ h9 => h9) rfl (by decide +kernel) rfl rfl (Nat.le_of_ble_eq_true rfl) dX2_start_50 (fun H locs hP hD hS => ?_)
        have hP : va_P (dC, dI) hlCl [(qh, .inr (2, [.int (nI n), .ref qs0, .ref qs1, .ref qsm, .ref qbc, .int cb, .int (nI i), .int (nI i), .int dn, .int ct, .int tn, .int ((stS N c0 c1 mm i).2.2.2), .int wr])), (qs0, .inr (1, [.ref qb0])), (qb0, .inr (0, [.ref qa0])), (qa0, .inl (cB0, N, .inl ((stS N c0 c1 mm i).1))), (qs1, .inr (1, [.ref qb1])), (qb1, .inr (0, [.ref qa1])), (qa1, .inl (cB1, N, .inl ((stS N c0 c1 mm i).2.1))), (qsm, .inr (1, [.ref qbm])), (qbm, .inr (0, [.ref qam])), (qam, .inl (cBm, N, .inl ((stS N c0 c1 mm i).2.2.1)))] H := hP
        have hD : va_D A [(qh, .inr (2, [.int (nI n), .ref qs0, .ref qs1, .ref qsm, .ref qbc, .int cb, .int (nI i), .int (nI i), .int dn, .int ct, .int tn, .int ((stS N c0 c1 mm i).2.2.2), .int wr])), (qs0, .inr (1, [.ref qb0])), (qb0, .inr (0, [.ref qa0])), (qa0, .inl (cB0, N, .inl ((stS N c0 c1 mm i).1))), (qs1, .inr (1, [.ref qb1])), (qb1, .inr (0, [.ref qa1])), (qa1, .inl (cB1, N, .inl ((stS N c0 c1 mm i).2.1))), (qsm, .inr (1, [.ref qbm])), (qbm, .inr (0, [.ref qam])), (qam, .inl (cBm, N, .inl ((stS N c0 c1 mm i).2.2.1)))] := hD
        refine lv_aload_n hx hb dX2_start_53 rfl (lv_at hl 0 rfl) ?_
        refine lv_iconst (v := 0) hx hb dX2_start_54 (by decide) ?_
        refine va_put (D := (dC, dI)) (ci := 2) (v := .int 0) (ty := .boolean) (C := RX2) (T := TX2) (N := 13) hx hb hts (by decide +kernel) tyX2 tyX2_ok nmX2 hown hK hP hD hS 0 rfl rfl 8 (by decide) (hts (.fieldLink RX2 47 "HouseLog" "down" "Z") (by decide +kernel)) (fun _ h9 => h9) rfl (by decide +kernel) (by decide) (by decide) (Nat.le_of_ble_eq_true rfl) dX2_start_55 (fun H locs hP hD hS => ?_)
        have hP : va_P (dC, dI) hlCl [(qh, .inr (2, [.int (nI n), .ref qs0, .ref qs1, .ref qsm, .ref qbc, .int cb, .int (nI i), .int (nI i), .int 0, .int ct, .int tn, .int ((stS N c0 c1 mm i).2.2.2), .int wr])), (qs0, .inr (1, [.ref qb0])), (qb0, .inr (0, [.ref qa0])), (qa0, .inl (cB0, N, .inl ((stS N c0 c1 mm i).1))), (qs1, .inr (1, [.ref qb1])), (qb1, .inr (0, [.ref qa1])), (qa1, .inl (cB1, N, .inl ((stS N c0 c1 mm i).2.1))), (qsm, .inr (1, [.ref qbm])), (qbm, .inr (0, [.ref qam])), (qam, .inl (cBm, N, .inl ((stS N c0 c1 mm i).2.2.1)))] H := hP
        have hD : va_D A [(qh, .inr (2, [.int (nI n), .ref qs0, .ref qs1, .ref qsm, .ref qbc, .int cb, .int (nI i), .int (nI i), .int 0, .int ct, .int tn, .int ((stS N c0 c1 mm i).2.2.2), .int wr])), (qs0, .inr (1, [.ref qb0])), (qb0, .inr (0, [.ref qa0])), (qa0, .inl (cB0, N, .inl ((stS N c0 c1 mm i).1))), (qs1, .inr (1, [.ref qb1])), (qb1, .inr (0, [.ref qa1])), (qa1, .inl (cB1, N, .inl ((stS N c0 c1 mm i).2.1))), (qsm, .inr (1, [.ref qbm])), (qbm, .inr (0, [.ref qam])), (qam, .inl (cBm, N, .inl ((stS N c0 c1 mm i).2.2.1)))] := hD
        refine lv_aload_n hx hb dX2_start_58 rfl (lv_at hl 0 rfl) ?_
        refine va_get (D := (dC, dI)) (ci := 2) (v := .int (nI i)) (C := RX2) (T := TX2) (N := 13) hx hb hts (by decide +kernel) hown hK hP 0 rfl rfl 6 (by decide) (hts (.fieldLink RX2 76 "HouseLog" "rows" "I") (by decide +kernel)) (fun _ h9 => h9) rfl dX2_start_59 ?_
        exact hr_i (v := nI i) hx hb hr hlocks (w1 := [(qh, .inr (2, [.int (nI n), .ref qs0, .ref qs1, .ref qsm, .ref qbc, .int cb, .int (nI i), .int (nI i), .int 0, .int ct, .int tn, .int ((stS N c0 c1 mm i).2.2.2), .int wr])), (qs0, .inr (1, [.ref qb0])), (qb0, .inr (0, [.ref qa0])), (qa0, .inl (cB0, N, .inl ((stS N c0 c1 mm i).1))), (qs1, .inr (1, [.ref qb1])), (qb1, .inr (0, [.ref qa1])), (qa1, .inl (cB1, N, .inl ((stS N c0 c1 mm i).2.1))), (qsm, .inr (1, [.ref qbm])), (qbm, .inr (0, [.ref qam])), (qam, .inl (cBm, N, .inl ((stS N c0 c1 mm i).2.2.1)))]) hP hD hK hS [0, 1, 2, 3, 4, 5, 6, 7, 8, 9] [0, 1, 2] rfl rfl rfl (by rw [← hR2]) (by rw [← hR2]) dX2_start_62
      · exact absurd (nI_le (show n ≤ i by omega) (by omega)) c_18
    | succ k0 ih =>
      intro i H locs ls hi hR hP hD hS hl
      refine lv_aload_n hx hb dX2_start_10 rfl (lv_at hl 0 rfl) ?_
      refine va_get (D := (dC, dI)) (ci := 2) (v := .int (nI i)) (C := RX2) (T := TX2) (N := 13) hx hb hts (by decide +kernel) hown hK hP 0 rfl rfl 6 (by decide) (hts (.fieldLink RX2 76 "HouseLog" "rows" "I") (by decide +kernel)) (fun _ h9 => h9) rfl dX2_start_11 ?_
      refine lv_aload_n hx hb dX2_start_14 rfl (lv_at hl 0 rfl) ?_
      refine va_get (D := (dC, dI)) (ci := 2) (v := .int (nI n)) (C := RX2) (T := TX2) (N := 13) hx hb hts (by decide +kernel) hown hK hP 0 rfl rfl 0 (by decide) (hts (.fieldLink RX2 18 "HouseLog" "sectors" "I") (by decide +kernel)) (fun _ h9 => h9) rfl dX2_start_15 ?_
      refine lv_icmp_ge (tgt := 45) hx hb dX2_start_18 (by decide) (fun c_18 => ?_) (fun c_18 => ?_)
      · exact absurd c_18 (nI_ge (show i < n by omega) (by omega))
      · skip
        refine lv_aload_n hx hb dX2_start_21 rfl (lv_at hl 0 rfl) ?_
        refine lv_aload_n hx hb dX2_start_22 rfl (lv_at hl 0 rfl) ?_
        refine va_get (D := (dC, dI)) (ci := 2) (v := .int (nI i)) (C := RX2) (T := TX2) (N := 13) hx hb hts (by decide +kernel) hown hK hP 0 rfl rfl 6 (by decide) (hts (.fieldLink RX2 76 "HouseLog" "rows" "I") (by decide +kernel)) (fun _ h9 => h9) rfl dX2_start_23 ?_
        refine hc_iV (As := [.int (nI i)]) (rest := []) (wr := []) ⟨hx, hb, hml, hown, hts⟩ sx_N hE (kX2_findRow l dC dI H.size qh qs0 qb0 qa0 qs1 qb1 qa1 qsm qbm qam qbc cB0 cB1 cBm n ((stS N c0 c1 mm i).1) ((stS N c0 c1 mm i).2.1) ((stS N c0 c1 mm i).2.2.1) N cb (nI i) ak dn ct tn ((stS N c0 c1 mm i).2.2.2) wr i (hN) (by omega)) (cwV 1 hts gX2_start_X2_findRow rfl rfl rfl (by decide +kernel) ⟨Nat.le_of_ble_eq_true rfl, Nat.le_of_ble_eq_true rfl⟩) hK hP hD hS hA [0, 1, 2, 3, 4, 5, 6, 7, 8, 9] [] [0, 1, 2] rfl rfl rfl rfl rfl (by decide) (ci := 2) rfl rfl rfl rfl hl.1 rfl (Nat.le_of_ble_eq_true rfl) dX2_start_26 ⟨Nat.zero_le _, Nat.zero_le _⟩ (fun H locs hP hD hS => ?_)
        have hP : va_P (dC, dI) hlCl [(qh, .inr (2, [.int (nI n), .ref qs0, .ref qs1, .ref qsm, .ref qbc, .int cb, .int (nI i), .int ak, .int dn, .int ct, .int tn, .int (frd ((stS N c0 c1 mm i).1) ((stS N c0 c1 mm i).2.1) N i ((stS N c0 c1 mm i).2.2.2)), .int wr])), (qs0, .inr (1, [.ref qb0])), (qb0, .inr (0, [.ref qa0])), (qa0, .inl (cB0, N, .inl (fr0 ((stS N c0 c1 mm i).1) ((stS N c0 c1 mm i).2.1) N i))), (qs1, .inr (1, [.ref qb1])), (qb1, .inr (0, [.ref qa1])), (qa1, .inl (cB1, N, .inl (fr1 ((stS N c0 c1 mm i).1) ((stS N c0 c1 mm i).2.1) N i))), (qsm, .inr (1, [.ref qbm])), (qbm, .inr (0, [.ref qam])), (qam, .inl (cBm, N, .inl (frm ((stS N c0 c1 mm i).1) ((stS N c0 c1 mm i).2.1) ((stS N c0 c1 mm i).2.2.1) N i)))] H := hP
        have hD : va_D A [(qh, .inr (2, [.int (nI n), .ref qs0, .ref qs1, .ref qsm, .ref qbc, .int cb, .int (nI i), .int ak, .int dn, .int ct, .int tn, .int (frd ((stS N c0 c1 mm i).1) ((stS N c0 c1 mm i).2.1) N i ((stS N c0 c1 mm i).2.2.2)), .int wr])), (qs0, .inr (1, [.ref qb0])), (qb0, .inr (0, [.ref qa0])), (qa0, .inl (cB0, N, .inl (fr0 ((stS N c0 c1 mm i).1) ((stS N c0 c1 mm i).2.1) N i))), (qs1, .inr (1, [.ref qb1])), (qb1, .inr (0, [.ref qa1])), (qa1, .inl (cB1, N, .inl (fr1 ((stS N c0 c1 mm i).1) ((stS N c0 c1 mm i).2.1) N i))), (qsm, .inr (1, [.ref qbm])), (qbm, .inr (0, [.ref qam])), (qam, .inl (cBm, N, .inl (frm ((stS N c0 c1 mm i).1) ((stS N c0 c1 mm i).2.1) ((stS N c0 c1 mm i).2.2.1) N i)))] := hD
        refine lv_if_eq (tgt := 45) hx hb dX2_start_29 (by decide) (fun c_29 => ?_) (fun c_29 => ?_)
        · skip
          obtain ⟨e0, e1, em, ed⟩ := frz_ (mm := (stS N c0 c1 mm i).2.2.1) (md := (stS N c0 c1 mm i).2.2.2) c_29
          rw [e0, e1, em, ed] at hP hD
          have hR2 : i = (stR N c0 c1 mm n 0) := (if_pos c_29).symm.trans hR
          refine lv_aload_n hx hb dX2_start_45 rfl (lv_at hl 0 rfl) ?_
          refine lv_aload_n hx hb dX2_start_46 rfl (lv_at hl 0 rfl) ?_
          refine va_get (D := (dC, dI)) (ci := 2) (v := .int (nI i)) (C := RX2) (T := TX2) (N := 13) hx hb hts (by decide +kernel) hown hK hP 0 rfl rfl 6 (by decide) (hts (.fieldLink RX2 76 "HouseLog" "rows" "I") (by decide +kernel)) (fun _ h9 => h9) rfl dX2_start_47 ?_
          refine va_put (D := (dC, dI)) (ci := 2) (v := .int (nI i)) (ty := .int) (C := RX2) (T := TX2) (N := 13) hx hb hts (by decide +kernel) tyX2 tyX2_ok nmX2 hown hK hP hD hS 0 rfl rfl 7 (by decide) (hts (.fieldLink RX2 83 "HouseLog" "acknowledged" "I") (by decide +kernel)) (fun _ h9 => h9) rfl (by decide +kernel) rfl rfl (Nat.le_of_ble_eq_true rfl) dX2_start_50 (fun H locs hP hD hS => ?_)
          have hP : va_P (dC, dI) hlCl [(qh, .inr (2, [.int (nI n), .ref qs0, .ref qs1, .ref qsm, .ref qbc, .int cb, .int (nI i), .int (nI i), .int dn, .int ct, .int tn, .int ((stS N c0 c1 mm i).2.2.2), .int wr])), (qs0, .inr (1, [.ref qb0])), (qb0, .inr (0, [.ref qa0])), (qa0, .inl (cB0, N, .inl ((stS N c0 c1 mm i).1))), (qs1, .inr (1, [.ref qb1])), (qb1, .inr (0, [.ref qa1])), (qa1, .inl (cB1, N, .inl ((stS N c0 c1 mm i).2.1))), (qsm, .inr (1, [.ref qbm])), (qbm, .inr (0, [.ref qam])), (qam, .inl (cBm, N, .inl ((stS N c0 c1 mm i).2.2.1)))] H := hP
          have hD : va_D A [(qh, .inr (2, [.int (nI n), .ref qs0, .ref qs1, .ref qsm, .ref qbc, .int cb, .int (nI i), .int (nI i), .int dn, .int ct, .int tn, .int ((stS N c0 c1 mm i).2.2.2), .int wr])), (qs0, .inr (1, [.ref qb0])), (qb0, .inr (0, [.ref qa0])), (qa0, .inl (cB0, N, .inl ((stS N c0 c1 mm i).1))), (qs1, .inr (1, [.ref qb1])), (qb1, .inr (0, [.ref qa1])), (qa1, .inl (cB1, N, .inl ((stS N c0 c1 mm i).2.1))), (qsm, .inr (1, [.ref qbm])), (qbm, .inr (0, [.ref qam])), (qam, .inl (cBm, N, .inl ((stS N c0 c1 mm i).2.2.1)))] := hD
          refine lv_aload_n hx hb dX2_start_53 rfl (lv_at hl 0 rfl) ?_
          refine lv_iconst (v := 0) hx hb dX2_start_54 (by decide) ?_
          refine va_put (D := (dC, dI)) (ci := 2) (v := .int 0) (ty := .boolean) (C := RX2) (T := TX2) (N := 13) hx hb hts (by decide +kernel) tyX2 tyX2_ok nmX2 hown hK hP hD hS 0 rfl rfl 8 (by decide) (hts (.fieldLink RX2 47 "HouseLog" "down" "Z") (by decide +kernel)) (fun _ h9 => h9) rfl (by decide +kernel) (by decide) (by decide) (Nat.le_of_ble_eq_true rfl) dX2_start_55 (fun H locs hP hD hS => ?_)
          have hP : va_P (dC, dI) hlCl [(qh, .inr (2, [.int (nI n), .ref qs0, .ref qs1, .ref qsm, .ref qbc, .int cb, .int (nI i), .int (nI i), .int 0, .int ct, .int tn, .int ((stS N c0 c1 mm i).2.2.2), .int wr])), (qs0, .inr (1, [.ref qb0])), (qb0, .inr (0, [.ref qa0])), (qa0, .inl (cB0, N, .inl ((stS N c0 c1 mm i).1))), (qs1, .inr (1, [.ref qb1])), (qb1, .inr (0, [.ref qa1])), (qa1, .inl (cB1, N, .inl ((stS N c0 c1 mm i).2.1))), (qsm, .inr (1, [.ref qbm])), (qbm, .inr (0, [.ref qam])), (qam, .inl (cBm, N, .inl ((stS N c0 c1 mm i).2.2.1)))] H := hP
          have hD : va_D A [(qh, .inr (2, [.int (nI n), .ref qs0, .ref qs1, .ref qsm, .ref qbc, .int cb, .int (nI i), .int (nI i), .int 0, .int ct, .int tn, .int ((stS N c0 c1 mm i).2.2.2), .int wr])), (qs0, .inr (1, [.ref qb0])), (qb0, .inr (0, [.ref qa0])), (qa0, .inl (cB0, N, .inl ((stS N c0 c1 mm i).1))), (qs1, .inr (1, [.ref qb1])), (qb1, .inr (0, [.ref qa1])), (qa1, .inl (cB1, N, .inl ((stS N c0 c1 mm i).2.1))), (qsm, .inr (1, [.ref qbm])), (qbm, .inr (0, [.ref qam])), (qam, .inl (cBm, N, .inl ((stS N c0 c1 mm i).2.2.1)))] := hD
          refine lv_aload_n hx hb dX2_start_58 rfl (lv_at hl 0 rfl) ?_
          refine va_get (D := (dC, dI)) (ci := 2) (v := .int (nI i)) (C := RX2) (T := TX2) (N := 13) hx hb hts (by decide +kernel) hown hK hP 0 rfl rfl 6 (by decide) (hts (.fieldLink RX2 76 "HouseLog" "rows" "I") (by decide +kernel)) (fun _ h9 => h9) rfl dX2_start_59 ?_
          exact hr_i (v := nI i) hx hb hr hlocks (w1 := [(qh, .inr (2, [.int (nI n), .ref qs0, .ref qs1, .ref qsm, .ref qbc, .int cb, .int (nI i), .int (nI i), .int 0, .int ct, .int tn, .int ((stS N c0 c1 mm i).2.2.2), .int wr])), (qs0, .inr (1, [.ref qb0])), (qb0, .inr (0, [.ref qa0])), (qa0, .inl (cB0, N, .inl ((stS N c0 c1 mm i).1))), (qs1, .inr (1, [.ref qb1])), (qb1, .inr (0, [.ref qa1])), (qa1, .inl (cB1, N, .inl ((stS N c0 c1 mm i).2.1))), (qsm, .inr (1, [.ref qbm])), (qbm, .inr (0, [.ref qam])), (qam, .inl (cBm, N, .inl ((stS N c0 c1 mm i).2.2.1)))]) hP hD hK hS [0, 1, 2, 3, 4, 5, 6, 7, 8, 9] [0, 1, 2] rfl rfl rfl (by rw [← hR2]) (by rw [← hR2]) dX2_start_62
        · skip
          refine lv_aload_n hx hb dX2_start_32 rfl (lv_at hl 0 rfl) ?_
          refine lv_dup hx hb dX2_start_33 rfl ?_
          refine va_get (D := (dC, dI)) (ci := 2) (v := .int (nI i)) (C := RX2) (T := TX2) (N := 13) hx hb hts (by decide +kernel) hown hK hP 0 rfl rfl 6 (by decide) (hts (.fieldLink RX2 76 "HouseLog" "rows" "I") (by decide +kernel)) (fun _ h9 => h9) rfl dX2_start_34 ?_
          refine lv_iconst (v := 1) hx hb dX2_start_37 (by decide) ?_
          refine lv_iadd hx hb dX2_start_38 ?_
          rw [nI_1 i]
          refine va_put (D := (dC, dI)) (ci := 2) (v := .int (nI (i + 1))) (ty := .int) (C := RX2) (T := TX2) (N := 13) hx hb hts (by decide +kernel) tyX2 tyX2_ok nmX2 hown hK hP hD hS 0 rfl rfl 6 (by decide) (hts (.fieldLink RX2 76 "HouseLog" "rows" "I") (by decide +kernel)) (fun _ h9 => h9) rfl (by decide +kernel) rfl rfl (Nat.le_of_ble_eq_true rfl) dX2_start_39 (fun H locs hP hD hS => ?_)
          have hP : va_P (dC, dI) hlCl [(qh, .inr (2, [.int (nI n), .ref qs0, .ref qs1, .ref qsm, .ref qbc, .int cb, .int (nI (i + 1)), .int ak, .int dn, .int ct, .int tn, .int (frd ((stS N c0 c1 mm i).1) ((stS N c0 c1 mm i).2.1) N i ((stS N c0 c1 mm i).2.2.2)), .int wr])), (qs0, .inr (1, [.ref qb0])), (qb0, .inr (0, [.ref qa0])), (qa0, .inl (cB0, N, .inl (fr0 ((stS N c0 c1 mm i).1) ((stS N c0 c1 mm i).2.1) N i))), (qs1, .inr (1, [.ref qb1])), (qb1, .inr (0, [.ref qa1])), (qa1, .inl (cB1, N, .inl (fr1 ((stS N c0 c1 mm i).1) ((stS N c0 c1 mm i).2.1) N i))), (qsm, .inr (1, [.ref qbm])), (qbm, .inr (0, [.ref qam])), (qam, .inl (cBm, N, .inl (frm ((stS N c0 c1 mm i).1) ((stS N c0 c1 mm i).2.1) ((stS N c0 c1 mm i).2.2.1) N i)))] H := hP
          have hD : va_D A [(qh, .inr (2, [.int (nI n), .ref qs0, .ref qs1, .ref qsm, .ref qbc, .int cb, .int (nI (i + 1)), .int ak, .int dn, .int ct, .int tn, .int (frd ((stS N c0 c1 mm i).1) ((stS N c0 c1 mm i).2.1) N i ((stS N c0 c1 mm i).2.2.2)), .int wr])), (qs0, .inr (1, [.ref qb0])), (qb0, .inr (0, [.ref qa0])), (qa0, .inl (cB0, N, .inl (fr0 ((stS N c0 c1 mm i).1) ((stS N c0 c1 mm i).2.1) N i))), (qs1, .inr (1, [.ref qb1])), (qb1, .inr (0, [.ref qa1])), (qa1, .inl (cB1, N, .inl (fr1 ((stS N c0 c1 mm i).1) ((stS N c0 c1 mm i).2.1) N i))), (qsm, .inr (1, [.ref qbm])), (qbm, .inr (0, [.ref qam])), (qam, .inl (cBm, N, .inl (frm ((stS N c0 c1 mm i).1) ((stS N c0 c1 mm i).2.1) ((stS N c0 c1 mm i).2.2.1) N i)))] := hD
          have hP : va_P (dC, dI) hlCl [(qh, .inr (2, [.int (nI n), .ref qs0, .ref qs1, .ref qsm, .ref qbc, .int cb, .int (nI (i + 1)), .int ak, .int dn, .int ct, .int tn, .int ((stS N c0 c1 mm (i + 1)).2.2.2), .int wr])), (qs0, .inr (1, [.ref qb0])), (qb0, .inr (0, [.ref qa0])), (qa0, .inl (cB0, N, .inl ((stS N c0 c1 mm (i + 1)).1))), (qs1, .inr (1, [.ref qb1])), (qb1, .inr (0, [.ref qa1])), (qa1, .inl (cB1, N, .inl ((stS N c0 c1 mm (i + 1)).2.1))), (qsm, .inr (1, [.ref qbm])), (qbm, .inr (0, [.ref qam])), (qam, .inl (cBm, N, .inl ((stS N c0 c1 mm (i + 1)).2.2.1)))] H := hP
          have hD : va_D A [(qh, .inr (2, [.int (nI n), .ref qs0, .ref qs1, .ref qsm, .ref qbc, .int cb, .int (nI (i + 1)), .int ak, .int dn, .int ct, .int tn, .int ((stS N c0 c1 mm (i + 1)).2.2.2), .int wr])), (qs0, .inr (1, [.ref qb0])), (qb0, .inr (0, [.ref qa0])), (qa0, .inl (cB0, N, .inl ((stS N c0 c1 mm (i + 1)).1))), (qs1, .inr (1, [.ref qb1])), (qb1, .inr (0, [.ref qa1])), (qa1, .inl (cB1, N, .inl ((stS N c0 c1 mm (i + 1)).2.1))), (qsm, .inr (1, [.ref qbm])), (qbm, .inr (0, [.ref qam])), (qam, .inl (cBm, N, .inl ((stS N c0 c1 mm (i + 1)).2.2.1)))] := hD
          refine lv_goto (tgt := 10) hx hb dX2_start_42 (by decide) ?_
          exact ih (i + 1) H locs ls (by omega) ((if_neg c_29).symm.trans hR) hP hD hS (lv_sub hl [0] rfl)
  refine lv_aload_n hx hb dX2_start_0 rfl (lv_at hl 0 rfl) ?_
  refine lv_iconst (v := 0) hx hb dX2_start_1 (by decide) ?_
  refine va_put (D := (dC, dI)) (ci := 2) (v := .int 0) (ty := .int) (C := RX2) (T := TX2) (N := 13) hx hb hts (by decide +kernel) tyX2 tyX2_ok nmX2 hown hK hP hD hS 0 rfl rfl 11 (by decide) (hts (.fieldLink RX2 96 "HouseLog" "mended" "I") (by decide +kernel)) (fun _ h9 => h9) rfl (by decide +kernel) rfl rfl (Nat.le_of_ble_eq_true rfl) dX2_start_2 (fun H locs hP hD hS => ?_)
  have hP : va_P (dC, dI) hlCl [(qh, .inr (2, [.int (nI n), .ref qs0, .ref qs1, .ref qsm, .ref qbc, .int cb, .int rw, .int ak, .int dn, .int ct, .int tn, .int 0, .int wr])), (qs0, .inr (1, [.ref qb0])), (qb0, .inr (0, [.ref qa0])), (qa0, .inl (cB0, N, .inl c0)), (qs1, .inr (1, [.ref qb1])), (qb1, .inr (0, [.ref qa1])), (qa1, .inl (cB1, N, .inl c1)), (qsm, .inr (1, [.ref qbm])), (qbm, .inr (0, [.ref qam])), (qam, .inl (cBm, N, .inl mm))] H := hP
  have hD : va_D A [(qh, .inr (2, [.int (nI n), .ref qs0, .ref qs1, .ref qsm, .ref qbc, .int cb, .int rw, .int ak, .int dn, .int ct, .int tn, .int 0, .int wr])), (qs0, .inr (1, [.ref qb0])), (qb0, .inr (0, [.ref qa0])), (qa0, .inl (cB0, N, .inl c0)), (qs1, .inr (1, [.ref qb1])), (qb1, .inr (0, [.ref qa1])), (qa1, .inl (cB1, N, .inl c1)), (qsm, .inr (1, [.ref qbm])), (qbm, .inr (0, [.ref qam])), (qam, .inl (cBm, N, .inl mm))] := hD
  refine lv_aload_n hx hb dX2_start_5 rfl (lv_at hl 0 rfl) ?_
  refine lv_iconst (v := 0) hx hb dX2_start_6 (by decide) ?_
  refine va_put (D := (dC, dI)) (ci := 2) (v := .int 0) (ty := .int) (C := RX2) (T := TX2) (N := 13) hx hb hts (by decide +kernel) tyX2 tyX2_ok nmX2 hown hK hP hD hS 0 rfl rfl 6 (by decide) (hts (.fieldLink RX2 76 "HouseLog" "rows" "I") (by decide +kernel)) (fun _ h9 => h9) rfl (by decide +kernel) rfl rfl (Nat.le_of_ble_eq_true rfl) dX2_start_7 (fun H locs hP hD hS => ?_)
  have hP : va_P (dC, dI) hlCl [(qh, .inr (2, [.int (nI n), .ref qs0, .ref qs1, .ref qsm, .ref qbc, .int cb, .int 0, .int ak, .int dn, .int ct, .int tn, .int 0, .int wr])), (qs0, .inr (1, [.ref qb0])), (qb0, .inr (0, [.ref qa0])), (qa0, .inl (cB0, N, .inl c0)), (qs1, .inr (1, [.ref qb1])), (qb1, .inr (0, [.ref qa1])), (qa1, .inl (cB1, N, .inl c1)), (qsm, .inr (1, [.ref qbm])), (qbm, .inr (0, [.ref qam])), (qam, .inl (cBm, N, .inl mm))] H := hP
  have hD : va_D A [(qh, .inr (2, [.int (nI n), .ref qs0, .ref qs1, .ref qsm, .ref qbc, .int cb, .int 0, .int ak, .int dn, .int ct, .int tn, .int 0, .int wr])), (qs0, .inr (1, [.ref qb0])), (qb0, .inr (0, [.ref qa0])), (qa0, .inl (cB0, N, .inl c0)), (qs1, .inr (1, [.ref qb1])), (qb1, .inr (0, [.ref qa1])), (qa1, .inl (cB1, N, .inl c1)), (qsm, .inr (1, [.ref qbm])), (qbm, .inr (0, [.ref qam])), (qam, .inl (cBm, N, .inl mm))] := hD
  exact loop n 0 H locs ls (by omega) (rfl) hP hD hS (lv_sub hl [0] rfl)

def pk0 (c0 : Nat → Int32) (N n : Nat) (x i mk : Int32) : Nat → Int32 := if icI x = 0 then c0 else if ipI n i = 0 then c0 else if mk < 1 then c0 else if mk ≤ 255 then (if x = 0 then sB c0 N i (gB c0 N i ^^^ mk) else c0) else c0
def pk1 (c1 : Nat → Int32) (N n : Nat) (x i mk : Int32) : Nat → Int32 := if icI x = 0 then c1 else if ipI n i = 0 then c1 else if mk < 1 then c1 else if mk ≤ 255 then (if x = 0 then c1 else sB c1 N i (gB c1 N i ^^^ mk)) else c1

def pkI (n : Nat) (x i mk : Int32) : Int32 := (if (icI x) = 0 then 0 else (if (ipI n i) = 0 then 0 else (if mk < 1 then 0 else (if mk ≤ 255 then (if x = 0 then 1 else 1) else 0))))
set_option maxHeartbeats 4000000 in
set_option maxRecDepth 100000 in
theorem kX2_poke (l : Launch) (dC : Nat → ClassId) (dI : Nat → Nat → Nat) (sz : Nat) (qh qs0 qb0 qa0 qs1 qb1 qa1 qsm qbc : Nat) (cB0 cB1 : ClassId) (n : Nat) (c0 c1 : Nat → Int32) (N : Nat) (cb rw ak dn ct tn md wr : Int32) (x i mk : Int32) (hN : N < 2 ^ 31) : Mi_ l yX2_poke wsX2_poke 1 22 dC dI zN [.ref qh, .int x, .int i, .int mk] [(qh, .inr (2, [.int (nI n), .ref qs0, .ref qs1, .ref qsm, .ref qbc, .int cb, .int rw, .int ak, .int dn, .int ct, .int tn, .int md, .int wr])), (qs0, .inr (1, [.ref qb0])), (qb0, .inr (0, [.ref qa0])), (qa0, .inl (cB0, N, .inl c0)), (qs1, .inr (1, [.ref qb1])), (qb1, .inr (0, [.ref qa1])), (qa1, .inl (cB1, N, .inl c1))] [(cB0, .byte), (cB1, .byte)] sz (pkI n x i mk) [(qh, .inr (2, [.int (nI n), .ref qs0, .ref qs1, .ref qsm, .ref qbc, .int cb, .int rw, .int ak, .int dn, .int ct, .int tn, .int md, .int wr])), (qs0, .inr (1, [.ref qb0])), (qb0, .inr (0, [.ref qa0])), (qa0, .inl (cB0, N, .inl (pk0 c0 N n x i mk))), (qs1, .inr (1, [.ref qb1])), (qb1, .inr (0, [.ref qa1])), (qa1, .inl (cB1, N, .inl (pk1 c1 N n x i mk)))] := by
  refine hm_ (cc := cX2_poke) (maxL := 5) (ret := (some .boolean)) (Qc := fun A => va_Qi (fun (r9 : Int32) (_ : Unit) => r9 = pkI n x i mk) (fun _ t9 => qw_ dC dI A [(qh, .inr (2, [.int (nI n), .ref qs0, .ref qs1, .ref qsm, .ref qbc, .int cb, .int rw, .int ak, .int dn, .int ct, .int tn, .int md, .int wr])), (qs0, .inr (1, [.ref qb0])), (qb0, .inr (0, [.ref qa0])), (qa0, .inl (cB0, N, .inl (pk0 c0 N n x i mk))), (qs1, .inr (1, [.ref qb1])), (qb1, .inr (0, [.ref qa1])), (qa1, .inl (cB1, N, .inl (pk1 c1 N n x i mk)))] [(cB0, .byte), (cB1, .byte)] t9) A) (by decide) rfl (Nat.le_of_ble_eq_true rfl) ?_
  intro p e s m below meth c A H locs ls hx hb hr hml hts hown hlocks hsz hP hK hD hE hA hS hl
  have hl : lv_has ls 5 [(0, .ref qh), (1, .int x), (2, .int i), (3, .int mk)] := hl
  have hown : s.vm.findClass RX2 = some m.cls := hown
  refine lv_iload_n hx hb dX2_poke_0 rfl (lv_at hl 1 rfl) ?_
  refine hc_iS (As := [.int x]) (rest := []) ⟨hx, hb, hml, hown, hts⟩ sx_T trivial (kX2_isCopy l dC dI H.size x ) (va_cwS 1 hts gX2_poke_X2_isCopy rfl rfl rfl (by decide +kernel) ⟨Nat.le_of_ble_eq_true rfl, Nat.le_of_ble_eq_true rfl⟩) hK hP hD hS hA [0, 1, 2, 3, 4, 5, 6] rfl rfl rfl hl.1 rfl (Nat.le_of_ble_eq_true rfl) dX2_poke_1 ⟨Nat.zero_le _, Nat.zero_le _⟩ (fun H locs hP hD hS => ?_)
  refine lv_if_eq (tgt := 27) hx hb dX2_poke_4 (by decide) (fun c_4 => ?_) (fun c_4 => ?_)
  · skip
    refine lv_iconst (v := 0) hx hb dX2_poke_27 (by decide) ?_
    exact hr_z (v := 0) hx hb hr hlocks (by decide) (w1 := [(qh, .inr (2, [.int (nI n), .ref qs0, .ref qs1, .ref qsm, .ref qbc, .int cb, .int rw, .int ak, .int dn, .int ct, .int tn, .int md, .int wr])), (qs0, .inr (1, [.ref qb0])), (qb0, .inr (0, [.ref qa0])), (qa0, .inl (cB0, N, .inl c0)), (qs1, .inr (1, [.ref qb1])), (qb1, .inr (0, [.ref qa1])), (qa1, .inl (cB1, N, .inl c1))]) hP hD hK hS [0, 1, 2, 3, 4, 5, 6] [0, 1] rfl rfl rfl (by unfold pkI; rw [if_pos c_4]) (by simp only [pk0, pk1, if_pos c_4]) dX2_poke_28
  · skip
    refine lv_aload_n hx hb dX2_poke_7 rfl (lv_at hl 0 rfl) ?_
    refine lv_iload_n hx hb dX2_poke_8 rfl (lv_at hl 2 rfl) ?_
    refine hc_iV (As := [.int i]) (rest := []) (wr := [(qs0, .inr (1, [.ref qb0])), (qb0, .inr (0, [.ref qa0])), (qa0, .inl (cB0, N, .inl c0)), (qs1, .inr (1, [.ref qb1])), (qb1, .inr (0, [.ref qa1])), (qa1, .inl (cB1, N, .inl c1))]) ⟨hx, hb, hml, hown, hts⟩ sx_T trivial (kX2_isPlace l dC dI H.size qh qs0 qs1 qsm qbc n cb rw ak dn ct tn md wr i ) (cwV 1 hts gX2_poke_X2_isPlace rfl rfl rfl (by decide +kernel) ⟨Nat.le_of_ble_eq_true rfl, Nat.le_of_ble_eq_true rfl⟩) hK hP hD hS hA [0] [1, 2, 3, 4, 5, 6] [] rfl rfl rfl rfl rfl (by decide) (ci := 2) rfl rfl rfl rfl hl.1 rfl (Nat.le_of_ble_eq_true rfl) dX2_poke_9 ⟨Nat.zero_le _, Nat.zero_le _⟩ (fun H locs hP hD hS => ?_)
    have hP : va_P (dC, dI) hlCl [(qh, .inr (2, [.int (nI n), .ref qs0, .ref qs1, .ref qsm, .ref qbc, .int cb, .int rw, .int ak, .int dn, .int ct, .int tn, .int md, .int wr])), (qs0, .inr (1, [.ref qb0])), (qb0, .inr (0, [.ref qa0])), (qa0, .inl (cB0, N, .inl c0)), (qs1, .inr (1, [.ref qb1])), (qb1, .inr (0, [.ref qa1])), (qa1, .inl (cB1, N, .inl c1))] H := hP.sub [6, 0, 1, 2, 3, 4, 5] rfl
    have hD : va_D A [(qh, .inr (2, [.int (nI n), .ref qs0, .ref qs1, .ref qsm, .ref qbc, .int cb, .int rw, .int ak, .int dn, .int ct, .int tn, .int md, .int wr])), (qs0, .inr (1, [.ref qb0])), (qb0, .inr (0, [.ref qa0])), (qa0, .inl (cB0, N, .inl c0)), (qs1, .inr (1, [.ref qb1])), (qb1, .inr (0, [.ref qa1])), (qa1, .inl (cB1, N, .inl c1))] := hD.sub [6, 0, 1, 2, 3, 4, 5] (by decide) rfl
    refine lv_if_eq (tgt := 27) hx hb dX2_poke_12 (by decide) (fun c_12 => ?_) (fun c_12 => ?_)
    · skip
      refine lv_iconst (v := 0) hx hb dX2_poke_27 (by decide) ?_
      exact hr_z (v := 0) hx hb hr hlocks (by decide) (w1 := [(qh, .inr (2, [.int (nI n), .ref qs0, .ref qs1, .ref qsm, .ref qbc, .int cb, .int rw, .int ak, .int dn, .int ct, .int tn, .int md, .int wr])), (qs0, .inr (1, [.ref qb0])), (qb0, .inr (0, [.ref qa0])), (qa0, .inl (cB0, N, .inl c0)), (qs1, .inr (1, [.ref qb1])), (qb1, .inr (0, [.ref qa1])), (qa1, .inl (cB1, N, .inl c1))]) hP hD hK hS [0, 1, 2, 3, 4, 5, 6] [0, 1] rfl rfl rfl (by unfold pkI; rw [if_neg c_4, if_pos c_12]) (by simp only [pk0, pk1, if_neg c_4, if_pos c_12]) dX2_poke_28
    · skip
      refine lv_iload_n hx hb dX2_poke_15 rfl (lv_at hl 3 rfl) ?_
      refine lv_iconst (v := 1) hx hb dX2_poke_16 (by decide) ?_
      refine lv_icmp_lt (tgt := 27) hx hb dX2_poke_17 (by decide) (fun c_17 => ?_) (fun c_17 => ?_)
      · skip
        refine lv_iconst (v := 0) hx hb dX2_poke_27 (by decide) ?_
        exact hr_z (v := 0) hx hb hr hlocks (by decide) (w1 := [(qh, .inr (2, [.int (nI n), .ref qs0, .ref qs1, .ref qsm, .ref qbc, .int cb, .int rw, .int ak, .int dn, .int ct, .int tn, .int md, .int wr])), (qs0, .inr (1, [.ref qb0])), (qb0, .inr (0, [.ref qa0])), (qa0, .inl (cB0, N, .inl c0)), (qs1, .inr (1, [.ref qb1])), (qb1, .inr (0, [.ref qa1])), (qa1, .inl (cB1, N, .inl c1))]) hP hD hK hS [0, 1, 2, 3, 4, 5, 6] [0, 1] rfl rfl rfl (by unfold pkI; rw [if_neg c_4, if_neg c_12, if_pos c_17]) (by simp only [pk0, pk1, if_neg c_4, if_neg c_12, if_pos c_17]) dX2_poke_28
      · skip
        refine lv_iload_n hx hb dX2_poke_20 rfl (lv_at hl 3 rfl) ?_
        refine lv_sipush (v := 255) hx hb dX2_poke_21 (by decide) ?_
        refine lv_icmp_le (tgt := 29) hx hb dX2_poke_24 (by decide) (fun c_24 => ?_) (fun c_24 => ?_)
        · skip
          refine lv_aload_n hx hb dX2_poke_29 rfl (lv_at hl 0 rfl) ?_
          refine lv_iload_n hx hb dX2_poke_30 rfl (lv_at hl 1 rfl) ?_
          refine hc_rV (As := [.int x]) (rest := []) (wr := [(qs0, .inr (1, [.ref qb0])), (qb0, .inr (0, [.ref qa0])), (qa0, .inl (cB0, N, .inl c0)), (qs1, .inr (1, [.ref qb1])), (qb1, .inr (0, [.ref qa1])), (qa1, .inl (cB1, N, .inl c1))]) ⟨hx, hb, hml, hown, hts⟩ sx_T trivial (kX2_copyOf l dC dI H.size qh qs0 qs1 qsm qbc n cb rw ak dn ct tn md wr x ) (cwV 1 hts gX2_poke_X2_copyOf rfl rfl rfl (by decide +kernel) ⟨Nat.le_of_ble_eq_true rfl, Nat.le_of_ble_eq_true rfl⟩) hK hP hD hS hA [0] [1, 2, 3, 4, 5, 6] [] rfl rfl rfl rfl rfl (by decide) (ci := 2) rfl rfl rfl rfl hl.1 rfl (Nat.le_of_ble_eq_true rfl) dX2_poke_31 ⟨Nat.zero_le _, Nat.zero_le _⟩ (fun H locs hP hD hS => ?_)
          have hP : va_P (dC, dI) hlCl [(qh, .inr (2, [.int (nI n), .ref qs0, .ref qs1, .ref qsm, .ref qbc, .int cb, .int rw, .int ak, .int dn, .int ct, .int tn, .int md, .int wr])), (qs0, .inr (1, [.ref qb0])), (qb0, .inr (0, [.ref qa0])), (qa0, .inl (cB0, N, .inl c0)), (qs1, .inr (1, [.ref qb1])), (qb1, .inr (0, [.ref qa1])), (qa1, .inl (cB1, N, .inl c1))] H := hP.sub [6, 0, 1, 2, 3, 4, 5] rfl
          have hD : va_D A [(qh, .inr (2, [.int (nI n), .ref qs0, .ref qs1, .ref qsm, .ref qbc, .int cb, .int rw, .int ak, .int dn, .int ct, .int tn, .int md, .int wr])), (qs0, .inr (1, [.ref qb0])), (qb0, .inr (0, [.ref qa0])), (qa0, .inl (cB0, N, .inl c0)), (qs1, .inr (1, [.ref qb1])), (qb1, .inr (0, [.ref qa1])), (qa1, .inl (cB1, N, .inl c1))] := hD.sub [6, 0, 1, 2, 3, 4, 5] (by decide) rfl
          by_cases h_cp : x = 0
          · skip
            rw [if_pos h_cp]
            refine va_getN (D := (dC, dI)) (ci := 1) (v := .ref qb0) (C := RX1) (T := TX1) (N := 1) hx hb hts (by decide +kernel) hown hK hP 1 rfl rfl 0 (by decide) (va_Nw.use rfl hE.2) (fun _ h9 => h9) rfl dX2_poke_34 ?_
            refine lv_astore (lv' := [(4, .ref qb0), (0, .ref qh), (1, .int x), (2, .int i), (3, .int mk)]) hx hb dX2_poke_37 hl (by decide) rfl (fun ls hl => ?_)
            refine lv_aload hx hb dX2_poke_39 (lv_at hl 0 rfl) ?_
            refine lv_iload_n hx hb dX2_poke_41 rfl (lv_at hl 3 rfl) ?_
            refine lv_aload hx hb dX2_poke_42 (lv_at hl 0 rfl) ?_
            refine lv_iload_n hx hb dX2_poke_44 rfl (lv_at hl 3 rfl) ?_
            refine hc_iV (As := [.int i]) (rest := [.int i, .ref qb0]) (wr := [(qh, .inr (2, [.int (nI n), .ref qs0, .ref qs1, .ref qsm, .ref qbc, .int cb, .int rw, .int ak, .int dn, .int ct, .int tn, .int md, .int wr])), (qs0, .inr (1, [.ref qb0])), (qs1, .inr (1, [.ref qb1])), (qb1, .inr (0, [.ref qa1])), (qa1, .inl (cB1, N, .inl c1))]) ⟨hx, hb, hml, hown, hts⟩ sx_T trivial (kX0_get l dC dI H.size qb0 qa0 cB0 c0 N i (hN)) (cwV 1 hts gX2_poke_X0_get rfl rfl rfl (by decide +kernel) ⟨Nat.le_of_ble_eq_true rfl, Nat.le_of_ble_eq_true rfl⟩) hK hP hD hS hA [2, 3] [0, 1, 4, 5, 6] [0] rfl rfl rfl rfl rfl (by decide) (ci := 0) rfl rfl rfl rfl hl.1 rfl (Nat.le_of_ble_eq_true rfl) dX2_poke_45 ⟨Nat.zero_le _, Nat.zero_le _⟩ (fun H locs hP hD hS => ?_)
            have hP : va_P (dC, dI) hlCl [(qh, .inr (2, [.int (nI n), .ref qs0, .ref qs1, .ref qsm, .ref qbc, .int cb, .int rw, .int ak, .int dn, .int ct, .int tn, .int md, .int wr])), (qs0, .inr (1, [.ref qb0])), (qb0, .inr (0, [.ref qa0])), (qa0, .inl (cB0, N, .inl c0)), (qs1, .inr (1, [.ref qb1])), (qb1, .inr (0, [.ref qa1])), (qa1, .inl (cB1, N, .inl c1))] H := hP.sub [0, 1, 5, 6, 2, 3, 4] rfl
            have hD : va_D A [(qh, .inr (2, [.int (nI n), .ref qs0, .ref qs1, .ref qsm, .ref qbc, .int cb, .int rw, .int ak, .int dn, .int ct, .int tn, .int md, .int wr])), (qs0, .inr (1, [.ref qb0])), (qb0, .inr (0, [.ref qa0])), (qa0, .inl (cB0, N, .inl c0)), (qs1, .inr (1, [.ref qb1])), (qb1, .inr (0, [.ref qa1])), (qa1, .inl (cB1, N, .inl c1))] := hD.sub [0, 1, 5, 6, 2, 3, 4] (by decide) rfl
            refine lv_iload_n hx hb dX2_poke_48 rfl (lv_at hl 4 rfl) ?_
            refine lv_ixor hx hb dX2_poke_49 ?_
            refine hc_vV (As := [.int i, .int ((gB c0 N i) ^^^ mk)]) (rest := []) (wr := [(qh, .inr (2, [.int (nI n), .ref qs0, .ref qs1, .ref qsm, .ref qbc, .int cb, .int rw, .int ak, .int dn, .int ct, .int tn, .int md, .int wr])), (qs0, .inr (1, [.ref qb0])), (qs1, .inr (1, [.ref qb1])), (qb1, .inr (0, [.ref qa1])), (qa1, .inl (cB1, N, .inl c1))]) ⟨hx, hb, hml, hown, hts⟩ sx_T trivial (kX0_set l dC dI H.size qb0 qa0 cB0 c0 N i ((gB c0 N i) ^^^ mk) (hN)) (cwV 2 hts gX2_poke_X0_set rfl rfl rfl (by decide +kernel) ⟨Nat.le_of_ble_eq_true rfl, Nat.le_of_ble_eq_true rfl⟩) hK hP hD hS hA [2, 3] [0, 1, 4, 5, 6] [0] rfl rfl rfl rfl rfl (by decide) (ci := 0) rfl rfl rfl rfl hl.1 rfl (Nat.le_of_ble_eq_true rfl) dX2_poke_50 ⟨Nat.zero_le _, Nat.zero_le _⟩ (fun H locs hP hD hS => ?_)
            have hP : va_P (dC, dI) hlCl [(qh, .inr (2, [.int (nI n), .ref qs0, .ref qs1, .ref qsm, .ref qbc, .int cb, .int rw, .int ak, .int dn, .int ct, .int tn, .int md, .int wr])), (qs0, .inr (1, [.ref qb0])), (qb0, .inr (0, [.ref qa0])), (qa0, .inl (cB0, N, .inl (sB c0 N i ((gB c0 N i) ^^^ mk)))), (qs1, .inr (1, [.ref qb1])), (qb1, .inr (0, [.ref qa1])), (qa1, .inl (cB1, N, .inl c1))] H := hP.sub [0, 1, 5, 6, 2, 3, 4] rfl
            have hD : va_D A [(qh, .inr (2, [.int (nI n), .ref qs0, .ref qs1, .ref qsm, .ref qbc, .int cb, .int rw, .int ak, .int dn, .int ct, .int tn, .int md, .int wr])), (qs0, .inr (1, [.ref qb0])), (qb0, .inr (0, [.ref qa0])), (qa0, .inl (cB0, N, .inl (sB c0 N i ((gB c0 N i) ^^^ mk)))), (qs1, .inr (1, [.ref qb1])), (qb1, .inr (0, [.ref qa1])), (qa1, .inl (cB1, N, .inl c1))] := hD.sub [0, 1, 5, 6, 2, 3, 4] (by decide) rfl
            refine lv_iconst (v := 1) hx hb dX2_poke_53 (by decide) ?_
            exact hr_z (v := 1) hx hb hr hlocks (by decide) (w1 := [(qh, .inr (2, [.int (nI n), .ref qs0, .ref qs1, .ref qsm, .ref qbc, .int cb, .int rw, .int ak, .int dn, .int ct, .int tn, .int md, .int wr])), (qs0, .inr (1, [.ref qb0])), (qb0, .inr (0, [.ref qa0])), (qa0, .inl (cB0, N, .inl (sB c0 N i ((gB c0 N i) ^^^ mk)))), (qs1, .inr (1, [.ref qb1])), (qb1, .inr (0, [.ref qa1])), (qa1, .inl (cB1, N, .inl c1))]) hP hD hK hS [0, 1, 2, 3, 4, 5, 6] [0, 1] rfl rfl rfl (by unfold pkI; rw [if_neg c_4, if_neg c_12, if_neg c_17, if_pos c_24, if_pos h_cp]) (by simp only [pk0, pk1, if_neg c_4, if_neg c_12, if_neg c_17, if_pos c_24, if_pos h_cp]) dX2_poke_54
          · skip
            rw [if_neg h_cp]
            refine va_getN (D := (dC, dI)) (ci := 1) (v := .ref qb1) (C := RX1) (T := TX1) (N := 1) hx hb hts (by decide +kernel) hown hK hP 4 rfl rfl 0 (by decide) (va_Nw.use rfl hE.2) (fun _ h9 => h9) rfl dX2_poke_34 ?_
            refine lv_astore (lv' := [(4, .ref qb1), (0, .ref qh), (1, .int x), (2, .int i), (3, .int mk)]) hx hb dX2_poke_37 hl (by decide) rfl (fun ls hl => ?_)
            refine lv_aload hx hb dX2_poke_39 (lv_at hl 0 rfl) ?_
            refine lv_iload_n hx hb dX2_poke_41 rfl (lv_at hl 3 rfl) ?_
            refine lv_aload hx hb dX2_poke_42 (lv_at hl 0 rfl) ?_
            refine lv_iload_n hx hb dX2_poke_44 rfl (lv_at hl 3 rfl) ?_
            refine hc_iV (As := [.int i]) (rest := [.int i, .ref qb1]) (wr := [(qh, .inr (2, [.int (nI n), .ref qs0, .ref qs1, .ref qsm, .ref qbc, .int cb, .int rw, .int ak, .int dn, .int ct, .int tn, .int md, .int wr])), (qs0, .inr (1, [.ref qb0])), (qb0, .inr (0, [.ref qa0])), (qa0, .inl (cB0, N, .inl c0)), (qs1, .inr (1, [.ref qb1]))]) ⟨hx, hb, hml, hown, hts⟩ sx_T trivial (kX0_get l dC dI H.size qb1 qa1 cB1 c1 N i (hN)) (cwV 1 hts gX2_poke_X0_get rfl rfl rfl (by decide +kernel) ⟨Nat.le_of_ble_eq_true rfl, Nat.le_of_ble_eq_true rfl⟩) hK hP hD hS hA [5, 6] [0, 1, 2, 3, 4] [1] rfl rfl rfl rfl rfl (by decide) (ci := 0) rfl rfl rfl rfl hl.1 rfl (Nat.le_of_ble_eq_true rfl) dX2_poke_45 ⟨Nat.zero_le _, Nat.zero_le _⟩ (fun H locs hP hD hS => ?_)
            have hP : va_P (dC, dI) hlCl [(qh, .inr (2, [.int (nI n), .ref qs0, .ref qs1, .ref qsm, .ref qbc, .int cb, .int rw, .int ak, .int dn, .int ct, .int tn, .int md, .int wr])), (qs0, .inr (1, [.ref qb0])), (qb0, .inr (0, [.ref qa0])), (qa0, .inl (cB0, N, .inl c0)), (qs1, .inr (1, [.ref qb1])), (qb1, .inr (0, [.ref qa1])), (qa1, .inl (cB1, N, .inl c1))] H := hP
            have hD : va_D A [(qh, .inr (2, [.int (nI n), .ref qs0, .ref qs1, .ref qsm, .ref qbc, .int cb, .int rw, .int ak, .int dn, .int ct, .int tn, .int md, .int wr])), (qs0, .inr (1, [.ref qb0])), (qb0, .inr (0, [.ref qa0])), (qa0, .inl (cB0, N, .inl c0)), (qs1, .inr (1, [.ref qb1])), (qb1, .inr (0, [.ref qa1])), (qa1, .inl (cB1, N, .inl c1))] := hD
            refine lv_iload_n hx hb dX2_poke_48 rfl (lv_at hl 4 rfl) ?_
            refine lv_ixor hx hb dX2_poke_49 ?_
            refine hc_vV (As := [.int i, .int ((gB c1 N i) ^^^ mk)]) (rest := []) (wr := [(qh, .inr (2, [.int (nI n), .ref qs0, .ref qs1, .ref qsm, .ref qbc, .int cb, .int rw, .int ak, .int dn, .int ct, .int tn, .int md, .int wr])), (qs0, .inr (1, [.ref qb0])), (qb0, .inr (0, [.ref qa0])), (qa0, .inl (cB0, N, .inl c0)), (qs1, .inr (1, [.ref qb1]))]) ⟨hx, hb, hml, hown, hts⟩ sx_T trivial (kX0_set l dC dI H.size qb1 qa1 cB1 c1 N i ((gB c1 N i) ^^^ mk) (hN)) (cwV 2 hts gX2_poke_X0_set rfl rfl rfl (by decide +kernel) ⟨Nat.le_of_ble_eq_true rfl, Nat.le_of_ble_eq_true rfl⟩) hK hP hD hS hA [5, 6] [0, 1, 2, 3, 4] [1] rfl rfl rfl rfl rfl (by decide) (ci := 0) rfl rfl rfl rfl hl.1 rfl (Nat.le_of_ble_eq_true rfl) dX2_poke_50 ⟨Nat.zero_le _, Nat.zero_le _⟩ (fun H locs hP hD hS => ?_)
            have hP : va_P (dC, dI) hlCl [(qh, .inr (2, [.int (nI n), .ref qs0, .ref qs1, .ref qsm, .ref qbc, .int cb, .int rw, .int ak, .int dn, .int ct, .int tn, .int md, .int wr])), (qs0, .inr (1, [.ref qb0])), (qb0, .inr (0, [.ref qa0])), (qa0, .inl (cB0, N, .inl c0)), (qs1, .inr (1, [.ref qb1])), (qb1, .inr (0, [.ref qa1])), (qa1, .inl (cB1, N, .inl (sB c1 N i ((gB c1 N i) ^^^ mk))))] H := hP
            have hD : va_D A [(qh, .inr (2, [.int (nI n), .ref qs0, .ref qs1, .ref qsm, .ref qbc, .int cb, .int rw, .int ak, .int dn, .int ct, .int tn, .int md, .int wr])), (qs0, .inr (1, [.ref qb0])), (qb0, .inr (0, [.ref qa0])), (qa0, .inl (cB0, N, .inl c0)), (qs1, .inr (1, [.ref qb1])), (qb1, .inr (0, [.ref qa1])), (qa1, .inl (cB1, N, .inl (sB c1 N i ((gB c1 N i) ^^^ mk))))] := hD
            refine lv_iconst (v := 1) hx hb dX2_poke_53 (by decide) ?_
            exact hr_z (v := 1) hx hb hr hlocks (by decide) (w1 := [(qh, .inr (2, [.int (nI n), .ref qs0, .ref qs1, .ref qsm, .ref qbc, .int cb, .int rw, .int ak, .int dn, .int ct, .int tn, .int md, .int wr])), (qs0, .inr (1, [.ref qb0])), (qb0, .inr (0, [.ref qa0])), (qa0, .inl (cB0, N, .inl c0)), (qs1, .inr (1, [.ref qb1])), (qb1, .inr (0, [.ref qa1])), (qa1, .inl (cB1, N, .inl (sB c1 N i ((gB c1 N i) ^^^ mk))))]) hP hD hK hS [0, 1, 2, 3, 4, 5, 6] [0, 1] rfl rfl rfl (by unfold pkI; rw [if_neg c_4, if_neg c_12, if_neg c_17, if_pos c_24, if_neg h_cp]) (by simp only [pk0, pk1, if_neg c_4, if_neg c_12, if_neg c_17, if_pos c_24, if_neg h_cp]) dX2_poke_54
        · skip
          refine lv_iconst (v := 0) hx hb dX2_poke_27 (by decide) ?_
          exact hr_z (v := 0) hx hb hr hlocks (by decide) (w1 := [(qh, .inr (2, [.int (nI n), .ref qs0, .ref qs1, .ref qsm, .ref qbc, .int cb, .int rw, .int ak, .int dn, .int ct, .int tn, .int md, .int wr])), (qs0, .inr (1, [.ref qb0])), (qb0, .inr (0, [.ref qa0])), (qa0, .inl (cB0, N, .inl c0)), (qs1, .inr (1, [.ref qb1])), (qb1, .inr (0, [.ref qa1])), (qa1, .inl (cB1, N, .inl c1))]) hP hD hK hS [0, 1, 2, 3, 4, 5, 6] [0, 1] rfl rfl rfl (by unfold pkI; rw [if_neg c_4, if_neg c_12, if_neg c_17, if_neg c_24]) (by simp only [pk0, pk1, if_neg c_4, if_neg c_12, if_neg c_17, if_neg c_24]) dX2_poke_28

def coI (n : Nat) (cb rw ak dn md wr : Int32) (x : Int32) : Int32 := (if x = 0 then nI n else (if x = 1 then (if dn = 0 then rw else (-1)) else (if x = 2 then ak else (if x = 3 then cb else (if x = 4 then (if dn = 0 then 0 else 1) else (if x = 5 then md else (if x = 6 then wr else (if x = 7 then (if dn = 0 then rmI n rw 0 else 0) else (-1)))))))))
set_option maxHeartbeats 4000000 in
set_option maxRecDepth 100000 in
theorem kX2_count (l : Launch) (dC : Nat → ClassId) (dI : Nat → Nat → Nat) (sz : Nat) (qh qs0 qs1 qsm qbc : Nat) (n : Nat) (cb rw ak dn ct tn md wr : Int32) (x : Int32)  : Mi_ l yX2_count wsX2_count 2 35 dC dI (fun _ => True) [.ref qh, .int x] [(qh, .inr (2, [.int (nI n), .ref qs0, .ref qs1, .ref qsm, .ref qbc, .int cb, .int rw, .int ak, .int dn, .int ct, .int tn, .int md, .int wr]))] [] sz (coI n cb rw ak dn md wr x) [(qh, .inr (2, [.int (nI n), .ref qs0, .ref qs1, .ref qsm, .ref qbc, .int cb, .int rw, .int ak, .int dn, .int ct, .int tn, .int md, .int wr]))] := by
  refine hm_ (cc := cX2_count) (maxL := 2) (ret := (some .int)) (Qc := fun A => va_Qi (fun (r9 : Int32) (_ : Unit) => r9 = coI n cb rw ak dn md wr x) (fun _ t9 => qw_ dC dI A [(qh, .inr (2, [.int (nI n), .ref qs0, .ref qs1, .ref qsm, .ref qbc, .int cb, .int rw, .int ak, .int dn, .int ct, .int tn, .int md, .int wr]))] [] t9) A) (by decide) rfl (Nat.le_of_ble_eq_true rfl) ?_
  intro p e s m below meth c A H locs ls hx hb hr hml hts hown hlocks hsz hP hK hD hE hA hS hl
  have hl : lv_has ls 2 [(0, .ref qh), (1, .int x)] := hl
  have hown : s.vm.findClass RX2 = some m.cls := hown
  refine lv_iload_n hx hb dX2_count_0 rfl (lv_at hl 1 rfl) ?_
  rcases sw_ x 7 (by decide) with hsw | ⟨jsw, hjsw, esw⟩
  · skip
    refine lv_tableOut (tgt := 119) hx hb dX2_count_1 hsw (by decide) ?_
    refine lv_iconst (v := (-1)) hx hb dX2_count_119 (by decide) ?_
    exact hr_i (v := (-1)) hx hb hr hlocks (w1 := [(qh, .inr (2, [.int (nI n), .ref qs0, .ref qs1, .ref qsm, .ref qbc, .int cb, .int rw, .int ak, .int dn, .int ct, .int tn, .int md, .int wr]))]) hP hD hK hS [0] [] rfl rfl rfl (by unfold coI; rw [if_neg (show ¬ x = 0 from sw_ne 7 0 (by decide) (by decide) hsw), if_neg (show ¬ x = 1 from sw_ne 7 1 (by decide) (by decide) hsw), if_neg (show ¬ x = 2 from sw_ne 7 2 (by decide) (by decide) hsw), if_neg (show ¬ x = 3 from sw_ne 7 3 (by decide) (by decide) hsw), if_neg (show ¬ x = 4 from sw_ne 7 4 (by decide) (by decide) hsw), if_neg (show ¬ x = 5 from sw_ne 7 5 (by decide) (by decide) hsw), if_neg (show ¬ x = 6 from sw_ne 7 6 (by decide) (by decide) hsw), if_neg (show ¬ x = 7 from sw_ne 7 7 (by decide) (by decide) hsw)]) (rfl) dX2_count_120
  · obtain rfl | rfl | rfl | rfl | rfl | rfl | rfl | rfl : jsw = 0 ∨ jsw = 1 ∨ jsw = 2 ∨ jsw = 3 ∨ jsw = 4 ∨ jsw = 5 ∨ jsw = 6 ∨ jsw = 7 := by omega
    · skip
      refine lv_tableIn (tgt := 48) hx hb dX2_count_1 (by rw [esw]; decide) (by rw [esw]; decide) (off := 47) (by rw [esw]; decide) (by decide) ?_
      refine lv_aload_n hx hb dX2_count_48 rfl (lv_at hl 0 rfl) ?_
      refine va_get (D := (dC, dI)) (ci := 2) (v := .int (nI n)) (C := RX2) (T := TX2) (N := 13) hx hb hts (by decide +kernel) hown hK hP 0 rfl rfl 0 (by decide) (hts (.fieldLink RX2 18 "HouseLog" "sectors" "I") (by decide +kernel)) (fun _ h9 => h9) rfl dX2_count_49 ?_
      exact hr_i (v := nI n) hx hb hr hlocks (w1 := [(qh, .inr (2, [.int (nI n), .ref qs0, .ref qs1, .ref qsm, .ref qbc, .int cb, .int rw, .int ak, .int dn, .int ct, .int tn, .int md, .int wr]))]) hP hD hK hS [0] [] rfl rfl rfl (by unfold coI; rw [if_pos (show x = 0 from esw)]) (rfl) dX2_count_52
    · skip
      refine lv_tableIn (tgt := 53) hx hb dX2_count_1 (by rw [esw]; decide) (by rw [esw]; decide) (off := 52) (by rw [esw]; decide) (by decide) ?_
      refine lv_aload_n hx hb dX2_count_53 rfl (lv_at hl 0 rfl) ?_
      refine va_get (D := (dC, dI)) (ci := 2) (v := .int dn) (C := RX2) (T := TX2) (N := 13) hx hb hts (by decide +kernel) hown hK hP 0 rfl rfl 8 (by decide) (hts (.fieldLink RX2 47 "HouseLog" "down" "Z") (by decide +kernel)) (fun _ h9 => h9) rfl dX2_count_54 ?_
      refine lv_if_eq (tgt := 64) hx hb dX2_count_57 (by decide) (fun c_57 => ?_) (fun c_57 => ?_)
      · skip
        refine lv_aload_n hx hb dX2_count_64 rfl (lv_at hl 0 rfl) ?_
        refine va_get (D := (dC, dI)) (ci := 2) (v := .int rw) (C := RX2) (T := TX2) (N := 13) hx hb hts (by decide +kernel) hown hK hP 0 rfl rfl 6 (by decide) (hts (.fieldLink RX2 76 "HouseLog" "rows" "I") (by decide +kernel)) (fun _ h9 => h9) rfl dX2_count_65 ?_
        exact hr_i (v := rw) hx hb hr hlocks (w1 := [(qh, .inr (2, [.int (nI n), .ref qs0, .ref qs1, .ref qsm, .ref qbc, .int cb, .int rw, .int ak, .int dn, .int ct, .int tn, .int md, .int wr]))]) hP hD hK hS [0] [] rfl rfl rfl (by unfold coI; rw [if_neg (show ¬ x = 0 by rw [esw]; decide), if_pos (show x = 1 from esw), if_pos c_57]) (rfl) dX2_count_68
      · skip
        refine lv_iconst (v := (-1)) hx hb dX2_count_60 (by decide) ?_
        refine lv_goto (tgt := 68) hx hb dX2_count_61 (by decide) ?_
        exact hr_i (v := (-1)) hx hb hr hlocks (w1 := [(qh, .inr (2, [.int (nI n), .ref qs0, .ref qs1, .ref qsm, .ref qbc, .int cb, .int rw, .int ak, .int dn, .int ct, .int tn, .int md, .int wr]))]) hP hD hK hS [0] [] rfl rfl rfl (by unfold coI; rw [if_neg (show ¬ x = 0 by rw [esw]; decide), if_pos (show x = 1 from esw), if_neg c_57]) (rfl) dX2_count_68
    · skip
      refine lv_tableIn (tgt := 69) hx hb dX2_count_1 (by rw [esw]; decide) (by rw [esw]; decide) (off := 68) (by rw [esw]; decide) (by decide) ?_
      refine lv_aload_n hx hb dX2_count_69 rfl (lv_at hl 0 rfl) ?_
      refine va_get (D := (dC, dI)) (ci := 2) (v := .int ak) (C := RX2) (T := TX2) (N := 13) hx hb hts (by decide +kernel) hown hK hP 0 rfl rfl 7 (by decide) (hts (.fieldLink RX2 83 "HouseLog" "acknowledged" "I") (by decide +kernel)) (fun _ h9 => h9) rfl dX2_count_70 ?_
      exact hr_i (v := ak) hx hb hr hlocks (w1 := [(qh, .inr (2, [.int (nI n), .ref qs0, .ref qs1, .ref qsm, .ref qbc, .int cb, .int rw, .int ak, .int dn, .int ct, .int tn, .int md, .int wr]))]) hP hD hK hS [0] [] rfl rfl rfl (by unfold coI; rw [if_neg (show ¬ x = 0 by rw [esw]; decide), if_neg (show ¬ x = 1 by rw [esw]; decide), if_pos (show x = 2 from esw)]) (rfl) dX2_count_73
    · skip
      refine lv_tableIn (tgt := 74) hx hb dX2_count_1 (by rw [esw]; decide) (by rw [esw]; decide) (off := 73) (by rw [esw]; decide) (by decide) ?_
      refine lv_aload_n hx hb dX2_count_74 rfl (lv_at hl 0 rfl) ?_
      refine va_get (D := (dC, dI)) (ci := 2) (v := .int cb) (C := RX2) (T := TX2) (N := 13) hx hb hts (by decide +kernel) hown hK hP 0 rfl rfl 5 (by decide) (hts (.fieldLink RX2 51 "HouseLog" "collectedBytes" "I") (by decide +kernel)) (fun _ h9 => h9) rfl dX2_count_75 ?_
      exact hr_i (v := cb) hx hb hr hlocks (w1 := [(qh, .inr (2, [.int (nI n), .ref qs0, .ref qs1, .ref qsm, .ref qbc, .int cb, .int rw, .int ak, .int dn, .int ct, .int tn, .int md, .int wr]))]) hP hD hK hS [0] [] rfl rfl rfl (by unfold coI; rw [if_neg (show ¬ x = 0 by rw [esw]; decide), if_neg (show ¬ x = 1 by rw [esw]; decide), if_neg (show ¬ x = 2 by rw [esw]; decide), if_pos (show x = 3 from esw)]) (rfl) dX2_count_78
    · skip
      refine lv_tableIn (tgt := 79) hx hb dX2_count_1 (by rw [esw]; decide) (by rw [esw]; decide) (off := 78) (by rw [esw]; decide) (by decide) ?_
      refine lv_aload_n hx hb dX2_count_79 rfl (lv_at hl 0 rfl) ?_
      refine va_get (D := (dC, dI)) (ci := 2) (v := .int dn) (C := RX2) (T := TX2) (N := 13) hx hb hts (by decide +kernel) hown hK hP 0 rfl rfl 8 (by decide) (hts (.fieldLink RX2 47 "HouseLog" "down" "Z") (by decide +kernel)) (fun _ h9 => h9) rfl dX2_count_80 ?_
      refine lv_if_eq (tgt := 90) hx hb dX2_count_83 (by decide) (fun c_83 => ?_) (fun c_83 => ?_)
      · skip
        refine lv_iconst (v := 0) hx hb dX2_count_90 (by decide) ?_
        exact hr_i (v := 0) hx hb hr hlocks (w1 := [(qh, .inr (2, [.int (nI n), .ref qs0, .ref qs1, .ref qsm, .ref qbc, .int cb, .int rw, .int ak, .int dn, .int ct, .int tn, .int md, .int wr]))]) hP hD hK hS [0] [] rfl rfl rfl (by unfold coI; rw [if_neg (show ¬ x = 0 by rw [esw]; decide), if_neg (show ¬ x = 1 by rw [esw]; decide), if_neg (show ¬ x = 2 by rw [esw]; decide), if_neg (show ¬ x = 3 by rw [esw]; decide), if_pos (show x = 4 from esw), if_pos c_83]) (rfl) dX2_count_91
      · skip
        refine lv_iconst (v := 1) hx hb dX2_count_86 (by decide) ?_
        refine lv_goto (tgt := 91) hx hb dX2_count_87 (by decide) ?_
        exact hr_i (v := 1) hx hb hr hlocks (w1 := [(qh, .inr (2, [.int (nI n), .ref qs0, .ref qs1, .ref qsm, .ref qbc, .int cb, .int rw, .int ak, .int dn, .int ct, .int tn, .int md, .int wr]))]) hP hD hK hS [0] [] rfl rfl rfl (by unfold coI; rw [if_neg (show ¬ x = 0 by rw [esw]; decide), if_neg (show ¬ x = 1 by rw [esw]; decide), if_neg (show ¬ x = 2 by rw [esw]; decide), if_neg (show ¬ x = 3 by rw [esw]; decide), if_pos (show x = 4 from esw), if_neg c_83]) (rfl) dX2_count_91
    · skip
      refine lv_tableIn (tgt := 92) hx hb dX2_count_1 (by rw [esw]; decide) (by rw [esw]; decide) (off := 91) (by rw [esw]; decide) (by decide) ?_
      refine lv_aload_n hx hb dX2_count_92 rfl (lv_at hl 0 rfl) ?_
      refine va_get (D := (dC, dI)) (ci := 2) (v := .int md) (C := RX2) (T := TX2) (N := 13) hx hb hts (by decide +kernel) hown hK hP 0 rfl rfl 11 (by decide) (hts (.fieldLink RX2 96 "HouseLog" "mended" "I") (by decide +kernel)) (fun _ h9 => h9) rfl dX2_count_93 ?_
      exact hr_i (v := md) hx hb hr hlocks (w1 := [(qh, .inr (2, [.int (nI n), .ref qs0, .ref qs1, .ref qsm, .ref qbc, .int cb, .int rw, .int ak, .int dn, .int ct, .int tn, .int md, .int wr]))]) hP hD hK hS [0] [] rfl rfl rfl (by unfold coI; rw [if_neg (show ¬ x = 0 by rw [esw]; decide), if_neg (show ¬ x = 1 by rw [esw]; decide), if_neg (show ¬ x = 2 by rw [esw]; decide), if_neg (show ¬ x = 3 by rw [esw]; decide), if_neg (show ¬ x = 4 by rw [esw]; decide), if_pos (show x = 5 from esw)]) (rfl) dX2_count_96
    · skip
      refine lv_tableIn (tgt := 97) hx hb dX2_count_1 (by rw [esw]; decide) (by rw [esw]; decide) (off := 96) (by rw [esw]; decide) (by decide) ?_
      refine lv_aload_n hx hb dX2_count_97 rfl (lv_at hl 0 rfl) ?_
      refine va_get (D := (dC, dI)) (ci := 2) (v := .int wr) (C := RX2) (T := TX2) (N := 13) hx hb hts (by decide +kernel) hown hK hP 0 rfl rfl 12 (by decide) (hts (.fieldLink RX2 156 "HouseLog" "writes" "I") (by decide +kernel)) (fun _ h9 => h9) rfl dX2_count_98 ?_
      exact hr_i (v := wr) hx hb hr hlocks (w1 := [(qh, .inr (2, [.int (nI n), .ref qs0, .ref qs1, .ref qsm, .ref qbc, .int cb, .int rw, .int ak, .int dn, .int ct, .int tn, .int md, .int wr]))]) hP hD hK hS [0] [] rfl rfl rfl (by unfold coI; rw [if_neg (show ¬ x = 0 by rw [esw]; decide), if_neg (show ¬ x = 1 by rw [esw]; decide), if_neg (show ¬ x = 2 by rw [esw]; decide), if_neg (show ¬ x = 3 by rw [esw]; decide), if_neg (show ¬ x = 4 by rw [esw]; decide), if_neg (show ¬ x = 5 by rw [esw]; decide), if_pos (show x = 6 from esw)]) (rfl) dX2_count_101
    · skip
      refine lv_tableIn (tgt := 102) hx hb dX2_count_1 (by rw [esw]; decide) (by rw [esw]; decide) (off := 101) (by rw [esw]; decide) (by decide) ?_
      refine lv_aload_n hx hb dX2_count_102 rfl (lv_at hl 0 rfl) ?_
      refine va_get (D := (dC, dI)) (ci := 2) (v := .int dn) (C := RX2) (T := TX2) (N := 13) hx hb hts (by decide +kernel) hown hK hP 0 rfl rfl 8 (by decide) (hts (.fieldLink RX2 47 "HouseLog" "down" "Z") (by decide +kernel)) (fun _ h9 => h9) rfl dX2_count_103 ?_
      refine lv_if_eq (tgt := 113) hx hb dX2_count_106 (by decide) (fun c_106 => ?_) (fun c_106 => ?_)
      · skip
        refine lv_aload_n hx hb dX2_count_113 rfl (lv_at hl 0 rfl) ?_
        refine lv_iconst (v := 0) hx hb dX2_count_114 (by decide) ?_
        refine hc_iV (As := [.int 0]) (rest := []) (wr := []) ⟨hx, hb, hml, hown, hts⟩ sx_T trivial (kX2_roomFor l dC dI H.size qh qs0 qs1 qsm qbc n cb rw ak dn ct tn md wr 0 ) (cwV 1 hts gX2_count_X2_roomFor rfl rfl rfl (by decide +kernel) ⟨Nat.le_of_ble_eq_true rfl, Nat.le_of_ble_eq_true rfl⟩) hK hP hD hS hA [0] [] [] rfl rfl rfl rfl rfl (by decide) (ci := 2) rfl rfl rfl rfl hl.1 rfl (Nat.le_of_ble_eq_true rfl) dX2_count_115 ⟨Nat.zero_le _, Nat.zero_le _⟩ (fun H locs hP hD hS => ?_)
        have hP : va_P (dC, dI) hlCl [(qh, .inr (2, [.int (nI n), .ref qs0, .ref qs1, .ref qsm, .ref qbc, .int cb, .int rw, .int ak, .int dn, .int ct, .int tn, .int md, .int wr]))] H := hP
        have hD : va_D A [(qh, .inr (2, [.int (nI n), .ref qs0, .ref qs1, .ref qsm, .ref qbc, .int cb, .int rw, .int ak, .int dn, .int ct, .int tn, .int md, .int wr]))] := hD
        exact hr_i (v := rmI n rw 0) hx hb hr hlocks (w1 := [(qh, .inr (2, [.int (nI n), .ref qs0, .ref qs1, .ref qsm, .ref qbc, .int cb, .int rw, .int ak, .int dn, .int ct, .int tn, .int md, .int wr]))]) hP hD hK hS [0] [] rfl rfl rfl (by unfold coI; rw [if_neg (show ¬ x = 0 by rw [esw]; decide), if_neg (show ¬ x = 1 by rw [esw]; decide), if_neg (show ¬ x = 2 by rw [esw]; decide), if_neg (show ¬ x = 3 by rw [esw]; decide), if_neg (show ¬ x = 4 by rw [esw]; decide), if_neg (show ¬ x = 5 by rw [esw]; decide), if_neg (show ¬ x = 6 by rw [esw]; decide), if_pos (show x = 7 from esw), if_pos c_106]) (rfl) dX2_count_118
      · skip
        refine lv_iconst (v := 0) hx hb dX2_count_109 (by decide) ?_
        refine lv_goto (tgt := 118) hx hb dX2_count_110 (by decide) ?_
        exact hr_i (v := 0) hx hb hr hlocks (w1 := [(qh, .inr (2, [.int (nI n), .ref qs0, .ref qs1, .ref qsm, .ref qbc, .int cb, .int rw, .int ak, .int dn, .int ct, .int tn, .int md, .int wr]))]) hP hD hK hS [0] [] rfl rfl rfl (by unfold coI; rw [if_neg (show ¬ x = 0 by rw [esw]; decide), if_neg (show ¬ x = 1 by rw [esw]; decide), if_neg (show ¬ x = 2 by rw [esw]; decide), if_neg (show ¬ x = 3 by rw [esw]; decide), if_neg (show ¬ x = 4 by rw [esw]; decide), if_neg (show ¬ x = 5 by rw [esw]; decide), if_neg (show ¬ x = 6 by rw [esw]; decide), if_pos (show x = 7 from esw), if_neg c_106]) (rfl) dX2_count_118
end
section
set_option maxHeartbeats 4000000 in
set_option maxRecDepth 100000 in
theorem kX3_thrown (l : Launch) (dC : Nat → ClassId) (dI : Nat → Nat → Nat) (sz : Nat) (qm qd qk ql qy qc qi : Nat) (n : Nat) (th rw ak cb dn kp tr md wr sm : Int32)  : Mi_ l yX3_thrown wsX3_thrown 0 0 dC dI (fun _ => True) [.ref qm] [(qm, .inr (3, [.int th, .int (nI n), .ref qd, .int rw, .int ak, .ref qk, .ref ql, .ref qy, .int cb, .ref qc, .int dn, .int kp, .int tr, .int md, .int wr, .ref qi, .int sm]))] [] sz th [(qm, .inr (3, [.int th, .int (nI n), .ref qd, .int rw, .int ak, .ref qk, .ref ql, .ref qy, .int cb, .ref qc, .int dn, .int kp, .int tr, .int md, .int wr, .ref qi, .int sm]))] := by
  refine hm_ (cc := cX3_thrown) (maxL := 1) (ret := (some .int)) (Qc := fun A => va_Qi (fun (r9 : Int32) (_ : Unit) => r9 = th) (fun _ t9 => qw_ dC dI A [(qm, .inr (3, [.int th, .int (nI n), .ref qd, .int rw, .int ak, .ref qk, .ref ql, .ref qy, .int cb, .ref qc, .int dn, .int kp, .int tr, .int md, .int wr, .ref qi, .int sm]))] [] t9) A) (by decide) rfl (Nat.le_of_ble_eq_true rfl) ?_
  intro p e s m below meth c A H locs ls hx hb hr hml hts hown hlocks hsz hP hK hD hE hA hS hl
  have hl : lv_has ls 1 [(0, .ref qm)] := hl
  have hown : s.vm.findClass RX3 = some m.cls := hown
  refine lv_aload_n hx hb dX3_thrown_0 rfl (lv_at hl 0 rfl) ?_
  refine va_get (D := (dC, dI)) (ci := 3) (v := .int th) (C := RX3) (T := TX3) (N := 17) hx hb hts (by decide +kernel) hown hK hP 0 rfl rfl 0 (by decide) (hts (.fieldLink RX3 35 "HouseLogModel" "thrown" "I") (by decide +kernel)) (fun _ h9 => h9) rfl dX3_thrown_1 ?_
  exact hr_i (v := th) hx hb hr hlocks (w1 := [(qm, .inr (3, [.int th, .int (nI n), .ref qd, .int rw, .int ak, .ref qk, .ref ql, .ref qy, .int cb, .ref qc, .int dn, .int kp, .int tr, .int md, .int wr, .ref qi, .int sm]))]) hP hD hK hS [0] [] rfl rfl rfl (rfl) (rfl) dX3_thrown_4

def flR (x y z : Int32) : Int32 := (if x = 0 then (if y = 0 then (if z = 0 then 0 else 1) else 1) else 1)
def flI (x y z : Int32) : Int32 := (if x = 0 then (if y = 0 then (if z = 0 then 0 else 3) else 2) else 1)
set_option maxHeartbeats 4000000 in
set_option maxRecDepth 100000 in
theorem kX3_fails (l : Launch) (dC : Nat → ClassId) (dI : Nat → Nat → Nat) (sz : Nat) (qm qd qk ql qy qc qi : Nat) (n : Nat) (th rw ak cb dn kp tr md wr sm : Int32) (x y z : Int32)  : Mi_ l yX3_fails wsX3_fails 0 0 dC dI (fun _ => True) [.ref qm, .int x, .int y, .int z] [(qm, .inr (3, [.int th, .int (nI n), .ref qd, .int rw, .int ak, .ref qk, .ref ql, .ref qy, .int cb, .ref qc, .int dn, .int kp, .int tr, .int md, .int wr, .ref qi, .int sm]))] [] sz (flR x y z) [(qm, .inr (3, [.int (flI x y z), .int (nI n), .ref qd, .int rw, .int ak, .ref qk, .ref ql, .ref qy, .int cb, .ref qc, .int dn, .int kp, .int tr, .int md, .int wr, .ref qi, .int sm]))] := by
  refine hm_ (cc := cX3_fails) (maxL := 4) (ret := (some .boolean)) (Qc := fun A => va_Qi (fun (r9 : Int32) (_ : Unit) => r9 = flR x y z) (fun _ t9 => qw_ dC dI A [(qm, .inr (3, [.int (flI x y z), .int (nI n), .ref qd, .int rw, .int ak, .ref qk, .ref ql, .ref qy, .int cb, .ref qc, .int dn, .int kp, .int tr, .int md, .int wr, .ref qi, .int sm]))] [] t9) A) (by decide) rfl (Nat.le_of_ble_eq_true rfl) ?_
  intro p e s m below meth c A H locs ls hx hb hr hml hts hown hlocks hsz hP hK hD hE hA hS hl
  have hl : lv_has ls 4 [(0, .ref qm), (1, .int x), (2, .int y), (3, .int z)] := hl
  have hown : s.vm.findClass RX3 = some m.cls := hown
  refine lv_aload_n hx hb dX3_fails_0 rfl (lv_at hl 0 rfl) ?_
  refine lv_iload_n hx hb dX3_fails_1 rfl (lv_at hl 1 rfl) ?_
  refine lv_if_eq (tgt := 9) hx hb dX3_fails_2 (by decide) (fun c_2 => ?_) (fun c_2 => ?_)
  · skip
    refine lv_iload_n hx hb dX3_fails_9 rfl (lv_at hl 2 rfl) ?_
    refine lv_if_eq (tgt := 17) hx hb dX3_fails_10 (by decide) (fun c_10 => ?_) (fun c_10 => ?_)
    · skip
      refine lv_iload_n hx hb dX3_fails_17 rfl (lv_at hl 3 rfl) ?_
      refine lv_if_eq (tgt := 25) hx hb dX3_fails_18 (by decide) (fun c_18 => ?_) (fun c_18 => ?_)
      · skip
        refine lv_iconst (v := 0) hx hb dX3_fails_25 (by decide) ?_
        refine va_put (D := (dC, dI)) (ci := 3) (v := .int 0) (ty := .int) (C := RX3) (T := TX3) (N := 17) hx hb hts (by decide +kernel) tyX3 tyX3_ok nmX3 hown hK hP hD hS 0 rfl rfl 0 (by decide) (hts (.fieldLink RX3 35 "HouseLogModel" "thrown" "I") (by decide +kernel)) (fun _ h9 => h9) rfl (by decide +kernel) rfl rfl (Nat.le_of_ble_eq_true rfl) dX3_fails_26 (fun H locs hP hD hS => ?_)
        have hP : va_P (dC, dI) hlCl [(qm, .inr (3, [.int 0, .int (nI n), .ref qd, .int rw, .int ak, .ref qk, .ref ql, .ref qy, .int cb, .ref qc, .int dn, .int kp, .int tr, .int md, .int wr, .ref qi, .int sm]))] H := hP
        have hD : va_D A [(qm, .inr (3, [.int 0, .int (nI n), .ref qd, .int rw, .int ak, .ref qk, .ref ql, .ref qy, .int cb, .ref qc, .int dn, .int kp, .int tr, .int md, .int wr, .ref qi, .int sm]))] := hD
        refine lv_aload_n hx hb dX3_fails_29 rfl (lv_at hl 0 rfl) ?_
        refine va_get (D := (dC, dI)) (ci := 3) (v := .int 0) (C := RX3) (T := TX3) (N := 17) hx hb hts (by decide +kernel) hown hK hP 0 rfl rfl 0 (by decide) (hts (.fieldLink RX3 35 "HouseLogModel" "thrown" "I") (by decide +kernel)) (fun _ h9 => h9) rfl dX3_fails_30 ?_
        refine lv_if_le (tgt := 40) hx hb dX3_fails_33 (by decide) (fun c_33 => ?_) (fun c_33 => ?_)
        · skip
          refine lv_iconst (v := 0) hx hb dX3_fails_40 (by decide) ?_
          exact hr_z (v := 0) hx hb hr hlocks (by decide) (w1 := [(qm, .inr (3, [.int 0, .int (nI n), .ref qd, .int rw, .int ak, .ref qk, .ref ql, .ref qy, .int cb, .ref qc, .int dn, .int kp, .int tr, .int md, .int wr, .ref qi, .int sm]))]) hP hD hK hS [0] [] rfl rfl rfl (by simp only [flR, if_pos c_2, if_pos c_10, if_pos c_18] <;> rfl) (by simp only [flR, flI, if_pos c_2, if_pos c_10, if_pos c_18] <;> rfl) dX3_fails_41
        · exact absurd (by decide) c_33
      · skip
        refine lv_iconst (v := 3) hx hb dX3_fails_21 (by decide) ?_
        refine lv_goto (tgt := 26) hx hb dX3_fails_22 (by decide) ?_
        refine va_put (D := (dC, dI)) (ci := 3) (v := .int 3) (ty := .int) (C := RX3) (T := TX3) (N := 17) hx hb hts (by decide +kernel) tyX3 tyX3_ok nmX3 hown hK hP hD hS 0 rfl rfl 0 (by decide) (hts (.fieldLink RX3 35 "HouseLogModel" "thrown" "I") (by decide +kernel)) (fun _ h9 => h9) rfl (by decide +kernel) rfl rfl (Nat.le_of_ble_eq_true rfl) dX3_fails_26 (fun H locs hP hD hS => ?_)
        have hP : va_P (dC, dI) hlCl [(qm, .inr (3, [.int 3, .int (nI n), .ref qd, .int rw, .int ak, .ref qk, .ref ql, .ref qy, .int cb, .ref qc, .int dn, .int kp, .int tr, .int md, .int wr, .ref qi, .int sm]))] H := hP
        have hD : va_D A [(qm, .inr (3, [.int 3, .int (nI n), .ref qd, .int rw, .int ak, .ref qk, .ref ql, .ref qy, .int cb, .ref qc, .int dn, .int kp, .int tr, .int md, .int wr, .ref qi, .int sm]))] := hD
        refine lv_aload_n hx hb dX3_fails_29 rfl (lv_at hl 0 rfl) ?_
        refine va_get (D := (dC, dI)) (ci := 3) (v := .int 3) (C := RX3) (T := TX3) (N := 17) hx hb hts (by decide +kernel) hown hK hP 0 rfl rfl 0 (by decide) (hts (.fieldLink RX3 35 "HouseLogModel" "thrown" "I") (by decide +kernel)) (fun _ h9 => h9) rfl dX3_fails_30 ?_
        refine lv_if_le (tgt := 40) hx hb dX3_fails_33 (by decide) (fun c_33 => ?_) (fun c_33 => ?_)
        · exact absurd c_33 (by decide)
        · skip
          refine lv_iconst (v := 1) hx hb dX3_fails_36 (by decide) ?_
          refine lv_goto (tgt := 41) hx hb dX3_fails_37 (by decide) ?_
          exact hr_z (v := 1) hx hb hr hlocks (by decide) (w1 := [(qm, .inr (3, [.int 3, .int (nI n), .ref qd, .int rw, .int ak, .ref qk, .ref ql, .ref qy, .int cb, .ref qc, .int dn, .int kp, .int tr, .int md, .int wr, .ref qi, .int sm]))]) hP hD hK hS [0] [] rfl rfl rfl (by simp only [flR, if_pos c_2, if_pos c_10, if_neg c_18] <;> rfl) (by simp only [flR, flI, if_pos c_2, if_pos c_10, if_neg c_18] <;> rfl) dX3_fails_41
    · skip
      refine lv_iconst (v := 2) hx hb dX3_fails_13 (by decide) ?_
      refine lv_goto (tgt := 26) hx hb dX3_fails_14 (by decide) ?_
      refine va_put (D := (dC, dI)) (ci := 3) (v := .int 2) (ty := .int) (C := RX3) (T := TX3) (N := 17) hx hb hts (by decide +kernel) tyX3 tyX3_ok nmX3 hown hK hP hD hS 0 rfl rfl 0 (by decide) (hts (.fieldLink RX3 35 "HouseLogModel" "thrown" "I") (by decide +kernel)) (fun _ h9 => h9) rfl (by decide +kernel) rfl rfl (Nat.le_of_ble_eq_true rfl) dX3_fails_26 (fun H locs hP hD hS => ?_)
      have hP : va_P (dC, dI) hlCl [(qm, .inr (3, [.int 2, .int (nI n), .ref qd, .int rw, .int ak, .ref qk, .ref ql, .ref qy, .int cb, .ref qc, .int dn, .int kp, .int tr, .int md, .int wr, .ref qi, .int sm]))] H := hP
      have hD : va_D A [(qm, .inr (3, [.int 2, .int (nI n), .ref qd, .int rw, .int ak, .ref qk, .ref ql, .ref qy, .int cb, .ref qc, .int dn, .int kp, .int tr, .int md, .int wr, .ref qi, .int sm]))] := hD
      refine lv_aload_n hx hb dX3_fails_29 rfl (lv_at hl 0 rfl) ?_
      refine va_get (D := (dC, dI)) (ci := 3) (v := .int 2) (C := RX3) (T := TX3) (N := 17) hx hb hts (by decide +kernel) hown hK hP 0 rfl rfl 0 (by decide) (hts (.fieldLink RX3 35 "HouseLogModel" "thrown" "I") (by decide +kernel)) (fun _ h9 => h9) rfl dX3_fails_30 ?_
      refine lv_if_le (tgt := 40) hx hb dX3_fails_33 (by decide) (fun c_33 => ?_) (fun c_33 => ?_)
      · exact absurd c_33 (by decide)
      · skip
        refine lv_iconst (v := 1) hx hb dX3_fails_36 (by decide) ?_
        refine lv_goto (tgt := 41) hx hb dX3_fails_37 (by decide) ?_
        exact hr_z (v := 1) hx hb hr hlocks (by decide) (w1 := [(qm, .inr (3, [.int 2, .int (nI n), .ref qd, .int rw, .int ak, .ref qk, .ref ql, .ref qy, .int cb, .ref qc, .int dn, .int kp, .int tr, .int md, .int wr, .ref qi, .int sm]))]) hP hD hK hS [0] [] rfl rfl rfl (by simp only [flR, if_pos c_2, if_neg c_10] <;> rfl) (by simp only [flR, flI, if_pos c_2, if_neg c_10] <;> rfl) dX3_fails_41
  · skip
    refine lv_iconst (v := 1) hx hb dX3_fails_5 (by decide) ?_
    refine lv_goto (tgt := 26) hx hb dX3_fails_6 (by decide) ?_
    refine va_put (D := (dC, dI)) (ci := 3) (v := .int 1) (ty := .int) (C := RX3) (T := TX3) (N := 17) hx hb hts (by decide +kernel) tyX3 tyX3_ok nmX3 hown hK hP hD hS 0 rfl rfl 0 (by decide) (hts (.fieldLink RX3 35 "HouseLogModel" "thrown" "I") (by decide +kernel)) (fun _ h9 => h9) rfl (by decide +kernel) rfl rfl (Nat.le_of_ble_eq_true rfl) dX3_fails_26 (fun H locs hP hD hS => ?_)
    have hP : va_P (dC, dI) hlCl [(qm, .inr (3, [.int 1, .int (nI n), .ref qd, .int rw, .int ak, .ref qk, .ref ql, .ref qy, .int cb, .ref qc, .int dn, .int kp, .int tr, .int md, .int wr, .ref qi, .int sm]))] H := hP
    have hD : va_D A [(qm, .inr (3, [.int 1, .int (nI n), .ref qd, .int rw, .int ak, .ref qk, .ref ql, .ref qy, .int cb, .ref qc, .int dn, .int kp, .int tr, .int md, .int wr, .ref qi, .int sm]))] := hD
    refine lv_aload_n hx hb dX3_fails_29 rfl (lv_at hl 0 rfl) ?_
    refine va_get (D := (dC, dI)) (ci := 3) (v := .int 1) (C := RX3) (T := TX3) (N := 17) hx hb hts (by decide +kernel) hown hK hP 0 rfl rfl 0 (by decide) (hts (.fieldLink RX3 35 "HouseLogModel" "thrown" "I") (by decide +kernel)) (fun _ h9 => h9) rfl dX3_fails_30 ?_
    refine lv_if_le (tgt := 40) hx hb dX3_fails_33 (by decide) (fun c_33 => ?_) (fun c_33 => ?_)
    · exact absurd c_33 (by decide)
    · skip
      refine lv_iconst (v := 1) hx hb dX3_fails_36 (by decide) ?_
      refine lv_goto (tgt := 41) hx hb dX3_fails_37 (by decide) ?_
      exact hr_z (v := 1) hx hb hr hlocks (by decide) (w1 := [(qm, .inr (3, [.int 1, .int (nI n), .ref qd, .int rw, .int ak, .ref qk, .ref ql, .ref qy, .int cb, .ref qc, .int dn, .int kp, .int tr, .int md, .int wr, .ref qi, .int sm]))]) hP hD hK hS [0] [] rfl rfl rfl (by simp only [flR, if_neg c_2] <;> rfl) (by simp only [flR, flI, if_neg c_2] <;> rfl) dX3_fails_41

theorem fl_iff {x y z : Int32} : flR x y z = 0 ↔ x = 0 ∧ y = 0 ∧ z = 0 := by
  unfold flR
  by_cases h1 : x = 0
  · by_cases h2 : y = 0
    · by_cases h3 : z = 0
      · simp [h1, h2, h3]
      · simp [h1, h2, h3]
    · simp [h1, h2]
  · simp [h1]
theorem ne40_ {cb : Nat} (h : ¬ nI cb = 40) (h2 : cb ≤ 40) : cb < 40 := by
  rcases Nat.lt_or_ge cb 40 with h9 | h9
  · exact h9
  · exact absurd (show nI cb = 40 from by have h8 : cb = 40 := by omega
                                          subst h8
                                          rfl) h

def inI (x y z : Int32) : Int32 := (if x < y then 0 else (if z < x then 0 else 1))
set_option maxHeartbeats 4000000 in
set_option maxRecDepth 100000 in
theorem kX3_in (l : Launch) (dC : Nat → ClassId) (dI : Nat → Nat → Nat) (sz : Nat) (x y z : Int32)  : Mi_ l yX3_in wsX3_in 0 0 dC dI (fun _ => True) [.int x, .int y, .int z] [] [] sz (inI x y z) [] := by
  refine hm_ (cc := cX3_in) (maxL := 3) (ret := (some .boolean)) (Qc := fun A => va_Qi (fun (r9 : Int32) (_ : Unit) => r9 = inI x y z) (fun _ t9 => qw_ dC dI A [] [] t9) A) (by decide) rfl (Nat.le_of_ble_eq_true rfl) ?_
  intro p e s m below meth c A H locs ls hx hb hr hml hts hown hlocks hsz hP hK hD hE hA hS hl
  have hl : lv_has ls 3 [(0, .int x), (1, .int y), (2, .int z)] := hl
  have hown : s.vm.findClass RX3 = some m.cls := hown
  refine lv_iload_n hx hb dX3_in_0 rfl (lv_at hl 0 rfl) ?_
  refine lv_iload_n hx hb dX3_in_1 rfl (lv_at hl 1 rfl) ?_
  refine lv_icmp_lt (tgt := 14) hx hb dX3_in_2 (by decide) (fun c_2 => ?_) (fun c_2 => ?_)
  · skip
    refine lv_iconst (v := 0) hx hb dX3_in_14 (by decide) ?_
    exact hr_z (v := 0) hx hb hr hlocks (by decide) (w1 := []) hP hD hK hS [] [] rfl rfl rfl (by unfold inI; rw [if_pos c_2]) (rfl) dX3_in_15
  · skip
    refine lv_iload_n hx hb dX3_in_5 rfl (lv_at hl 0 rfl) ?_
    refine lv_iload_n hx hb dX3_in_6 rfl (lv_at hl 2 rfl) ?_
    refine lv_icmp_gt (tgt := 14) hx hb dX3_in_7 (by decide) (fun c_7 => ?_) (fun c_7 => ?_)
    · skip
      refine lv_iconst (v := 0) hx hb dX3_in_14 (by decide) ?_
      exact hr_z (v := 0) hx hb hr hlocks (by decide) (w1 := []) hP hD hK hS [] [] rfl rfl rfl (by unfold inI; rw [if_neg c_2, if_pos c_7]) (rfl) dX3_in_15
    · skip
      refine lv_iconst (v := 1) hx hb dX3_in_10 (by decide) ?_
      refine lv_goto (tgt := 15) hx hb dX3_in_11 (by decide) ?_
      exact hr_z (v := 1) hx hb hr hlocks (by decide) (w1 := []) hP hD hK hS [] [] rfl rfl rfl (by unfold inI; rw [if_neg c_2, if_neg c_7]) (rfl) dX3_in_15

set_option maxHeartbeats 4000000 in
set_option maxRecDepth 100000 in
theorem kX3_begin (l : Launch) (dC : Nat → ClassId) (dI : Nat → Nat → Nat) (sz : Nat) (qm qd qk ql qy qc qi : Nat) (n : Nat) (th rw ak cb dn kp tr md wr sm : Int32)  : Mv_ l yX3_begin wsX3_begin 0 0 dC dI (fun _ => True) [.ref qm] [(qm, .inr (3, [.int th, .int (nI n), .ref qd, .int rw, .int ak, .ref qk, .ref ql, .ref qy, .int cb, .ref qc, .int dn, .int kp, .int tr, .int md, .int wr, .ref qi, .int sm]))] [] sz [(qm, .inr (3, [.int th, .int (nI n), .ref qd, .int rw, .int ak, .ref qk, .ref ql, .ref qy, .int cb, .ref qc, .int dn, .int kp, .int tr, .int md, .int wr, .ref qi, .int (-1756908916)]))] := by
  refine hm_ (cc := cX3_begin) (maxL := 1) (ret := none) (Qc := fun A => va_Qv (fun (_ : Unit) => True) (fun _ t9 => qw_ dC dI A [(qm, .inr (3, [.int th, .int (nI n), .ref qd, .int rw, .int ak, .ref qk, .ref ql, .ref qy, .int cb, .ref qc, .int dn, .int kp, .int tr, .int md, .int wr, .ref qi, .int (-1756908916)]))] [] t9) A) (by decide) rfl (Nat.le_of_ble_eq_true rfl) ?_
  intro p e s m below meth c A H locs ls hx hb hr hml hts hown hlocks hsz hP hK hD hE hA hS hl
  have hl : lv_has ls 1 [(0, .ref qm)] := hl
  have hown : s.vm.findClass RX3 = some m.cls := hown
  refine lv_aload_n hx hb dX3_begin_0 rfl (lv_at hl 0 rfl) ?_
  refine lv_ldc (v := (-1756908916)) hx hb hown (hts (.constant RX3 38 (-1756908916)) (by decide +kernel)) dX3_begin_1 ?_
  refine va_put (D := (dC, dI)) (ci := 3) (v := .int (-1756908916)) (ty := .int) (C := RX3) (T := TX3) (N := 17) hx hb hts (by decide +kernel) tyX3 tyX3_ok nmX3 hown hK hP hD hS 0 rfl rfl 16 (by decide) (hts (.fieldLink RX3 39 "HouseLogModel" "sum" "I") (by decide +kernel)) (fun _ h9 => h9) rfl (by decide +kernel) rfl rfl (Nat.le_of_ble_eq_true rfl) dX3_begin_3 (fun H locs hP hD hS => ?_)
  have hP : va_P (dC, dI) hlCl [(qm, .inr (3, [.int th, .int (nI n), .ref qd, .int rw, .int ak, .ref qk, .ref ql, .ref qy, .int cb, .ref qc, .int dn, .int kp, .int tr, .int md, .int wr, .ref qi, .int (-1756908916)]))] H := hP
  have hD : va_D A [(qm, .inr (3, [.int th, .int (nI n), .ref qd, .int rw, .int ak, .ref qk, .ref ql, .ref qy, .int cb, .ref qc, .int dn, .int kp, .int tr, .int md, .int wr, .ref qi, .int (-1756908916)]))] := hD
  exact hr_v hx hb hr hlocks (w1 := [(qm, .inr (3, [.int th, .int (nI n), .ref qd, .int rw, .int ak, .ref qk, .ref ql, .ref qy, .int cb, .ref qc, .int dn, .int kp, .int tr, .int md, .int wr, .ref qi, .int (-1756908916)]))]) hP hD hK hS [0] [] rfl rfl rfl (rfl) dX3_begin_6

set_option maxHeartbeats 4000000 in
set_option maxRecDepth 100000 in
theorem kX3_goOn (l : Launch) (dC : Nat → ClassId) (dI : Nat → Nat → Nat) (sz : Nat) (qm qd qk ql qy qc qi : Nat) (n : Nat) (th rw ak cb dn kp tr md wr sm : Int32) (b : Int32)  : Mv_ l yX3_goOn wsX3_goOn 0 0 dC dI (fun _ => True) [.ref qm, .int b] [(qm, .inr (3, [.int th, .int (nI n), .ref qd, .int rw, .int ak, .ref qk, .ref ql, .ref qy, .int cb, .ref qc, .int dn, .int kp, .int tr, .int md, .int wr, .ref qi, .int sm]))] [] sz [(qm, .inr (3, [.int th, .int (nI n), .ref qd, .int rw, .int ak, .ref qk, .ref ql, .ref qy, .int cb, .ref qc, .int dn, .int kp, .int tr, .int md, .int wr, .ref qi, .int (mixI sm b)]))] := by
  refine hm_ (cc := cX3_goOn) (maxL := 3) (ret := none) (Qc := fun A => va_Qv (fun (_ : Unit) => True) (fun _ t9 => qw_ dC dI A [(qm, .inr (3, [.int th, .int (nI n), .ref qd, .int rw, .int ak, .ref qk, .ref ql, .ref qy, .int cb, .ref qc, .int dn, .int kp, .int tr, .int md, .int wr, .ref qi, .int (mixI sm b)]))] [] t9) A) (by decide) rfl (Nat.le_of_ble_eq_true rfl) ?_
  intro p e s m below meth c A H locs ls hx hb hr hml hts hown hlocks hsz hP hK hD hE hA hS hl
  have hl : lv_has ls 3 [(0, .ref qm), (1, .int b)] := hl
  have hown : s.vm.findClass RX3 = some m.cls := hown
  refine lv_aload_n hx hb dX3_goOn_0 rfl (lv_at hl 0 rfl) ?_
  refine va_get (D := (dC, dI)) (ci := 3) (v := .int sm) (C := RX3) (T := TX3) (N := 17) hx hb hts (by decide +kernel) hown hK hP 0 rfl rfl 16 (by decide) (hts (.fieldLink RX3 39 "HouseLogModel" "sum" "I") (by decide +kernel)) (fun _ h9 => h9) rfl dX3_goOn_1 ?_
  refine lv_iload_n hx hb dX3_goOn_4 rfl (lv_at hl 1 rfl) ?_
  refine lv_ixor hx hb dX3_goOn_5 ?_
  refine lv_istore_n (lv' := [(2, .int (sm ^^^ b)), (0, .ref qm), (1, .int b)]) hx hb dX3_goOn_6 rfl hl (by decide) rfl (fun ls hl => ?_)
  refine lv_aload_n hx hb dX3_goOn_7 rfl (lv_at hl 1 rfl) ?_
  refine lv_iload_n hx hb dX3_goOn_8 rfl (lv_at hl 0 rfl) ?_
  refine lv_bipush (v := 9) hx hb dX3_goOn_9 (by decide) ?_
  refine lv_ishl hx hb dX3_goOn_11 ?_
  refine lv_iload_n hx hb dX3_goOn_12 rfl (lv_at hl 0 rfl) ?_
  refine lv_bipush (v := 23) hx hb dX3_goOn_13 (by decide) ?_
  refine lv_iushr (v := ((sm ^^^ b).toUInt32 >>> ((23 : Int32).toUInt32 &&& Int32.toUInt32 31)).toInt32) hx hb dX3_goOn_15 rfl ?_
  refine lv_ior hx hb dX3_goOn_16 ?_
  refine lv_ldc (v := (-2048144789)) hx hb hown (hts (.constant RX3 42 (-2048144789)) (by decide +kernel)) dX3_goOn_17 ?_
  refine lv_imul hx hb dX3_goOn_19 ?_
  rw [mixI_f]
  refine va_put (D := (dC, dI)) (ci := 3) (v := .int (mixI sm b)) (ty := .int) (C := RX3) (T := TX3) (N := 17) hx hb hts (by decide +kernel) tyX3 tyX3_ok nmX3 hown hK hP hD hS 0 rfl rfl 16 (by decide) (hts (.fieldLink RX3 39 "HouseLogModel" "sum" "I") (by decide +kernel)) (fun _ h9 => h9) rfl (by decide +kernel) rfl rfl (Nat.le_of_ble_eq_true rfl) dX3_goOn_20 (fun H locs hP hD hS => ?_)
  have hP : va_P (dC, dI) hlCl [(qm, .inr (3, [.int th, .int (nI n), .ref qd, .int rw, .int ak, .ref qk, .ref ql, .ref qy, .int cb, .ref qc, .int dn, .int kp, .int tr, .int md, .int wr, .ref qi, .int (mixI sm b)]))] H := hP
  have hD : va_D A [(qm, .inr (3, [.int th, .int (nI n), .ref qd, .int rw, .int ak, .ref qk, .ref ql, .ref qy, .int cb, .ref qc, .int dn, .int kp, .int tr, .int md, .int wr, .ref qi, .int (mixI sm b)]))] := hD
  exact hr_v hx hb hr hlocks (w1 := [(qm, .inr (3, [.int th, .int (nI n), .ref qd, .int rw, .int ak, .ref qk, .ref ql, .ref qy, .int cb, .ref qc, .int dn, .int kp, .int tr, .int md, .int wr, .ref qi, .int (mixI sm b)]))]) hP hD hK hS [0] [] rfl rfl rfl (rfl) dX3_goOn_23

set_option maxHeartbeats 4000000 in
set_option maxRecDepth 100000 in
theorem kX3_from (l : Launch) (dC : Nat → ClassId) (dI : Nat → Nat → Nat) (sz : Nat) (qm qd qk ql qy qc qi : Nat) (n : Nat) (th rw ak cb dn kp tr md wr sm : Int32) (u k : Nat)  : Mi_ l yX3_from wsX3_from 0 0 dC dI (fun _ => True) [.ref qm, .int (nI u), .int (nI k)] [(qm, .inr (3, [.int th, .int (nI n), .ref qd, .int rw, .int ak, .ref qk, .ref ql, .ref qy, .int cb, .ref qc, .int dn, .int kp, .int tr, .int md, .int wr, .ref qi, .int sm]))] [] sz (nI (4096 * u + 64 * k)) [(qm, .inr (3, [.int th, .int (nI n), .ref qd, .int rw, .int ak, .ref qk, .ref ql, .ref qy, .int cb, .ref qc, .int dn, .int kp, .int tr, .int md, .int wr, .ref qi, .int sm]))] := by
  refine hm_ (cc := cX3_from) (maxL := 3) (ret := (some .int)) (Qc := fun A => va_Qi (fun (r9 : Int32) (_ : Unit) => r9 = nI (4096 * u + 64 * k)) (fun _ t9 => qw_ dC dI A [(qm, .inr (3, [.int th, .int (nI n), .ref qd, .int rw, .int ak, .ref qk, .ref ql, .ref qy, .int cb, .ref qc, .int dn, .int kp, .int tr, .int md, .int wr, .ref qi, .int sm]))] [] t9) A) (by decide) rfl (Nat.le_of_ble_eq_true rfl) ?_
  intro p e s m below meth c A H locs ls hx hb hr hml hts hown hlocks hsz hP hK hD hE hA hS hl
  have hl : lv_has ls 3 [(0, .ref qm), (1, .int (nI u)), (2, .int (nI k))] := hl
  have hown : s.vm.findClass RX3 = some m.cls := hown
  refine lv_sipush (v := 4096) hx hb dX3_from_0 (by decide) ?_
  refine lv_iload_n hx hb dX3_from_3 rfl (lv_at hl 1 rfl) ?_
  refine lv_imul hx hb dX3_from_4 ?_
  rw [show (4096 * (nI u) : Int32) = nI (4096 * u) from pk_mul 4096 u]
  refine lv_bipush (v := 64) hx hb dX3_from_5 (by decide) ?_
  refine lv_iload_n hx hb dX3_from_7 rfl (lv_at hl 2 rfl) ?_
  refine lv_imul hx hb dX3_from_8 ?_
  rw [show (64 * (nI k) : Int32) = nI (64 * k) from pk_mul 64 k]
  refine lv_iadd hx hb dX3_from_9 ?_
  rw [show ((nI (4096 * u)) + (nI (64 * k)) : Int32) = nI (4096 * u + (64 * k)) from nI_add (4096 * u) (64 * k)]
  exact hr_i (v := nI (4096 * u + (64 * k))) hx hb hr hlocks (w1 := [(qm, .inr (3, [.int th, .int (nI n), .ref qd, .int rw, .int ak, .ref qk, .ref ql, .ref qy, .int cb, .ref qc, .int dn, .int kp, .int tr, .int md, .int wr, .ref qi, .int sm]))]) hP hD hK hS [0] [] rfl rfl rfl (rfl) (rfl) dX3_from_10

def foI (D : Nat → Int32) (a : Nat) : Int32 := ((((D a) <<< ((24 : Int32) &&& 31)) ||| ((D (a + 1)) <<< ((16 : Int32) &&& 31))) ||| ((D (a + 2)) <<< ((8 : Int32) &&& 31))) ||| (D (a + 3))
set_option maxHeartbeats 4000000 in
set_option maxRecDepth 100000 in
theorem kX3_four (l : Launch) (dC : Nat → ClassId) (dI : Nat → Nat → Nat) (sz : Nat) (qm qd qk ql qy qc qi : Nat) (n : Nat) (cAd : ClassId) (th rw ak cb dn kp tr md wr sm : Int32) (D : Nat → Int32) (a : Nat) (ha : a + 3 < 8192) : Mi_ l yX3_four wsX3_four 0 0 dC dI (fun _ => True) [.ref qm, .int (nI a)] [(qm, .inr (3, [.int th, .int (nI n), .ref qd, .int rw, .int ak, .ref qk, .ref ql, .ref qy, .int cb, .ref qc, .int dn, .int kp, .int tr, .int md, .int wr, .ref qi, .int sm])), (qd, .inl (cAd, 8192, .inl D))] [(cAd, .int)] sz (foI D a) [(qm, .inr (3, [.int th, .int (nI n), .ref qd, .int rw, .int ak, .ref qk, .ref ql, .ref qy, .int cb, .ref qc, .int dn, .int kp, .int tr, .int md, .int wr, .ref qi, .int sm])), (qd, .inl (cAd, 8192, .inl D))] := by
  refine hm_ (cc := cX3_four) (maxL := 2) (ret := (some .int)) (Qc := fun A => va_Qi (fun (r9 : Int32) (_ : Unit) => r9 = foI D a) (fun _ t9 => qw_ dC dI A [(qm, .inr (3, [.int th, .int (nI n), .ref qd, .int rw, .int ak, .ref qk, .ref ql, .ref qy, .int cb, .ref qc, .int dn, .int kp, .int tr, .int md, .int wr, .ref qi, .int sm])), (qd, .inl (cAd, 8192, .inl D))] [(cAd, .int)] t9) A) (by decide) rfl (Nat.le_of_ble_eq_true rfl) ?_
  intro p e s m below meth c A H locs ls hx hb hr hml hts hown hlocks hsz hP hK hD hE hA hS hl
  have hl : lv_has ls 2 [(0, .ref qm), (1, .int (nI a))] := hl
  have hown : s.vm.findClass RX3 = some m.cls := hown
  refine lv_aload_n hx hb dX3_four_0 rfl (lv_at hl 0 rfl) ?_
  refine va_get (D := (dC, dI)) (ci := 3) (v := .ref qd) (C := RX3) (T := TX3) (N := 17) hx hb hts (by decide +kernel) hown hK hP 0 rfl rfl 2 (by decide) (hts (.fieldLink RX3 7 "HouseLogModel" "disk" "[I") (by decide +kernel)) (fun _ h9 => h9) rfl dX3_four_1 ?_
  refine lv_iload_n hx hb dX3_four_4 rfl (lv_at hl 1 rfl) ?_
  refine va_iald hx hb hK hP 1 0 rfl rfl (i := nI a) (vp_in_nI (n := a) (by omega) (by decide)) dX3_four_5 ?_
  refine W.eq (g2 := F0 m 6 ls (.int (D a) :: [])) (by rw [show (nI a : Int32).toNatClampNeg = a from nI_clamp (by omega)]) ?_
  refine lv_bipush (v := 24) hx hb dX3_four_6 (by decide) ?_
  refine lv_ishl hx hb dX3_four_8 ?_
  refine lv_aload_n hx hb dX3_four_9 rfl (lv_at hl 0 rfl) ?_
  refine va_get (D := (dC, dI)) (ci := 3) (v := .ref qd) (C := RX3) (T := TX3) (N := 17) hx hb hts (by decide +kernel) hown hK hP 0 rfl rfl 2 (by decide) (hts (.fieldLink RX3 7 "HouseLogModel" "disk" "[I") (by decide +kernel)) (fun _ h9 => h9) rfl dX3_four_10 ?_
  refine lv_iload_n hx hb dX3_four_13 rfl (lv_at hl 1 rfl) ?_
  refine lv_iconst (v := 1) hx hb dX3_four_14 (by decide) ?_
  refine lv_iadd hx hb dX3_four_15 ?_
  rw [show ((nI a) + 1 : Int32) = nI (a + 1) from nI_add a 1]
  refine va_iald hx hb hK hP 1 0 rfl rfl (i := nI (a + 1)) (vp_in_nI (n := a + 1) (by omega) (by decide)) dX3_four_16 ?_
  refine W.eq (g2 := F0 m 17 ls (.int (D (a + 1)) :: .int ((D a) <<< ((24 : Int32) &&& 31)) :: [])) (by rw [show (nI (a + 1) : Int32).toNatClampNeg = a + 1 from nI_clamp (by omega)]) ?_
  refine lv_bipush (v := 16) hx hb dX3_four_17 (by decide) ?_
  refine lv_ishl hx hb dX3_four_19 ?_
  refine lv_ior hx hb dX3_four_20 ?_
  refine lv_aload_n hx hb dX3_four_21 rfl (lv_at hl 0 rfl) ?_
  refine va_get (D := (dC, dI)) (ci := 3) (v := .ref qd) (C := RX3) (T := TX3) (N := 17) hx hb hts (by decide +kernel) hown hK hP 0 rfl rfl 2 (by decide) (hts (.fieldLink RX3 7 "HouseLogModel" "disk" "[I") (by decide +kernel)) (fun _ h9 => h9) rfl dX3_four_22 ?_
  refine lv_iload_n hx hb dX3_four_25 rfl (lv_at hl 1 rfl) ?_
  refine lv_iconst (v := 2) hx hb dX3_four_26 (by decide) ?_
  refine lv_iadd hx hb dX3_four_27 ?_
  rw [show ((nI a) + 2 : Int32) = nI (a + 2) from nI_add a 2]
  refine va_iald hx hb hK hP 1 0 rfl rfl (i := nI (a + 2)) (vp_in_nI (n := a + 2) (by omega) (by decide)) dX3_four_28 ?_
  refine W.eq (g2 := F0 m 29 ls (.int (D (a + 2)) :: .int (((D a) <<< ((24 : Int32) &&& 31)) ||| ((D (a + 1)) <<< ((16 : Int32) &&& 31))) :: [])) (by rw [show (nI (a + 2) : Int32).toNatClampNeg = a + 2 from nI_clamp (by omega)]) ?_
  refine lv_bipush (v := 8) hx hb dX3_four_29 (by decide) ?_
  refine lv_ishl hx hb dX3_four_31 ?_
  refine lv_ior hx hb dX3_four_32 ?_
  refine lv_aload_n hx hb dX3_four_33 rfl (lv_at hl 0 rfl) ?_
  refine va_get (D := (dC, dI)) (ci := 3) (v := .ref qd) (C := RX3) (T := TX3) (N := 17) hx hb hts (by decide +kernel) hown hK hP 0 rfl rfl 2 (by decide) (hts (.fieldLink RX3 7 "HouseLogModel" "disk" "[I") (by decide +kernel)) (fun _ h9 => h9) rfl dX3_four_34 ?_
  refine lv_iload_n hx hb dX3_four_37 rfl (lv_at hl 1 rfl) ?_
  refine lv_iconst (v := 3) hx hb dX3_four_38 (by decide) ?_
  refine lv_iadd hx hb dX3_four_39 ?_
  rw [show ((nI a) + 3 : Int32) = nI (a + 3) from nI_add a 3]
  refine va_iald hx hb hK hP 1 0 rfl rfl (i := nI (a + 3)) (vp_in_nI (n := a + 3) (by omega) (by decide)) dX3_four_40 ?_
  refine W.eq (g2 := F0 m 41 ls (.int (D (a + 3)) :: .int ((((D a) <<< ((24 : Int32) &&& 31)) ||| ((D (a + 1)) <<< ((16 : Int32) &&& 31))) ||| ((D (a + 2)) <<< ((8 : Int32) &&& 31))) :: [])) (by rw [show (nI (a + 3) : Int32).toNatClampNeg = a + 3 from nI_clamp (by omega)]) ?_
  refine lv_ior hx hb dX3_four_41 ?_
  exact hr_i (v := ((((D a) <<< ((24 : Int32) &&& 31)) ||| ((D (a + 1)) <<< ((16 : Int32) &&& 31))) ||| ((D (a + 2)) <<< ((8 : Int32) &&& 31))) ||| (D (a + 3))) hx hb hr hlocks (w1 := [(qm, .inr (3, [.int th, .int (nI n), .ref qd, .int rw, .int ak, .ref qk, .ref ql, .ref qy, .int cb, .ref qc, .int dn, .int kp, .int tr, .int md, .int wr, .ref qi, .int sm])), (qd, .inl (cAd, 8192, .inl D))]) hP hD hK hS [0, 1] [0] rfl rfl rfl (by unfold foI; rfl) (rfl) dX3_four_42

theorem inI_n (x y z : Int32) : narrow .boolean (.int (inI x y z)) = .int (inI x y z) := by
  unfold inI
  split
  · rfl
  · split <;> rfl

def irR (rw : Int32) (i : Int32) : Int32 := inI i 0 (rw - 1)
set_option maxHeartbeats 4000000 in
set_option maxRecDepth 100000 in
theorem kX3_isRow (l : Launch) (dC : Nat → ClassId) (dI : Nat → Nat → Nat) (sz : Nat) (qm qd qk ql qy qc qi : Nat) (n : Nat) (th rw ak cb dn kp tr md wr sm : Int32) (i : Int32)  : Mi_ l yX3_isRow wsX3_isRow 1 22 dC dI (fun _ => True) [.ref qm, .int i] [(qm, .inr (3, [.int th, .int (nI n), .ref qd, .int rw, .int ak, .ref qk, .ref ql, .ref qy, .int cb, .ref qc, .int dn, .int kp, .int tr, .int md, .int wr, .ref qi, .int sm]))] [] sz (irR rw i) [(qm, .inr (3, [.int th, .int (nI n), .ref qd, .int rw, .int ak, .ref qk, .ref ql, .ref qy, .int cb, .ref qc, .int dn, .int kp, .int tr, .int md, .int wr, .ref qi, .int sm]))] := by
  refine hm_ (cc := cX3_isRow) (maxL := 2) (ret := (some .boolean)) (Qc := fun A => va_Qi (fun (r9 : Int32) (_ : Unit) => r9 = irR rw i) (fun _ t9 => qw_ dC dI A [(qm, .inr (3, [.int th, .int (nI n), .ref qd, .int rw, .int ak, .ref qk, .ref ql, .ref qy, .int cb, .ref qc, .int dn, .int kp, .int tr, .int md, .int wr, .ref qi, .int sm]))] [] t9) A) (by decide) rfl (Nat.le_of_ble_eq_true rfl) ?_
  intro p e s m below meth c A H locs ls hx hb hr hml hts hown hlocks hsz hP hK hD hE hA hS hl
  have hl : lv_has ls 2 [(0, .ref qm), (1, .int i)] := hl
  have hown : s.vm.findClass RX3 = some m.cls := hown
  refine lv_iload_n hx hb dX3_isRow_0 rfl (lv_at hl 1 rfl) ?_
  refine lv_iconst (v := 0) hx hb dX3_isRow_1 (by decide) ?_
  refine lv_aload_n hx hb dX3_isRow_2 rfl (lv_at hl 0 rfl) ?_
  refine va_get (D := (dC, dI)) (ci := 3) (v := .int rw) (C := RX3) (T := TX3) (N := 17) hx hb hts (by decide +kernel) hown hK hP 0 rfl rfl 3 (by decide) (hts (.fieldLink RX3 73 "HouseLogModel" "rows" "I") (by decide +kernel)) (fun _ h9 => h9) rfl dX3_isRow_3 ?_
  refine lv_iconst (v := 1) hx hb dX3_isRow_6 (by decide) ?_
  refine lv_isub hx hb dX3_isRow_7 ?_
  refine hc_iS (As := [.int i, .int 0, .int (rw - 1)]) (rest := []) ⟨hx, hb, hml, hown, hts⟩ sx_T trivial (kX3_in l dC dI H.size i 0 (rw - 1) ) (va_cwS 3 hts gX3_isRow_X3_in rfl rfl rfl (by decide +kernel) ⟨Nat.le_of_ble_eq_true rfl, Nat.le_of_ble_eq_true rfl⟩) hK hP hD hS hA [0] rfl rfl rfl hl.1 rfl (Nat.le_of_ble_eq_true rfl) dX3_isRow_8 ⟨Nat.zero_le _, Nat.zero_le _⟩ (fun H locs hP hD hS => ?_)
  exact hr_z (v := inI i 0 (rw - 1)) hx hb hr hlocks (inI_n _ _ _) (w1 := [(qm, .inr (3, [.int th, .int (nI n), .ref qd, .int rw, .int ak, .ref qk, .ref ql, .ref qy, .int cb, .ref qc, .int dn, .int kp, .int tr, .int md, .int wr, .ref qi, .int sm]))]) hP hD hK hS [0] [] rfl rfl rfl (by unfold irR; rfl) (rfl) dX3_isRow_11

set_option maxHeartbeats 4000000 in
set_option maxRecDepth 100000 in
theorem kX3_goDown (l : Launch) (dC : Nat → ClassId) (dI : Nat → Nat → Nat) (sz : Nat) (qm qd qk ql qy qc qi : Nat) (n : Nat) (th rw ak cb dn kp tr md wr sm : Int32)  : Mv_ l yX3_goDown wsX3_goDown 0 0 dC dI (fun _ => True) [.ref qm] [(qm, .inr (3, [.int th, .int (nI n), .ref qd, .int rw, .int ak, .ref qk, .ref ql, .ref qy, .int cb, .ref qc, .int dn, .int kp, .int tr, .int md, .int wr, .ref qi, .int sm]))] [] sz [(qm, .inr (3, [.int th, .int (nI n), .ref qd, .int 0, .int ak, .ref qk, .ref ql, .ref qy, .int 0, .ref qc, .int 1, .int (-1), .int tr, .int md, .int wr, .ref qi, .int sm]))] := by
  refine hm_ (cc := cX3_goDown) (maxL := 1) (ret := none) (Qc := fun A => va_Qv (fun (_ : Unit) => True) (fun _ t9 => qw_ dC dI A [(qm, .inr (3, [.int th, .int (nI n), .ref qd, .int 0, .int ak, .ref qk, .ref ql, .ref qy, .int 0, .ref qc, .int 1, .int (-1), .int tr, .int md, .int wr, .ref qi, .int sm]))] [] t9) A) (by decide) rfl (Nat.le_of_ble_eq_true rfl) ?_
  intro p e s m below meth c A H locs ls hx hb hr hml hts hown hlocks hsz hP hK hD hE hA hS hl
  have hl : lv_has ls 1 [(0, .ref qm)] := hl
  have hown : s.vm.findClass RX3 = some m.cls := hown
  refine lv_aload_n hx hb dX3_goDown_0 rfl (lv_at hl 0 rfl) ?_
  refine lv_iconst (v := 1) hx hb dX3_goDown_1 (by decide) ?_
  refine va_put (D := (dC, dI)) (ci := 3) (v := .int 1) (ty := .boolean) (C := RX3) (T := TX3) (N := 17) hx hb hts (by decide +kernel) tyX3 tyX3_ok nmX3 hown hK hP hD hS 0 rfl rfl 10 (by decide) (hts (.fieldLink RX3 62 "HouseLogModel" "down" "Z") (by decide +kernel)) (fun _ h9 => h9) rfl (by decide +kernel) (by decide) (by decide) (Nat.le_of_ble_eq_true rfl) dX3_goDown_2 (fun H locs hP hD hS => ?_)
  have hP : va_P (dC, dI) hlCl [(qm, .inr (3, [.int th, .int (nI n), .ref qd, .int rw, .int ak, .ref qk, .ref ql, .ref qy, .int cb, .ref qc, .int 1, .int kp, .int tr, .int md, .int wr, .ref qi, .int sm]))] H := hP
  have hD : va_D A [(qm, .inr (3, [.int th, .int (nI n), .ref qd, .int rw, .int ak, .ref qk, .ref ql, .ref qy, .int cb, .ref qc, .int 1, .int kp, .int tr, .int md, .int wr, .ref qi, .int sm]))] := hD
  refine lv_aload_n hx hb dX3_goDown_5 rfl (lv_at hl 0 rfl) ?_
  refine lv_iconst (v := 0) hx hb dX3_goDown_6 (by decide) ?_
  refine va_put (D := (dC, dI)) (ci := 3) (v := .int 0) (ty := .int) (C := RX3) (T := TX3) (N := 17) hx hb hts (by decide +kernel) tyX3 tyX3_ok nmX3 hown hK hP hD hS 0 rfl rfl 3 (by decide) (hts (.fieldLink RX3 73 "HouseLogModel" "rows" "I") (by decide +kernel)) (fun _ h9 => h9) rfl (by decide +kernel) rfl rfl (Nat.le_of_ble_eq_true rfl) dX3_goDown_7 (fun H locs hP hD hS => ?_)
  have hP : va_P (dC, dI) hlCl [(qm, .inr (3, [.int th, .int (nI n), .ref qd, .int 0, .int ak, .ref qk, .ref ql, .ref qy, .int cb, .ref qc, .int 1, .int kp, .int tr, .int md, .int wr, .ref qi, .int sm]))] H := hP
  have hD : va_D A [(qm, .inr (3, [.int th, .int (nI n), .ref qd, .int 0, .int ak, .ref qk, .ref ql, .ref qy, .int cb, .ref qc, .int 1, .int kp, .int tr, .int md, .int wr, .ref qi, .int sm]))] := hD
  refine lv_aload_n hx hb dX3_goDown_10 rfl (lv_at hl 0 rfl) ?_
  refine lv_iconst (v := 0) hx hb dX3_goDown_11 (by decide) ?_
  refine va_put (D := (dC, dI)) (ci := 3) (v := .int 0) (ty := .int) (C := RX3) (T := TX3) (N := 17) hx hb hts (by decide +kernel) tyX3 tyX3_ok nmX3 hown hK hP hD hS 0 rfl rfl 8 (by decide) (hts (.fieldLink RX3 66 "HouseLogModel" "collected" "I") (by decide +kernel)) (fun _ h9 => h9) rfl (by decide +kernel) rfl rfl (Nat.le_of_ble_eq_true rfl) dX3_goDown_12 (fun H locs hP hD hS => ?_)
  have hP : va_P (dC, dI) hlCl [(qm, .inr (3, [.int th, .int (nI n), .ref qd, .int 0, .int ak, .ref qk, .ref ql, .ref qy, .int 0, .ref qc, .int 1, .int kp, .int tr, .int md, .int wr, .ref qi, .int sm]))] H := hP
  have hD : va_D A [(qm, .inr (3, [.int th, .int (nI n), .ref qd, .int 0, .int ak, .ref qk, .ref ql, .ref qy, .int 0, .ref qc, .int 1, .int kp, .int tr, .int md, .int wr, .ref qi, .int sm]))] := hD
  refine lv_aload_n hx hb dX3_goDown_15 rfl (lv_at hl 0 rfl) ?_
  refine lv_iconst (v := (-1)) hx hb dX3_goDown_16 (by decide) ?_
  refine va_put (D := (dC, dI)) (ci := 3) (v := .int (-1)) (ty := .int) (C := RX3) (T := TX3) (N := 17) hx hb hts (by decide +kernel) tyX3 tyX3_ok nmX3 hown hK hP hD hS 0 rfl rfl 11 (by decide) (hts (.fieldLink RX3 25 "HouseLogModel" "keep" "I") (by decide +kernel)) (fun _ h9 => h9) rfl (by decide +kernel) rfl rfl (Nat.le_of_ble_eq_true rfl) dX3_goDown_17 (fun H locs hP hD hS => ?_)
  have hP : va_P (dC, dI) hlCl [(qm, .inr (3, [.int th, .int (nI n), .ref qd, .int 0, .int ak, .ref qk, .ref ql, .ref qy, .int 0, .ref qc, .int 1, .int (-1), .int tr, .int md, .int wr, .ref qi, .int sm]))] H := hP
  have hD : va_D A [(qm, .inr (3, [.int th, .int (nI n), .ref qd, .int 0, .int ak, .ref qk, .ref ql, .ref qy, .int 0, .ref qc, .int 1, .int (-1), .int tr, .int md, .int wr, .ref qi, .int sm]))] := hD
  exact hr_v hx hb hr hlocks (w1 := [(qm, .inr (3, [.int th, .int (nI n), .ref qd, .int 0, .int ak, .ref qk, .ref ql, .ref qy, .int 0, .ref qc, .int 1, .int (-1), .int tr, .int md, .int wr, .ref qi, .int sm]))]) hP hD hK hS [0] [] rfl rfl rfl (rfl) dX3_goDown_20

def adRI (dn : Int32) (cb : Nat) : Int32 := (if dn = 0 then (if (nI cb) = 40 then 0 else 1) else 0)
def adRN (dn : Int32) (cb : Nat) : Nat := (if dn = 0 then (if (nI cb) = 40 then cb else cb + 1) else cb)
def adRC (dn : Int32) (cb : Nat) (Co : Nat → Int32) (b : Int32) : Nat → Int32 := (if dn = 0 then (if (nI cb) = 40 then Co else upd Co cb (b &&& 255)) else Co)
set_option maxHeartbeats 4000000 in
set_option maxRecDepth 100000 in
theorem kX3_add (l : Launch) (dC : Nat → ClassId) (dI : Nat → Nat → Nat) (sz : Nat) (qm qd qk ql qy qc qi : Nat) (n : Nat) (cAc : ClassId) (th rw ak dn kp tr md wr sm : Int32) (cb : Nat) (Co : Nat → Int32) (b : Int32) (hcb : cb ≤ 40) : Mi_ l yX3_add wsX3_add 0 0 dC dI (fun _ => True) [.ref qm, .int b] [(qm, .inr (3, [.int th, .int (nI n), .ref qd, .int rw, .int ak, .ref qk, .ref ql, .ref qy, .int (nI cb), .ref qc, .int dn, .int kp, .int tr, .int md, .int wr, .ref qi, .int sm])), (qc, .inl (cAc, 40, .inl Co))] [(cAc, .int)] sz (adRI dn cb) [(qm, .inr (3, [.int 0, .int (nI n), .ref qd, .int rw, .int ak, .ref qk, .ref ql, .ref qy, .int (nI (adRN dn cb)), .ref qc, .int dn, .int kp, .int tr, .int md, .int wr, .ref qi, .int sm])), (qc, .inl (cAc, 40, .inl (adRC dn cb Co b)))] := by
  refine hm_ (cc := cX3_add) (maxL := 2) (ret := (some .boolean)) (Qc := fun A => va_Qi (fun (r9 : Int32) (_ : Unit) => r9 = adRI dn cb) (fun _ t9 => qw_ dC dI A [(qm, .inr (3, [.int 0, .int (nI n), .ref qd, .int rw, .int ak, .ref qk, .ref ql, .ref qy, .int (nI (adRN dn cb)), .ref qc, .int dn, .int kp, .int tr, .int md, .int wr, .ref qi, .int sm])), (qc, .inl (cAc, 40, .inl (adRC dn cb Co b)))] [(cAc, .int)] t9) A) (by decide) rfl (Nat.le_of_ble_eq_true rfl) ?_
  intro p e s m below meth c A H locs ls hx hb hr hml hts hown hlocks hsz hP hK hD hE hA hS hl
  have hl : lv_has ls 2 [(0, .ref qm), (1, .int b)] := hl
  have hown : s.vm.findClass RX3 = some m.cls := hown
  refine lv_aload_n hx hb dX3_add_0 rfl (lv_at hl 0 rfl) ?_
  refine lv_iconst (v := 0) hx hb dX3_add_1 (by decide) ?_
  refine va_put (D := (dC, dI)) (ci := 3) (v := .int 0) (ty := .int) (C := RX3) (T := TX3) (N := 17) hx hb hts (by decide +kernel) tyX3 tyX3_ok nmX3 hown hK hP hD hS 0 rfl rfl 0 (by decide) (hts (.fieldLink RX3 35 "HouseLogModel" "thrown" "I") (by decide +kernel)) (fun _ h9 => h9) rfl (by decide +kernel) rfl rfl (Nat.le_of_ble_eq_true rfl) dX3_add_2 (fun H locs hP hD hS => ?_)
  have hP : va_P (dC, dI) hlCl [(qm, .inr (3, [.int 0, .int (nI n), .ref qd, .int rw, .int ak, .ref qk, .ref ql, .ref qy, .int (nI cb), .ref qc, .int dn, .int kp, .int tr, .int md, .int wr, .ref qi, .int sm])), (qc, .inl (cAc, 40, .inl Co))] H := hP
  have hD : va_D A [(qm, .inr (3, [.int 0, .int (nI n), .ref qd, .int rw, .int ak, .ref qk, .ref ql, .ref qy, .int (nI cb), .ref qc, .int dn, .int kp, .int tr, .int md, .int wr, .ref qi, .int sm])), (qc, .inl (cAc, 40, .inl Co))] := hD
  refine lv_aload_n hx hb dX3_add_5 rfl (lv_at hl 0 rfl) ?_
  refine va_get (D := (dC, dI)) (ci := 3) (v := .int dn) (C := RX3) (T := TX3) (N := 17) hx hb hts (by decide +kernel) hown hK hP 0 rfl rfl 10 (by decide) (hts (.fieldLink RX3 62 "HouseLogModel" "down" "Z") (by decide +kernel)) (fun _ h9 => h9) rfl dX3_add_6 ?_
  refine lv_if_ne (tgt := 21) hx hb dX3_add_9 (by decide) (fun c_9 => ?_) (fun c_9 => ?_)
  · skip
    refine lv_iconst (v := 0) hx hb dX3_add_21 (by decide) ?_
    exact hr_z (v := 0) hx hb hr hlocks (by decide) (w1 := [(qm, .inr (3, [.int 0, .int (nI n), .ref qd, .int rw, .int ak, .ref qk, .ref ql, .ref qy, .int (nI cb), .ref qc, .int dn, .int kp, .int tr, .int md, .int wr, .ref qi, .int sm])), (qc, .inl (cAc, 40, .inl Co))]) hP hD hK hS [0, 1] [0] rfl rfl rfl (by simp only [adRI, if_neg c_9] <;> rfl) (by simp only [adRI, adRN, adRC, if_neg c_9] <;> rfl) dX3_add_22
  · skip
    refine lv_aload_n hx hb dX3_add_12 rfl (lv_at hl 0 rfl) ?_
    refine va_get (D := (dC, dI)) (ci := 3) (v := .int (nI cb)) (C := RX3) (T := TX3) (N := 17) hx hb hts (by decide +kernel) hown hK hP 0 rfl rfl 8 (by decide) (hts (.fieldLink RX3 66 "HouseLogModel" "collected" "I") (by decide +kernel)) (fun _ h9 => h9) rfl dX3_add_13 ?_
    refine lv_bipush (v := 40) hx hb dX3_add_16 (by decide) ?_
    refine lv_icmp_ne (tgt := 23) hx hb dX3_add_18 (by decide) (fun c_18 => ?_) (fun c_18 => ?_)
    · skip
      have hcb2 := ne40_ c_18 hcb
      refine lv_aload_n hx hb dX3_add_23 rfl (lv_at hl 0 rfl) ?_
      refine va_get (D := (dC, dI)) (ci := 3) (v := .ref qc) (C := RX3) (T := TX3) (N := 17) hx hb hts (by decide +kernel) hown hK hP 0 rfl rfl 9 (by decide) (hts (.fieldLink RX3 22 "HouseLogModel" "collects" "[I") (by decide +kernel)) (fun _ h9 => h9) rfl dX3_add_24 ?_
      refine lv_aload_n hx hb dX3_add_27 rfl (lv_at hl 0 rfl) ?_
      refine va_get (D := (dC, dI)) (ci := 3) (v := .int (nI cb)) (C := RX3) (T := TX3) (N := 17) hx hb hts (by decide +kernel) hown hK hP 0 rfl rfl 8 (by decide) (hts (.fieldLink RX3 66 "HouseLogModel" "collected" "I") (by decide +kernel)) (fun _ h9 => h9) rfl dX3_add_28 ?_
      refine lv_iload_n hx hb dX3_add_31 rfl (lv_at hl 1 rfl) ?_
      refine lv_sipush (v := 255) hx hb dX3_add_32 (by decide) ?_
      refine lv_iand hx hb dX3_add_35 ?_
      refine va_iast hx hb hK hP hD hS 1 0 rfl rfl (i := nI cb) (vp_in_nI (n := cb) (by omega) (by decide)) dX3_add_36 (fun H locs hP hD hS => ?_)
      rw [show (nI cb : Int32).toNatClampNeg = cb from nI_clamp (by omega)] at hP hD
      have hP : va_P (dC, dI) hlCl [(qm, .inr (3, [.int 0, .int (nI n), .ref qd, .int rw, .int ak, .ref qk, .ref ql, .ref qy, .int (nI cb), .ref qc, .int dn, .int kp, .int tr, .int md, .int wr, .ref qi, .int sm])), (qc, .inl (cAc, 40, .inl (upd Co cb (b &&& 255))))] H := hP
      have hD : va_D A [(qm, .inr (3, [.int 0, .int (nI n), .ref qd, .int rw, .int ak, .ref qk, .ref ql, .ref qy, .int (nI cb), .ref qc, .int dn, .int kp, .int tr, .int md, .int wr, .ref qi, .int sm])), (qc, .inl (cAc, 40, .inl (upd Co cb (b &&& 255))))] := hD
      refine lv_aload_n hx hb dX3_add_37 rfl (lv_at hl 0 rfl) ?_
      refine lv_dup hx hb dX3_add_38 rfl ?_
      refine va_get (D := (dC, dI)) (ci := 3) (v := .int (nI cb)) (C := RX3) (T := TX3) (N := 17) hx hb hts (by decide +kernel) hown hK hP 0 rfl rfl 8 (by decide) (hts (.fieldLink RX3 66 "HouseLogModel" "collected" "I") (by decide +kernel)) (fun _ h9 => h9) rfl dX3_add_39 ?_
      refine lv_iconst (v := 1) hx hb dX3_add_42 (by decide) ?_
      refine lv_iadd hx hb dX3_add_43 ?_
      rw [show ((nI cb) + 1 : Int32) = nI (cb + 1) from nI_add cb 1]
      refine va_put (D := (dC, dI)) (ci := 3) (v := .int (nI (cb + 1))) (ty := .int) (C := RX3) (T := TX3) (N := 17) hx hb hts (by decide +kernel) tyX3 tyX3_ok nmX3 hown hK hP hD hS 0 rfl rfl 8 (by decide) (hts (.fieldLink RX3 66 "HouseLogModel" "collected" "I") (by decide +kernel)) (fun _ h9 => h9) rfl (by decide +kernel) rfl rfl (Nat.le_of_ble_eq_true rfl) dX3_add_44 (fun H locs hP hD hS => ?_)
      have hP : va_P (dC, dI) hlCl [(qm, .inr (3, [.int 0, .int (nI n), .ref qd, .int rw, .int ak, .ref qk, .ref ql, .ref qy, .int (nI (cb + 1)), .ref qc, .int dn, .int kp, .int tr, .int md, .int wr, .ref qi, .int sm])), (qc, .inl (cAc, 40, .inl (upd Co cb (b &&& 255))))] H := hP
      have hD : va_D A [(qm, .inr (3, [.int 0, .int (nI n), .ref qd, .int rw, .int ak, .ref qk, .ref ql, .ref qy, .int (nI (cb + 1)), .ref qc, .int dn, .int kp, .int tr, .int md, .int wr, .ref qi, .int sm])), (qc, .inl (cAc, 40, .inl (upd Co cb (b &&& 255))))] := hD
      refine lv_iconst (v := 1) hx hb dX3_add_47 (by decide) ?_
      exact hr_z (v := 1) hx hb hr hlocks (by decide) (w1 := [(qm, .inr (3, [.int 0, .int (nI n), .ref qd, .int rw, .int ak, .ref qk, .ref ql, .ref qy, .int (nI (cb + 1)), .ref qc, .int dn, .int kp, .int tr, .int md, .int wr, .ref qi, .int sm])), (qc, .inl (cAc, 40, .inl (upd Co cb (b &&& 255))))]) hP hD hK hS [0, 1] [0] rfl rfl rfl (by simp only [adRI, if_pos c_9, if_neg c_18] <;> rfl) (by simp only [adRI, adRN, adRC, if_pos c_9, if_neg c_18] <;> rfl) dX3_add_48
    · skip
      refine lv_iconst (v := 0) hx hb dX3_add_21 (by decide) ?_
      exact hr_z (v := 0) hx hb hr hlocks (by decide) (w1 := [(qm, .inr (3, [.int 0, .int (nI n), .ref qd, .int rw, .int ak, .ref qk, .ref ql, .ref qy, .int (nI cb), .ref qc, .int dn, .int kp, .int tr, .int md, .int wr, .ref qi, .int sm])), (qc, .inl (cAc, 40, .inl Co))]) hP hD hK hS [0, 1] [0] rfl rfl rfl (by simp only [adRI, if_pos c_9, if_pos c_18] <;> rfl) (by simp only [adRI, adRN, adRC, if_pos c_9, if_pos c_18] <;> rfl) dX3_add_22

def cuRI (dn : Int32) (keep tear : Int32) : Int32 := (if dn = 0 then (if keep < (-1) then 0 else (if (inI tear 0 63) = 0 then 0 else 1)) else 0)
def cuRK (dn kp : Int32) (keep tear : Int32) : Int32 := (if dn = 0 then (if keep < (-1) then kp else (if (inI tear 0 63) = 0 then kp else keep)) else kp)
def cuRT (dn tr : Int32) (keep tear : Int32) : Int32 := (if dn = 0 then (if keep < (-1) then tr else (if (inI tear 0 63) = 0 then tr else tear)) else tr)
set_option maxHeartbeats 4000000 in
set_option maxRecDepth 100000 in
theorem kX3_cut (l : Launch) (dC : Nat → ClassId) (dI : Nat → Nat → Nat) (sz : Nat) (qm qd qk ql qy qc qi : Nat) (n : Nat) (th rw ak cb dn kp tr md wr sm : Int32) (keep tear : Int32)  : Mi_ l yX3_cut wsX3_cut 1 22 dC dI (fun _ => True) [.ref qm, .int keep, .int tear] [(qm, .inr (3, [.int th, .int (nI n), .ref qd, .int rw, .int ak, .ref qk, .ref ql, .ref qy, .int cb, .ref qc, .int dn, .int kp, .int tr, .int md, .int wr, .ref qi, .int sm]))] [] sz (cuRI dn keep tear) [(qm, .inr (3, [.int 0, .int (nI n), .ref qd, .int rw, .int ak, .ref qk, .ref ql, .ref qy, .int cb, .ref qc, .int dn, .int (cuRK dn kp keep tear), .int (cuRT dn tr keep tear), .int md, .int wr, .ref qi, .int sm]))] := by
  refine hm_ (cc := cX3_cut) (maxL := 3) (ret := (some .boolean)) (Qc := fun A => va_Qi (fun (r9 : Int32) (_ : Unit) => r9 = cuRI dn keep tear) (fun _ t9 => qw_ dC dI A [(qm, .inr (3, [.int 0, .int (nI n), .ref qd, .int rw, .int ak, .ref qk, .ref ql, .ref qy, .int cb, .ref qc, .int dn, .int (cuRK dn kp keep tear), .int (cuRT dn tr keep tear), .int md, .int wr, .ref qi, .int sm]))] [] t9) A) (by decide) rfl (Nat.le_of_ble_eq_true rfl) ?_
  intro p e s m below meth c A H locs ls hx hb hr hml hts hown hlocks hsz hP hK hD hE hA hS hl
  have hl : lv_has ls 3 [(0, .ref qm), (1, .int keep), (2, .int tear)] := hl
  have hown : s.vm.findClass RX3 = some m.cls := hown
  refine lv_aload_n hx hb dX3_cut_0 rfl (lv_at hl 0 rfl) ?_
  refine lv_iconst (v := 0) hx hb dX3_cut_1 (by decide) ?_
  refine va_put (D := (dC, dI)) (ci := 3) (v := .int 0) (ty := .int) (C := RX3) (T := TX3) (N := 17) hx hb hts (by decide +kernel) tyX3 tyX3_ok nmX3 hown hK hP hD hS 0 rfl rfl 0 (by decide) (hts (.fieldLink RX3 35 "HouseLogModel" "thrown" "I") (by decide +kernel)) (fun _ h9 => h9) rfl (by decide +kernel) rfl rfl (Nat.le_of_ble_eq_true rfl) dX3_cut_2 (fun H locs hP hD hS => ?_)
  have hP : va_P (dC, dI) hlCl [(qm, .inr (3, [.int 0, .int (nI n), .ref qd, .int rw, .int ak, .ref qk, .ref ql, .ref qy, .int cb, .ref qc, .int dn, .int kp, .int tr, .int md, .int wr, .ref qi, .int sm]))] H := hP
  have hD : va_D A [(qm, .inr (3, [.int 0, .int (nI n), .ref qd, .int rw, .int ak, .ref qk, .ref ql, .ref qy, .int cb, .ref qc, .int dn, .int kp, .int tr, .int md, .int wr, .ref qi, .int sm]))] := hD
  refine lv_aload_n hx hb dX3_cut_5 rfl (lv_at hl 0 rfl) ?_
  refine va_get (D := (dC, dI)) (ci := 3) (v := .int dn) (C := RX3) (T := TX3) (N := 17) hx hb hts (by decide +kernel) hown hK hP 0 rfl rfl 10 (by decide) (hts (.fieldLink RX3 62 "HouseLogModel" "down" "Z") (by decide +kernel)) (fun _ h9 => h9) rfl dX3_cut_6 ?_
  refine lv_if_ne (tgt := 27) hx hb dX3_cut_9 (by decide) (fun c_9 => ?_) (fun c_9 => ?_)
  · skip
    refine lv_iconst (v := 0) hx hb dX3_cut_27 (by decide) ?_
    exact hr_z (v := 0) hx hb hr hlocks (by decide) (w1 := [(qm, .inr (3, [.int 0, .int (nI n), .ref qd, .int rw, .int ak, .ref qk, .ref ql, .ref qy, .int cb, .ref qc, .int dn, .int kp, .int tr, .int md, .int wr, .ref qi, .int sm]))]) hP hD hK hS [0] [] rfl rfl rfl (by simp only [cuRI, if_neg c_9] <;> rfl) (by simp only [cuRI, cuRK, cuRT, if_neg c_9] <;> rfl) dX3_cut_28
  · skip
    refine lv_iload_n hx hb dX3_cut_12 rfl (lv_at hl 1 rfl) ?_
    refine lv_iconst (v := (-1)) hx hb dX3_cut_13 (by decide) ?_
    refine lv_icmp_lt (tgt := 27) hx hb dX3_cut_14 (by decide) (fun c_14 => ?_) (fun c_14 => ?_)
    · skip
      refine lv_iconst (v := 0) hx hb dX3_cut_27 (by decide) ?_
      exact hr_z (v := 0) hx hb hr hlocks (by decide) (w1 := [(qm, .inr (3, [.int 0, .int (nI n), .ref qd, .int rw, .int ak, .ref qk, .ref ql, .ref qy, .int cb, .ref qc, .int dn, .int kp, .int tr, .int md, .int wr, .ref qi, .int sm]))]) hP hD hK hS [0] [] rfl rfl rfl (by simp only [cuRI, if_pos c_9, if_pos c_14] <;> rfl) (by simp only [cuRI, cuRK, cuRT, if_pos c_9, if_pos c_14] <;> rfl) dX3_cut_28
    · skip
      refine lv_iload_n hx hb dX3_cut_17 rfl (lv_at hl 2 rfl) ?_
      refine lv_iconst (v := 0) hx hb dX3_cut_18 (by decide) ?_
      refine lv_bipush (v := 63) hx hb dX3_cut_19 (by decide) ?_
      refine hc_iS (As := [.int tear, .int 0, .int 63]) (rest := []) ⟨hx, hb, hml, hown, hts⟩ sx_T trivial (kX3_in l dC dI H.size tear 0 63 ) (va_cwS 3 hts gX3_cut_X3_in rfl rfl rfl (by decide +kernel) ⟨Nat.le_of_ble_eq_true rfl, Nat.le_of_ble_eq_true rfl⟩) hK hP hD hS hA [0] rfl rfl rfl hl.1 rfl (Nat.le_of_ble_eq_true rfl) dX3_cut_21 ⟨Nat.zero_le _, Nat.zero_le _⟩ (fun H locs hP hD hS => ?_)
      refine lv_if_ne (tgt := 29) hx hb dX3_cut_24 (by decide) (fun c_24 => ?_) (fun c_24 => ?_)
      · skip
        refine lv_aload_n hx hb dX3_cut_29 rfl (lv_at hl 0 rfl) ?_
        refine lv_iload_n hx hb dX3_cut_30 rfl (lv_at hl 1 rfl) ?_
        refine va_put (D := (dC, dI)) (ci := 3) (v := .int keep) (ty := .int) (C := RX3) (T := TX3) (N := 17) hx hb hts (by decide +kernel) tyX3 tyX3_ok nmX3 hown hK hP hD hS 0 rfl rfl 11 (by decide) (hts (.fieldLink RX3 25 "HouseLogModel" "keep" "I") (by decide +kernel)) (fun _ h9 => h9) rfl (by decide +kernel) rfl rfl (Nat.le_of_ble_eq_true rfl) dX3_cut_31 (fun H locs hP hD hS => ?_)
        have hP : va_P (dC, dI) hlCl [(qm, .inr (3, [.int 0, .int (nI n), .ref qd, .int rw, .int ak, .ref qk, .ref ql, .ref qy, .int cb, .ref qc, .int dn, .int keep, .int tr, .int md, .int wr, .ref qi, .int sm]))] H := hP
        have hD : va_D A [(qm, .inr (3, [.int 0, .int (nI n), .ref qd, .int rw, .int ak, .ref qk, .ref ql, .ref qy, .int cb, .ref qc, .int dn, .int keep, .int tr, .int md, .int wr, .ref qi, .int sm]))] := hD
        refine lv_aload_n hx hb dX3_cut_34 rfl (lv_at hl 0 rfl) ?_
        refine lv_iload_n hx hb dX3_cut_35 rfl (lv_at hl 2 rfl) ?_
        refine va_put (D := (dC, dI)) (ci := 3) (v := .int tear) (ty := .int) (C := RX3) (T := TX3) (N := 17) hx hb hts (by decide +kernel) tyX3 tyX3_ok nmX3 hown hK hP hD hS 0 rfl rfl 12 (by decide) (hts (.fieldLink RX3 76 "HouseLogModel" "tear" "I") (by decide +kernel)) (fun _ h9 => h9) rfl (by decide +kernel) rfl rfl (Nat.le_of_ble_eq_true rfl) dX3_cut_36 (fun H locs hP hD hS => ?_)
        have hP : va_P (dC, dI) hlCl [(qm, .inr (3, [.int 0, .int (nI n), .ref qd, .int rw, .int ak, .ref qk, .ref ql, .ref qy, .int cb, .ref qc, .int dn, .int keep, .int tear, .int md, .int wr, .ref qi, .int sm]))] H := hP
        have hD : va_D A [(qm, .inr (3, [.int 0, .int (nI n), .ref qd, .int rw, .int ak, .ref qk, .ref ql, .ref qy, .int cb, .ref qc, .int dn, .int keep, .int tear, .int md, .int wr, .ref qi, .int sm]))] := hD
        refine lv_iconst (v := 1) hx hb dX3_cut_39 (by decide) ?_
        exact hr_z (v := 1) hx hb hr hlocks (by decide) (w1 := [(qm, .inr (3, [.int 0, .int (nI n), .ref qd, .int rw, .int ak, .ref qk, .ref ql, .ref qy, .int cb, .ref qc, .int dn, .int keep, .int tear, .int md, .int wr, .ref qi, .int sm]))]) hP hD hK hS [0] [] rfl rfl rfl (by simp only [cuRI, if_pos c_9, if_neg c_14, if_neg c_24] <;> rfl) (by simp only [cuRI, cuRK, cuRT, if_pos c_9, if_neg c_14, if_neg c_24] <;> rfl) dX3_cut_40
      · skip
        refine lv_iconst (v := 0) hx hb dX3_cut_27 (by decide) ?_
        exact hr_z (v := 0) hx hb hr hlocks (by decide) (w1 := [(qm, .inr (3, [.int 0, .int (nI n), .ref qd, .int rw, .int ak, .ref qk, .ref ql, .ref qy, .int cb, .ref qc, .int dn, .int kp, .int tr, .int md, .int wr, .ref qi, .int sm]))]) hP hD hK hS [0] [] rfl rfl rfl (by simp only [cuRI, if_pos c_9, if_neg c_14, if_pos c_24] <;> rfl) (by simp only [cuRI, cuRK, cuRT, if_pos c_9, if_neg c_14, if_pos c_24] <;> rfl) dX3_cut_28

def coRI (n : Nat) (rw ak cb dn md wr : Int32) (x : Int32) : Int32 := (if x = 0 then nI n else (if x = 1 then (if dn = 0 then rw else (-1)) else (if x = 2 then ak else (if x = 3 then cb else (if x = 4 then (if dn = 0 then 0 else 1) else (if x = 5 then md else (if x = 6 then wr else (if x = 7 then (if dn = 0 then (if rw ≤ ((nI n) - 2) then ((nI n) - 2) - rw else 0) else 0) else (-1)))))))))
set_option maxHeartbeats 4000000 in
set_option maxRecDepth 100000 in
theorem kX3_count (l : Launch) (dC : Nat → ClassId) (dI : Nat → Nat → Nat) (sz : Nat) (qm qd qk ql qy qc qi : Nat) (n : Nat) (th rw ak cb dn kp tr md wr sm : Int32) (x : Int32)  : Mi_ l yX3_count wsX3_count 0 0 dC dI (fun _ => True) [.ref qm, .int x] [(qm, .inr (3, [.int th, .int (nI n), .ref qd, .int rw, .int ak, .ref qk, .ref ql, .ref qy, .int cb, .ref qc, .int dn, .int kp, .int tr, .int md, .int wr, .ref qi, .int sm]))] [] sz (coRI n rw ak cb dn md wr x) [(qm, .inr (3, [.int 0, .int (nI n), .ref qd, .int rw, .int ak, .ref qk, .ref ql, .ref qy, .int cb, .ref qc, .int dn, .int kp, .int tr, .int md, .int wr, .ref qi, .int sm]))] := by
  refine hm_ (cc := cX3_count) (maxL := 2) (ret := (some .int)) (Qc := fun A => va_Qi (fun (r9 : Int32) (_ : Unit) => r9 = coRI n rw ak cb dn md wr x) (fun _ t9 => qw_ dC dI A [(qm, .inr (3, [.int 0, .int (nI n), .ref qd, .int rw, .int ak, .ref qk, .ref ql, .ref qy, .int cb, .ref qc, .int dn, .int kp, .int tr, .int md, .int wr, .ref qi, .int sm]))] [] t9) A) (by decide) rfl (Nat.le_of_ble_eq_true rfl) ?_
  intro p e s m below meth c A H locs ls hx hb hr hml hts hown hlocks hsz hP hK hD hE hA hS hl
  have hl : lv_has ls 2 [(0, .ref qm), (1, .int x)] := hl
  have hown : s.vm.findClass RX3 = some m.cls := hown
  refine lv_aload_n hx hb dX3_count_0 rfl (lv_at hl 0 rfl) ?_
  refine lv_iconst (v := 0) hx hb dX3_count_1 (by decide) ?_
  refine va_put (D := (dC, dI)) (ci := 3) (v := .int 0) (ty := .int) (C := RX3) (T := TX3) (N := 17) hx hb hts (by decide +kernel) tyX3 tyX3_ok nmX3 hown hK hP hD hS 0 rfl rfl 0 (by decide) (hts (.fieldLink RX3 35 "HouseLogModel" "thrown" "I") (by decide +kernel)) (fun _ h9 => h9) rfl (by decide +kernel) rfl rfl (Nat.le_of_ble_eq_true rfl) dX3_count_2 (fun H locs hP hD hS => ?_)
  have hP : va_P (dC, dI) hlCl [(qm, .inr (3, [.int 0, .int (nI n), .ref qd, .int rw, .int ak, .ref qk, .ref ql, .ref qy, .int cb, .ref qc, .int dn, .int kp, .int tr, .int md, .int wr, .ref qi, .int sm]))] H := hP
  have hD : va_D A [(qm, .inr (3, [.int 0, .int (nI n), .ref qd, .int rw, .int ak, .ref qk, .ref ql, .ref qy, .int cb, .ref qc, .int dn, .int kp, .int tr, .int md, .int wr, .ref qi, .int sm]))] := hD
  refine lv_iload_n hx hb dX3_count_5 rfl (lv_at hl 1 rfl) ?_
  rcases sw_ x 7 (by decide) with hsw | ⟨jsw, hjsw, esw⟩
  · skip
    refine lv_tableOut (tgt := 142) hx hb dX3_count_6 hsw (by decide) ?_
    refine lv_iconst (v := (-1)) hx hb dX3_count_142 (by decide) ?_
    exact hr_i (v := (-1)) hx hb hr hlocks (w1 := [(qm, .inr (3, [.int 0, .int (nI n), .ref qd, .int rw, .int ak, .ref qk, .ref ql, .ref qy, .int cb, .ref qc, .int dn, .int kp, .int tr, .int md, .int wr, .ref qi, .int sm]))]) hP hD hK hS [0] [] rfl rfl rfl (by simp only [coRI, if_neg (show ¬ x = 0 from sw_ne 7 0 (by decide) (by decide) hsw), if_neg (show ¬ x = 1 from sw_ne 7 1 (by decide) (by decide) hsw), if_neg (show ¬ x = 2 from sw_ne 7 2 (by decide) (by decide) hsw), if_neg (show ¬ x = 3 from sw_ne 7 3 (by decide) (by decide) hsw), if_neg (show ¬ x = 4 from sw_ne 7 4 (by decide) (by decide) hsw), if_neg (show ¬ x = 5 from sw_ne 7 5 (by decide) (by decide) hsw), if_neg (show ¬ x = 6 from sw_ne 7 6 (by decide) (by decide) hsw), if_neg (show ¬ x = 7 from sw_ne 7 7 (by decide) (by decide) hsw)] <;> rfl) (by simp only [coRI, if_neg (show ¬ x = 0 from sw_ne 7 0 (by decide) (by decide) hsw), if_neg (show ¬ x = 1 from sw_ne 7 1 (by decide) (by decide) hsw), if_neg (show ¬ x = 2 from sw_ne 7 2 (by decide) (by decide) hsw), if_neg (show ¬ x = 3 from sw_ne 7 3 (by decide) (by decide) hsw), if_neg (show ¬ x = 4 from sw_ne 7 4 (by decide) (by decide) hsw), if_neg (show ¬ x = 5 from sw_ne 7 5 (by decide) (by decide) hsw), if_neg (show ¬ x = 6 from sw_ne 7 6 (by decide) (by decide) hsw), if_neg (show ¬ x = 7 from sw_ne 7 7 (by decide) (by decide) hsw)] <;> rfl) dX3_count_143
  · obtain rfl | rfl | rfl | rfl | rfl | rfl | rfl | rfl : jsw = 0 ∨ jsw = 1 ∨ jsw = 2 ∨ jsw = 3 ∨ jsw = 4 ∨ jsw = 5 ∨ jsw = 6 ∨ jsw = 7 := by omega
    · skip
      refine lv_tableIn (tgt := 52) hx hb dX3_count_6 (by rw [esw]; decide) (by rw [esw]; decide) (off := 46) (by rw [esw]; decide) (by decide) ?_
      refine lv_aload_n hx hb dX3_count_52 rfl (lv_at hl 0 rfl) ?_
      refine va_get (D := (dC, dI)) (ci := 3) (v := .int (nI n)) (C := RX3) (T := TX3) (N := 17) hx hb hts (by decide +kernel) hown hK hP 0 rfl rfl 1 (by decide) (hts (.fieldLink RX3 32 "HouseLogModel" "sectors" "I") (by decide +kernel)) (fun _ h9 => h9) rfl dX3_count_53 ?_
      exact hr_i (v := nI n) hx hb hr hlocks (w1 := [(qm, .inr (3, [.int 0, .int (nI n), .ref qd, .int rw, .int ak, .ref qk, .ref ql, .ref qy, .int cb, .ref qc, .int dn, .int kp, .int tr, .int md, .int wr, .ref qi, .int sm]))]) hP hD hK hS [0] [] rfl rfl rfl (by simp only [coRI, if_pos (show x = 0 from esw)] <;> rfl) (by simp only [coRI, if_pos (show x = 0 from esw)] <;> rfl) dX3_count_56
    · skip
      refine lv_tableIn (tgt := 57) hx hb dX3_count_6 (by rw [esw]; decide) (by rw [esw]; decide) (off := 51) (by rw [esw]; decide) (by decide) ?_
      refine lv_aload_n hx hb dX3_count_57 rfl (lv_at hl 0 rfl) ?_
      refine va_get (D := (dC, dI)) (ci := 3) (v := .int dn) (C := RX3) (T := TX3) (N := 17) hx hb hts (by decide +kernel) hown hK hP 0 rfl rfl 10 (by decide) (hts (.fieldLink RX3 62 "HouseLogModel" "down" "Z") (by decide +kernel)) (fun _ h9 => h9) rfl dX3_count_58 ?_
      refine lv_if_eq (tgt := 68) hx hb dX3_count_61 (by decide) (fun c_61 => ?_) (fun c_61 => ?_)
      · skip
        refine lv_aload_n hx hb dX3_count_68 rfl (lv_at hl 0 rfl) ?_
        refine va_get (D := (dC, dI)) (ci := 3) (v := .int rw) (C := RX3) (T := TX3) (N := 17) hx hb hts (by decide +kernel) hown hK hP 0 rfl rfl 3 (by decide) (hts (.fieldLink RX3 73 "HouseLogModel" "rows" "I") (by decide +kernel)) (fun _ h9 => h9) rfl dX3_count_69 ?_
        exact hr_i (v := rw) hx hb hr hlocks (w1 := [(qm, .inr (3, [.int 0, .int (nI n), .ref qd, .int rw, .int ak, .ref qk, .ref ql, .ref qy, .int cb, .ref qc, .int dn, .int kp, .int tr, .int md, .int wr, .ref qi, .int sm]))]) hP hD hK hS [0] [] rfl rfl rfl (by simp only [coRI, if_neg (show ¬ x = 0 by rw [esw]; decide), if_pos (show x = 1 from esw), if_pos c_61] <;> rfl) (by simp only [coRI, if_neg (show ¬ x = 0 by rw [esw]; decide), if_pos (show x = 1 from esw), if_pos c_61] <;> rfl) dX3_count_72
      · skip
        refine lv_iconst (v := (-1)) hx hb dX3_count_64 (by decide) ?_
        refine lv_goto (tgt := 72) hx hb dX3_count_65 (by decide) ?_
        exact hr_i (v := (-1)) hx hb hr hlocks (w1 := [(qm, .inr (3, [.int 0, .int (nI n), .ref qd, .int rw, .int ak, .ref qk, .ref ql, .ref qy, .int cb, .ref qc, .int dn, .int kp, .int tr, .int md, .int wr, .ref qi, .int sm]))]) hP hD hK hS [0] [] rfl rfl rfl (by simp only [coRI, if_neg (show ¬ x = 0 by rw [esw]; decide), if_pos (show x = 1 from esw), if_neg c_61] <;> rfl) (by simp only [coRI, if_neg (show ¬ x = 0 by rw [esw]; decide), if_pos (show x = 1 from esw), if_neg c_61] <;> rfl) dX3_count_72
    · skip
      refine lv_tableIn (tgt := 73) hx hb dX3_count_6 (by rw [esw]; decide) (by rw [esw]; decide) (off := 67) (by rw [esw]; decide) (by decide) ?_
      refine lv_aload_n hx hb dX3_count_73 rfl (lv_at hl 0 rfl) ?_
      refine va_get (D := (dC, dI)) (ci := 3) (v := .int ak) (C := RX3) (T := TX3) (N := 17) hx hb hts (by decide +kernel) hown hK hP 0 rfl rfl 4 (by decide) (hts (.fieldLink RX3 82 "HouseLogModel" "acknowledged" "I") (by decide +kernel)) (fun _ h9 => h9) rfl dX3_count_74 ?_
      exact hr_i (v := ak) hx hb hr hlocks (w1 := [(qm, .inr (3, [.int 0, .int (nI n), .ref qd, .int rw, .int ak, .ref qk, .ref ql, .ref qy, .int cb, .ref qc, .int dn, .int kp, .int tr, .int md, .int wr, .ref qi, .int sm]))]) hP hD hK hS [0] [] rfl rfl rfl (by simp only [coRI, if_neg (show ¬ x = 0 by rw [esw]; decide), if_neg (show ¬ x = 1 by rw [esw]; decide), if_pos (show x = 2 from esw)] <;> rfl) (by simp only [coRI, if_neg (show ¬ x = 0 by rw [esw]; decide), if_neg (show ¬ x = 1 by rw [esw]; decide), if_pos (show x = 2 from esw)] <;> rfl) dX3_count_77
    · skip
      refine lv_tableIn (tgt := 78) hx hb dX3_count_6 (by rw [esw]; decide) (by rw [esw]; decide) (off := 72) (by rw [esw]; decide) (by decide) ?_
      refine lv_aload_n hx hb dX3_count_78 rfl (lv_at hl 0 rfl) ?_
      refine va_get (D := (dC, dI)) (ci := 3) (v := .int cb) (C := RX3) (T := TX3) (N := 17) hx hb hts (by decide +kernel) hown hK hP 0 rfl rfl 8 (by decide) (hts (.fieldLink RX3 66 "HouseLogModel" "collected" "I") (by decide +kernel)) (fun _ h9 => h9) rfl dX3_count_79 ?_
      exact hr_i (v := cb) hx hb hr hlocks (w1 := [(qm, .inr (3, [.int 0, .int (nI n), .ref qd, .int rw, .int ak, .ref qk, .ref ql, .ref qy, .int cb, .ref qc, .int dn, .int kp, .int tr, .int md, .int wr, .ref qi, .int sm]))]) hP hD hK hS [0] [] rfl rfl rfl (by simp only [coRI, if_neg (show ¬ x = 0 by rw [esw]; decide), if_neg (show ¬ x = 1 by rw [esw]; decide), if_neg (show ¬ x = 2 by rw [esw]; decide), if_pos (show x = 3 from esw)] <;> rfl) (by simp only [coRI, if_neg (show ¬ x = 0 by rw [esw]; decide), if_neg (show ¬ x = 1 by rw [esw]; decide), if_neg (show ¬ x = 2 by rw [esw]; decide), if_pos (show x = 3 from esw)] <;> rfl) dX3_count_82
    · skip
      refine lv_tableIn (tgt := 83) hx hb dX3_count_6 (by rw [esw]; decide) (by rw [esw]; decide) (off := 77) (by rw [esw]; decide) (by decide) ?_
      refine lv_aload_n hx hb dX3_count_83 rfl (lv_at hl 0 rfl) ?_
      refine va_get (D := (dC, dI)) (ci := 3) (v := .int dn) (C := RX3) (T := TX3) (N := 17) hx hb hts (by decide +kernel) hown hK hP 0 rfl rfl 10 (by decide) (hts (.fieldLink RX3 62 "HouseLogModel" "down" "Z") (by decide +kernel)) (fun _ h9 => h9) rfl dX3_count_84 ?_
      refine lv_if_eq (tgt := 94) hx hb dX3_count_87 (by decide) (fun c_87 => ?_) (fun c_87 => ?_)
      · skip
        refine lv_iconst (v := 0) hx hb dX3_count_94 (by decide) ?_
        exact hr_i (v := 0) hx hb hr hlocks (w1 := [(qm, .inr (3, [.int 0, .int (nI n), .ref qd, .int rw, .int ak, .ref qk, .ref ql, .ref qy, .int cb, .ref qc, .int dn, .int kp, .int tr, .int md, .int wr, .ref qi, .int sm]))]) hP hD hK hS [0] [] rfl rfl rfl (by simp only [coRI, if_neg (show ¬ x = 0 by rw [esw]; decide), if_neg (show ¬ x = 1 by rw [esw]; decide), if_neg (show ¬ x = 2 by rw [esw]; decide), if_neg (show ¬ x = 3 by rw [esw]; decide), if_pos (show x = 4 from esw), if_pos c_87] <;> rfl) (by simp only [coRI, if_neg (show ¬ x = 0 by rw [esw]; decide), if_neg (show ¬ x = 1 by rw [esw]; decide), if_neg (show ¬ x = 2 by rw [esw]; decide), if_neg (show ¬ x = 3 by rw [esw]; decide), if_pos (show x = 4 from esw), if_pos c_87] <;> rfl) dX3_count_95
      · skip
        refine lv_iconst (v := 1) hx hb dX3_count_90 (by decide) ?_
        refine lv_goto (tgt := 95) hx hb dX3_count_91 (by decide) ?_
        exact hr_i (v := 1) hx hb hr hlocks (w1 := [(qm, .inr (3, [.int 0, .int (nI n), .ref qd, .int rw, .int ak, .ref qk, .ref ql, .ref qy, .int cb, .ref qc, .int dn, .int kp, .int tr, .int md, .int wr, .ref qi, .int sm]))]) hP hD hK hS [0] [] rfl rfl rfl (by simp only [coRI, if_neg (show ¬ x = 0 by rw [esw]; decide), if_neg (show ¬ x = 1 by rw [esw]; decide), if_neg (show ¬ x = 2 by rw [esw]; decide), if_neg (show ¬ x = 3 by rw [esw]; decide), if_pos (show x = 4 from esw), if_neg c_87] <;> rfl) (by simp only [coRI, if_neg (show ¬ x = 0 by rw [esw]; decide), if_neg (show ¬ x = 1 by rw [esw]; decide), if_neg (show ¬ x = 2 by rw [esw]; decide), if_neg (show ¬ x = 3 by rw [esw]; decide), if_pos (show x = 4 from esw), if_neg c_87] <;> rfl) dX3_count_95
    · skip
      refine lv_tableIn (tgt := 96) hx hb dX3_count_6 (by rw [esw]; decide) (by rw [esw]; decide) (off := 90) (by rw [esw]; decide) (by decide) ?_
      refine lv_aload_n hx hb dX3_count_96 rfl (lv_at hl 0 rfl) ?_
      refine va_get (D := (dC, dI)) (ci := 3) (v := .int md) (C := RX3) (T := TX3) (N := 17) hx hb hts (by decide +kernel) hown hK hP 0 rfl rfl 13 (by decide) (hts (.fieldLink RX3 95 "HouseLogModel" "mended" "I") (by decide +kernel)) (fun _ h9 => h9) rfl dX3_count_97 ?_
      exact hr_i (v := md) hx hb hr hlocks (w1 := [(qm, .inr (3, [.int 0, .int (nI n), .ref qd, .int rw, .int ak, .ref qk, .ref ql, .ref qy, .int cb, .ref qc, .int dn, .int kp, .int tr, .int md, .int wr, .ref qi, .int sm]))]) hP hD hK hS [0] [] rfl rfl rfl (by simp only [coRI, if_neg (show ¬ x = 0 by rw [esw]; decide), if_neg (show ¬ x = 1 by rw [esw]; decide), if_neg (show ¬ x = 2 by rw [esw]; decide), if_neg (show ¬ x = 3 by rw [esw]; decide), if_neg (show ¬ x = 4 by rw [esw]; decide), if_pos (show x = 5 from esw)] <;> rfl) (by simp only [coRI, if_neg (show ¬ x = 0 by rw [esw]; decide), if_neg (show ¬ x = 1 by rw [esw]; decide), if_neg (show ¬ x = 2 by rw [esw]; decide), if_neg (show ¬ x = 3 by rw [esw]; decide), if_neg (show ¬ x = 4 by rw [esw]; decide), if_pos (show x = 5 from esw)] <;> rfl) dX3_count_100
    · skip
      refine lv_tableIn (tgt := 101) hx hb dX3_count_6 (by rw [esw]; decide) (by rw [esw]; decide) (off := 95) (by rw [esw]; decide) (by decide) ?_
      refine lv_aload_n hx hb dX3_count_101 rfl (lv_at hl 0 rfl) ?_
      refine va_get (D := (dC, dI)) (ci := 3) (v := .int wr) (C := RX3) (T := TX3) (N := 17) hx hb hts (by decide +kernel) hown hK hP 0 rfl rfl 14 (by decide) (hts (.fieldLink RX3 79 "HouseLogModel" "writes" "I") (by decide +kernel)) (fun _ h9 => h9) rfl dX3_count_102 ?_
      exact hr_i (v := wr) hx hb hr hlocks (w1 := [(qm, .inr (3, [.int 0, .int (nI n), .ref qd, .int rw, .int ak, .ref qk, .ref ql, .ref qy, .int cb, .ref qc, .int dn, .int kp, .int tr, .int md, .int wr, .ref qi, .int sm]))]) hP hD hK hS [0] [] rfl rfl rfl (by simp only [coRI, if_neg (show ¬ x = 0 by rw [esw]; decide), if_neg (show ¬ x = 1 by rw [esw]; decide), if_neg (show ¬ x = 2 by rw [esw]; decide), if_neg (show ¬ x = 3 by rw [esw]; decide), if_neg (show ¬ x = 4 by rw [esw]; decide), if_neg (show ¬ x = 5 by rw [esw]; decide), if_pos (show x = 6 from esw)] <;> rfl) (by simp only [coRI, if_neg (show ¬ x = 0 by rw [esw]; decide), if_neg (show ¬ x = 1 by rw [esw]; decide), if_neg (show ¬ x = 2 by rw [esw]; decide), if_neg (show ¬ x = 3 by rw [esw]; decide), if_neg (show ¬ x = 4 by rw [esw]; decide), if_neg (show ¬ x = 5 by rw [esw]; decide), if_pos (show x = 6 from esw)] <;> rfl) dX3_count_105
    · skip
      refine lv_tableIn (tgt := 106) hx hb dX3_count_6 (by rw [esw]; decide) (by rw [esw]; decide) (off := 100) (by rw [esw]; decide) (by decide) ?_
      refine lv_aload_n hx hb dX3_count_106 rfl (lv_at hl 0 rfl) ?_
      refine va_get (D := (dC, dI)) (ci := 3) (v := .int dn) (C := RX3) (T := TX3) (N := 17) hx hb hts (by decide +kernel) hown hK hP 0 rfl rfl 10 (by decide) (hts (.fieldLink RX3 62 "HouseLogModel" "down" "Z") (by decide +kernel)) (fun _ h9 => h9) rfl dX3_count_107 ?_
      refine lv_if_ne (tgt := 126) hx hb dX3_count_110 (by decide) (fun c_110 => ?_) (fun c_110 => ?_)
      · skip
        refine lv_iconst (v := 0) hx hb dX3_count_126 (by decide) ?_
        refine lv_goto (tgt := 141) hx hb dX3_count_127 (by decide) ?_
        exact hr_i (v := 0) hx hb hr hlocks (w1 := [(qm, .inr (3, [.int 0, .int (nI n), .ref qd, .int rw, .int ak, .ref qk, .ref ql, .ref qy, .int cb, .ref qc, .int dn, .int kp, .int tr, .int md, .int wr, .ref qi, .int sm]))]) hP hD hK hS [0] [] rfl rfl rfl (by simp only [coRI, if_neg (show ¬ x = 0 by rw [esw]; decide), if_neg (show ¬ x = 1 by rw [esw]; decide), if_neg (show ¬ x = 2 by rw [esw]; decide), if_neg (show ¬ x = 3 by rw [esw]; decide), if_neg (show ¬ x = 4 by rw [esw]; decide), if_neg (show ¬ x = 5 by rw [esw]; decide), if_neg (show ¬ x = 6 by rw [esw]; decide), if_pos (show x = 7 from esw), if_neg c_110] <;> rfl) (by simp only [coRI, if_neg (show ¬ x = 0 by rw [esw]; decide), if_neg (show ¬ x = 1 by rw [esw]; decide), if_neg (show ¬ x = 2 by rw [esw]; decide), if_neg (show ¬ x = 3 by rw [esw]; decide), if_neg (show ¬ x = 4 by rw [esw]; decide), if_neg (show ¬ x = 5 by rw [esw]; decide), if_neg (show ¬ x = 6 by rw [esw]; decide), if_pos (show x = 7 from esw), if_neg c_110] <;> rfl) dX3_count_141
      · skip
        refine lv_aload_n hx hb dX3_count_113 rfl (lv_at hl 0 rfl) ?_
        refine va_get (D := (dC, dI)) (ci := 3) (v := .int rw) (C := RX3) (T := TX3) (N := 17) hx hb hts (by decide +kernel) hown hK hP 0 rfl rfl 3 (by decide) (hts (.fieldLink RX3 73 "HouseLogModel" "rows" "I") (by decide +kernel)) (fun _ h9 => h9) rfl dX3_count_114 ?_
        refine lv_aload_n hx hb dX3_count_117 rfl (lv_at hl 0 rfl) ?_
        refine va_get (D := (dC, dI)) (ci := 3) (v := .int (nI n)) (C := RX3) (T := TX3) (N := 17) hx hb hts (by decide +kernel) hown hK hP 0 rfl rfl 1 (by decide) (hts (.fieldLink RX3 32 "HouseLogModel" "sectors" "I") (by decide +kernel)) (fun _ h9 => h9) rfl dX3_count_118 ?_
        refine lv_iconst (v := 2) hx hb dX3_count_121 (by decide) ?_
        refine lv_isub hx hb dX3_count_122 ?_
        refine lv_icmp_le (tgt := 130) hx hb dX3_count_123 (by decide) (fun c_123 => ?_) (fun c_123 => ?_)
        · skip
          refine lv_aload_n hx hb dX3_count_130 rfl (lv_at hl 0 rfl) ?_
          refine va_get (D := (dC, dI)) (ci := 3) (v := .int (nI n)) (C := RX3) (T := TX3) (N := 17) hx hb hts (by decide +kernel) hown hK hP 0 rfl rfl 1 (by decide) (hts (.fieldLink RX3 32 "HouseLogModel" "sectors" "I") (by decide +kernel)) (fun _ h9 => h9) rfl dX3_count_131 ?_
          refine lv_iconst (v := 2) hx hb dX3_count_134 (by decide) ?_
          refine lv_isub hx hb dX3_count_135 ?_
          refine lv_aload_n hx hb dX3_count_136 rfl (lv_at hl 0 rfl) ?_
          refine va_get (D := (dC, dI)) (ci := 3) (v := .int rw) (C := RX3) (T := TX3) (N := 17) hx hb hts (by decide +kernel) hown hK hP 0 rfl rfl 3 (by decide) (hts (.fieldLink RX3 73 "HouseLogModel" "rows" "I") (by decide +kernel)) (fun _ h9 => h9) rfl dX3_count_137 ?_
          refine lv_isub hx hb dX3_count_140 ?_
          exact hr_i (v := ((nI n) - 2) - rw) hx hb hr hlocks (w1 := [(qm, .inr (3, [.int 0, .int (nI n), .ref qd, .int rw, .int ak, .ref qk, .ref ql, .ref qy, .int cb, .ref qc, .int dn, .int kp, .int tr, .int md, .int wr, .ref qi, .int sm]))]) hP hD hK hS [0] [] rfl rfl rfl (by simp only [coRI, if_neg (show ¬ x = 0 by rw [esw]; decide), if_neg (show ¬ x = 1 by rw [esw]; decide), if_neg (show ¬ x = 2 by rw [esw]; decide), if_neg (show ¬ x = 3 by rw [esw]; decide), if_neg (show ¬ x = 4 by rw [esw]; decide), if_neg (show ¬ x = 5 by rw [esw]; decide), if_neg (show ¬ x = 6 by rw [esw]; decide), if_pos (show x = 7 from esw), if_pos c_110, if_pos c_123] <;> rfl) (by simp only [coRI, if_neg (show ¬ x = 0 by rw [esw]; decide), if_neg (show ¬ x = 1 by rw [esw]; decide), if_neg (show ¬ x = 2 by rw [esw]; decide), if_neg (show ¬ x = 3 by rw [esw]; decide), if_neg (show ¬ x = 4 by rw [esw]; decide), if_neg (show ¬ x = 5 by rw [esw]; decide), if_neg (show ¬ x = 6 by rw [esw]; decide), if_pos (show x = 7 from esw), if_pos c_110, if_pos c_123] <;> rfl) dX3_count_141
        · skip
          refine lv_iconst (v := 0) hx hb dX3_count_126 (by decide) ?_
          refine lv_goto (tgt := 141) hx hb dX3_count_127 (by decide) ?_
          exact hr_i (v := 0) hx hb hr hlocks (w1 := [(qm, .inr (3, [.int 0, .int (nI n), .ref qd, .int rw, .int ak, .ref qk, .ref ql, .ref qy, .int cb, .ref qc, .int dn, .int kp, .int tr, .int md, .int wr, .ref qi, .int sm]))]) hP hD hK hS [0] [] rfl rfl rfl (by simp only [coRI, if_neg (show ¬ x = 0 by rw [esw]; decide), if_neg (show ¬ x = 1 by rw [esw]; decide), if_neg (show ¬ x = 2 by rw [esw]; decide), if_neg (show ¬ x = 3 by rw [esw]; decide), if_neg (show ¬ x = 4 by rw [esw]; decide), if_neg (show ¬ x = 5 by rw [esw]; decide), if_neg (show ¬ x = 6 by rw [esw]; decide), if_pos (show x = 7 from esw), if_pos c_110, if_neg c_123] <;> rfl) (by simp only [coRI, if_neg (show ¬ x = 0 by rw [esw]; decide), if_neg (show ¬ x = 1 by rw [esw]; decide), if_neg (show ¬ x = 2 by rw [esw]; decide), if_neg (show ¬ x = 3 by rw [esw]; decide), if_neg (show ¬ x = 4 by rw [esw]; decide), if_neg (show ¬ x = 5 by rw [esw]; decide), if_neg (show ¬ x = 6 by rw [esw]; decide), if_pos (show x = 7 from esw), if_pos c_110, if_neg c_123] <;> rfl) dX3_count_141

theorem in_nat {x z : Int32} {m : Nat} (hm : m < 2 ^ 31) (h : ¬ inI x 0 z = 0) (hz : z = nI m) : ∃ j : Nat, j ≤ m ∧ x = nI j := by
  unfold inI at h
  by_cases h1 : x < 0
  · rw [if_pos h1] at h
    exact absurd rfl h
  · rw [if_neg h1] at h
    by_cases h2 : z < x
    · rw [if_pos h2] at h
      exact absurd rfl h
    · obtain ⟨j, hj, e⟩ := nI_of h1
      refine ⟨j, ?_, e⟩
      rw [e, hz] at h2
      rcases Nat.lt_or_ge m j with q | q
      · exact absurd (nI_lt q hj) h2
      · exact q

def dkRI (n : Nat) (D : Nat → Int32) (x i : Int32) : Int32 := (if (inI x 0 1) = 0 then 0 else (if (inI i 0 ((nI (64 * n)) - 1)) = 0 then 0 else D (4096 * x.toNatClampNeg + i.toNatClampNeg)))
def dkRT (n : Nat) (x i : Int32) : Int32 := (if (inI x 0 1) = 0 then (if (inI i 0 ((nI (64 * n)) - 1)) = 0 then flI 1 1 0 else flI 1 0 0) else (if (inI i 0 ((nI (64 * n)) - 1)) = 0 then flI 0 1 0 else flI 0 0 0))
set_option maxHeartbeats 4000000 in
set_option maxRecDepth 100000 in
theorem kX3_disk (l : Launch) (dC : Nat → ClassId) (dI : Nat → Nat → Nat) (sz : Nat) (qm qd qk ql qy qc qi : Nat) (n : Nat) (cAd : ClassId) (th rw ak cb dn kp tr md wr sm : Int32) (D : Nat → Int32) (x i : Int32) (hn4 : 4 ≤ n) (hn : n ≤ 64) : Mi_ l yX3_disk wsX3_disk 1 23 dC dI (fun _ => True) [.ref qm, .int x, .int i] [(qm, .inr (3, [.int th, .int (nI n), .ref qd, .int rw, .int ak, .ref qk, .ref ql, .ref qy, .int cb, .ref qc, .int dn, .int kp, .int tr, .int md, .int wr, .ref qi, .int sm])), (qd, .inl (cAd, 8192, .inl D))] [(cAd, .int)] sz (dkRI n D x i) [(qm, .inr (3, [.int (dkRT n x i), .int (nI n), .ref qd, .int rw, .int ak, .ref qk, .ref ql, .ref qy, .int cb, .ref qc, .int dn, .int kp, .int tr, .int md, .int wr, .ref qi, .int sm])), (qd, .inl (cAd, 8192, .inl D))] := by
  refine hm_ (cc := cX3_disk) (maxL := 3) (ret := (some .int)) (Qc := fun A => va_Qi (fun (r9 : Int32) (_ : Unit) => r9 = dkRI n D x i) (fun _ t9 => qw_ dC dI A [(qm, .inr (3, [.int (dkRT n x i), .int (nI n), .ref qd, .int rw, .int ak, .ref qk, .ref ql, .ref qy, .int cb, .ref qc, .int dn, .int kp, .int tr, .int md, .int wr, .ref qi, .int sm])), (qd, .inl (cAd, 8192, .inl D))] [(cAd, .int)] t9) A) (by decide) rfl (Nat.le_of_ble_eq_true rfl) ?_
  intro p e s m below meth c A H locs ls hx hb hr hml hts hown hlocks hsz hP hK hD hE hA hS hl
  have hl : lv_has ls 3 [(0, .ref qm), (1, .int x), (2, .int i)] := hl
  have hown : s.vm.findClass RX3 = some m.cls := hown
  refine lv_aload_n hx hb dX3_disk_0 rfl (lv_at hl 0 rfl) ?_
  refine lv_iload_n hx hb dX3_disk_1 rfl (lv_at hl 1 rfl) ?_
  refine lv_iconst (v := 0) hx hb dX3_disk_2 (by decide) ?_
  refine lv_iconst (v := 1) hx hb dX3_disk_3 (by decide) ?_
  refine hc_iS (As := [.int x, .int 0, .int 1]) (rest := [.ref qm]) ⟨hx, hb, hml, hown, hts⟩ sx_T trivial (kX3_in l dC dI H.size x 0 1 ) (va_cwS 3 hts gX3_disk_X3_in rfl rfl rfl (by decide +kernel) ⟨Nat.le_of_ble_eq_true rfl, Nat.le_of_ble_eq_true rfl⟩) hK hP hD hS hA [0, 1] rfl rfl rfl hl.1 rfl (Nat.le_of_ble_eq_true rfl) dX3_disk_4 ⟨Nat.zero_le _, Nat.zero_le _⟩ (fun H locs hP hD hS => ?_)
  refine lv_if_ne (tgt := 14) hx hb dX3_disk_7 (by decide) (fun c_7 => ?_) (fun c_7 => ?_)
  · skip
    refine lv_iconst (v := 0) hx hb dX3_disk_14 (by decide) ?_
    refine lv_iload_n hx hb dX3_disk_15 rfl (lv_at hl 2 rfl) ?_
    refine lv_iconst (v := 0) hx hb dX3_disk_16 (by decide) ?_
    refine lv_bipush (v := 64) hx hb dX3_disk_17 (by decide) ?_
    refine lv_aload_n hx hb dX3_disk_19 rfl (lv_at hl 0 rfl) ?_
    refine va_get (D := (dC, dI)) (ci := 3) (v := .int (nI n)) (C := RX3) (T := TX3) (N := 17) hx hb hts (by decide +kernel) hown hK hP 0 rfl rfl 1 (by decide) (hts (.fieldLink RX3 32 "HouseLogModel" "sectors" "I") (by decide +kernel)) (fun _ h9 => h9) rfl dX3_disk_20 ?_
    refine lv_imul hx hb dX3_disk_23 ?_
    rw [show (64 * (nI n) : Int32) = nI (64 * n) from pk_mul 64 n]
    refine lv_iconst (v := 1) hx hb dX3_disk_24 (by decide) ?_
    refine lv_isub hx hb dX3_disk_25 ?_
    refine hc_iS (As := [.int i, .int 0, .int ((nI (64 * n)) - 1)]) (rest := [.int 0, .ref qm]) ⟨hx, hb, hml, hown, hts⟩ sx_T trivial (kX3_in l dC dI H.size i 0 ((nI (64 * n)) - 1) ) (va_cwS 3 hts gX3_disk_X3_in rfl rfl rfl (by decide +kernel) ⟨Nat.le_of_ble_eq_true rfl, Nat.le_of_ble_eq_true rfl⟩) hK hP hD hS hA [0, 1] rfl rfl rfl hl.1 rfl (Nat.le_of_ble_eq_true rfl) dX3_disk_26 ⟨Nat.zero_le _, Nat.zero_le _⟩ (fun H locs hP hD hS => ?_)
    refine lv_if_ne (tgt := 36) hx hb dX3_disk_29 (by decide) (fun c_29 => ?_) (fun c_29 => ?_)
    · skip
      refine lv_iconst (v := 0) hx hb dX3_disk_36 (by decide) ?_
      refine lv_iconst (v := 0) hx hb dX3_disk_37 (by decide) ?_
      refine hc_iV (As := [.int 0, .int 0, .int 0]) (rest := []) (wr := [(qd, .inl (cAd, 8192, .inl D))]) ⟨hx, hb, hml, hown, hts⟩ sx_T trivial (kX3_fails l dC dI H.size qm qd qk ql qy qc qi n th rw ak cb dn kp tr md wr sm 0 0 0 ) (cwV 3 hts gX3_disk_X3_fails rfl rfl rfl (by decide +kernel) ⟨Nat.le_of_ble_eq_true rfl, Nat.le_of_ble_eq_true rfl⟩) hK hP hD hS hA [0] [1] [] rfl rfl rfl rfl rfl (by decide) (ci := 3) rfl rfl rfl rfl hl.1 rfl (Nat.le_of_ble_eq_true rfl) dX3_disk_38 ⟨Nat.zero_le _, Nat.zero_le _⟩ (fun H locs hP hD hS => ?_)
      have hP : va_P (dC, dI) hlCl [(qm, .inr (3, [.int (flI 0 0 0), .int (nI n), .ref qd, .int rw, .int ak, .ref qk, .ref ql, .ref qy, .int cb, .ref qc, .int dn, .int kp, .int tr, .int md, .int wr, .ref qi, .int sm])), (qd, .inl (cAd, 8192, .inl D))] H := hP.sub [1, 0] rfl
      have hD : va_D A [(qm, .inr (3, [.int (flI 0 0 0), .int (nI n), .ref qd, .int rw, .int ak, .ref qk, .ref ql, .ref qy, .int cb, .ref qc, .int dn, .int kp, .int tr, .int md, .int wr, .ref qi, .int sm])), (qd, .inl (cAd, 8192, .inl D))] := hD.sub [1, 0] (by decide) rfl
      refine lv_if_eq (tgt := 48) hx hb dX3_disk_41 (by decide) (fun c_41 => ?_) (fun c_41 => ?_)
      · skip
        obtain ⟨u, hu, rfl⟩ := in_nat (m := 1) (by decide) c_7 rfl
        obtain ⟨j, hj, rfl⟩ := in_nat (m := 64 * n - 1) (by omega) c_29 (pk_sub (a := 64 * n) (b := 1) (by omega))
        refine lv_aload_n hx hb dX3_disk_48 rfl (lv_at hl 0 rfl) ?_
        refine va_get (D := (dC, dI)) (ci := 3) (v := .ref qd) (C := RX3) (T := TX3) (N := 17) hx hb hts (by decide +kernel) hown hK hP 0 rfl rfl 2 (by decide) (hts (.fieldLink RX3 7 "HouseLogModel" "disk" "[I") (by decide +kernel)) (fun _ h9 => h9) rfl dX3_disk_49 ?_
        refine lv_sipush (v := 4096) hx hb dX3_disk_52 (by decide) ?_
        refine lv_iload_n hx hb dX3_disk_55 rfl (lv_at hl 1 rfl) ?_
        refine lv_imul hx hb dX3_disk_56 ?_
        rw [show (4096 * (nI u) : Int32) = nI (4096 * u) from pk_mul 4096 u]
        refine lv_iload_n hx hb dX3_disk_57 rfl (lv_at hl 2 rfl) ?_
        refine lv_iadd hx hb dX3_disk_58 ?_
        rw [show ((nI (4096 * u)) + (nI j) : Int32) = nI (4096 * u + j) from nI_add (4096 * u) j]
        refine va_iald hx hb hK hP 1 0 rfl rfl (i := nI (4096 * u + j)) (vp_in_nI (n := 4096 * u + j) (by omega) (by decide)) dX3_disk_59 ?_
        refine W.eq (g2 := F0 m 60 ls (.int (D (4096 * u + j)) :: [])) (by rw [show (nI (4096 * u + j) : Int32).toNatClampNeg = 4096 * u + j from nI_clamp (by omega)]) ?_
        exact hr_i (v := D (4096 * u + j)) hx hb hr hlocks (w1 := [(qm, .inr (3, [.int (flI 0 0 0), .int (nI n), .ref qd, .int rw, .int ak, .ref qk, .ref ql, .ref qy, .int cb, .ref qc, .int dn, .int kp, .int tr, .int md, .int wr, .ref qi, .int sm])), (qd, .inl (cAd, 8192, .inl D))]) hP hD hK hS [0, 1] [0] rfl rfl rfl (by simp only [dkRI, if_neg c_7, if_neg c_29, nI_clamp (show u < 2 ^ 31 by omega), nI_clamp (show j < 2 ^ 31 by omega)] <;> rfl) (by simp only [dkRI, dkRT, if_neg c_7, if_neg c_29, nI_clamp (show u < 2 ^ 31 by omega), nI_clamp (show j < 2 ^ 31 by omega)] <;> rfl) dX3_disk_60
      · exact absurd (fl_iff.mpr ⟨rfl, rfl, rfl⟩) c_41
    · skip
      refine lv_iconst (v := 1) hx hb dX3_disk_32 (by decide) ?_
      refine lv_goto (tgt := 37) hx hb dX3_disk_33 (by decide) ?_
      refine lv_iconst (v := 0) hx hb dX3_disk_37 (by decide) ?_
      refine hc_iV (As := [.int 0, .int 1, .int 0]) (rest := []) (wr := [(qd, .inl (cAd, 8192, .inl D))]) ⟨hx, hb, hml, hown, hts⟩ sx_T trivial (kX3_fails l dC dI H.size qm qd qk ql qy qc qi n th rw ak cb dn kp tr md wr sm 0 1 0 ) (cwV 3 hts gX3_disk_X3_fails rfl rfl rfl (by decide +kernel) ⟨Nat.le_of_ble_eq_true rfl, Nat.le_of_ble_eq_true rfl⟩) hK hP hD hS hA [0] [1] [] rfl rfl rfl rfl rfl (by decide) (ci := 3) rfl rfl rfl rfl hl.1 rfl (Nat.le_of_ble_eq_true rfl) dX3_disk_38 ⟨Nat.zero_le _, Nat.zero_le _⟩ (fun H locs hP hD hS => ?_)
      have hP : va_P (dC, dI) hlCl [(qm, .inr (3, [.int (flI 0 1 0), .int (nI n), .ref qd, .int rw, .int ak, .ref qk, .ref ql, .ref qy, .int cb, .ref qc, .int dn, .int kp, .int tr, .int md, .int wr, .ref qi, .int sm])), (qd, .inl (cAd, 8192, .inl D))] H := hP.sub [1, 0] rfl
      have hD : va_D A [(qm, .inr (3, [.int (flI 0 1 0), .int (nI n), .ref qd, .int rw, .int ak, .ref qk, .ref ql, .ref qy, .int cb, .ref qc, .int dn, .int kp, .int tr, .int md, .int wr, .ref qi, .int sm])), (qd, .inl (cAd, 8192, .inl D))] := hD.sub [1, 0] (by decide) rfl
      refine lv_if_eq (tgt := 48) hx hb dX3_disk_41 (by decide) (fun c_41 => ?_) (fun c_41 => ?_)
      · exact absurd (fl_iff.mp c_41).2.1 (by decide)
      · skip
        refine lv_iconst (v := 0) hx hb dX3_disk_44 (by decide) ?_
        refine lv_goto (tgt := 60) hx hb dX3_disk_45 (by decide) ?_
        exact hr_i (v := 0) hx hb hr hlocks (w1 := [(qm, .inr (3, [.int (flI 0 1 0), .int (nI n), .ref qd, .int rw, .int ak, .ref qk, .ref ql, .ref qy, .int cb, .ref qc, .int dn, .int kp, .int tr, .int md, .int wr, .ref qi, .int sm])), (qd, .inl (cAd, 8192, .inl D))]) hP hD hK hS [0, 1] [0] rfl rfl rfl (by simp only [dkRI, if_neg c_7, if_pos c_29] <;> rfl) (by simp only [dkRI, dkRT, if_neg c_7, if_pos c_29] <;> rfl) dX3_disk_60
  · skip
    refine lv_iconst (v := 1) hx hb dX3_disk_10 (by decide) ?_
    refine lv_goto (tgt := 15) hx hb dX3_disk_11 (by decide) ?_
    refine lv_iload_n hx hb dX3_disk_15 rfl (lv_at hl 2 rfl) ?_
    refine lv_iconst (v := 0) hx hb dX3_disk_16 (by decide) ?_
    refine lv_bipush (v := 64) hx hb dX3_disk_17 (by decide) ?_
    refine lv_aload_n hx hb dX3_disk_19 rfl (lv_at hl 0 rfl) ?_
    refine va_get (D := (dC, dI)) (ci := 3) (v := .int (nI n)) (C := RX3) (T := TX3) (N := 17) hx hb hts (by decide +kernel) hown hK hP 0 rfl rfl 1 (by decide) (hts (.fieldLink RX3 32 "HouseLogModel" "sectors" "I") (by decide +kernel)) (fun _ h9 => h9) rfl dX3_disk_20 ?_
    refine lv_imul hx hb dX3_disk_23 ?_
    rw [show (64 * (nI n) : Int32) = nI (64 * n) from pk_mul 64 n]
    refine lv_iconst (v := 1) hx hb dX3_disk_24 (by decide) ?_
    refine lv_isub hx hb dX3_disk_25 ?_
    refine hc_iS (As := [.int i, .int 0, .int ((nI (64 * n)) - 1)]) (rest := [.int 1, .ref qm]) ⟨hx, hb, hml, hown, hts⟩ sx_T trivial (kX3_in l dC dI H.size i 0 ((nI (64 * n)) - 1) ) (va_cwS 3 hts gX3_disk_X3_in rfl rfl rfl (by decide +kernel) ⟨Nat.le_of_ble_eq_true rfl, Nat.le_of_ble_eq_true rfl⟩) hK hP hD hS hA [0, 1] rfl rfl rfl hl.1 rfl (Nat.le_of_ble_eq_true rfl) dX3_disk_26 ⟨Nat.zero_le _, Nat.zero_le _⟩ (fun H locs hP hD hS => ?_)
    refine lv_if_ne (tgt := 36) hx hb dX3_disk_29 (by decide) (fun c_29 => ?_) (fun c_29 => ?_)
    · skip
      refine lv_iconst (v := 0) hx hb dX3_disk_36 (by decide) ?_
      refine lv_iconst (v := 0) hx hb dX3_disk_37 (by decide) ?_
      refine hc_iV (As := [.int 1, .int 0, .int 0]) (rest := []) (wr := [(qd, .inl (cAd, 8192, .inl D))]) ⟨hx, hb, hml, hown, hts⟩ sx_T trivial (kX3_fails l dC dI H.size qm qd qk ql qy qc qi n th rw ak cb dn kp tr md wr sm 1 0 0 ) (cwV 3 hts gX3_disk_X3_fails rfl rfl rfl (by decide +kernel) ⟨Nat.le_of_ble_eq_true rfl, Nat.le_of_ble_eq_true rfl⟩) hK hP hD hS hA [0] [1] [] rfl rfl rfl rfl rfl (by decide) (ci := 3) rfl rfl rfl rfl hl.1 rfl (Nat.le_of_ble_eq_true rfl) dX3_disk_38 ⟨Nat.zero_le _, Nat.zero_le _⟩ (fun H locs hP hD hS => ?_)
      have hP : va_P (dC, dI) hlCl [(qm, .inr (3, [.int (flI 1 0 0), .int (nI n), .ref qd, .int rw, .int ak, .ref qk, .ref ql, .ref qy, .int cb, .ref qc, .int dn, .int kp, .int tr, .int md, .int wr, .ref qi, .int sm])), (qd, .inl (cAd, 8192, .inl D))] H := hP.sub [1, 0] rfl
      have hD : va_D A [(qm, .inr (3, [.int (flI 1 0 0), .int (nI n), .ref qd, .int rw, .int ak, .ref qk, .ref ql, .ref qy, .int cb, .ref qc, .int dn, .int kp, .int tr, .int md, .int wr, .ref qi, .int sm])), (qd, .inl (cAd, 8192, .inl D))] := hD.sub [1, 0] (by decide) rfl
      refine lv_if_eq (tgt := 48) hx hb dX3_disk_41 (by decide) (fun c_41 => ?_) (fun c_41 => ?_)
      · exact absurd (fl_iff.mp c_41).1 (by decide)
      · skip
        refine lv_iconst (v := 0) hx hb dX3_disk_44 (by decide) ?_
        refine lv_goto (tgt := 60) hx hb dX3_disk_45 (by decide) ?_
        exact hr_i (v := 0) hx hb hr hlocks (w1 := [(qm, .inr (3, [.int (flI 1 0 0), .int (nI n), .ref qd, .int rw, .int ak, .ref qk, .ref ql, .ref qy, .int cb, .ref qc, .int dn, .int kp, .int tr, .int md, .int wr, .ref qi, .int sm])), (qd, .inl (cAd, 8192, .inl D))]) hP hD hK hS [0, 1] [0] rfl rfl rfl (by simp only [dkRI, if_pos c_7, if_neg c_29] <;> rfl) (by simp only [dkRI, dkRT, if_pos c_7, if_neg c_29] <;> rfl) dX3_disk_60
    · skip
      refine lv_iconst (v := 1) hx hb dX3_disk_32 (by decide) ?_
      refine lv_goto (tgt := 37) hx hb dX3_disk_33 (by decide) ?_
      refine lv_iconst (v := 0) hx hb dX3_disk_37 (by decide) ?_
      refine hc_iV (As := [.int 1, .int 1, .int 0]) (rest := []) (wr := [(qd, .inl (cAd, 8192, .inl D))]) ⟨hx, hb, hml, hown, hts⟩ sx_T trivial (kX3_fails l dC dI H.size qm qd qk ql qy qc qi n th rw ak cb dn kp tr md wr sm 1 1 0 ) (cwV 3 hts gX3_disk_X3_fails rfl rfl rfl (by decide +kernel) ⟨Nat.le_of_ble_eq_true rfl, Nat.le_of_ble_eq_true rfl⟩) hK hP hD hS hA [0] [1] [] rfl rfl rfl rfl rfl (by decide) (ci := 3) rfl rfl rfl rfl hl.1 rfl (Nat.le_of_ble_eq_true rfl) dX3_disk_38 ⟨Nat.zero_le _, Nat.zero_le _⟩ (fun H locs hP hD hS => ?_)
      have hP : va_P (dC, dI) hlCl [(qm, .inr (3, [.int (flI 1 1 0), .int (nI n), .ref qd, .int rw, .int ak, .ref qk, .ref ql, .ref qy, .int cb, .ref qc, .int dn, .int kp, .int tr, .int md, .int wr, .ref qi, .int sm])), (qd, .inl (cAd, 8192, .inl D))] H := hP.sub [1, 0] rfl
      have hD : va_D A [(qm, .inr (3, [.int (flI 1 1 0), .int (nI n), .ref qd, .int rw, .int ak, .ref qk, .ref ql, .ref qy, .int cb, .ref qc, .int dn, .int kp, .int tr, .int md, .int wr, .ref qi, .int sm])), (qd, .inl (cAd, 8192, .inl D))] := hD.sub [1, 0] (by decide) rfl
      refine lv_if_eq (tgt := 48) hx hb dX3_disk_41 (by decide) (fun c_41 => ?_) (fun c_41 => ?_)
      · exact absurd (fl_iff.mp c_41).1 (by decide)
      · skip
        refine lv_iconst (v := 0) hx hb dX3_disk_44 (by decide) ?_
        refine lv_goto (tgt := 60) hx hb dX3_disk_45 (by decide) ?_
        exact hr_i (v := 0) hx hb hr hlocks (w1 := [(qm, .inr (3, [.int (flI 1 1 0), .int (nI n), .ref qd, .int rw, .int ak, .ref qk, .ref ql, .ref qy, .int cb, .ref qc, .int dn, .int kp, .int tr, .int md, .int wr, .ref qi, .int sm])), (qd, .inl (cAd, 8192, .inl D))]) hP hD hK hS [0, 1] [0] rfl rfl rfl (by simp only [dkRI, if_pos c_7, if_pos c_29] <;> rfl) (by simp only [dkRI, dkRT, if_pos c_7, if_pos c_29] <;> rfl) dX3_disk_60

def pkRI (n : Nat) (x i mk : Int32) : Int32 := (if (inI x 0 1) = 0 then 0 else (if (inI i 0 ((nI (64 * n)) - 1)) = 0 then 0 else (if (inI mk 1 255) = 0 then 0 else 1)))
def pkRD (n : Nat) (D : Nat → Int32) (x i mk : Int32) : Nat → Int32 := (if (inI x 0 1) = 0 then D else (if (inI i 0 ((nI (64 * n)) - 1)) = 0 then D else (if (inI mk 1 255) = 0 then D else upd D (4096 * x.toNatClampNeg + i.toNatClampNeg) ((D (4096 * x.toNatClampNeg + i.toNatClampNeg)) ^^^ mk))))
set_option maxHeartbeats 4000000 in
set_option maxRecDepth 100000 in
theorem kX3_poke (l : Launch) (dC : Nat → ClassId) (dI : Nat → Nat → Nat) (sz : Nat) (qm qd qk ql qy qc qi : Nat) (n : Nat) (cAd : ClassId) (th rw ak cb dn kp tr md wr sm : Int32) (D : Nat → Int32) (x i mk : Int32) (hn4 : 4 ≤ n) (hn : n ≤ 64) : Mi_ l yX3_poke wsX3_poke 1 22 dC dI (fun _ => True) [.ref qm, .int x, .int i, .int mk] [(qm, .inr (3, [.int th, .int (nI n), .ref qd, .int rw, .int ak, .ref qk, .ref ql, .ref qy, .int cb, .ref qc, .int dn, .int kp, .int tr, .int md, .int wr, .ref qi, .int sm])), (qd, .inl (cAd, 8192, .inl D))] [(cAd, .int)] sz (pkRI n x i mk) [(qm, .inr (3, [.int 0, .int (nI n), .ref qd, .int rw, .int ak, .ref qk, .ref ql, .ref qy, .int cb, .ref qc, .int dn, .int kp, .int tr, .int md, .int wr, .ref qi, .int sm])), (qd, .inl (cAd, 8192, .inl (pkRD n D x i mk)))] := by
  refine hm_ (cc := cX3_poke) (maxL := 4) (ret := (some .boolean)) (Qc := fun A => va_Qi (fun (r9 : Int32) (_ : Unit) => r9 = pkRI n x i mk) (fun _ t9 => qw_ dC dI A [(qm, .inr (3, [.int 0, .int (nI n), .ref qd, .int rw, .int ak, .ref qk, .ref ql, .ref qy, .int cb, .ref qc, .int dn, .int kp, .int tr, .int md, .int wr, .ref qi, .int sm])), (qd, .inl (cAd, 8192, .inl (pkRD n D x i mk)))] [(cAd, .int)] t9) A) (by decide) rfl (Nat.le_of_ble_eq_true rfl) ?_
  intro p e s m below meth c A H locs ls hx hb hr hml hts hown hlocks hsz hP hK hD hE hA hS hl
  have hl : lv_has ls 4 [(0, .ref qm), (1, .int x), (2, .int i), (3, .int mk)] := hl
  have hown : s.vm.findClass RX3 = some m.cls := hown
  refine lv_aload_n hx hb dX3_poke_0 rfl (lv_at hl 0 rfl) ?_
  refine lv_iconst (v := 0) hx hb dX3_poke_1 (by decide) ?_
  refine va_put (D := (dC, dI)) (ci := 3) (v := .int 0) (ty := .int) (C := RX3) (T := TX3) (N := 17) hx hb hts (by decide +kernel) tyX3 tyX3_ok nmX3 hown hK hP hD hS 0 rfl rfl 0 (by decide) (hts (.fieldLink RX3 35 "HouseLogModel" "thrown" "I") (by decide +kernel)) (fun _ h9 => h9) rfl (by decide +kernel) rfl rfl (Nat.le_of_ble_eq_true rfl) dX3_poke_2 (fun H locs hP hD hS => ?_)
  have hP : va_P (dC, dI) hlCl [(qm, .inr (3, [.int 0, .int (nI n), .ref qd, .int rw, .int ak, .ref qk, .ref ql, .ref qy, .int cb, .ref qc, .int dn, .int kp, .int tr, .int md, .int wr, .ref qi, .int sm])), (qd, .inl (cAd, 8192, .inl D))] H := hP
  have hD : va_D A [(qm, .inr (3, [.int 0, .int (nI n), .ref qd, .int rw, .int ak, .ref qk, .ref ql, .ref qy, .int cb, .ref qc, .int dn, .int kp, .int tr, .int md, .int wr, .ref qi, .int sm])), (qd, .inl (cAd, 8192, .inl D))] := hD
  refine lv_iload_n hx hb dX3_poke_5 rfl (lv_at hl 1 rfl) ?_
  refine lv_iconst (v := 0) hx hb dX3_poke_6 (by decide) ?_
  refine lv_iconst (v := 1) hx hb dX3_poke_7 (by decide) ?_
  refine hc_iS (As := [.int x, .int 0, .int 1]) (rest := []) ⟨hx, hb, hml, hown, hts⟩ sx_T trivial (kX3_in l dC dI H.size x 0 1 ) (va_cwS 3 hts gX3_poke_X3_in rfl rfl rfl (by decide +kernel) ⟨Nat.le_of_ble_eq_true rfl, Nat.le_of_ble_eq_true rfl⟩) hK hP hD hS hA [0, 1] rfl rfl rfl hl.1 rfl (Nat.le_of_ble_eq_true rfl) dX3_poke_8 ⟨Nat.zero_le _, Nat.zero_le _⟩ (fun H locs hP hD hS => ?_)
  refine lv_if_eq (tgt := 42) hx hb dX3_poke_11 (by decide) (fun c_11 => ?_) (fun c_11 => ?_)
  · skip
    refine lv_iconst (v := 0) hx hb dX3_poke_42 (by decide) ?_
    exact hr_z (v := 0) hx hb hr hlocks (by decide) (w1 := [(qm, .inr (3, [.int 0, .int (nI n), .ref qd, .int rw, .int ak, .ref qk, .ref ql, .ref qy, .int cb, .ref qc, .int dn, .int kp, .int tr, .int md, .int wr, .ref qi, .int sm])), (qd, .inl (cAd, 8192, .inl D))]) hP hD hK hS [0, 1] [0] rfl rfl rfl (by simp only [pkRI, if_pos c_11] <;> rfl) (by simp only [pkRI, pkRD, if_pos c_11] <;> rfl) dX3_poke_43
  · skip
    refine lv_iload_n hx hb dX3_poke_14 rfl (lv_at hl 2 rfl) ?_
    refine lv_iconst (v := 0) hx hb dX3_poke_15 (by decide) ?_
    refine lv_bipush (v := 64) hx hb dX3_poke_16 (by decide) ?_
    refine lv_aload_n hx hb dX3_poke_18 rfl (lv_at hl 0 rfl) ?_
    refine va_get (D := (dC, dI)) (ci := 3) (v := .int (nI n)) (C := RX3) (T := TX3) (N := 17) hx hb hts (by decide +kernel) hown hK hP 0 rfl rfl 1 (by decide) (hts (.fieldLink RX3 32 "HouseLogModel" "sectors" "I") (by decide +kernel)) (fun _ h9 => h9) rfl dX3_poke_19 ?_
    refine lv_imul hx hb dX3_poke_22 ?_
    rw [show (64 * (nI n) : Int32) = nI (64 * n) from pk_mul 64 n]
    refine lv_iconst (v := 1) hx hb dX3_poke_23 (by decide) ?_
    refine lv_isub hx hb dX3_poke_24 ?_
    refine hc_iS (As := [.int i, .int 0, .int ((nI (64 * n)) - 1)]) (rest := []) ⟨hx, hb, hml, hown, hts⟩ sx_T trivial (kX3_in l dC dI H.size i 0 ((nI (64 * n)) - 1) ) (va_cwS 3 hts gX3_poke_X3_in rfl rfl rfl (by decide +kernel) ⟨Nat.le_of_ble_eq_true rfl, Nat.le_of_ble_eq_true rfl⟩) hK hP hD hS hA [0, 1] rfl rfl rfl hl.1 rfl (Nat.le_of_ble_eq_true rfl) dX3_poke_25 ⟨Nat.zero_le _, Nat.zero_le _⟩ (fun H locs hP hD hS => ?_)
    refine lv_if_eq (tgt := 42) hx hb dX3_poke_28 (by decide) (fun c_28 => ?_) (fun c_28 => ?_)
    · skip
      refine lv_iconst (v := 0) hx hb dX3_poke_42 (by decide) ?_
      exact hr_z (v := 0) hx hb hr hlocks (by decide) (w1 := [(qm, .inr (3, [.int 0, .int (nI n), .ref qd, .int rw, .int ak, .ref qk, .ref ql, .ref qy, .int cb, .ref qc, .int dn, .int kp, .int tr, .int md, .int wr, .ref qi, .int sm])), (qd, .inl (cAd, 8192, .inl D))]) hP hD hK hS [0, 1] [0] rfl rfl rfl (by simp only [pkRI, if_neg c_11, if_pos c_28] <;> rfl) (by simp only [pkRI, pkRD, if_neg c_11, if_pos c_28] <;> rfl) dX3_poke_43
    · skip
      refine lv_iload_n hx hb dX3_poke_31 rfl (lv_at hl 3 rfl) ?_
      refine lv_iconst (v := 1) hx hb dX3_poke_32 (by decide) ?_
      refine lv_sipush (v := 255) hx hb dX3_poke_33 (by decide) ?_
      refine hc_iS (As := [.int mk, .int 1, .int 255]) (rest := []) ⟨hx, hb, hml, hown, hts⟩ sx_T trivial (kX3_in l dC dI H.size mk 1 255 ) (va_cwS 3 hts gX3_poke_X3_in rfl rfl rfl (by decide +kernel) ⟨Nat.le_of_ble_eq_true rfl, Nat.le_of_ble_eq_true rfl⟩) hK hP hD hS hA [0, 1] rfl rfl rfl hl.1 rfl (Nat.le_of_ble_eq_true rfl) dX3_poke_36 ⟨Nat.zero_le _, Nat.zero_le _⟩ (fun H locs hP hD hS => ?_)
      refine lv_if_ne (tgt := 44) hx hb dX3_poke_39 (by decide) (fun c_39 => ?_) (fun c_39 => ?_)
      · skip
        obtain ⟨u, hu, rfl⟩ := in_nat (m := 1) (by decide) c_11 rfl
        obtain ⟨j, hj, rfl⟩ := in_nat (m := 64 * n - 1) (by omega) c_28 (pk_sub (a := 64 * n) (b := 1) (by omega))
        refine lv_aload_n hx hb dX3_poke_44 rfl (lv_at hl 0 rfl) ?_
        refine va_get (D := (dC, dI)) (ci := 3) (v := .ref qd) (C := RX3) (T := TX3) (N := 17) hx hb hts (by decide +kernel) hown hK hP 0 rfl rfl 2 (by decide) (hts (.fieldLink RX3 7 "HouseLogModel" "disk" "[I") (by decide +kernel)) (fun _ h9 => h9) rfl dX3_poke_45 ?_
        refine lv_sipush (v := 4096) hx hb dX3_poke_48 (by decide) ?_
        refine lv_iload_n hx hb dX3_poke_51 rfl (lv_at hl 1 rfl) ?_
        refine lv_imul hx hb dX3_poke_52 ?_
        rw [show (4096 * (nI u) : Int32) = nI (4096 * u) from pk_mul 4096 u]
        refine lv_iload_n hx hb dX3_poke_53 rfl (lv_at hl 2 rfl) ?_
        refine lv_iadd hx hb dX3_poke_54 ?_
        rw [show ((nI (4096 * u)) + (nI j) : Int32) = nI (4096 * u + j) from nI_add (4096 * u) j]
        refine lv_dup2_11 hx hb dX3_poke_55 rfl rfl ?_
        refine va_iald hx hb hK hP 1 0 rfl rfl (i := nI (4096 * u + j)) (vp_in_nI (n := 4096 * u + j) (by omega) (by decide)) dX3_poke_56 ?_
        refine W.eq (g2 := F0 m 57 ls (.int (D (4096 * u + j)) :: .int (nI (4096 * u + j)) :: .ref qd :: [])) (by rw [show (nI (4096 * u + j) : Int32).toNatClampNeg = 4096 * u + j from nI_clamp (by omega)]) ?_
        refine lv_iload_n hx hb dX3_poke_57 rfl (lv_at hl 3 rfl) ?_
        refine lv_ixor hx hb dX3_poke_58 ?_
        refine va_iast hx hb hK hP hD hS 1 0 rfl rfl (i := nI (4096 * u + j)) (vp_in_nI (n := 4096 * u + j) (by omega) (by decide)) dX3_poke_59 (fun H locs hP hD hS => ?_)
        rw [show (nI (4096 * u + j) : Int32).toNatClampNeg = 4096 * u + j from nI_clamp (by omega)] at hP hD
        have hP : va_P (dC, dI) hlCl [(qm, .inr (3, [.int 0, .int (nI n), .ref qd, .int rw, .int ak, .ref qk, .ref ql, .ref qy, .int cb, .ref qc, .int dn, .int kp, .int tr, .int md, .int wr, .ref qi, .int sm])), (qd, .inl (cAd, 8192, .inl (upd D (4096 * u + j) ((D (4096 * u + j)) ^^^ mk))))] H := hP
        have hD : va_D A [(qm, .inr (3, [.int 0, .int (nI n), .ref qd, .int rw, .int ak, .ref qk, .ref ql, .ref qy, .int cb, .ref qc, .int dn, .int kp, .int tr, .int md, .int wr, .ref qi, .int sm])), (qd, .inl (cAd, 8192, .inl (upd D (4096 * u + j) ((D (4096 * u + j)) ^^^ mk))))] := hD
        refine lv_iconst (v := 1) hx hb dX3_poke_60 (by decide) ?_
        exact hr_z (v := 1) hx hb hr hlocks (by decide) (w1 := [(qm, .inr (3, [.int 0, .int (nI n), .ref qd, .int rw, .int ak, .ref qk, .ref ql, .ref qy, .int cb, .ref qc, .int dn, .int kp, .int tr, .int md, .int wr, .ref qi, .int sm])), (qd, .inl (cAd, 8192, .inl (upd D (4096 * u + j) ((D (4096 * u + j)) ^^^ mk))))]) hP hD hK hS [0, 1] [0] rfl rfl rfl (by simp only [pkRI, if_neg c_11, if_neg c_28, if_neg c_39, nI_clamp (show u < 2 ^ 31 by omega), nI_clamp (show j < 2 ^ 31 by omega)] <;> rfl) (by simp only [pkRI, pkRD, if_neg c_11, if_neg c_28, if_neg c_39, nI_clamp (show u < 2 ^ 31 by omega), nI_clamp (show j < 2 ^ 31 by omega)] <;> rfl) dX3_poke_61
      · skip
        refine lv_iconst (v := 0) hx hb dX3_poke_42 (by decide) ?_
        exact hr_z (v := 0) hx hb hr hlocks (by decide) (w1 := [(qm, .inr (3, [.int 0, .int (nI n), .ref qd, .int rw, .int ak, .ref qk, .ref ql, .ref qy, .int cb, .ref qc, .int dn, .int kp, .int tr, .int md, .int wr, .ref qi, .int sm])), (qd, .inl (cAd, 8192, .inl D))]) hP hD hK hS [0, 1] [0] rfl rfl rfl (by simp only [pkRI, if_neg c_11, if_neg c_28, if_pos c_39] <;> rfl) (by simp only [pkRI, pkRD, if_neg c_11, if_neg c_28, if_pos c_39] <;> rfl) dX3_poke_43
end
section
def lz (f : Nat → Int32) (k : Nat) : Nat := (f k).toNatClampNeg
def zfL (La : Nat → Int32) : Nat → Nat → Int32
  | 0 => La
  | i + 1 => upd (zfL La i) i 0
def nbL (f : Nat → Int32) (k : Nat) : Nat → Nat → Int32
  | 0 => f
  | i + 1 => upd (nbL f k i) i ((nI k >>> (nI (24 - 8 * i) &&& 31)) &&& 255)
def ybL (f By : Nat → Int32) (k : Nat) : Nat → Nat → Int32
  | 0 => f
  | i + 1 => upd (ybL f By k i) (6 + i) (By (40 * k + i))
def smL (f : Nat → Int32) : Nat → Int32
  | 0 => -1756908916
  | i + 1 => mixI (smL f i) (f i)
def sbL (f : Nat → Int32) (s : Int32) (e : Nat) : Nat → Nat → Int32
  | 0 => f
  | i + 1 => upd (sbL f s e i) (e + i) ((s >>> (nI (24 - 8 * i) &&& 31)) &&& 255)
def l2L (K Ln La : Nat → Int32) (k : Nat) : Nat → Int32 := upd (upd (nbL (zfL La 64) k 4) 4 (K k)) 5 (Ln k)
def l3L (K Ln By La : Nat → Int32) (k : Nat) : Nat → Int32 := ybL (l2L K Ln La k) By k (lz Ln k)
def l4L (K Ln By La : Nat → Int32) (k : Nat) : Nat → Int32 := sbL (l3L K Ln By La k) (smL (l3L K Ln By La k) (6 + lz Ln k)) (6 + lz Ln k) 4
def smA (f : Nat → Int32) (a : Nat) : Nat → Int32
  | 0 => -1756908916
  | i + 1 => mixI (smA f a i) (f (a + i))
def ebL (By Co : Nat → Int32) (r : Nat) : Nat → Nat → Int32
  | 0 => By
  | i + 1 => upd (ebL By Co r i) (40 * r + i) (Co i)
def wdL (D La : Nat → Int32) (a : Nat) : Nat → Nat → Int32
  | 0 => D
  | i + 1 => upd (wdL D La a i) (a + i) (La i)
def fdL (By D : Nat → Int32) (k a : Nat) : Nat → Nat → Int32
  | 0 => By
  | i + 1 => upd (fdL By D k a i) (40 * k + i) (D (a + 6 + i))
def mdL (D : Nat → Int32) (a b : Nat) : Nat → Nat → Int32
  | 0 => D
  | i + 1 => upd (mdL D a b i) (a + i) (mdL D a b i (b + i))

set_option maxHeartbeats 4000000 in
set_option maxRecDepth 100000 in
theorem kX3_lay (l : Launch) (dC : Nat → ClassId) (dI : Nat → Nat → Nat) (sz : Nat) (qm qd qk ql qy qc qi : Nat) (n : Nat) (cAk cAl cAy cAi : ClassId) (th rw ak cb dn kp tr md wr sm : Int32) (K Ln By La : Nat → Int32) (k : Nat) (hk : k < 64) (hL : Ln k = nI (lz Ln k)) (hl40 : lz Ln k ≤ 40) : Mv_ l yX3_lay wsX3_lay 1 22 dC dI (fun _ => True) [.ref qm, .int (nI k)] [(qm, .inr (3, [.int th, .int (nI n), .ref qd, .int rw, .int ak, .ref qk, .ref ql, .ref qy, .int cb, .ref qc, .int dn, .int kp, .int tr, .int md, .int wr, .ref qi, .int sm])), (qk, .inl (cAk, 64, .inl K)), (ql, .inl (cAl, 64, .inl Ln)), (qy, .inl (cAy, 2560, .inl By)), (qi, .inl (cAi, 64, .inl La))] [(cAk, .int), (cAl, .int), (cAy, .int), (cAi, .int)] sz [(qm, .inr (3, [.int th, .int (nI n), .ref qd, .int rw, .int ak, .ref qk, .ref ql, .ref qy, .int cb, .ref qc, .int dn, .int kp, .int tr, .int md, .int wr, .ref qi, .int (smL (l3L K Ln By La k) (6 + lz Ln k))])), (qk, .inl (cAk, 64, .inl K)), (ql, .inl (cAl, 64, .inl Ln)), (qy, .inl (cAy, 2560, .inl By)), (qi, .inl (cAi, 64, .inl (l4L K Ln By La k)))] := by
  refine hm_ (cc := cX3_lay) (maxL := 4) (ret := none) (Qc := fun A => va_Qv (fun (_ : Unit) => True) (fun _ t9 => qw_ dC dI A [(qm, .inr (3, [.int th, .int (nI n), .ref qd, .int rw, .int ak, .ref qk, .ref ql, .ref qy, .int cb, .ref qc, .int dn, .int kp, .int tr, .int md, .int wr, .ref qi, .int (smL (l3L K Ln By La k) (6 + lz Ln k))])), (qk, .inl (cAk, 64, .inl K)), (ql, .inl (cAl, 64, .inl Ln)), (qy, .inl (cAy, 2560, .inl By)), (qi, .inl (cAi, 64, .inl (l4L K Ln By La k)))] [(cAk, .int), (cAl, .int), (cAy, .int), (cAi, .int)] t9) A) (by decide) rfl (Nat.le_of_ble_eq_true rfl) ?_
  intro p e s m below meth c A H locs ls hx hb hr hml hts hown hlocks hsz hP hK hD hE hA hS hl
  have hl : lv_has ls 4 [(0, .ref qm), (1, .int (nI k))] := hl
  have hown : s.vm.findClass RX3 = some m.cls := hown
  refine lv_iconst (v := 0) hx hb dX3_lay_0 (by decide) ?_
  refine lv_istore_n (lv' := [(2, .int 0), (0, .ref qm), (1, .int (nI k))]) hx hb dX3_lay_1 rfl hl (by decide) rfl (fun ls hl => ?_)
  have loopA : ∀ (k0 i : Nat) (H : Heap) (locs : List Loc) (ls : Array Slot), (i + k0 = 64) → va_P (dC, dI) hlCl [(qm, .inr (3, [.int th, .int (nI n), .ref qd, .int rw, .int ak, .ref qk, .ref ql, .ref qy, .int cb, .ref qc, .int dn, .int kp, .int tr, .int md, .int wr, .ref qi, .int sm])), (qk, .inl (cAk, 64, .inl K)), (ql, .inl (cAl, 64, .inl Ln)), (qy, .inl (cAy, 2560, .inl By)), (qi, .inl (cAi, 64, .inl (zfL La i)))] H → va_D A [(qm, .inr (3, [.int th, .int (nI n), .ref qd, .int rw, .int ak, .ref qk, .ref ql, .ref qy, .int cb, .ref qc, .int dn, .int kp, .int tr, .int md, .int wr, .ref qi, .int sm])), (qk, .inl (cAk, 64, .inl K)), (ql, .inl (cAl, 64, .inl Ln)), (qy, .inl (cAy, 2560, .inl By)), (qi, .inl (cAi, 64, .inl (zfL La i)))] → va_S A s.heap H locs → lv_has ls 4 [(2, .int (nI i)), (0, .ref qm), (1, .int (nI k))] → W p l e (rm_ 1 22) s m [.ref qm, .int (nI k)].toArray below meth c H locs 0 0 (MQ below ((fun A => va_Qv (fun (_ : Unit) => True) (fun _ t9 => qw_ dC dI A [(qm, .inr (3, [.int th, .int (nI n), .ref qd, .int rw, .int ak, .ref qk, .ref ql, .ref qy, .int cb, .ref qc, .int dn, .int kp, .int tr, .int md, .int wr, .ref qi, .int (smL (l3L K Ln By La k) (6 + lz Ln k))])), (qk, .inl (cAk, 64, .inl K)), (ql, .inl (cAl, 64, .inl Ln)), (qy, .inl (cAy, 2560, .inl By)), (qi, .inl (cAi, 64, .inl (l4L K Ln By La k)))] [(cAk, .int), (cAl, .int), (cAy, .int), (cAi, .int)] t9) A) A) [.ref qm, .int (nI k)].toArray s 0 0 A) (F0 m 2 ls []) := by
    intro k0
    induction k0 with
    | zero =>
      intro i H locs ls hi hP hD hS hl
      obtain rfl : 64 = i := by omega
      refine lv_iload_n hx hb dX3_lay_2 rfl (lv_at hl 0 rfl) ?_
      refine lv_bipush (v := 64) hx hb dX3_lay_3 (by decide) ?_
      refine lv_icmp_ge (tgt := 21) hx hb dX3_lay_5 (by decide) (fun c_5 => ?_) (fun c_5 => ?_)
      · skip
        refine lv_iconst (v := 0) hx hb dX3_lay_21 (by decide) ?_
        refine lv_istore_n (lv' := [(2, .int 0), (0, .ref qm), (1, .int (nI k))]) hx hb dX3_lay_22 rfl hl (by decide) rfl (fun ls hl => ?_)
        have loopB : ∀ (k0 i : Nat) (H : Heap) (locs : List Loc) (ls : Array Slot), (i + k0 = 4) → va_P (dC, dI) hlCl [(qm, .inr (3, [.int th, .int (nI n), .ref qd, .int rw, .int ak, .ref qk, .ref ql, .ref qy, .int cb, .ref qc, .int dn, .int kp, .int tr, .int md, .int wr, .ref qi, .int sm])), (qk, .inl (cAk, 64, .inl K)), (ql, .inl (cAl, 64, .inl Ln)), (qy, .inl (cAy, 2560, .inl By)), (qi, .inl (cAi, 64, .inl (nbL (zfL La 64) k i)))] H → va_D A [(qm, .inr (3, [.int th, .int (nI n), .ref qd, .int rw, .int ak, .ref qk, .ref ql, .ref qy, .int cb, .ref qc, .int dn, .int kp, .int tr, .int md, .int wr, .ref qi, .int sm])), (qk, .inl (cAk, 64, .inl K)), (ql, .inl (cAl, 64, .inl Ln)), (qy, .inl (cAy, 2560, .inl By)), (qi, .inl (cAi, 64, .inl (nbL (zfL La 64) k i)))] → va_S A s.heap H locs → lv_has ls 4 [(2, .int (nI i)), (0, .ref qm), (1, .int (nI k))] → W p l e (rm_ 1 22) s m [.ref qm, .int (nI k)].toArray below meth c H locs 0 0 (MQ below ((fun A => va_Qv (fun (_ : Unit) => True) (fun _ t9 => qw_ dC dI A [(qm, .inr (3, [.int th, .int (nI n), .ref qd, .int rw, .int ak, .ref qk, .ref ql, .ref qy, .int cb, .ref qc, .int dn, .int kp, .int tr, .int md, .int wr, .ref qi, .int (smL (l3L K Ln By La k) (6 + lz Ln k))])), (qk, .inl (cAk, 64, .inl K)), (ql, .inl (cAl, 64, .inl Ln)), (qy, .inl (cAy, 2560, .inl By)), (qi, .inl (cAi, 64, .inl (l4L K Ln By La k)))] [(cAk, .int), (cAl, .int), (cAy, .int), (cAi, .int)] t9) A) A) [.ref qm, .int (nI k)].toArray s 0 0 A) (F0 m 23 ls []) := by
          intro k0
          induction k0 with
          | zero =>
            intro i H locs ls hi hP hD hS hl
            obtain rfl : 4 = i := by omega
            refine lv_iload_n hx hb dX3_lay_23 rfl (lv_at hl 0 rfl) ?_
            refine lv_iconst (v := 4) hx hb dX3_lay_24 (by decide) ?_
            refine lv_icmp_ge (tgt := 53) hx hb dX3_lay_25 (by decide) (fun c_25 => ?_) (fun c_25 => ?_)
            · skip
              refine lv_aload_n hx hb dX3_lay_53 rfl (lv_at hl 1 rfl) ?_
              refine va_get (D := (dC, dI)) (ci := 3) (v := .ref qi) (C := RX3) (T := TX3) (N := 17) hx hb hts (by decide +kernel) hown hK hP 0 rfl rfl 15 (by decide) (hts (.fieldLink RX3 29 "HouseLogModel" "laid" "[I") (by decide +kernel)) (fun _ h9 => h9) rfl dX3_lay_54 ?_
              refine lv_iconst (v := 4) hx hb dX3_lay_57 (by decide) ?_
              refine lv_aload_n hx hb dX3_lay_58 rfl (lv_at hl 1 rfl) ?_
              refine va_get (D := (dC, dI)) (ci := 3) (v := .ref qk) (C := RX3) (T := TX3) (N := 17) hx hb hts (by decide +kernel) hown hK hP 0 rfl rfl 5 (by decide) (hts (.fieldLink RX3 13 "HouseLogModel" "kinds" "[I") (by decide +kernel)) (fun _ h9 => h9) rfl dX3_lay_59 ?_
              refine lv_iload_n hx hb dX3_lay_62 rfl (lv_at hl 2 rfl) ?_
              refine va_iald hx hb hK hP 1 0 rfl rfl (i := nI k) (vp_in_nI (n := k) (by omega) (by decide)) dX3_lay_63 ?_
              refine W.eq (g2 := F0 m 64 ls (.int (K k) :: .int 4 :: .ref qi :: [])) (by rw [show (nI k : Int32).toNatClampNeg = k from nI_clamp (by omega)]) ?_
              refine va_iast hx hb hK hP hD hS 4 3 rfl rfl (i := 4) (vp_in_nI (n := 4) (by decide) (by decide)) dX3_lay_64 (fun H locs hP hD hS => ?_)
              rw [show (4 : Int32).toNatClampNeg = 4 from by decide] at hP hD
              have hP : va_P (dC, dI) hlCl [(qm, .inr (3, [.int th, .int (nI n), .ref qd, .int rw, .int ak, .ref qk, .ref ql, .ref qy, .int cb, .ref qc, .int dn, .int kp, .int tr, .int md, .int wr, .ref qi, .int sm])), (qk, .inl (cAk, 64, .inl K)), (ql, .inl (cAl, 64, .inl Ln)), (qy, .inl (cAy, 2560, .inl By)), (qi, .inl (cAi, 64, .inl (upd (nbL (zfL La 64) k 4) 4 (K k))))] H := hP
              have hD : va_D A [(qm, .inr (3, [.int th, .int (nI n), .ref qd, .int rw, .int ak, .ref qk, .ref ql, .ref qy, .int cb, .ref qc, .int dn, .int kp, .int tr, .int md, .int wr, .ref qi, .int sm])), (qk, .inl (cAk, 64, .inl K)), (ql, .inl (cAl, 64, .inl Ln)), (qy, .inl (cAy, 2560, .inl By)), (qi, .inl (cAi, 64, .inl (upd (nbL (zfL La 64) k 4) 4 (K k))))] := hD
              refine lv_aload_n hx hb dX3_lay_65 rfl (lv_at hl 1 rfl) ?_
              refine va_get (D := (dC, dI)) (ci := 3) (v := .ref qi) (C := RX3) (T := TX3) (N := 17) hx hb hts (by decide +kernel) hown hK hP 0 rfl rfl 15 (by decide) (hts (.fieldLink RX3 29 "HouseLogModel" "laid" "[I") (by decide +kernel)) (fun _ h9 => h9) rfl dX3_lay_66 ?_
              refine lv_iconst (v := 5) hx hb dX3_lay_69 (by decide) ?_
              refine lv_aload_n hx hb dX3_lay_70 rfl (lv_at hl 1 rfl) ?_
              refine va_get (D := (dC, dI)) (ci := 3) (v := .ref ql) (C := RX3) (T := TX3) (N := 17) hx hb hts (by decide +kernel) hown hK hP 0 rfl rfl 6 (by decide) (hts (.fieldLink RX3 16 "HouseLogModel" "lengths" "[I") (by decide +kernel)) (fun _ h9 => h9) rfl dX3_lay_71 ?_
              refine lv_iload_n hx hb dX3_lay_74 rfl (lv_at hl 2 rfl) ?_
              refine va_iald hx hb hK hP 2 1 rfl rfl (i := nI k) (vp_in_nI (n := k) (by omega) (by decide)) dX3_lay_75 ?_
              refine W.eq (g2 := F0 m 76 ls (.int (Ln k) :: .int 5 :: .ref qi :: [])) (by rw [show (nI k : Int32).toNatClampNeg = k from nI_clamp (by omega)]) ?_
              refine va_iast hx hb hK hP hD hS 4 3 rfl rfl (i := 5) (vp_in_nI (n := 5) (by decide) (by decide)) dX3_lay_76 (fun H locs hP hD hS => ?_)
              rw [show (5 : Int32).toNatClampNeg = 5 from by decide] at hP hD
              have hP : va_P (dC, dI) hlCl [(qm, .inr (3, [.int th, .int (nI n), .ref qd, .int rw, .int ak, .ref qk, .ref ql, .ref qy, .int cb, .ref qc, .int dn, .int kp, .int tr, .int md, .int wr, .ref qi, .int sm])), (qk, .inl (cAk, 64, .inl K)), (ql, .inl (cAl, 64, .inl Ln)), (qy, .inl (cAy, 2560, .inl By)), (qi, .inl (cAi, 64, .inl (upd (upd (nbL (zfL La 64) k 4) 4 (K k)) 5 (Ln k))))] H := hP
              have hD : va_D A [(qm, .inr (3, [.int th, .int (nI n), .ref qd, .int rw, .int ak, .ref qk, .ref ql, .ref qy, .int cb, .ref qc, .int dn, .int kp, .int tr, .int md, .int wr, .ref qi, .int sm])), (qk, .inl (cAk, 64, .inl K)), (ql, .inl (cAl, 64, .inl Ln)), (qy, .inl (cAy, 2560, .inl By)), (qi, .inl (cAi, 64, .inl (upd (upd (nbL (zfL La 64) k 4) 4 (K k)) 5 (Ln k))))] := hD
              have hP : va_P (dC, dI) hlCl [(qm, .inr (3, [.int th, .int (nI n), .ref qd, .int rw, .int ak, .ref qk, .ref ql, .ref qy, .int cb, .ref qc, .int dn, .int kp, .int tr, .int md, .int wr, .ref qi, .int sm])), (qk, .inl (cAk, 64, .inl K)), (ql, .inl (cAl, 64, .inl Ln)), (qy, .inl (cAy, 2560, .inl By)), (qi, .inl (cAi, 64, .inl (l2L K Ln La k)))] H := hP
              have hD : va_D A [(qm, .inr (3, [.int th, .int (nI n), .ref qd, .int rw, .int ak, .ref qk, .ref ql, .ref qy, .int cb, .ref qc, .int dn, .int kp, .int tr, .int md, .int wr, .ref qi, .int sm])), (qk, .inl (cAk, 64, .inl K)), (ql, .inl (cAl, 64, .inl Ln)), (qy, .inl (cAy, 2560, .inl By)), (qi, .inl (cAi, 64, .inl (l2L K Ln La k)))] := hD
              refine lv_iconst (v := 0) hx hb dX3_lay_77 (by decide) ?_
              refine lv_istore_n (lv' := [(2, .int 0), (0, .ref qm), (1, .int (nI k))]) hx hb dX3_lay_78 rfl hl (by decide) rfl (fun ls hl => ?_)
              have loopC : ∀ (k0 i : Nat) (H : Heap) (locs : List Loc) (ls : Array Slot), (i + k0 = lz Ln k) → va_P (dC, dI) hlCl [(qm, .inr (3, [.int th, .int (nI n), .ref qd, .int rw, .int ak, .ref qk, .ref ql, .ref qy, .int cb, .ref qc, .int dn, .int kp, .int tr, .int md, .int wr, .ref qi, .int sm])), (qk, .inl (cAk, 64, .inl K)), (ql, .inl (cAl, 64, .inl Ln)), (qy, .inl (cAy, 2560, .inl By)), (qi, .inl (cAi, 64, .inl (ybL (l2L K Ln La k) By k i)))] H → va_D A [(qm, .inr (3, [.int th, .int (nI n), .ref qd, .int rw, .int ak, .ref qk, .ref ql, .ref qy, .int cb, .ref qc, .int dn, .int kp, .int tr, .int md, .int wr, .ref qi, .int sm])), (qk, .inl (cAk, 64, .inl K)), (ql, .inl (cAl, 64, .inl Ln)), (qy, .inl (cAy, 2560, .inl By)), (qi, .inl (cAi, 64, .inl (ybL (l2L K Ln La k) By k i)))] → va_S A s.heap H locs → lv_has ls 4 [(2, .int (nI i)), (0, .ref qm), (1, .int (nI k))] → W p l e (rm_ 1 22) s m [.ref qm, .int (nI k)].toArray below meth c H locs 0 0 (MQ below ((fun A => va_Qv (fun (_ : Unit) => True) (fun _ t9 => qw_ dC dI A [(qm, .inr (3, [.int th, .int (nI n), .ref qd, .int rw, .int ak, .ref qk, .ref ql, .ref qy, .int cb, .ref qc, .int dn, .int kp, .int tr, .int md, .int wr, .ref qi, .int (smL (l3L K Ln By La k) (6 + lz Ln k))])), (qk, .inl (cAk, 64, .inl K)), (ql, .inl (cAl, 64, .inl Ln)), (qy, .inl (cAy, 2560, .inl By)), (qi, .inl (cAi, 64, .inl (l4L K Ln By La k)))] [(cAk, .int), (cAl, .int), (cAy, .int), (cAi, .int)] t9) A) A) [.ref qm, .int (nI k)].toArray s 0 0 A) (F0 m 79 ls []) := by
                intro k0
                induction k0 with
                | zero =>
                  intro i H locs ls hi hP hD hS hl
                  obtain rfl : lz Ln k = i := by omega
                  refine lv_iload_n hx hb dX3_lay_79 rfl (lv_at hl 0 rfl) ?_
                  refine lv_aload_n hx hb dX3_lay_80 rfl (lv_at hl 1 rfl) ?_
                  refine va_get (D := (dC, dI)) (ci := 3) (v := .ref ql) (C := RX3) (T := TX3) (N := 17) hx hb hts (by decide +kernel) hown hK hP 0 rfl rfl 6 (by decide) (hts (.fieldLink RX3 16 "HouseLogModel" "lengths" "[I") (by decide +kernel)) (fun _ h9 => h9) rfl dX3_lay_81 ?_
                  refine lv_iload_n hx hb dX3_lay_84 rfl (lv_at hl 2 rfl) ?_
                  refine va_iald hx hb hK hP 2 1 rfl rfl (i := nI k) (vp_in_nI (n := k) (by omega) (by decide)) dX3_lay_85 ?_
                  refine W.eq (g2 := F0 m 86 ls (.int (Ln k) :: .int (nI (lz Ln k)) :: [])) (by rw [show (nI k : Int32).toNatClampNeg = k from nI_clamp (by omega)]) ?_
                  rw [hL]
                  refine lv_icmp_ge (tgt := 115) hx hb dX3_lay_86 (by decide) (fun c_86 => ?_) (fun c_86 => ?_)
                  · skip
                    have hP : va_P (dC, dI) hlCl [(qm, .inr (3, [.int th, .int (nI n), .ref qd, .int rw, .int ak, .ref qk, .ref ql, .ref qy, .int cb, .ref qc, .int dn, .int kp, .int tr, .int md, .int wr, .ref qi, .int sm])), (qk, .inl (cAk, 64, .inl K)), (ql, .inl (cAl, 64, .inl Ln)), (qy, .inl (cAy, 2560, .inl By)), (qi, .inl (cAi, 64, .inl (l3L K Ln By La k)))] H := hP
                    have hD : va_D A [(qm, .inr (3, [.int th, .int (nI n), .ref qd, .int rw, .int ak, .ref qk, .ref ql, .ref qy, .int cb, .ref qc, .int dn, .int kp, .int tr, .int md, .int wr, .ref qi, .int sm])), (qk, .inl (cAk, 64, .inl K)), (ql, .inl (cAl, 64, .inl Ln)), (qy, .inl (cAy, 2560, .inl By)), (qi, .inl (cAi, 64, .inl (l3L K Ln By La k)))] := hD
                    refine lv_bipush (v := 6) hx hb dX3_lay_115 (by decide) ?_
                    refine lv_aload_n hx hb dX3_lay_117 rfl (lv_at hl 1 rfl) ?_
                    refine va_get (D := (dC, dI)) (ci := 3) (v := .ref ql) (C := RX3) (T := TX3) (N := 17) hx hb hts (by decide +kernel) hown hK hP 0 rfl rfl 6 (by decide) (hts (.fieldLink RX3 16 "HouseLogModel" "lengths" "[I") (by decide +kernel)) (fun _ h9 => h9) rfl dX3_lay_118 ?_
                    refine lv_iload_n hx hb dX3_lay_121 rfl (lv_at hl 2 rfl) ?_
                    refine va_iald hx hb hK hP 2 1 rfl rfl (i := nI k) (vp_in_nI (n := k) (by omega) (by decide)) dX3_lay_122 ?_
                    refine W.eq (g2 := F0 m 123 ls (.int (Ln k) :: .int 6 :: [])) (by rw [show (nI k : Int32).toNatClampNeg = k from nI_clamp (by omega)]) ?_
                    rw [hL]
                    refine lv_iadd hx hb dX3_lay_123 ?_
                    rw [show (6 + (nI (lz Ln k)) : Int32) = nI (6 + (lz Ln k)) from nI_add 6 (lz Ln k)]
                    refine lv_istore_n (lv' := [(2, .int (nI (6 + (lz Ln k)))), (0, .ref qm), (1, .int (nI k))]) hx hb dX3_lay_124 rfl hl (by decide) rfl (fun ls hl => ?_)
                    refine lv_aload_n hx hb dX3_lay_125 rfl (lv_at hl 1 rfl) ?_
                    refine hc_vV (As := []) (rest := []) (wr := [(qk, .inl (cAk, 64, .inl K)), (ql, .inl (cAl, 64, .inl Ln)), (qy, .inl (cAy, 2560, .inl By)), (qi, .inl (cAi, 64, .inl (l3L K Ln By La k)))]) ⟨hx, hb, hml, hown, hts⟩ sx_T trivial (kX3_begin l dC dI H.size qm qd qk ql qy qc qi n th rw ak cb dn kp tr md wr sm ) (cwV 0 hts gX3_lay_X3_begin rfl rfl rfl (by decide +kernel) ⟨Nat.le_of_ble_eq_true rfl, Nat.le_of_ble_eq_true rfl⟩) hK hP hD hS hA [0] [1, 2, 3, 4] [] rfl rfl rfl rfl rfl (by decide) (ci := 3) rfl rfl rfl rfl hl.1 rfl (Nat.le_of_ble_eq_true rfl) dX3_lay_126 ⟨Nat.zero_le _, Nat.zero_le _⟩ (fun H locs hP hD hS => ?_)
                    have hP : va_P (dC, dI) hlCl [(qm, .inr (3, [.int th, .int (nI n), .ref qd, .int rw, .int ak, .ref qk, .ref ql, .ref qy, .int cb, .ref qc, .int dn, .int kp, .int tr, .int md, .int wr, .ref qi, .int (-1756908916)])), (qk, .inl (cAk, 64, .inl K)), (ql, .inl (cAl, 64, .inl Ln)), (qy, .inl (cAy, 2560, .inl By)), (qi, .inl (cAi, 64, .inl (l3L K Ln By La k)))] H := hP.sub [4, 0, 1, 2, 3] rfl
                    have hD : va_D A [(qm, .inr (3, [.int th, .int (nI n), .ref qd, .int rw, .int ak, .ref qk, .ref ql, .ref qy, .int cb, .ref qc, .int dn, .int kp, .int tr, .int md, .int wr, .ref qi, .int (-1756908916)])), (qk, .inl (cAk, 64, .inl K)), (ql, .inl (cAl, 64, .inl Ln)), (qy, .inl (cAy, 2560, .inl By)), (qi, .inl (cAi, 64, .inl (l3L K Ln By La k)))] := hD.sub [4, 0, 1, 2, 3] (by decide) rfl
                    refine lv_iconst (v := 0) hx hb dX3_lay_129 (by decide) ?_
                    refine lv_istore_n (lv' := [(3, .int 0), (2, .int (nI (6 + (lz Ln k)))), (0, .ref qm), (1, .int (nI k))]) hx hb dX3_lay_130 rfl hl (by decide) rfl (fun ls hl => ?_)
                    have loopD : ∀ (k0 i : Nat) (H : Heap) (locs : List Loc) (ls : Array Slot), (i + k0 = 6 + lz Ln k) → va_P (dC, dI) hlCl [(qm, .inr (3, [.int th, .int (nI n), .ref qd, .int rw, .int ak, .ref qk, .ref ql, .ref qy, .int cb, .ref qc, .int dn, .int kp, .int tr, .int md, .int wr, .ref qi, .int (smL (l3L K Ln By La k) i)])), (qk, .inl (cAk, 64, .inl K)), (ql, .inl (cAl, 64, .inl Ln)), (qy, .inl (cAy, 2560, .inl By)), (qi, .inl (cAi, 64, .inl (l3L K Ln By La k)))] H → va_D A [(qm, .inr (3, [.int th, .int (nI n), .ref qd, .int rw, .int ak, .ref qk, .ref ql, .ref qy, .int cb, .ref qc, .int dn, .int kp, .int tr, .int md, .int wr, .ref qi, .int (smL (l3L K Ln By La k) i)])), (qk, .inl (cAk, 64, .inl K)), (ql, .inl (cAl, 64, .inl Ln)), (qy, .inl (cAy, 2560, .inl By)), (qi, .inl (cAi, 64, .inl (l3L K Ln By La k)))] → va_S A s.heap H locs → lv_has ls 4 [(3, .int (nI i)), (2, .int (nI (6 + (lz Ln k)))), (0, .ref qm), (1, .int (nI k))] → W p l e (rm_ 1 22) s m [.ref qm, .int (nI k)].toArray below meth c H locs 0 0 (MQ below ((fun A => va_Qv (fun (_ : Unit) => True) (fun _ t9 => qw_ dC dI A [(qm, .inr (3, [.int th, .int (nI n), .ref qd, .int rw, .int ak, .ref qk, .ref ql, .ref qy, .int cb, .ref qc, .int dn, .int kp, .int tr, .int md, .int wr, .ref qi, .int (smL (l3L K Ln By La k) (6 + lz Ln k))])), (qk, .inl (cAk, 64, .inl K)), (ql, .inl (cAl, 64, .inl Ln)), (qy, .inl (cAy, 2560, .inl By)), (qi, .inl (cAi, 64, .inl (l4L K Ln By La k)))] [(cAk, .int), (cAl, .int), (cAy, .int), (cAi, .int)] t9) A) A) [.ref qm, .int (nI k)].toArray s 0 0 A) (F0 m 131 ls []) := by
                      intro k0
                      induction k0 with
                      | zero =>
                        intro i H locs ls hi hP hD hS hl
                        obtain rfl : 6 + lz Ln k = i := by omega
                        refine lv_iload_n hx hb dX3_lay_131 rfl (lv_at hl 0 rfl) ?_
                        refine lv_iload_n hx hb dX3_lay_132 rfl (lv_at hl 1 rfl) ?_
                        refine lv_icmp_ge (tgt := 152) hx hb dX3_lay_133 (by decide) (fun c_133 => ?_) (fun c_133 => ?_)
                        · skip
                          refine lv_iconst (v := 0) hx hb dX3_lay_152 (by decide) ?_
                          refine lv_istore_n (lv' := [(3, .int 0), (2, .int (nI (6 + (lz Ln k)))), (0, .ref qm), (1, .int (nI k))]) hx hb dX3_lay_153 rfl hl (by decide) rfl (fun ls hl => ?_)
                          have loopE : ∀ (k0 i : Nat) (H : Heap) (locs : List Loc) (ls : Array Slot), (i + k0 = 4) → va_P (dC, dI) hlCl [(qm, .inr (3, [.int th, .int (nI n), .ref qd, .int rw, .int ak, .ref qk, .ref ql, .ref qy, .int cb, .ref qc, .int dn, .int kp, .int tr, .int md, .int wr, .ref qi, .int (smL (l3L K Ln By La k) (6 + lz Ln k))])), (qk, .inl (cAk, 64, .inl K)), (ql, .inl (cAl, 64, .inl Ln)), (qy, .inl (cAy, 2560, .inl By)), (qi, .inl (cAi, 64, .inl (sbL (l3L K Ln By La k) (smL (l3L K Ln By La k) (6 + lz Ln k)) (6 + lz Ln k) i)))] H → va_D A [(qm, .inr (3, [.int th, .int (nI n), .ref qd, .int rw, .int ak, .ref qk, .ref ql, .ref qy, .int cb, .ref qc, .int dn, .int kp, .int tr, .int md, .int wr, .ref qi, .int (smL (l3L K Ln By La k) (6 + lz Ln k))])), (qk, .inl (cAk, 64, .inl K)), (ql, .inl (cAl, 64, .inl Ln)), (qy, .inl (cAy, 2560, .inl By)), (qi, .inl (cAi, 64, .inl (sbL (l3L K Ln By La k) (smL (l3L K Ln By La k) (6 + lz Ln k)) (6 + lz Ln k) i)))] → va_S A s.heap H locs → lv_has ls 4 [(3, .int (nI i)), (2, .int (nI (6 + (lz Ln k)))), (0, .ref qm), (1, .int (nI k))] → W p l e (rm_ 1 22) s m [.ref qm, .int (nI k)].toArray below meth c H locs 0 0 (MQ below ((fun A => va_Qv (fun (_ : Unit) => True) (fun _ t9 => qw_ dC dI A [(qm, .inr (3, [.int th, .int (nI n), .ref qd, .int rw, .int ak, .ref qk, .ref ql, .ref qy, .int cb, .ref qc, .int dn, .int kp, .int tr, .int md, .int wr, .ref qi, .int (smL (l3L K Ln By La k) (6 + lz Ln k))])), (qk, .inl (cAk, 64, .inl K)), (ql, .inl (cAl, 64, .inl Ln)), (qy, .inl (cAy, 2560, .inl By)), (qi, .inl (cAi, 64, .inl (l4L K Ln By La k)))] [(cAk, .int), (cAl, .int), (cAy, .int), (cAi, .int)] t9) A) A) [.ref qm, .int (nI k)].toArray s 0 0 A) (F0 m 154 ls []) := by
                            intro k0
                            induction k0 with
                            | zero =>
                              intro i H locs ls hi hP hD hS hl
                              obtain rfl : 4 = i := by omega
                              refine lv_iload_n hx hb dX3_lay_154 rfl (lv_at hl 0 rfl) ?_
                              refine lv_iconst (v := 4) hx hb dX3_lay_155 (by decide) ?_
                              refine lv_icmp_ge (tgt := 189) hx hb dX3_lay_156 (by decide) (fun c_156 => ?_) (fun c_156 => ?_)
                              · skip
                                have hP : va_P (dC, dI) hlCl [(qm, .inr (3, [.int th, .int (nI n), .ref qd, .int rw, .int ak, .ref qk, .ref ql, .ref qy, .int cb, .ref qc, .int dn, .int kp, .int tr, .int md, .int wr, .ref qi, .int (smL (l3L K Ln By La k) (6 + lz Ln k))])), (qk, .inl (cAk, 64, .inl K)), (ql, .inl (cAl, 64, .inl Ln)), (qy, .inl (cAy, 2560, .inl By)), (qi, .inl (cAi, 64, .inl (l4L K Ln By La k)))] H := hP
                                have hD : va_D A [(qm, .inr (3, [.int th, .int (nI n), .ref qd, .int rw, .int ak, .ref qk, .ref ql, .ref qy, .int cb, .ref qc, .int dn, .int kp, .int tr, .int md, .int wr, .ref qi, .int (smL (l3L K Ln By La k) (6 + lz Ln k))])), (qk, .inl (cAk, 64, .inl K)), (ql, .inl (cAl, 64, .inl Ln)), (qy, .inl (cAy, 2560, .inl By)), (qi, .inl (cAi, 64, .inl (l4L K Ln By La k)))] := hD
                                exact hr_v hx hb hr hlocks (w1 := [(qm, .inr (3, [.int th, .int (nI n), .ref qd, .int rw, .int ak, .ref qk, .ref ql, .ref qy, .int cb, .ref qc, .int dn, .int kp, .int tr, .int md, .int wr, .ref qi, .int (smL (l3L K Ln By La k) (6 + lz Ln k))])), (qk, .inl (cAk, 64, .inl K)), (ql, .inl (cAl, 64, .inl Ln)), (qy, .inl (cAy, 2560, .inl By)), (qi, .inl (cAi, 64, .inl (l4L K Ln By La k)))]) hP hD hK hS [0, 1, 2, 3, 4] [0, 1, 2, 3] rfl rfl rfl (rfl) dX3_lay_189
                              · exact absurd (nI_le (a := 4) (b := 4) (Nat.le_refl _) (by omega)) c_156
                            | succ k0 ih =>
                              intro i H locs ls hi hP hD hS hl
                              refine lv_iload_n hx hb dX3_lay_154 rfl (lv_at hl 0 rfl) ?_
                              refine lv_iconst (v := 4) hx hb dX3_lay_155 (by decide) ?_
                              refine lv_icmp_ge (tgt := 189) hx hb dX3_lay_156 (by decide) (fun c_156 => ?_) (fun c_156 => ?_)
                              · exact absurd c_156 (nI_ge (a := i) (b := 4) (by omega) (by omega))
                              · skip
                                refine lv_aload_n hx hb dX3_lay_159 rfl (lv_at hl 2 rfl) ?_
                                refine va_get (D := (dC, dI)) (ci := 3) (v := .ref qi) (C := RX3) (T := TX3) (N := 17) hx hb hts (by decide +kernel) hown hK hP 0 rfl rfl 15 (by decide) (hts (.fieldLink RX3 29 "HouseLogModel" "laid" "[I") (by decide +kernel)) (fun _ h9 => h9) rfl dX3_lay_160 ?_
                                refine lv_iload_n hx hb dX3_lay_163 rfl (lv_at hl 1 rfl) ?_
                                refine lv_iload_n hx hb dX3_lay_164 rfl (lv_at hl 0 rfl) ?_
                                refine lv_iadd hx hb dX3_lay_165 ?_
                                rw [show ((nI (6 + (lz Ln k))) + (nI i) : Int32) = nI (6 + (lz Ln k) + i) from nI_add (6 + (lz Ln k)) i]
                                refine lv_aload_n hx hb dX3_lay_166 rfl (lv_at hl 2 rfl) ?_
                                refine va_get (D := (dC, dI)) (ci := 3) (v := .int (smL (l3L K Ln By La k) (6 + lz Ln k))) (C := RX3) (T := TX3) (N := 17) hx hb hts (by decide +kernel) hown hK hP 0 rfl rfl 16 (by decide) (hts (.fieldLink RX3 39 "HouseLogModel" "sum" "I") (by decide +kernel)) (fun _ h9 => h9) rfl dX3_lay_167 ?_
                                refine lv_bipush (v := 24) hx hb dX3_lay_170 (by decide) ?_
                                refine lv_bipush (v := 8) hx hb dX3_lay_172 (by decide) ?_
                                refine lv_iload_n hx hb dX3_lay_174 rfl (lv_at hl 0 rfl) ?_
                                refine lv_imul hx hb dX3_lay_175 ?_
                                rw [show (8 * (nI i) : Int32) = nI (8 * i) from pk_mul 8 i]
                                refine lv_isub hx hb dX3_lay_176 ?_
                                rw [show (24 - (nI (8 * i)) : Int32) = nI (24 - (8 * i)) from pk_sub (a := 24) (b := (8 * i)) (by omega)]
                                refine lv_ishr hx hb dX3_lay_177 ?_
                                refine lv_sipush (v := 255) hx hb dX3_lay_178 (by decide) ?_
                                refine lv_iand hx hb dX3_lay_181 ?_
                                refine va_iast hx hb hK hP hD hS 4 3 rfl rfl (i := nI (6 + (lz Ln k) + i)) (vp_in_nI (n := 6 + (lz Ln k) + i) (by omega) (by decide)) dX3_lay_182 (fun H locs hP hD hS => ?_)
                                rw [show (nI (6 + (lz Ln k) + i) : Int32).toNatClampNeg = 6 + (lz Ln k) + i from nI_clamp (by omega)] at hP hD
                                have hP : va_P (dC, dI) hlCl [(qm, .inr (3, [.int th, .int (nI n), .ref qd, .int rw, .int ak, .ref qk, .ref ql, .ref qy, .int cb, .ref qc, .int dn, .int kp, .int tr, .int md, .int wr, .ref qi, .int (smL (l3L K Ln By La k) (6 + lz Ln k))])), (qk, .inl (cAk, 64, .inl K)), (ql, .inl (cAl, 64, .inl Ln)), (qy, .inl (cAy, 2560, .inl By)), (qi, .inl (cAi, 64, .inl (upd (sbL (l3L K Ln By La k) (smL (l3L K Ln By La k) (6 + lz Ln k)) (6 + lz Ln k) i) (6 + (lz Ln k) + i) (((smL (l3L K Ln By La k) (6 + lz Ln k)) >>> ((nI (24 - (8 * i))) &&& 31)) &&& 255))))] H := hP
                                have hD : va_D A [(qm, .inr (3, [.int th, .int (nI n), .ref qd, .int rw, .int ak, .ref qk, .ref ql, .ref qy, .int cb, .ref qc, .int dn, .int kp, .int tr, .int md, .int wr, .ref qi, .int (smL (l3L K Ln By La k) (6 + lz Ln k))])), (qk, .inl (cAk, 64, .inl K)), (ql, .inl (cAl, 64, .inl Ln)), (qy, .inl (cAy, 2560, .inl By)), (qi, .inl (cAi, 64, .inl (upd (sbL (l3L K Ln By La k) (smL (l3L K Ln By La k) (6 + lz Ln k)) (6 + lz Ln k) i) (6 + (lz Ln k) + i) (((smL (l3L K Ln By La k) (6 + lz Ln k)) >>> ((nI (24 - (8 * i))) &&& 31)) &&& 255))))] := hD
                                refine lv_iinc (v := nI (i + 1)) (lv' := [(3, .int (nI (i + 1))), (2, .int (nI (6 + (lz Ln k)))), (0, .ref qm), (1, .int (nI k))]) hx hb dX3_lay_183 hl (k := 0) rfl (nI_add i 1) (by decide) rfl (fun ls hl => ?_)
                                refine lv_goto (tgt := 154) hx hb dX3_lay_186 (by decide) ?_
                                exact ih (i + 1) H locs ls (by omega)  hP hD hS (lv_sub hl [0, 1, 2, 3] rfl)
                          exact loopE 4 0 H locs ls (by omega)  hP hD hS (lv_sub hl [0, 1, 2, 3] rfl)
                        · exact absurd (nI_le (a := 6 + lz Ln k) (b := 6 + lz Ln k) (Nat.le_refl _) (by omega)) c_133
                      | succ k0 ih =>
                        intro i H locs ls hi hP hD hS hl
                        refine lv_iload_n hx hb dX3_lay_131 rfl (lv_at hl 0 rfl) ?_
                        refine lv_iload_n hx hb dX3_lay_132 rfl (lv_at hl 1 rfl) ?_
                        refine lv_icmp_ge (tgt := 152) hx hb dX3_lay_133 (by decide) (fun c_133 => ?_) (fun c_133 => ?_)
                        · exact absurd c_133 (nI_ge (a := i) (b := 6 + lz Ln k) (by omega) (by omega))
                        · skip
                          refine lv_aload_n hx hb dX3_lay_136 rfl (lv_at hl 2 rfl) ?_
                          refine lv_aload_n hx hb dX3_lay_137 rfl (lv_at hl 2 rfl) ?_
                          refine va_get (D := (dC, dI)) (ci := 3) (v := .ref qi) (C := RX3) (T := TX3) (N := 17) hx hb hts (by decide +kernel) hown hK hP 0 rfl rfl 15 (by decide) (hts (.fieldLink RX3 29 "HouseLogModel" "laid" "[I") (by decide +kernel)) (fun _ h9 => h9) rfl dX3_lay_138 ?_
                          refine lv_iload_n hx hb dX3_lay_141 rfl (lv_at hl 0 rfl) ?_
                          refine va_iald hx hb hK hP 4 3 rfl rfl (i := nI i) (vp_in_nI (n := i) (by omega) (by decide)) dX3_lay_142 ?_
                          refine W.eq (g2 := F0 m 143 ls (.int ((l3L K Ln By La k) i) :: .ref qm :: [])) (by rw [show (nI i : Int32).toNatClampNeg = i from nI_clamp (by omega)]) ?_
                          refine hc_vV (As := [.int ((l3L K Ln By La k) i)]) (rest := []) (wr := [(qk, .inl (cAk, 64, .inl K)), (ql, .inl (cAl, 64, .inl Ln)), (qy, .inl (cAy, 2560, .inl By)), (qi, .inl (cAi, 64, .inl (l3L K Ln By La k)))]) ⟨hx, hb, hml, hown, hts⟩ sx_T trivial (kX3_goOn l dC dI H.size qm qd qk ql qy qc qi n th rw ak cb dn kp tr md wr (smL (l3L K Ln By La k) i) ((l3L K Ln By La k) i) ) (cwV 1 hts gX3_lay_X3_goOn rfl rfl rfl (by decide +kernel) ⟨Nat.le_of_ble_eq_true rfl, Nat.le_of_ble_eq_true rfl⟩) hK hP hD hS hA [0] [1, 2, 3, 4] [] rfl rfl rfl rfl rfl (by decide) (ci := 3) rfl rfl rfl rfl hl.1 rfl (Nat.le_of_ble_eq_true rfl) dX3_lay_143 ⟨Nat.zero_le _, Nat.zero_le _⟩ (fun H locs hP hD hS => ?_)
                          have hP : va_P (dC, dI) hlCl [(qm, .inr (3, [.int th, .int (nI n), .ref qd, .int rw, .int ak, .ref qk, .ref ql, .ref qy, .int cb, .ref qc, .int dn, .int kp, .int tr, .int md, .int wr, .ref qi, .int (mixI (smL (l3L K Ln By La k) i) ((l3L K Ln By La k) i))])), (qk, .inl (cAk, 64, .inl K)), (ql, .inl (cAl, 64, .inl Ln)), (qy, .inl (cAy, 2560, .inl By)), (qi, .inl (cAi, 64, .inl (l3L K Ln By La k)))] H := hP.sub [4, 0, 1, 2, 3] rfl
                          have hD : va_D A [(qm, .inr (3, [.int th, .int (nI n), .ref qd, .int rw, .int ak, .ref qk, .ref ql, .ref qy, .int cb, .ref qc, .int dn, .int kp, .int tr, .int md, .int wr, .ref qi, .int (mixI (smL (l3L K Ln By La k) i) ((l3L K Ln By La k) i))])), (qk, .inl (cAk, 64, .inl K)), (ql, .inl (cAl, 64, .inl Ln)), (qy, .inl (cAy, 2560, .inl By)), (qi, .inl (cAi, 64, .inl (l3L K Ln By La k)))] := hD.sub [4, 0, 1, 2, 3] (by decide) rfl
                          refine lv_iinc (v := nI (i + 1)) (lv' := [(3, .int (nI (i + 1))), (2, .int (nI (6 + (lz Ln k)))), (0, .ref qm), (1, .int (nI k))]) hx hb dX3_lay_146 hl (k := 0) rfl (nI_add i 1) (by decide) rfl (fun ls hl => ?_)
                          refine lv_goto (tgt := 131) hx hb dX3_lay_149 (by decide) ?_
                          exact ih (i + 1) H locs ls (by omega)  hP hD hS (lv_sub hl [0, 1, 2, 3] rfl)
                    exact loopD (6 + lz Ln k) 0 H locs ls (by omega)  hP hD hS (lv_sub hl [0, 1, 2, 3] rfl)
                  · exact absurd (nI_le (a := lz Ln k) (b := lz Ln k) (Nat.le_refl _) (by omega)) c_86
                | succ k0 ih =>
                  intro i H locs ls hi hP hD hS hl
                  refine lv_iload_n hx hb dX3_lay_79 rfl (lv_at hl 0 rfl) ?_
                  refine lv_aload_n hx hb dX3_lay_80 rfl (lv_at hl 1 rfl) ?_
                  refine va_get (D := (dC, dI)) (ci := 3) (v := .ref ql) (C := RX3) (T := TX3) (N := 17) hx hb hts (by decide +kernel) hown hK hP 0 rfl rfl 6 (by decide) (hts (.fieldLink RX3 16 "HouseLogModel" "lengths" "[I") (by decide +kernel)) (fun _ h9 => h9) rfl dX3_lay_81 ?_
                  refine lv_iload_n hx hb dX3_lay_84 rfl (lv_at hl 2 rfl) ?_
                  refine va_iald hx hb hK hP 2 1 rfl rfl (i := nI k) (vp_in_nI (n := k) (by omega) (by decide)) dX3_lay_85 ?_
                  refine W.eq (g2 := F0 m 86 ls (.int (Ln k) :: .int (nI i) :: [])) (by rw [show (nI k : Int32).toNatClampNeg = k from nI_clamp (by omega)]) ?_
                  rw [hL]
                  refine lv_icmp_ge (tgt := 115) hx hb dX3_lay_86 (by decide) (fun c_86 => ?_) (fun c_86 => ?_)
                  · exact absurd c_86 (nI_ge (a := i) (b := lz Ln k) (by omega) (by omega))
                  · skip
                    refine lv_aload_n hx hb dX3_lay_89 rfl (lv_at hl 1 rfl) ?_
                    refine va_get (D := (dC, dI)) (ci := 3) (v := .ref qi) (C := RX3) (T := TX3) (N := 17) hx hb hts (by decide +kernel) hown hK hP 0 rfl rfl 15 (by decide) (hts (.fieldLink RX3 29 "HouseLogModel" "laid" "[I") (by decide +kernel)) (fun _ h9 => h9) rfl dX3_lay_90 ?_
                    refine lv_bipush (v := 6) hx hb dX3_lay_93 (by decide) ?_
                    refine lv_iload_n hx hb dX3_lay_95 rfl (lv_at hl 0 rfl) ?_
                    refine lv_iadd hx hb dX3_lay_96 ?_
                    rw [show (6 + (nI i) : Int32) = nI (6 + i) from nI_add 6 i]
                    refine lv_aload_n hx hb dX3_lay_97 rfl (lv_at hl 1 rfl) ?_
                    refine va_get (D := (dC, dI)) (ci := 3) (v := .ref qy) (C := RX3) (T := TX3) (N := 17) hx hb hts (by decide +kernel) hown hK hP 0 rfl rfl 7 (by decide) (hts (.fieldLink RX3 19 "HouseLogModel" "bytes" "[I") (by decide +kernel)) (fun _ h9 => h9) rfl dX3_lay_98 ?_
                    refine lv_bipush (v := 40) hx hb dX3_lay_101 (by decide) ?_
                    refine lv_iload_n hx hb dX3_lay_103 rfl (lv_at hl 2 rfl) ?_
                    refine lv_imul hx hb dX3_lay_104 ?_
                    rw [show (40 * (nI k) : Int32) = nI (40 * k) from pk_mul 40 k]
                    refine lv_iload_n hx hb dX3_lay_105 rfl (lv_at hl 0 rfl) ?_
                    refine lv_iadd hx hb dX3_lay_106 ?_
                    rw [show ((nI (40 * k)) + (nI i) : Int32) = nI (40 * k + i) from nI_add (40 * k) i]
                    refine va_iald hx hb hK hP 3 2 rfl rfl (i := nI (40 * k + i)) (vp_in_nI (n := 40 * k + i) (by omega) (by decide)) dX3_lay_107 ?_
                    refine W.eq (g2 := F0 m 108 ls (.int (By (40 * k + i)) :: .int (nI (6 + i)) :: .ref qi :: [])) (by rw [show (nI (40 * k + i) : Int32).toNatClampNeg = 40 * k + i from nI_clamp (by omega)]) ?_
                    refine va_iast hx hb hK hP hD hS 4 3 rfl rfl (i := nI (6 + i)) (vp_in_nI (n := 6 + i) (by omega) (by decide)) dX3_lay_108 (fun H locs hP hD hS => ?_)
                    rw [show (nI (6 + i) : Int32).toNatClampNeg = 6 + i from nI_clamp (by omega)] at hP hD
                    have hP : va_P (dC, dI) hlCl [(qm, .inr (3, [.int th, .int (nI n), .ref qd, .int rw, .int ak, .ref qk, .ref ql, .ref qy, .int cb, .ref qc, .int dn, .int kp, .int tr, .int md, .int wr, .ref qi, .int sm])), (qk, .inl (cAk, 64, .inl K)), (ql, .inl (cAl, 64, .inl Ln)), (qy, .inl (cAy, 2560, .inl By)), (qi, .inl (cAi, 64, .inl (upd (ybL (l2L K Ln La k) By k i) (6 + i) (By (40 * k + i)))))] H := hP
                    have hD : va_D A [(qm, .inr (3, [.int th, .int (nI n), .ref qd, .int rw, .int ak, .ref qk, .ref ql, .ref qy, .int cb, .ref qc, .int dn, .int kp, .int tr, .int md, .int wr, .ref qi, .int sm])), (qk, .inl (cAk, 64, .inl K)), (ql, .inl (cAl, 64, .inl Ln)), (qy, .inl (cAy, 2560, .inl By)), (qi, .inl (cAi, 64, .inl (upd (ybL (l2L K Ln La k) By k i) (6 + i) (By (40 * k + i)))))] := hD
                    refine lv_iinc (v := nI (i + 1)) (lv' := [(2, .int (nI (i + 1))), (0, .ref qm), (1, .int (nI k))]) hx hb dX3_lay_109 hl (k := 0) rfl (nI_add i 1) (by decide) rfl (fun ls hl => ?_)
                    refine lv_goto (tgt := 79) hx hb dX3_lay_112 (by decide) ?_
                    exact ih (i + 1) H locs ls (by omega)  hP hD hS (lv_sub hl [0, 1, 2] rfl)
              exact loopC (lz Ln k) 0 H locs ls (by omega)  hP hD hS (lv_sub hl [0, 1, 2] rfl)
            · exact absurd (nI_le (a := 4) (b := 4) (Nat.le_refl _) (by omega)) c_25
          | succ k0 ih =>
            intro i H locs ls hi hP hD hS hl
            refine lv_iload_n hx hb dX3_lay_23 rfl (lv_at hl 0 rfl) ?_
            refine lv_iconst (v := 4) hx hb dX3_lay_24 (by decide) ?_
            refine lv_icmp_ge (tgt := 53) hx hb dX3_lay_25 (by decide) (fun c_25 => ?_) (fun c_25 => ?_)
            · exact absurd c_25 (nI_ge (a := i) (b := 4) (by omega) (by omega))
            · skip
              refine lv_aload_n hx hb dX3_lay_28 rfl (lv_at hl 1 rfl) ?_
              refine va_get (D := (dC, dI)) (ci := 3) (v := .ref qi) (C := RX3) (T := TX3) (N := 17) hx hb hts (by decide +kernel) hown hK hP 0 rfl rfl 15 (by decide) (hts (.fieldLink RX3 29 "HouseLogModel" "laid" "[I") (by decide +kernel)) (fun _ h9 => h9) rfl dX3_lay_29 ?_
              refine lv_iload_n hx hb dX3_lay_32 rfl (lv_at hl 0 rfl) ?_
              refine lv_iload_n hx hb dX3_lay_33 rfl (lv_at hl 2 rfl) ?_
              refine lv_bipush (v := 24) hx hb dX3_lay_34 (by decide) ?_
              refine lv_bipush (v := 8) hx hb dX3_lay_36 (by decide) ?_
              refine lv_iload_n hx hb dX3_lay_38 rfl (lv_at hl 0 rfl) ?_
              refine lv_imul hx hb dX3_lay_39 ?_
              rw [show (8 * (nI i) : Int32) = nI (8 * i) from pk_mul 8 i]
              refine lv_isub hx hb dX3_lay_40 ?_
              rw [show (24 - (nI (8 * i)) : Int32) = nI (24 - (8 * i)) from pk_sub (a := 24) (b := (8 * i)) (by omega)]
              refine lv_ishr hx hb dX3_lay_41 ?_
              refine lv_sipush (v := 255) hx hb dX3_lay_42 (by decide) ?_
              refine lv_iand hx hb dX3_lay_45 ?_
              refine va_iast hx hb hK hP hD hS 4 3 rfl rfl (i := nI i) (vp_in_nI (n := i) (by omega) (by decide)) dX3_lay_46 (fun H locs hP hD hS => ?_)
              rw [show (nI i : Int32).toNatClampNeg = i from nI_clamp (by omega)] at hP hD
              have hP : va_P (dC, dI) hlCl [(qm, .inr (3, [.int th, .int (nI n), .ref qd, .int rw, .int ak, .ref qk, .ref ql, .ref qy, .int cb, .ref qc, .int dn, .int kp, .int tr, .int md, .int wr, .ref qi, .int sm])), (qk, .inl (cAk, 64, .inl K)), (ql, .inl (cAl, 64, .inl Ln)), (qy, .inl (cAy, 2560, .inl By)), (qi, .inl (cAi, 64, .inl (upd (nbL (zfL La 64) k i) i (((nI k) >>> ((nI (24 - (8 * i))) &&& 31)) &&& 255))))] H := hP
              have hD : va_D A [(qm, .inr (3, [.int th, .int (nI n), .ref qd, .int rw, .int ak, .ref qk, .ref ql, .ref qy, .int cb, .ref qc, .int dn, .int kp, .int tr, .int md, .int wr, .ref qi, .int sm])), (qk, .inl (cAk, 64, .inl K)), (ql, .inl (cAl, 64, .inl Ln)), (qy, .inl (cAy, 2560, .inl By)), (qi, .inl (cAi, 64, .inl (upd (nbL (zfL La 64) k i) i (((nI k) >>> ((nI (24 - (8 * i))) &&& 31)) &&& 255))))] := hD
              refine lv_iinc (v := nI (i + 1)) (lv' := [(2, .int (nI (i + 1))), (0, .ref qm), (1, .int (nI k))]) hx hb dX3_lay_47 hl (k := 0) rfl (nI_add i 1) (by decide) rfl (fun ls hl => ?_)
              refine lv_goto (tgt := 23) hx hb dX3_lay_50 (by decide) ?_
              exact ih (i + 1) H locs ls (by omega)  hP hD hS (lv_sub hl [0, 1, 2] rfl)
        exact loopB 4 0 H locs ls (by omega)  hP hD hS (lv_sub hl [0, 1, 2] rfl)
      · exact absurd (nI_le (a := 64) (b := 64) (Nat.le_refl _) (by omega)) c_5
    | succ k0 ih =>
      intro i H locs ls hi hP hD hS hl
      refine lv_iload_n hx hb dX3_lay_2 rfl (lv_at hl 0 rfl) ?_
      refine lv_bipush (v := 64) hx hb dX3_lay_3 (by decide) ?_
      refine lv_icmp_ge (tgt := 21) hx hb dX3_lay_5 (by decide) (fun c_5 => ?_) (fun c_5 => ?_)
      · exact absurd c_5 (nI_ge (a := i) (b := 64) (by omega) (by omega))
      · skip
        refine lv_aload_n hx hb dX3_lay_8 rfl (lv_at hl 1 rfl) ?_
        refine va_get (D := (dC, dI)) (ci := 3) (v := .ref qi) (C := RX3) (T := TX3) (N := 17) hx hb hts (by decide +kernel) hown hK hP 0 rfl rfl 15 (by decide) (hts (.fieldLink RX3 29 "HouseLogModel" "laid" "[I") (by decide +kernel)) (fun _ h9 => h9) rfl dX3_lay_9 ?_
        refine lv_iload_n hx hb dX3_lay_12 rfl (lv_at hl 0 rfl) ?_
        refine lv_iconst (v := 0) hx hb dX3_lay_13 (by decide) ?_
        refine va_iast hx hb hK hP hD hS 4 3 rfl rfl (i := nI i) (vp_in_nI (n := i) (by omega) (by decide)) dX3_lay_14 (fun H locs hP hD hS => ?_)
        rw [show (nI i : Int32).toNatClampNeg = i from nI_clamp (by omega)] at hP hD
        have hP : va_P (dC, dI) hlCl [(qm, .inr (3, [.int th, .int (nI n), .ref qd, .int rw, .int ak, .ref qk, .ref ql, .ref qy, .int cb, .ref qc, .int dn, .int kp, .int tr, .int md, .int wr, .ref qi, .int sm])), (qk, .inl (cAk, 64, .inl K)), (ql, .inl (cAl, 64, .inl Ln)), (qy, .inl (cAy, 2560, .inl By)), (qi, .inl (cAi, 64, .inl (upd (zfL La i) i 0)))] H := hP
        have hD : va_D A [(qm, .inr (3, [.int th, .int (nI n), .ref qd, .int rw, .int ak, .ref qk, .ref ql, .ref qy, .int cb, .ref qc, .int dn, .int kp, .int tr, .int md, .int wr, .ref qi, .int sm])), (qk, .inl (cAk, 64, .inl K)), (ql, .inl (cAl, 64, .inl Ln)), (qy, .inl (cAy, 2560, .inl By)), (qi, .inl (cAi, 64, .inl (upd (zfL La i) i 0)))] := hD
        refine lv_iinc (v := nI (i + 1)) (lv' := [(2, .int (nI (i + 1))), (0, .ref qm), (1, .int (nI k))]) hx hb dX3_lay_15 hl (k := 0) rfl (nI_add i 1) (by decide) rfl (fun ls hl => ?_)
        refine lv_goto (tgt := 2) hx hb dX3_lay_18 (by decide) ?_
        exact ih (i + 1) H locs ls (by omega)  hP hD hS (lv_sub hl [0, 1, 2] rfl)
  exact loopA 64 0 H locs ls (by omega)  hP hD hS (lv_sub hl [0, 1, 2] rfl)

def rtR (D : Nat → Int32) (u k : Nat) : Int32 := (if (foI D (4096 * u + 64 * k)) = (nI k) then (if (inI (D (4096 * u + 64 * k + 4)) 1 9) = 0 then 0 else (if (nI (lz D (4096 * u + 64 * k + 5))) ≤ 40 then (if (foI D (4096 * u + 64 * k + 6 + (lz D (4096 * u + 64 * k + 5)))) = (smA D (4096 * u + 64 * k) (6 + lz D (4096 * u + 64 * k + 5))) then 1 else 0) else 0)) else 0)
def srR (sm : Int32) (D : Nat → Int32) (u k : Nat) : Int32 := (if (foI D (4096 * u + 64 * k)) = (nI k) then (if (inI (D (4096 * u + 64 * k + 4)) 1 9) = 0 then sm else (if (nI (lz D (4096 * u + 64 * k + 5))) ≤ 40 then smA D (4096 * u + 64 * k) (6 + lz D (4096 * u + 64 * k + 5)) else sm)) else sm)
set_option maxHeartbeats 4000000 in
set_option maxRecDepth 100000 in
theorem kX3_isRight (l : Launch) (dC : Nat → ClassId) (dI : Nat → Nat → Nat) (sz : Nat) (qm qd qk ql qy qc qi : Nat) (n : Nat) (cAd : ClassId) (th rw ak cb dn kp tr md wr sm : Int32) (D : Nat → Int32) (u k : Nat) (hu : u ≤ 1) (hk : k < 64) (h5 : D (4096 * u + 64 * k + 5) = nI (lz D (4096 * u + 64 * k + 5))) (h52 : lz D (4096 * u + 64 * k + 5) < 256) : Mi_ l yX3_isRight wsX3_isRight 1 24 dC dI (fun _ => True) [.ref qm, .int (nI u), .int (nI k)] [(qm, .inr (3, [.int th, .int (nI n), .ref qd, .int rw, .int ak, .ref qk, .ref ql, .ref qy, .int cb, .ref qc, .int dn, .int kp, .int tr, .int md, .int wr, .ref qi, .int sm])), (qd, .inl (cAd, 8192, .inl D))] [(cAd, .int)] sz (rtR D u k) [(qm, .inr (3, [.int th, .int (nI n), .ref qd, .int rw, .int ak, .ref qk, .ref ql, .ref qy, .int cb, .ref qc, .int dn, .int kp, .int tr, .int md, .int wr, .ref qi, .int (srR sm D u k)])), (qd, .inl (cAd, 8192, .inl D))] := by
  refine hm_ (cc := cX3_isRight) (maxL := 6) (ret := (some .boolean)) (Qc := fun A => va_Qi (fun (r9 : Int32) (_ : Unit) => r9 = rtR D u k) (fun _ t9 => qw_ dC dI A [(qm, .inr (3, [.int th, .int (nI n), .ref qd, .int rw, .int ak, .ref qk, .ref ql, .ref qy, .int cb, .ref qc, .int dn, .int kp, .int tr, .int md, .int wr, .ref qi, .int (srR sm D u k)])), (qd, .inl (cAd, 8192, .inl D))] [(cAd, .int)] t9) A) (by decide) rfl (Nat.le_of_ble_eq_true rfl) ?_
  intro p e s m below meth c A H locs ls hx hb hr hml hts hown hlocks hsz hP hK hD hE hA hS hl
  have hl : lv_has ls 6 [(0, .ref qm), (1, .int (nI u)), (2, .int (nI k))] := hl
  have hown : s.vm.findClass RX3 = some m.cls := hown
  refine lv_aload_n hx hb dX3_isRight_0 rfl (lv_at hl 0 rfl) ?_
  refine lv_iload_n hx hb dX3_isRight_1 rfl (lv_at hl 1 rfl) ?_
  refine lv_iload_n hx hb dX3_isRight_2 rfl (lv_at hl 2 rfl) ?_
  refine hc_iV (As := [.int (nI u), .int (nI k)]) (rest := []) (wr := [(qd, .inl (cAd, 8192, .inl D))]) ⟨hx, hb, hml, hown, hts⟩ sx_T trivial (kX3_from l dC dI H.size qm qd qk ql qy qc qi n th rw ak cb dn kp tr md wr sm u k ) (cwV 2 hts gX3_isRight_X3_from rfl rfl rfl (by decide +kernel) ⟨Nat.le_of_ble_eq_true rfl, Nat.le_of_ble_eq_true rfl⟩) hK hP hD hS hA [0] [1] [] rfl rfl rfl rfl rfl (by decide) (ci := 3) rfl rfl rfl rfl hl.1 rfl (Nat.le_of_ble_eq_true rfl) dX3_isRight_3 ⟨Nat.zero_le _, Nat.zero_le _⟩ (fun H locs hP hD hS => ?_)
  have hP : va_P (dC, dI) hlCl [(qm, .inr (3, [.int th, .int (nI n), .ref qd, .int rw, .int ak, .ref qk, .ref ql, .ref qy, .int cb, .ref qc, .int dn, .int kp, .int tr, .int md, .int wr, .ref qi, .int sm])), (qd, .inl (cAd, 8192, .inl D))] H := hP.sub [1, 0] rfl
  have hD : va_D A [(qm, .inr (3, [.int th, .int (nI n), .ref qd, .int rw, .int ak, .ref qk, .ref ql, .ref qy, .int cb, .ref qc, .int dn, .int kp, .int tr, .int md, .int wr, .ref qi, .int sm])), (qd, .inl (cAd, 8192, .inl D))] := hD.sub [1, 0] (by decide) rfl
  refine lv_istore_n (lv' := [(3, .int (nI (4096 * u + 64 * k))), (0, .ref qm), (1, .int (nI u)), (2, .int (nI k))]) hx hb dX3_isRight_6 rfl hl (by decide) rfl (fun ls hl => ?_)
  refine lv_aload_n hx hb dX3_isRight_7 rfl (lv_at hl 1 rfl) ?_
  refine va_get (D := (dC, dI)) (ci := 3) (v := .ref qd) (C := RX3) (T := TX3) (N := 17) hx hb hts (by decide +kernel) hown hK hP 0 rfl rfl 2 (by decide) (hts (.fieldLink RX3 7 "HouseLogModel" "disk" "[I") (by decide +kernel)) (fun _ h9 => h9) rfl dX3_isRight_8 ?_
  refine lv_iload_n hx hb dX3_isRight_11 rfl (lv_at hl 0 rfl) ?_
  refine lv_iconst (v := 5) hx hb dX3_isRight_12 (by decide) ?_
  refine lv_iadd hx hb dX3_isRight_13 ?_
  rw [show ((nI (4096 * u + 64 * k)) + 5 : Int32) = nI (4096 * u + 64 * k + 5) from nI_add (4096 * u + 64 * k) 5]
  refine va_iald hx hb hK hP 1 0 rfl rfl (i := nI (4096 * u + 64 * k + 5)) (vp_in_nI (n := 4096 * u + 64 * k + 5) (by omega) (by decide)) dX3_isRight_14 ?_
  refine W.eq (g2 := F0 m 15 ls (.int (D (4096 * u + 64 * k + 5)) :: [])) (by rw [show (nI (4096 * u + 64 * k + 5) : Int32).toNatClampNeg = 4096 * u + 64 * k + 5 from nI_clamp (by omega)]) ?_
  rw [h5]
  refine lv_istore (lv' := [(4, .int (nI (lz D (4096 * u + 64 * k + 5)))), (3, .int (nI (4096 * u + 64 * k))), (0, .ref qm), (1, .int (nI u)), (2, .int (nI k))]) hx hb dX3_isRight_15 hl (by decide) rfl (fun ls hl => ?_)
  refine lv_aload_n hx hb dX3_isRight_17 rfl (lv_at hl 2 rfl) ?_
  refine lv_iload_n hx hb dX3_isRight_18 rfl (lv_at hl 1 rfl) ?_
  refine hc_iV (As := [.int (nI (4096 * u + 64 * k))]) (rest := []) (wr := []) ⟨hx, hb, hml, hown, hts⟩ sx_T trivial (kX3_four l dC dI H.size qm qd qk ql qy qc qi n cAd th rw ak cb dn kp tr md wr sm D (4096 * u + 64 * k) (by omega)) (cwV 1 hts gX3_isRight_X3_four rfl rfl rfl (by decide +kernel) ⟨Nat.le_of_ble_eq_true rfl, Nat.le_of_ble_eq_true rfl⟩) hK hP hD hS hA [0, 1] [] [0] rfl rfl rfl rfl rfl (by decide) (ci := 3) rfl rfl rfl rfl hl.1 rfl (Nat.le_of_ble_eq_true rfl) dX3_isRight_19 ⟨Nat.zero_le _, Nat.zero_le _⟩ (fun H locs hP hD hS => ?_)
  have hP : va_P (dC, dI) hlCl [(qm, .inr (3, [.int th, .int (nI n), .ref qd, .int rw, .int ak, .ref qk, .ref ql, .ref qy, .int cb, .ref qc, .int dn, .int kp, .int tr, .int md, .int wr, .ref qi, .int sm])), (qd, .inl (cAd, 8192, .inl D))] H := hP
  have hD : va_D A [(qm, .inr (3, [.int th, .int (nI n), .ref qd, .int rw, .int ak, .ref qk, .ref ql, .ref qy, .int cb, .ref qc, .int dn, .int kp, .int tr, .int md, .int wr, .ref qi, .int sm])), (qd, .inl (cAd, 8192, .inl D))] := hD
  refine lv_iload_n hx hb dX3_isRight_22 rfl (lv_at hl 4 rfl) ?_
  refine lv_icmp_ne (tgt := 50) hx hb dX3_isRight_23 (by decide) (fun c_23 => ?_) (fun c_23 => ?_)
  · skip
    refine lv_iconst (v := 0) hx hb dX3_isRight_50 (by decide) ?_
    exact hr_z (v := 0) hx hb hr hlocks (by decide) (w1 := [(qm, .inr (3, [.int th, .int (nI n), .ref qd, .int rw, .int ak, .ref qk, .ref ql, .ref qy, .int cb, .ref qc, .int dn, .int kp, .int tr, .int md, .int wr, .ref qi, .int sm])), (qd, .inl (cAd, 8192, .inl D))]) hP hD hK hS [0, 1] [0] rfl rfl rfl (by simp only [rtR, if_neg c_23] <;> rfl) (by simp only [rtR, srR, if_neg c_23] <;> rfl) dX3_isRight_51
  · skip
    refine lv_aload_n hx hb dX3_isRight_26 rfl (lv_at hl 2 rfl) ?_
    refine va_get (D := (dC, dI)) (ci := 3) (v := .ref qd) (C := RX3) (T := TX3) (N := 17) hx hb hts (by decide +kernel) hown hK hP 0 rfl rfl 2 (by decide) (hts (.fieldLink RX3 7 "HouseLogModel" "disk" "[I") (by decide +kernel)) (fun _ h9 => h9) rfl dX3_isRight_27 ?_
    refine lv_iload_n hx hb dX3_isRight_30 rfl (lv_at hl 1 rfl) ?_
    refine lv_iconst (v := 4) hx hb dX3_isRight_31 (by decide) ?_
    refine lv_iadd hx hb dX3_isRight_32 ?_
    rw [show ((nI (4096 * u + 64 * k)) + 4 : Int32) = nI (4096 * u + 64 * k + 4) from nI_add (4096 * u + 64 * k) 4]
    refine va_iald hx hb hK hP 1 0 rfl rfl (i := nI (4096 * u + 64 * k + 4)) (vp_in_nI (n := 4096 * u + 64 * k + 4) (by omega) (by decide)) dX3_isRight_33 ?_
    refine W.eq (g2 := F0 m 34 ls (.int (D (4096 * u + 64 * k + 4)) :: [])) (by rw [show (nI (4096 * u + 64 * k + 4) : Int32).toNatClampNeg = 4096 * u + 64 * k + 4 from nI_clamp (by omega)]) ?_
    refine lv_iconst (v := 1) hx hb dX3_isRight_34 (by decide) ?_
    refine lv_bipush (v := 9) hx hb dX3_isRight_35 (by decide) ?_
    refine hc_iS (As := [.int (D (4096 * u + 64 * k + 4)), .int 1, .int 9]) (rest := []) ⟨hx, hb, hml, hown, hts⟩ sx_T trivial (kX3_in l dC dI H.size (D (4096 * u + 64 * k + 4)) 1 9 ) (va_cwS 3 hts gX3_isRight_X3_in rfl rfl rfl (by decide +kernel) ⟨Nat.le_of_ble_eq_true rfl, Nat.le_of_ble_eq_true rfl⟩) hK hP hD hS hA [0, 1] rfl rfl rfl hl.1 rfl (Nat.le_of_ble_eq_true rfl) dX3_isRight_37 ⟨Nat.zero_le _, Nat.zero_le _⟩ (fun H locs hP hD hS => ?_)
    refine lv_if_eq (tgt := 50) hx hb dX3_isRight_40 (by decide) (fun c_40 => ?_) (fun c_40 => ?_)
    · skip
      refine lv_iconst (v := 0) hx hb dX3_isRight_50 (by decide) ?_
      exact hr_z (v := 0) hx hb hr hlocks (by decide) (w1 := [(qm, .inr (3, [.int th, .int (nI n), .ref qd, .int rw, .int ak, .ref qk, .ref ql, .ref qy, .int cb, .ref qc, .int dn, .int kp, .int tr, .int md, .int wr, .ref qi, .int sm])), (qd, .inl (cAd, 8192, .inl D))]) hP hD hK hS [0, 1] [0] rfl rfl rfl (by simp only [rtR, if_pos c_23, if_pos c_40] <;> rfl) (by simp only [rtR, srR, if_pos c_23, if_pos c_40] <;> rfl) dX3_isRight_51
    · skip
      refine lv_iload hx hb dX3_isRight_43 (lv_at hl 0 rfl) ?_
      refine lv_bipush (v := 40) hx hb dX3_isRight_45 (by decide) ?_
      refine lv_icmp_le (tgt := 52) hx hb dX3_isRight_47 (by decide) (fun c_47 => ?_) (fun c_47 => ?_)
      · skip
        have hl40 : lz D (4096 * u + 64 * k + 5) ≤ 40 := (nI_leI (b := 40) (by omega) (by decide)).mp c_47
        refine lv_aload_n hx hb dX3_isRight_52 rfl (lv_at hl 2 rfl) ?_
        refine hc_vV (As := []) (rest := []) (wr := [(qd, .inl (cAd, 8192, .inl D))]) ⟨hx, hb, hml, hown, hts⟩ sx_T trivial (kX3_begin l dC dI H.size qm qd qk ql qy qc qi n th rw ak cb dn kp tr md wr sm ) (cwV 0 hts gX3_isRight_X3_begin rfl rfl rfl (by decide +kernel) ⟨Nat.le_of_ble_eq_true rfl, Nat.le_of_ble_eq_true rfl⟩) hK hP hD hS hA [0] [1] [] rfl rfl rfl rfl rfl (by decide) (ci := 3) rfl rfl rfl rfl hl.1 rfl (Nat.le_of_ble_eq_true rfl) dX3_isRight_53 ⟨Nat.zero_le _, Nat.zero_le _⟩ (fun H locs hP hD hS => ?_)
        have hP : va_P (dC, dI) hlCl [(qm, .inr (3, [.int th, .int (nI n), .ref qd, .int rw, .int ak, .ref qk, .ref ql, .ref qy, .int cb, .ref qc, .int dn, .int kp, .int tr, .int md, .int wr, .ref qi, .int (-1756908916)])), (qd, .inl (cAd, 8192, .inl D))] H := hP.sub [1, 0] rfl
        have hD : va_D A [(qm, .inr (3, [.int th, .int (nI n), .ref qd, .int rw, .int ak, .ref qk, .ref ql, .ref qy, .int cb, .ref qc, .int dn, .int kp, .int tr, .int md, .int wr, .ref qi, .int (-1756908916)])), (qd, .inl (cAd, 8192, .inl D))] := hD.sub [1, 0] (by decide) rfl
        refine lv_iconst (v := 0) hx hb dX3_isRight_56 (by decide) ?_
        refine lv_istore (lv' := [(5, .int 0), (4, .int (nI (lz D (4096 * u + 64 * k + 5)))), (3, .int (nI (4096 * u + 64 * k))), (0, .ref qm), (1, .int (nI u)), (2, .int (nI k))]) hx hb dX3_isRight_57 hl (by decide) rfl (fun ls hl => ?_)
        have loop : ∀ (k0 i : Nat) (H : Heap) (locs : List Loc) (ls : Array Slot), (i + k0 = 6 + lz D (4096 * u + 64 * k + 5)) → va_P (dC, dI) hlCl [(qm, .inr (3, [.int th, .int (nI n), .ref qd, .int rw, .int ak, .ref qk, .ref ql, .ref qy, .int cb, .ref qc, .int dn, .int kp, .int tr, .int md, .int wr, .ref qi, .int (smA D (4096 * u + 64 * k) i)])), (qd, .inl (cAd, 8192, .inl D))] H → va_D A [(qm, .inr (3, [.int th, .int (nI n), .ref qd, .int rw, .int ak, .ref qk, .ref ql, .ref qy, .int cb, .ref qc, .int dn, .int kp, .int tr, .int md, .int wr, .ref qi, .int (smA D (4096 * u + 64 * k) i)])), (qd, .inl (cAd, 8192, .inl D))] → va_S A s.heap H locs → lv_has ls 6 [(5, .int (nI i)), (4, .int (nI (lz D (4096 * u + 64 * k + 5)))), (3, .int (nI (4096 * u + 64 * k))), (0, .ref qm), (1, .int (nI u)), (2, .int (nI k))] → W p l e (rm_ 1 24) s m [.ref qm, .int (nI u), .int (nI k)].toArray below meth c H locs 0 0 (MQ below ((fun A => va_Qi (fun (r9 : Int32) (_ : Unit) => r9 = rtR D u k) (fun _ t9 => qw_ dC dI A [(qm, .inr (3, [.int th, .int (nI n), .ref qd, .int rw, .int ak, .ref qk, .ref ql, .ref qy, .int cb, .ref qc, .int dn, .int kp, .int tr, .int md, .int wr, .ref qi, .int (srR sm D u k)])), (qd, .inl (cAd, 8192, .inl D))] [(cAd, .int)] t9) A) A) [.ref qm, .int (nI u), .int (nI k)].toArray s 0 0 A) (F0 m 59 ls []) := by
          intro k0
          induction k0 with
          | zero =>
            intro i H locs ls hi hP hD hS hl
            obtain rfl : 6 + lz D (4096 * u + 64 * k + 5) = i := by omega
            refine lv_iload hx hb dX3_isRight_59 (lv_at hl 0 rfl) ?_
            refine lv_bipush (v := 6) hx hb dX3_isRight_61 (by decide) ?_
            refine lv_iload hx hb dX3_isRight_63 (lv_at hl 1 rfl) ?_
            refine lv_iadd hx hb dX3_isRight_65 ?_
            rw [show (6 + (nI (lz D (4096 * u + 64 * k + 5))) : Int32) = nI (6 + (lz D (4096 * u + 64 * k + 5))) from nI_add 6 (lz D (4096 * u + 64 * k + 5))]
            refine lv_icmp_ge (tgt := 88) hx hb dX3_isRight_66 (by decide) (fun c_66 => ?_) (fun c_66 => ?_)
            · skip
              refine lv_aload_n hx hb dX3_isRight_88 rfl (lv_at hl 3 rfl) ?_
              refine lv_iload_n hx hb dX3_isRight_89 rfl (lv_at hl 2 rfl) ?_
              refine lv_bipush (v := 6) hx hb dX3_isRight_90 (by decide) ?_
              refine lv_iadd hx hb dX3_isRight_92 ?_
              rw [show ((nI (4096 * u + 64 * k)) + 6 : Int32) = nI (4096 * u + 64 * k + 6) from nI_add (4096 * u + 64 * k) 6]
              refine lv_iload hx hb dX3_isRight_93 (lv_at hl 1 rfl) ?_
              refine lv_iadd hx hb dX3_isRight_95 ?_
              rw [show ((nI (4096 * u + 64 * k + 6)) + (nI (lz D (4096 * u + 64 * k + 5))) : Int32) = nI (4096 * u + 64 * k + 6 + (lz D (4096 * u + 64 * k + 5))) from nI_add (4096 * u + 64 * k + 6) (lz D (4096 * u + 64 * k + 5))]
              refine hc_iV (As := [.int (nI (4096 * u + 64 * k + 6 + (lz D (4096 * u + 64 * k + 5))))]) (rest := []) (wr := []) ⟨hx, hb, hml, hown, hts⟩ sx_T trivial (kX3_four l dC dI H.size qm qd qk ql qy qc qi n cAd th rw ak cb dn kp tr md wr (smA D (4096 * u + 64 * k) (6 + lz D (4096 * u + 64 * k + 5))) D (4096 * u + 64 * k + 6 + (lz D (4096 * u + 64 * k + 5))) (by omega)) (cwV 1 hts gX3_isRight_X3_four rfl rfl rfl (by decide +kernel) ⟨Nat.le_of_ble_eq_true rfl, Nat.le_of_ble_eq_true rfl⟩) hK hP hD hS hA [0, 1] [] [0] rfl rfl rfl rfl rfl (by decide) (ci := 3) rfl rfl rfl rfl hl.1 rfl (Nat.le_of_ble_eq_true rfl) dX3_isRight_96 ⟨Nat.zero_le _, Nat.zero_le _⟩ (fun H locs hP hD hS => ?_)
              have hP : va_P (dC, dI) hlCl [(qm, .inr (3, [.int th, .int (nI n), .ref qd, .int rw, .int ak, .ref qk, .ref ql, .ref qy, .int cb, .ref qc, .int dn, .int kp, .int tr, .int md, .int wr, .ref qi, .int (smA D (4096 * u + 64 * k) (6 + lz D (4096 * u + 64 * k + 5)))])), (qd, .inl (cAd, 8192, .inl D))] H := hP
              have hD : va_D A [(qm, .inr (3, [.int th, .int (nI n), .ref qd, .int rw, .int ak, .ref qk, .ref ql, .ref qy, .int cb, .ref qc, .int dn, .int kp, .int tr, .int md, .int wr, .ref qi, .int (smA D (4096 * u + 64 * k) (6 + lz D (4096 * u + 64 * k + 5)))])), (qd, .inl (cAd, 8192, .inl D))] := hD
              refine lv_aload_n hx hb dX3_isRight_99 rfl (lv_at hl 3 rfl) ?_
              refine va_get (D := (dC, dI)) (ci := 3) (v := .int (smA D (4096 * u + 64 * k) (6 + lz D (4096 * u + 64 * k + 5)))) (C := RX3) (T := TX3) (N := 17) hx hb hts (by decide +kernel) hown hK hP 0 rfl rfl 16 (by decide) (hts (.fieldLink RX3 39 "HouseLogModel" "sum" "I") (by decide +kernel)) (fun _ h9 => h9) rfl dX3_isRight_100 ?_
              refine lv_icmp_ne (tgt := 110) hx hb dX3_isRight_103 (by decide) (fun c_103 => ?_) (fun c_103 => ?_)
              · skip
                refine lv_iconst (v := 0) hx hb dX3_isRight_110 (by decide) ?_
                exact hr_z (v := 0) hx hb hr hlocks (by decide) (w1 := [(qm, .inr (3, [.int th, .int (nI n), .ref qd, .int rw, .int ak, .ref qk, .ref ql, .ref qy, .int cb, .ref qc, .int dn, .int kp, .int tr, .int md, .int wr, .ref qi, .int (smA D (4096 * u + 64 * k) (6 + lz D (4096 * u + 64 * k + 5)))])), (qd, .inl (cAd, 8192, .inl D))]) hP hD hK hS [0, 1] [0] rfl rfl rfl (by simp only [rtR, if_pos c_23, if_neg c_40, if_pos c_47, if_neg c_103] <;> rfl) (by simp only [rtR, srR, if_pos c_23, if_neg c_40, if_pos c_47, if_neg c_103] <;> rfl) dX3_isRight_111
              · skip
                refine lv_iconst (v := 1) hx hb dX3_isRight_106 (by decide) ?_
                refine lv_goto (tgt := 111) hx hb dX3_isRight_107 (by decide) ?_
                exact hr_z (v := 1) hx hb hr hlocks (by decide) (w1 := [(qm, .inr (3, [.int th, .int (nI n), .ref qd, .int rw, .int ak, .ref qk, .ref ql, .ref qy, .int cb, .ref qc, .int dn, .int kp, .int tr, .int md, .int wr, .ref qi, .int (smA D (4096 * u + 64 * k) (6 + lz D (4096 * u + 64 * k + 5)))])), (qd, .inl (cAd, 8192, .inl D))]) hP hD hK hS [0, 1] [0] rfl rfl rfl (by simp only [rtR, if_pos c_23, if_neg c_40, if_pos c_47, if_pos c_103] <;> rfl) (by simp only [rtR, srR, if_pos c_23, if_neg c_40, if_pos c_47, if_pos c_103] <;> rfl) dX3_isRight_111
            · exact absurd (nI_le (a := 6 + lz D (4096 * u + 64 * k + 5)) (b := 6 + lz D (4096 * u + 64 * k + 5)) (Nat.le_refl _) (by omega)) c_66
          | succ k0 ih =>
            intro i H locs ls hi hP hD hS hl
            refine lv_iload hx hb dX3_isRight_59 (lv_at hl 0 rfl) ?_
            refine lv_bipush (v := 6) hx hb dX3_isRight_61 (by decide) ?_
            refine lv_iload hx hb dX3_isRight_63 (lv_at hl 1 rfl) ?_
            refine lv_iadd hx hb dX3_isRight_65 ?_
            rw [show (6 + (nI (lz D (4096 * u + 64 * k + 5))) : Int32) = nI (6 + (lz D (4096 * u + 64 * k + 5))) from nI_add 6 (lz D (4096 * u + 64 * k + 5))]
            refine lv_icmp_ge (tgt := 88) hx hb dX3_isRight_66 (by decide) (fun c_66 => ?_) (fun c_66 => ?_)
            · exact absurd c_66 (nI_ge (a := i) (b := 6 + lz D (4096 * u + 64 * k + 5)) (by omega) (by omega))
            · skip
              refine lv_aload_n hx hb dX3_isRight_69 rfl (lv_at hl 3 rfl) ?_
              refine lv_aload_n hx hb dX3_isRight_70 rfl (lv_at hl 3 rfl) ?_
              refine va_get (D := (dC, dI)) (ci := 3) (v := .ref qd) (C := RX3) (T := TX3) (N := 17) hx hb hts (by decide +kernel) hown hK hP 0 rfl rfl 2 (by decide) (hts (.fieldLink RX3 7 "HouseLogModel" "disk" "[I") (by decide +kernel)) (fun _ h9 => h9) rfl dX3_isRight_71 ?_
              refine lv_iload_n hx hb dX3_isRight_74 rfl (lv_at hl 2 rfl) ?_
              refine lv_iload hx hb dX3_isRight_75 (lv_at hl 0 rfl) ?_
              refine lv_iadd hx hb dX3_isRight_77 ?_
              rw [show ((nI (4096 * u + 64 * k)) + (nI i) : Int32) = nI (4096 * u + 64 * k + i) from nI_add (4096 * u + 64 * k) i]
              refine va_iald hx hb hK hP 1 0 rfl rfl (i := nI (4096 * u + 64 * k + i)) (vp_in_nI (n := 4096 * u + 64 * k + i) (by omega) (by decide)) dX3_isRight_78 ?_
              refine W.eq (g2 := F0 m 79 ls (.int (D (4096 * u + 64 * k + i)) :: .ref qm :: [])) (by rw [show (nI (4096 * u + 64 * k + i) : Int32).toNatClampNeg = 4096 * u + 64 * k + i from nI_clamp (by omega)]) ?_
              refine hc_vV (As := [.int (D (4096 * u + 64 * k + i))]) (rest := []) (wr := [(qd, .inl (cAd, 8192, .inl D))]) ⟨hx, hb, hml, hown, hts⟩ sx_T trivial (kX3_goOn l dC dI H.size qm qd qk ql qy qc qi n th rw ak cb dn kp tr md wr (smA D (4096 * u + 64 * k) i) (D (4096 * u + 64 * k + i)) ) (cwV 1 hts gX3_isRight_X3_goOn rfl rfl rfl (by decide +kernel) ⟨Nat.le_of_ble_eq_true rfl, Nat.le_of_ble_eq_true rfl⟩) hK hP hD hS hA [0] [1] [] rfl rfl rfl rfl rfl (by decide) (ci := 3) rfl rfl rfl rfl hl.1 rfl (Nat.le_of_ble_eq_true rfl) dX3_isRight_79 ⟨Nat.zero_le _, Nat.zero_le _⟩ (fun H locs hP hD hS => ?_)
              have hP : va_P (dC, dI) hlCl [(qm, .inr (3, [.int th, .int (nI n), .ref qd, .int rw, .int ak, .ref qk, .ref ql, .ref qy, .int cb, .ref qc, .int dn, .int kp, .int tr, .int md, .int wr, .ref qi, .int (mixI (smA D (4096 * u + 64 * k) i) (D (4096 * u + 64 * k + i)))])), (qd, .inl (cAd, 8192, .inl D))] H := hP.sub [1, 0] rfl
              have hD : va_D A [(qm, .inr (3, [.int th, .int (nI n), .ref qd, .int rw, .int ak, .ref qk, .ref ql, .ref qy, .int cb, .ref qc, .int dn, .int kp, .int tr, .int md, .int wr, .ref qi, .int (mixI (smA D (4096 * u + 64 * k) i) (D (4096 * u + 64 * k + i)))])), (qd, .inl (cAd, 8192, .inl D))] := hD.sub [1, 0] (by decide) rfl
              refine lv_iinc (v := nI (i + 1)) (lv' := [(5, .int (nI (i + 1))), (4, .int (nI (lz D (4096 * u + 64 * k + 5)))), (3, .int (nI (4096 * u + 64 * k))), (0, .ref qm), (1, .int (nI u)), (2, .int (nI k))]) hx hb dX3_isRight_82 hl (k := 0) rfl (nI_add i 1) (by decide) rfl (fun ls hl => ?_)
              refine lv_goto (tgt := 59) hx hb dX3_isRight_85 (by decide) ?_
              exact ih (i + 1) H locs ls (by omega)  hP hD hS (lv_sub hl [0, 1, 2, 3, 4, 5] rfl)
        exact loop (6 + lz D (4096 * u + 64 * k + 5)) 0 H locs ls (by omega)  hP hD hS (lv_sub hl [0, 1, 2, 3, 4, 5] rfl)
      · skip
        refine lv_iconst (v := 0) hx hb dX3_isRight_50 (by decide) ?_
        exact hr_z (v := 0) hx hb hr hlocks (by decide) (w1 := [(qm, .inr (3, [.int th, .int (nI n), .ref qd, .int rw, .int ak, .ref qk, .ref ql, .ref qy, .int cb, .ref qc, .int dn, .int kp, .int tr, .int md, .int wr, .ref qi, .int sm])), (qd, .inl (cAd, 8192, .inl D))]) hP hD hK hS [0, 1] [0] rfl rfl rfl (by simp only [rtR, if_pos c_23, if_neg c_40, if_neg c_47] <;> rfl) (by simp only [rtR, srR, if_pos c_23, if_neg c_40, if_neg c_47] <;> rfl) dX3_isRight_51

def enRI (n : Nat) (dn : Int32) (r : Nat) (kind rel : Int32) : Int32 := (if (inI kind 1 9) = 0 then 0 else (if (flR 0 dn 0) = 0 then (if rel = 0 then (if (nI r) < (nI (n - 2)) then nI ((r + 1) - 1) else (-1)) else (if (nI r) < (nI n) then nI ((r + 1) - 1) else (-1))) else 0))
def enRT (dn : Int32) (kind : Int32) : Int32 := (if (inI kind 1 9) = 0 then flI 1 dn 0 else flI 0 dn 0)
def enRR (n : Nat) (dn : Int32) (r : Nat) (kind rel : Int32) : Nat := (if (inI kind 1 9) = 0 then r else (if (flR 0 dn 0) = 0 then (if rel = 0 then (if (nI r) < (nI (n - 2)) then r + 1 else r) else (if (nI r) < (nI n) then r + 1 else r)) else r))
def enRC (n : Nat) (dn : Int32) (r cb : Nat) (kind rel : Int32) : Nat := (if (inI kind 1 9) = 0 then cb else (if (flR 0 dn 0) = 0 then (if rel = 0 then (if (nI r) < (nI (n - 2)) then 0 else cb) else (if (nI r) < (nI n) then 0 else cb)) else cb))
def enRK (n : Nat) (dn : Int32) (r : Nat) (K : Nat → Int32) (kind rel : Int32) : Nat → Int32 := (if (inI kind 1 9) = 0 then K else (if (flR 0 dn 0) = 0 then (if rel = 0 then (if (nI r) < (nI (n - 2)) then upd K r kind else K) else (if (nI r) < (nI n) then upd K r kind else K)) else K))
def enRL (n : Nat) (dn : Int32) (r cb : Nat) (Ln : Nat → Int32) (kind rel : Int32) : Nat → Int32 := (if (inI kind 1 9) = 0 then Ln else (if (flR 0 dn 0) = 0 then (if rel = 0 then (if (nI r) < (nI (n - 2)) then upd Ln r (nI cb) else Ln) else (if (nI r) < (nI n) then upd Ln r (nI cb) else Ln)) else Ln))
def enRB (n : Nat) (dn : Int32) (r cb : Nat) (By Co : Nat → Int32) (kind rel : Int32) : Nat → Int32 := (if (inI kind 1 9) = 0 then By else (if (flR 0 dn 0) = 0 then (if rel = 0 then (if (nI r) < (nI (n - 2)) then ebL By Co r cb else By) else (if (nI r) < (nI n) then ebL By Co r cb else By)) else By))
set_option maxHeartbeats 4000000 in
set_option maxRecDepth 100000 in
theorem kX3_end (l : Launch) (dC : Nat → ClassId) (dI : Nat → Nat → Nat) (sz : Nat) (qm qd qk ql qy qc qi : Nat) (n : Nat) (cAk cAl cAy cAc : ClassId) (th ak dn kp tr md wr sm : Int32) (r cb : Nat) (K Ln By Co : Nat → Int32) (kind rel : Int32) (hn4 : 4 ≤ n) (hn : n ≤ 64) (hr0 : r ≤ 64) (hcb : cb ≤ 40) : Mi_ l yX3_end wsX3_end 1 23 dC dI (fun _ => True) [.ref qm, .int kind, .int rel] [(qm, .inr (3, [.int th, .int (nI n), .ref qd, .int (nI r), .int ak, .ref qk, .ref ql, .ref qy, .int (nI cb), .ref qc, .int dn, .int kp, .int tr, .int md, .int wr, .ref qi, .int sm])), (qk, .inl (cAk, 64, .inl K)), (ql, .inl (cAl, 64, .inl Ln)), (qy, .inl (cAy, 2560, .inl By)), (qc, .inl (cAc, 40, .inl Co))] [(cAk, .int), (cAl, .int), (cAy, .int), (cAc, .int)] sz (enRI n dn r kind rel) [(qm, .inr (3, [.int (enRT dn kind), .int (nI n), .ref qd, .int (nI (enRR n dn r kind rel)), .int ak, .ref qk, .ref ql, .ref qy, .int (nI (enRC n dn r cb kind rel)), .ref qc, .int dn, .int kp, .int tr, .int md, .int wr, .ref qi, .int sm])), (qk, .inl (cAk, 64, .inl (enRK n dn r K kind rel))), (ql, .inl (cAl, 64, .inl (enRL n dn r cb Ln kind rel))), (qy, .inl (cAy, 2560, .inl (enRB n dn r cb By Co kind rel))), (qc, .inl (cAc, 40, .inl Co))] := by
  refine hm_ (cc := cX3_end) (maxL := 4) (ret := (some .int)) (Qc := fun A => va_Qi (fun (r9 : Int32) (_ : Unit) => r9 = enRI n dn r kind rel) (fun _ t9 => qw_ dC dI A [(qm, .inr (3, [.int (enRT dn kind), .int (nI n), .ref qd, .int (nI (enRR n dn r kind rel)), .int ak, .ref qk, .ref ql, .ref qy, .int (nI (enRC n dn r cb kind rel)), .ref qc, .int dn, .int kp, .int tr, .int md, .int wr, .ref qi, .int sm])), (qk, .inl (cAk, 64, .inl (enRK n dn r K kind rel))), (ql, .inl (cAl, 64, .inl (enRL n dn r cb Ln kind rel))), (qy, .inl (cAy, 2560, .inl (enRB n dn r cb By Co kind rel))), (qc, .inl (cAc, 40, .inl Co))] [(cAk, .int), (cAl, .int), (cAy, .int), (cAc, .int)] t9) A) (by decide) rfl (Nat.le_of_ble_eq_true rfl) ?_
  intro p e s m below meth c A H locs ls hx hb hr hml hts hown hlocks hsz hP hK hD hE hA hS hl
  have hl : lv_has ls 4 [(0, .ref qm), (1, .int kind), (2, .int rel)] := hl
  have hown : s.vm.findClass RX3 = some m.cls := hown
  refine lv_aload_n hx hb dX3_end_0 rfl (lv_at hl 0 rfl) ?_
  refine lv_iload_n hx hb dX3_end_1 rfl (lv_at hl 1 rfl) ?_
  refine lv_iconst (v := 1) hx hb dX3_end_2 (by decide) ?_
  refine lv_bipush (v := 9) hx hb dX3_end_3 (by decide) ?_
  refine hc_iS (As := [.int kind, .int 1, .int 9]) (rest := [.ref qm]) ⟨hx, hb, hml, hown, hts⟩ sx_T trivial (kX3_in l dC dI H.size kind 1 9 ) (va_cwS 3 hts gX3_end_X3_in rfl rfl rfl (by decide +kernel) ⟨Nat.le_of_ble_eq_true rfl, Nat.le_of_ble_eq_true rfl⟩) hK hP hD hS hA [0, 1, 2, 3, 4] rfl rfl rfl hl.1 rfl (Nat.le_of_ble_eq_true rfl) dX3_end_5 ⟨Nat.zero_le _, Nat.zero_le _⟩ (fun H locs hP hD hS => ?_)
  refine lv_if_ne (tgt := 15) hx hb dX3_end_8 (by decide) (fun c_8 => ?_) (fun c_8 => ?_)
  · skip
    refine lv_iconst (v := 0) hx hb dX3_end_15 (by decide) ?_
    refine lv_aload_n hx hb dX3_end_16 rfl (lv_at hl 0 rfl) ?_
    refine va_get (D := (dC, dI)) (ci := 3) (v := .int dn) (C := RX3) (T := TX3) (N := 17) hx hb hts (by decide +kernel) hown hK hP 0 rfl rfl 10 (by decide) (hts (.fieldLink RX3 62 "HouseLogModel" "down" "Z") (by decide +kernel)) (fun _ h9 => h9) rfl dX3_end_17 ?_
    refine lv_iconst (v := 0) hx hb dX3_end_20 (by decide) ?_
    refine hc_iV (As := [.int 0, .int dn, .int 0]) (rest := []) (wr := [(qk, .inl (cAk, 64, .inl K)), (ql, .inl (cAl, 64, .inl Ln)), (qy, .inl (cAy, 2560, .inl By)), (qc, .inl (cAc, 40, .inl Co))]) ⟨hx, hb, hml, hown, hts⟩ sx_T trivial (kX3_fails l dC dI H.size qm qd qk ql qy qc qi n th (nI r) ak (nI cb) dn kp tr md wr sm 0 dn 0 ) (cwV 3 hts gX3_end_X3_fails rfl rfl rfl (by decide +kernel) ⟨Nat.le_of_ble_eq_true rfl, Nat.le_of_ble_eq_true rfl⟩) hK hP hD hS hA [0] [1, 2, 3, 4] [] rfl rfl rfl rfl rfl (by decide) (ci := 3) rfl rfl rfl rfl hl.1 rfl (Nat.le_of_ble_eq_true rfl) dX3_end_21 ⟨Nat.zero_le _, Nat.zero_le _⟩ (fun H locs hP hD hS => ?_)
    have hP : va_P (dC, dI) hlCl [(qm, .inr (3, [.int (flI 0 dn 0), .int (nI n), .ref qd, .int (nI r), .int ak, .ref qk, .ref ql, .ref qy, .int (nI cb), .ref qc, .int dn, .int kp, .int tr, .int md, .int wr, .ref qi, .int sm])), (qk, .inl (cAk, 64, .inl K)), (ql, .inl (cAl, 64, .inl Ln)), (qy, .inl (cAy, 2560, .inl By)), (qc, .inl (cAc, 40, .inl Co))] H := hP.sub [4, 0, 1, 2, 3] rfl
    have hD : va_D A [(qm, .inr (3, [.int (flI 0 dn 0), .int (nI n), .ref qd, .int (nI r), .int ak, .ref qk, .ref ql, .ref qy, .int (nI cb), .ref qc, .int dn, .int kp, .int tr, .int md, .int wr, .ref qi, .int sm])), (qk, .inl (cAk, 64, .inl K)), (ql, .inl (cAl, 64, .inl Ln)), (qy, .inl (cAy, 2560, .inl By)), (qc, .inl (cAc, 40, .inl Co))] := hD.sub [4, 0, 1, 2, 3] (by decide) rfl
    refine lv_if_eq (tgt := 29) hx hb dX3_end_24 (by decide) (fun c_24 => ?_) (fun c_24 => ?_)
    · skip
      refine lv_aload_n hx hb dX3_end_29 rfl (lv_at hl 0 rfl) ?_
      refine va_get (D := (dC, dI)) (ci := 3) (v := .int (nI r)) (C := RX3) (T := TX3) (N := 17) hx hb hts (by decide +kernel) hown hK hP 0 rfl rfl 3 (by decide) (hts (.fieldLink RX3 73 "HouseLogModel" "rows" "I") (by decide +kernel)) (fun _ h9 => h9) rfl dX3_end_30 ?_
      refine lv_iload_n hx hb dX3_end_33 rfl (lv_at hl 2 rfl) ?_
      refine lv_if_eq (tgt := 44) hx hb dX3_end_34 (by decide) (fun c_34 => ?_) (fun c_34 => ?_)
      · skip
        refine lv_aload_n hx hb dX3_end_44 rfl (lv_at hl 0 rfl) ?_
        refine va_get (D := (dC, dI)) (ci := 3) (v := .int (nI n)) (C := RX3) (T := TX3) (N := 17) hx hb hts (by decide +kernel) hown hK hP 0 rfl rfl 1 (by decide) (hts (.fieldLink RX3 32 "HouseLogModel" "sectors" "I") (by decide +kernel)) (fun _ h9 => h9) rfl dX3_end_45 ?_
        refine lv_iconst (v := 2) hx hb dX3_end_48 (by decide) ?_
        refine lv_isub hx hb dX3_end_49 ?_
        rw [show ((nI n) - 2 : Int32) = nI (n - 2) from pk_sub (a := n) (b := 2) (by omega)]
        refine lv_icmp_lt (tgt := 55) hx hb dX3_end_50 (by decide) (fun c_50 => ?_) (fun c_50 => ?_)
        · skip
          have hr2 : r < 64 := by have h9 := (nI_ltI (a := r) (b := n - 2) (by omega) (by omega)).mp c_50; omega
          refine lv_aload_n hx hb dX3_end_55 rfl (lv_at hl 0 rfl) ?_
          refine va_get (D := (dC, dI)) (ci := 3) (v := .ref qk) (C := RX3) (T := TX3) (N := 17) hx hb hts (by decide +kernel) hown hK hP 0 rfl rfl 5 (by decide) (hts (.fieldLink RX3 13 "HouseLogModel" "kinds" "[I") (by decide +kernel)) (fun _ h9 => h9) rfl dX3_end_56 ?_
          refine lv_aload_n hx hb dX3_end_59 rfl (lv_at hl 0 rfl) ?_
          refine va_get (D := (dC, dI)) (ci := 3) (v := .int (nI r)) (C := RX3) (T := TX3) (N := 17) hx hb hts (by decide +kernel) hown hK hP 0 rfl rfl 3 (by decide) (hts (.fieldLink RX3 73 "HouseLogModel" "rows" "I") (by decide +kernel)) (fun _ h9 => h9) rfl dX3_end_60 ?_
          refine lv_iload_n hx hb dX3_end_63 rfl (lv_at hl 1 rfl) ?_
          refine va_iast hx hb hK hP hD hS 1 0 rfl rfl (i := nI r) (vp_in_nI (n := r) (by omega) (by decide)) dX3_end_64 (fun H locs hP hD hS => ?_)
          rw [show (nI r : Int32).toNatClampNeg = r from nI_clamp (by omega)] at hP hD
          have hP : va_P (dC, dI) hlCl [(qm, .inr (3, [.int (flI 0 dn 0), .int (nI n), .ref qd, .int (nI r), .int ak, .ref qk, .ref ql, .ref qy, .int (nI cb), .ref qc, .int dn, .int kp, .int tr, .int md, .int wr, .ref qi, .int sm])), (qk, .inl (cAk, 64, .inl (upd K r kind))), (ql, .inl (cAl, 64, .inl Ln)), (qy, .inl (cAy, 2560, .inl By)), (qc, .inl (cAc, 40, .inl Co))] H := hP
          have hD : va_D A [(qm, .inr (3, [.int (flI 0 dn 0), .int (nI n), .ref qd, .int (nI r), .int ak, .ref qk, .ref ql, .ref qy, .int (nI cb), .ref qc, .int dn, .int kp, .int tr, .int md, .int wr, .ref qi, .int sm])), (qk, .inl (cAk, 64, .inl (upd K r kind))), (ql, .inl (cAl, 64, .inl Ln)), (qy, .inl (cAy, 2560, .inl By)), (qc, .inl (cAc, 40, .inl Co))] := hD
          refine lv_aload_n hx hb dX3_end_65 rfl (lv_at hl 0 rfl) ?_
          refine va_get (D := (dC, dI)) (ci := 3) (v := .ref ql) (C := RX3) (T := TX3) (N := 17) hx hb hts (by decide +kernel) hown hK hP 0 rfl rfl 6 (by decide) (hts (.fieldLink RX3 16 "HouseLogModel" "lengths" "[I") (by decide +kernel)) (fun _ h9 => h9) rfl dX3_end_66 ?_
          refine lv_aload_n hx hb dX3_end_69 rfl (lv_at hl 0 rfl) ?_
          refine va_get (D := (dC, dI)) (ci := 3) (v := .int (nI r)) (C := RX3) (T := TX3) (N := 17) hx hb hts (by decide +kernel) hown hK hP 0 rfl rfl 3 (by decide) (hts (.fieldLink RX3 73 "HouseLogModel" "rows" "I") (by decide +kernel)) (fun _ h9 => h9) rfl dX3_end_70 ?_
          refine lv_aload_n hx hb dX3_end_73 rfl (lv_at hl 0 rfl) ?_
          refine va_get (D := (dC, dI)) (ci := 3) (v := .int (nI cb)) (C := RX3) (T := TX3) (N := 17) hx hb hts (by decide +kernel) hown hK hP 0 rfl rfl 8 (by decide) (hts (.fieldLink RX3 66 "HouseLogModel" "collected" "I") (by decide +kernel)) (fun _ h9 => h9) rfl dX3_end_74 ?_
          refine va_iast hx hb hK hP hD hS 2 1 rfl rfl (i := nI r) (vp_in_nI (n := r) (by omega) (by decide)) dX3_end_77 (fun H locs hP hD hS => ?_)
          rw [show (nI r : Int32).toNatClampNeg = r from nI_clamp (by omega)] at hP hD
          have hP : va_P (dC, dI) hlCl [(qm, .inr (3, [.int (flI 0 dn 0), .int (nI n), .ref qd, .int (nI r), .int ak, .ref qk, .ref ql, .ref qy, .int (nI cb), .ref qc, .int dn, .int kp, .int tr, .int md, .int wr, .ref qi, .int sm])), (qk, .inl (cAk, 64, .inl (upd K r kind))), (ql, .inl (cAl, 64, .inl (upd Ln r (nI cb)))), (qy, .inl (cAy, 2560, .inl By)), (qc, .inl (cAc, 40, .inl Co))] H := hP
          have hD : va_D A [(qm, .inr (3, [.int (flI 0 dn 0), .int (nI n), .ref qd, .int (nI r), .int ak, .ref qk, .ref ql, .ref qy, .int (nI cb), .ref qc, .int dn, .int kp, .int tr, .int md, .int wr, .ref qi, .int sm])), (qk, .inl (cAk, 64, .inl (upd K r kind))), (ql, .inl (cAl, 64, .inl (upd Ln r (nI cb)))), (qy, .inl (cAy, 2560, .inl By)), (qc, .inl (cAc, 40, .inl Co))] := hD
          refine lv_iconst (v := 0) hx hb dX3_end_78 (by decide) ?_
          refine lv_istore_n (lv' := [(3, .int 0), (0, .ref qm), (1, .int kind), (2, .int rel)]) hx hb dX3_end_79 rfl hl (by decide) rfl (fun ls hl => ?_)
          have loop : ∀ (k0 i : Nat) (H : Heap) (locs : List Loc) (ls : Array Slot), (i + k0 = cb) → va_P (dC, dI) hlCl [(qm, .inr (3, [.int (flI 0 dn 0), .int (nI n), .ref qd, .int (nI r), .int ak, .ref qk, .ref ql, .ref qy, .int (nI cb), .ref qc, .int dn, .int kp, .int tr, .int md, .int wr, .ref qi, .int sm])), (qk, .inl (cAk, 64, .inl (upd K r kind))), (ql, .inl (cAl, 64, .inl (upd Ln r (nI cb)))), (qy, .inl (cAy, 2560, .inl (ebL By Co r i))), (qc, .inl (cAc, 40, .inl Co))] H → va_D A [(qm, .inr (3, [.int (flI 0 dn 0), .int (nI n), .ref qd, .int (nI r), .int ak, .ref qk, .ref ql, .ref qy, .int (nI cb), .ref qc, .int dn, .int kp, .int tr, .int md, .int wr, .ref qi, .int sm])), (qk, .inl (cAk, 64, .inl (upd K r kind))), (ql, .inl (cAl, 64, .inl (upd Ln r (nI cb)))), (qy, .inl (cAy, 2560, .inl (ebL By Co r i))), (qc, .inl (cAc, 40, .inl Co))] → va_S A s.heap H locs → lv_has ls 4 [(3, .int (nI i)), (0, .ref qm), (1, .int kind), (2, .int rel)] → W p l e (rm_ 1 23) s m [.ref qm, .int kind, .int rel].toArray below meth c H locs 0 0 (MQ below ((fun A => va_Qi (fun (r9 : Int32) (_ : Unit) => r9 = enRI n dn r kind rel) (fun _ t9 => qw_ dC dI A [(qm, .inr (3, [.int (enRT dn kind), .int (nI n), .ref qd, .int (nI (enRR n dn r kind rel)), .int ak, .ref qk, .ref ql, .ref qy, .int (nI (enRC n dn r cb kind rel)), .ref qc, .int dn, .int kp, .int tr, .int md, .int wr, .ref qi, .int sm])), (qk, .inl (cAk, 64, .inl (enRK n dn r K kind rel))), (ql, .inl (cAl, 64, .inl (enRL n dn r cb Ln kind rel))), (qy, .inl (cAy, 2560, .inl (enRB n dn r cb By Co kind rel))), (qc, .inl (cAc, 40, .inl Co))] [(cAk, .int), (cAl, .int), (cAy, .int), (cAc, .int)] t9) A) A) [.ref qm, .int kind, .int rel].toArray s 0 0 A) (F0 m 80 ls []) := by
            intro k0
            induction k0 with
            | zero =>
              intro i H locs ls hi hP hD hS hl
              obtain rfl : cb = i := by omega
              refine lv_iload_n hx hb dX3_end_80 rfl (lv_at hl 0 rfl) ?_
              refine lv_aload_n hx hb dX3_end_81 rfl (lv_at hl 1 rfl) ?_
              refine va_get (D := (dC, dI)) (ci := 3) (v := .int (nI cb)) (C := RX3) (T := TX3) (N := 17) hx hb hts (by decide +kernel) hown hK hP 0 rfl rfl 8 (by decide) (hts (.fieldLink RX3 66 "HouseLogModel" "collected" "I") (by decide +kernel)) (fun _ h9 => h9) rfl dX3_end_82 ?_
              refine lv_icmp_ge (tgt := 114) hx hb dX3_end_85 (by decide) (fun c_85 => ?_) (fun c_85 => ?_)
              · skip
                refine lv_aload_n hx hb dX3_end_114 rfl (lv_at hl 1 rfl) ?_
                refine lv_iconst (v := 0) hx hb dX3_end_115 (by decide) ?_
                refine va_put (D := (dC, dI)) (ci := 3) (v := .int 0) (ty := .int) (C := RX3) (T := TX3) (N := 17) hx hb hts (by decide +kernel) tyX3 tyX3_ok nmX3 hown hK hP hD hS 0 rfl rfl 8 (by decide) (hts (.fieldLink RX3 66 "HouseLogModel" "collected" "I") (by decide +kernel)) (fun _ h9 => h9) rfl (by decide +kernel) rfl rfl (Nat.le_of_ble_eq_true rfl) dX3_end_116 (fun H locs hP hD hS => ?_)
                have hP : va_P (dC, dI) hlCl [(qm, .inr (3, [.int (flI 0 dn 0), .int (nI n), .ref qd, .int (nI r), .int ak, .ref qk, .ref ql, .ref qy, .int 0, .ref qc, .int dn, .int kp, .int tr, .int md, .int wr, .ref qi, .int sm])), (qk, .inl (cAk, 64, .inl (upd K r kind))), (ql, .inl (cAl, 64, .inl (upd Ln r (nI cb)))), (qy, .inl (cAy, 2560, .inl (ebL By Co r cb))), (qc, .inl (cAc, 40, .inl Co))] H := hP
                have hD : va_D A [(qm, .inr (3, [.int (flI 0 dn 0), .int (nI n), .ref qd, .int (nI r), .int ak, .ref qk, .ref ql, .ref qy, .int 0, .ref qc, .int dn, .int kp, .int tr, .int md, .int wr, .ref qi, .int sm])), (qk, .inl (cAk, 64, .inl (upd K r kind))), (ql, .inl (cAl, 64, .inl (upd Ln r (nI cb)))), (qy, .inl (cAy, 2560, .inl (ebL By Co r cb))), (qc, .inl (cAc, 40, .inl Co))] := hD
                refine lv_aload_n hx hb dX3_end_119 rfl (lv_at hl 1 rfl) ?_
                refine lv_dup hx hb dX3_end_120 rfl ?_
                refine va_get (D := (dC, dI)) (ci := 3) (v := .int (nI r)) (C := RX3) (T := TX3) (N := 17) hx hb hts (by decide +kernel) hown hK hP 0 rfl rfl 3 (by decide) (hts (.fieldLink RX3 73 "HouseLogModel" "rows" "I") (by decide +kernel)) (fun _ h9 => h9) rfl dX3_end_121 ?_
                refine lv_iconst (v := 1) hx hb dX3_end_124 (by decide) ?_
                refine lv_iadd hx hb dX3_end_125 ?_
                rw [show ((nI r) + 1 : Int32) = nI (r + 1) from nI_add r 1]
                refine va_put (D := (dC, dI)) (ci := 3) (v := .int (nI (r + 1))) (ty := .int) (C := RX3) (T := TX3) (N := 17) hx hb hts (by decide +kernel) tyX3 tyX3_ok nmX3 hown hK hP hD hS 0 rfl rfl 3 (by decide) (hts (.fieldLink RX3 73 "HouseLogModel" "rows" "I") (by decide +kernel)) (fun _ h9 => h9) rfl (by decide +kernel) rfl rfl (Nat.le_of_ble_eq_true rfl) dX3_end_126 (fun H locs hP hD hS => ?_)
                have hP : va_P (dC, dI) hlCl [(qm, .inr (3, [.int (flI 0 dn 0), .int (nI n), .ref qd, .int (nI (r + 1)), .int ak, .ref qk, .ref ql, .ref qy, .int 0, .ref qc, .int dn, .int kp, .int tr, .int md, .int wr, .ref qi, .int sm])), (qk, .inl (cAk, 64, .inl (upd K r kind))), (ql, .inl (cAl, 64, .inl (upd Ln r (nI cb)))), (qy, .inl (cAy, 2560, .inl (ebL By Co r cb))), (qc, .inl (cAc, 40, .inl Co))] H := hP
                have hD : va_D A [(qm, .inr (3, [.int (flI 0 dn 0), .int (nI n), .ref qd, .int (nI (r + 1)), .int ak, .ref qk, .ref ql, .ref qy, .int 0, .ref qc, .int dn, .int kp, .int tr, .int md, .int wr, .ref qi, .int sm])), (qk, .inl (cAk, 64, .inl (upd K r kind))), (ql, .inl (cAl, 64, .inl (upd Ln r (nI cb)))), (qy, .inl (cAy, 2560, .inl (ebL By Co r cb))), (qc, .inl (cAc, 40, .inl Co))] := hD
                refine lv_aload_n hx hb dX3_end_129 rfl (lv_at hl 1 rfl) ?_
                refine va_get (D := (dC, dI)) (ci := 3) (v := .int (nI (r + 1))) (C := RX3) (T := TX3) (N := 17) hx hb hts (by decide +kernel) hown hK hP 0 rfl rfl 3 (by decide) (hts (.fieldLink RX3 73 "HouseLogModel" "rows" "I") (by decide +kernel)) (fun _ h9 => h9) rfl dX3_end_130 ?_
                refine lv_iconst (v := 1) hx hb dX3_end_133 (by decide) ?_
                refine lv_isub hx hb dX3_end_134 ?_
                rw [show ((nI (r + 1)) - 1 : Int32) = nI ((r + 1) - 1) from pk_sub (a := (r + 1)) (b := 1) (by omega)]
                exact hr_i (v := nI ((r + 1) - 1)) hx hb hr hlocks (w1 := [(qm, .inr (3, [.int (flI 0 dn 0), .int (nI n), .ref qd, .int (nI (r + 1)), .int ak, .ref qk, .ref ql, .ref qy, .int 0, .ref qc, .int dn, .int kp, .int tr, .int md, .int wr, .ref qi, .int sm])), (qk, .inl (cAk, 64, .inl (upd K r kind))), (ql, .inl (cAl, 64, .inl (upd Ln r (nI cb)))), (qy, .inl (cAy, 2560, .inl (ebL By Co r cb))), (qc, .inl (cAc, 40, .inl Co))]) hP hD hK hS [0, 1, 2, 3, 4] [0, 1, 2, 3] rfl rfl rfl (by simp only [enRI, if_neg c_8, if_pos c_24, if_pos c_34, if_pos c_50] <;> rfl) (by simp only [enRI, enRT, enRR, enRC, enRK, enRL, enRB, if_neg c_8, if_pos c_24, if_pos c_34, if_pos c_50] <;> rfl) dX3_end_135
              · exact absurd (nI_le (a := cb) (b := cb) (Nat.le_refl _) (by omega)) c_85
            | succ k0 ih =>
              intro i H locs ls hi hP hD hS hl
              refine lv_iload_n hx hb dX3_end_80 rfl (lv_at hl 0 rfl) ?_
              refine lv_aload_n hx hb dX3_end_81 rfl (lv_at hl 1 rfl) ?_
              refine va_get (D := (dC, dI)) (ci := 3) (v := .int (nI cb)) (C := RX3) (T := TX3) (N := 17) hx hb hts (by decide +kernel) hown hK hP 0 rfl rfl 8 (by decide) (hts (.fieldLink RX3 66 "HouseLogModel" "collected" "I") (by decide +kernel)) (fun _ h9 => h9) rfl dX3_end_82 ?_
              refine lv_icmp_ge (tgt := 114) hx hb dX3_end_85 (by decide) (fun c_85 => ?_) (fun c_85 => ?_)
              · exact absurd c_85 (nI_ge (a := i) (b := cb) (by omega) (by omega))
              · skip
                refine lv_aload_n hx hb dX3_end_88 rfl (lv_at hl 1 rfl) ?_
                refine va_get (D := (dC, dI)) (ci := 3) (v := .ref qy) (C := RX3) (T := TX3) (N := 17) hx hb hts (by decide +kernel) hown hK hP 0 rfl rfl 7 (by decide) (hts (.fieldLink RX3 19 "HouseLogModel" "bytes" "[I") (by decide +kernel)) (fun _ h9 => h9) rfl dX3_end_89 ?_
                refine lv_bipush (v := 40) hx hb dX3_end_92 (by decide) ?_
                refine lv_aload_n hx hb dX3_end_94 rfl (lv_at hl 1 rfl) ?_
                refine va_get (D := (dC, dI)) (ci := 3) (v := .int (nI r)) (C := RX3) (T := TX3) (N := 17) hx hb hts (by decide +kernel) hown hK hP 0 rfl rfl 3 (by decide) (hts (.fieldLink RX3 73 "HouseLogModel" "rows" "I") (by decide +kernel)) (fun _ h9 => h9) rfl dX3_end_95 ?_
                refine lv_imul hx hb dX3_end_98 ?_
                rw [show (40 * (nI r) : Int32) = nI (40 * r) from pk_mul 40 r]
                refine lv_iload_n hx hb dX3_end_99 rfl (lv_at hl 0 rfl) ?_
                refine lv_iadd hx hb dX3_end_100 ?_
                rw [show ((nI (40 * r)) + (nI i) : Int32) = nI (40 * r + i) from nI_add (40 * r) i]
                refine lv_aload_n hx hb dX3_end_101 rfl (lv_at hl 1 rfl) ?_
                refine va_get (D := (dC, dI)) (ci := 3) (v := .ref qc) (C := RX3) (T := TX3) (N := 17) hx hb hts (by decide +kernel) hown hK hP 0 rfl rfl 9 (by decide) (hts (.fieldLink RX3 22 "HouseLogModel" "collects" "[I") (by decide +kernel)) (fun _ h9 => h9) rfl dX3_end_102 ?_
                refine lv_iload_n hx hb dX3_end_105 rfl (lv_at hl 0 rfl) ?_
                refine va_iald hx hb hK hP 4 3 rfl rfl (i := nI i) (vp_in_nI (n := i) (by omega) (by decide)) dX3_end_106 ?_
                refine W.eq (g2 := F0 m 107 ls (.int (Co i) :: .int (nI (40 * r + i)) :: .ref qy :: [])) (by rw [show (nI i : Int32).toNatClampNeg = i from nI_clamp (by omega)]) ?_
                refine va_iast hx hb hK hP hD hS 3 2 rfl rfl (i := nI (40 * r + i)) (vp_in_nI (n := 40 * r + i) (by omega) (by decide)) dX3_end_107 (fun H locs hP hD hS => ?_)
                rw [show (nI (40 * r + i) : Int32).toNatClampNeg = 40 * r + i from nI_clamp (by omega)] at hP hD
                have hP : va_P (dC, dI) hlCl [(qm, .inr (3, [.int (flI 0 dn 0), .int (nI n), .ref qd, .int (nI r), .int ak, .ref qk, .ref ql, .ref qy, .int (nI cb), .ref qc, .int dn, .int kp, .int tr, .int md, .int wr, .ref qi, .int sm])), (qk, .inl (cAk, 64, .inl (upd K r kind))), (ql, .inl (cAl, 64, .inl (upd Ln r (nI cb)))), (qy, .inl (cAy, 2560, .inl (upd (ebL By Co r i) (40 * r + i) (Co i)))), (qc, .inl (cAc, 40, .inl Co))] H := hP
                have hD : va_D A [(qm, .inr (3, [.int (flI 0 dn 0), .int (nI n), .ref qd, .int (nI r), .int ak, .ref qk, .ref ql, .ref qy, .int (nI cb), .ref qc, .int dn, .int kp, .int tr, .int md, .int wr, .ref qi, .int sm])), (qk, .inl (cAk, 64, .inl (upd K r kind))), (ql, .inl (cAl, 64, .inl (upd Ln r (nI cb)))), (qy, .inl (cAy, 2560, .inl (upd (ebL By Co r i) (40 * r + i) (Co i)))), (qc, .inl (cAc, 40, .inl Co))] := hD
                refine lv_iinc (v := nI (i + 1)) (lv' := [(3, .int (nI (i + 1))), (0, .ref qm), (1, .int kind), (2, .int rel)]) hx hb dX3_end_108 hl (k := 0) rfl (nI_add i 1) (by decide) rfl (fun ls hl => ?_)
                refine lv_goto (tgt := 80) hx hb dX3_end_111 (by decide) ?_
                exact ih (i + 1) H locs ls (by omega)  hP hD hS (lv_sub hl [0, 1, 2, 3] rfl)
          exact loop cb 0 H locs ls (by omega)  hP hD hS (lv_sub hl [0, 1, 2, 3] rfl)
        · skip
          refine lv_iconst (v := (-1)) hx hb dX3_end_53 (by decide) ?_
          exact hr_i (v := (-1)) hx hb hr hlocks (w1 := [(qm, .inr (3, [.int (flI 0 dn 0), .int (nI n), .ref qd, .int (nI r), .int ak, .ref qk, .ref ql, .ref qy, .int (nI cb), .ref qc, .int dn, .int kp, .int tr, .int md, .int wr, .ref qi, .int sm])), (qk, .inl (cAk, 64, .inl K)), (ql, .inl (cAl, 64, .inl Ln)), (qy, .inl (cAy, 2560, .inl By)), (qc, .inl (cAc, 40, .inl Co))]) hP hD hK hS [0, 1, 2, 3, 4] [0, 1, 2, 3] rfl rfl rfl (by simp only [enRI, if_neg c_8, if_pos c_24, if_pos c_34, if_neg c_50] <;> rfl) (by simp only [enRI, enRT, enRR, enRC, enRK, enRL, enRB, if_neg c_8, if_pos c_24, if_pos c_34, if_neg c_50] <;> rfl) dX3_end_54
      · skip
        refine lv_aload_n hx hb dX3_end_37 rfl (lv_at hl 0 rfl) ?_
        refine va_get (D := (dC, dI)) (ci := 3) (v := .int (nI n)) (C := RX3) (T := TX3) (N := 17) hx hb hts (by decide +kernel) hown hK hP 0 rfl rfl 1 (by decide) (hts (.fieldLink RX3 32 "HouseLogModel" "sectors" "I") (by decide +kernel)) (fun _ h9 => h9) rfl dX3_end_38 ?_
        refine lv_goto (tgt := 50) hx hb dX3_end_41 (by decide) ?_
        refine lv_icmp_lt (tgt := 55) hx hb dX3_end_50 (by decide) (fun c_50 => ?_) (fun c_50 => ?_)
        · skip
          have hr2 : r < 64 := by have h9 := (nI_ltI (a := r) (b := n) (by omega) (by omega)).mp c_50; omega
          refine lv_aload_n hx hb dX3_end_55 rfl (lv_at hl 0 rfl) ?_
          refine va_get (D := (dC, dI)) (ci := 3) (v := .ref qk) (C := RX3) (T := TX3) (N := 17) hx hb hts (by decide +kernel) hown hK hP 0 rfl rfl 5 (by decide) (hts (.fieldLink RX3 13 "HouseLogModel" "kinds" "[I") (by decide +kernel)) (fun _ h9 => h9) rfl dX3_end_56 ?_
          refine lv_aload_n hx hb dX3_end_59 rfl (lv_at hl 0 rfl) ?_
          refine va_get (D := (dC, dI)) (ci := 3) (v := .int (nI r)) (C := RX3) (T := TX3) (N := 17) hx hb hts (by decide +kernel) hown hK hP 0 rfl rfl 3 (by decide) (hts (.fieldLink RX3 73 "HouseLogModel" "rows" "I") (by decide +kernel)) (fun _ h9 => h9) rfl dX3_end_60 ?_
          refine lv_iload_n hx hb dX3_end_63 rfl (lv_at hl 1 rfl) ?_
          refine va_iast hx hb hK hP hD hS 1 0 rfl rfl (i := nI r) (vp_in_nI (n := r) (by omega) (by decide)) dX3_end_64 (fun H locs hP hD hS => ?_)
          rw [show (nI r : Int32).toNatClampNeg = r from nI_clamp (by omega)] at hP hD
          have hP : va_P (dC, dI) hlCl [(qm, .inr (3, [.int (flI 0 dn 0), .int (nI n), .ref qd, .int (nI r), .int ak, .ref qk, .ref ql, .ref qy, .int (nI cb), .ref qc, .int dn, .int kp, .int tr, .int md, .int wr, .ref qi, .int sm])), (qk, .inl (cAk, 64, .inl (upd K r kind))), (ql, .inl (cAl, 64, .inl Ln)), (qy, .inl (cAy, 2560, .inl By)), (qc, .inl (cAc, 40, .inl Co))] H := hP
          have hD : va_D A [(qm, .inr (3, [.int (flI 0 dn 0), .int (nI n), .ref qd, .int (nI r), .int ak, .ref qk, .ref ql, .ref qy, .int (nI cb), .ref qc, .int dn, .int kp, .int tr, .int md, .int wr, .ref qi, .int sm])), (qk, .inl (cAk, 64, .inl (upd K r kind))), (ql, .inl (cAl, 64, .inl Ln)), (qy, .inl (cAy, 2560, .inl By)), (qc, .inl (cAc, 40, .inl Co))] := hD
          refine lv_aload_n hx hb dX3_end_65 rfl (lv_at hl 0 rfl) ?_
          refine va_get (D := (dC, dI)) (ci := 3) (v := .ref ql) (C := RX3) (T := TX3) (N := 17) hx hb hts (by decide +kernel) hown hK hP 0 rfl rfl 6 (by decide) (hts (.fieldLink RX3 16 "HouseLogModel" "lengths" "[I") (by decide +kernel)) (fun _ h9 => h9) rfl dX3_end_66 ?_
          refine lv_aload_n hx hb dX3_end_69 rfl (lv_at hl 0 rfl) ?_
          refine va_get (D := (dC, dI)) (ci := 3) (v := .int (nI r)) (C := RX3) (T := TX3) (N := 17) hx hb hts (by decide +kernel) hown hK hP 0 rfl rfl 3 (by decide) (hts (.fieldLink RX3 73 "HouseLogModel" "rows" "I") (by decide +kernel)) (fun _ h9 => h9) rfl dX3_end_70 ?_
          refine lv_aload_n hx hb dX3_end_73 rfl (lv_at hl 0 rfl) ?_
          refine va_get (D := (dC, dI)) (ci := 3) (v := .int (nI cb)) (C := RX3) (T := TX3) (N := 17) hx hb hts (by decide +kernel) hown hK hP 0 rfl rfl 8 (by decide) (hts (.fieldLink RX3 66 "HouseLogModel" "collected" "I") (by decide +kernel)) (fun _ h9 => h9) rfl dX3_end_74 ?_
          refine va_iast hx hb hK hP hD hS 2 1 rfl rfl (i := nI r) (vp_in_nI (n := r) (by omega) (by decide)) dX3_end_77 (fun H locs hP hD hS => ?_)
          rw [show (nI r : Int32).toNatClampNeg = r from nI_clamp (by omega)] at hP hD
          have hP : va_P (dC, dI) hlCl [(qm, .inr (3, [.int (flI 0 dn 0), .int (nI n), .ref qd, .int (nI r), .int ak, .ref qk, .ref ql, .ref qy, .int (nI cb), .ref qc, .int dn, .int kp, .int tr, .int md, .int wr, .ref qi, .int sm])), (qk, .inl (cAk, 64, .inl (upd K r kind))), (ql, .inl (cAl, 64, .inl (upd Ln r (nI cb)))), (qy, .inl (cAy, 2560, .inl By)), (qc, .inl (cAc, 40, .inl Co))] H := hP
          have hD : va_D A [(qm, .inr (3, [.int (flI 0 dn 0), .int (nI n), .ref qd, .int (nI r), .int ak, .ref qk, .ref ql, .ref qy, .int (nI cb), .ref qc, .int dn, .int kp, .int tr, .int md, .int wr, .ref qi, .int sm])), (qk, .inl (cAk, 64, .inl (upd K r kind))), (ql, .inl (cAl, 64, .inl (upd Ln r (nI cb)))), (qy, .inl (cAy, 2560, .inl By)), (qc, .inl (cAc, 40, .inl Co))] := hD
          refine lv_iconst (v := 0) hx hb dX3_end_78 (by decide) ?_
          refine lv_istore_n (lv' := [(3, .int 0), (0, .ref qm), (1, .int kind), (2, .int rel)]) hx hb dX3_end_79 rfl hl (by decide) rfl (fun ls hl => ?_)
          have loop : ∀ (k0 i : Nat) (H : Heap) (locs : List Loc) (ls : Array Slot), (i + k0 = cb) → va_P (dC, dI) hlCl [(qm, .inr (3, [.int (flI 0 dn 0), .int (nI n), .ref qd, .int (nI r), .int ak, .ref qk, .ref ql, .ref qy, .int (nI cb), .ref qc, .int dn, .int kp, .int tr, .int md, .int wr, .ref qi, .int sm])), (qk, .inl (cAk, 64, .inl (upd K r kind))), (ql, .inl (cAl, 64, .inl (upd Ln r (nI cb)))), (qy, .inl (cAy, 2560, .inl (ebL By Co r i))), (qc, .inl (cAc, 40, .inl Co))] H → va_D A [(qm, .inr (3, [.int (flI 0 dn 0), .int (nI n), .ref qd, .int (nI r), .int ak, .ref qk, .ref ql, .ref qy, .int (nI cb), .ref qc, .int dn, .int kp, .int tr, .int md, .int wr, .ref qi, .int sm])), (qk, .inl (cAk, 64, .inl (upd K r kind))), (ql, .inl (cAl, 64, .inl (upd Ln r (nI cb)))), (qy, .inl (cAy, 2560, .inl (ebL By Co r i))), (qc, .inl (cAc, 40, .inl Co))] → va_S A s.heap H locs → lv_has ls 4 [(3, .int (nI i)), (0, .ref qm), (1, .int kind), (2, .int rel)] → W p l e (rm_ 1 23) s m [.ref qm, .int kind, .int rel].toArray below meth c H locs 0 0 (MQ below ((fun A => va_Qi (fun (r9 : Int32) (_ : Unit) => r9 = enRI n dn r kind rel) (fun _ t9 => qw_ dC dI A [(qm, .inr (3, [.int (enRT dn kind), .int (nI n), .ref qd, .int (nI (enRR n dn r kind rel)), .int ak, .ref qk, .ref ql, .ref qy, .int (nI (enRC n dn r cb kind rel)), .ref qc, .int dn, .int kp, .int tr, .int md, .int wr, .ref qi, .int sm])), (qk, .inl (cAk, 64, .inl (enRK n dn r K kind rel))), (ql, .inl (cAl, 64, .inl (enRL n dn r cb Ln kind rel))), (qy, .inl (cAy, 2560, .inl (enRB n dn r cb By Co kind rel))), (qc, .inl (cAc, 40, .inl Co))] [(cAk, .int), (cAl, .int), (cAy, .int), (cAc, .int)] t9) A) A) [.ref qm, .int kind, .int rel].toArray s 0 0 A) (F0 m 80 ls []) := by
            intro k0
            induction k0 with
            | zero =>
              intro i H locs ls hi hP hD hS hl
              obtain rfl : cb = i := by omega
              refine lv_iload_n hx hb dX3_end_80 rfl (lv_at hl 0 rfl) ?_
              refine lv_aload_n hx hb dX3_end_81 rfl (lv_at hl 1 rfl) ?_
              refine va_get (D := (dC, dI)) (ci := 3) (v := .int (nI cb)) (C := RX3) (T := TX3) (N := 17) hx hb hts (by decide +kernel) hown hK hP 0 rfl rfl 8 (by decide) (hts (.fieldLink RX3 66 "HouseLogModel" "collected" "I") (by decide +kernel)) (fun _ h9 => h9) rfl dX3_end_82 ?_
              refine lv_icmp_ge (tgt := 114) hx hb dX3_end_85 (by decide) (fun c_85 => ?_) (fun c_85 => ?_)
              · skip
                refine lv_aload_n hx hb dX3_end_114 rfl (lv_at hl 1 rfl) ?_
                refine lv_iconst (v := 0) hx hb dX3_end_115 (by decide) ?_
                refine va_put (D := (dC, dI)) (ci := 3) (v := .int 0) (ty := .int) (C := RX3) (T := TX3) (N := 17) hx hb hts (by decide +kernel) tyX3 tyX3_ok nmX3 hown hK hP hD hS 0 rfl rfl 8 (by decide) (hts (.fieldLink RX3 66 "HouseLogModel" "collected" "I") (by decide +kernel)) (fun _ h9 => h9) rfl (by decide +kernel) rfl rfl (Nat.le_of_ble_eq_true rfl) dX3_end_116 (fun H locs hP hD hS => ?_)
                have hP : va_P (dC, dI) hlCl [(qm, .inr (3, [.int (flI 0 dn 0), .int (nI n), .ref qd, .int (nI r), .int ak, .ref qk, .ref ql, .ref qy, .int 0, .ref qc, .int dn, .int kp, .int tr, .int md, .int wr, .ref qi, .int sm])), (qk, .inl (cAk, 64, .inl (upd K r kind))), (ql, .inl (cAl, 64, .inl (upd Ln r (nI cb)))), (qy, .inl (cAy, 2560, .inl (ebL By Co r cb))), (qc, .inl (cAc, 40, .inl Co))] H := hP
                have hD : va_D A [(qm, .inr (3, [.int (flI 0 dn 0), .int (nI n), .ref qd, .int (nI r), .int ak, .ref qk, .ref ql, .ref qy, .int 0, .ref qc, .int dn, .int kp, .int tr, .int md, .int wr, .ref qi, .int sm])), (qk, .inl (cAk, 64, .inl (upd K r kind))), (ql, .inl (cAl, 64, .inl (upd Ln r (nI cb)))), (qy, .inl (cAy, 2560, .inl (ebL By Co r cb))), (qc, .inl (cAc, 40, .inl Co))] := hD
                refine lv_aload_n hx hb dX3_end_119 rfl (lv_at hl 1 rfl) ?_
                refine lv_dup hx hb dX3_end_120 rfl ?_
                refine va_get (D := (dC, dI)) (ci := 3) (v := .int (nI r)) (C := RX3) (T := TX3) (N := 17) hx hb hts (by decide +kernel) hown hK hP 0 rfl rfl 3 (by decide) (hts (.fieldLink RX3 73 "HouseLogModel" "rows" "I") (by decide +kernel)) (fun _ h9 => h9) rfl dX3_end_121 ?_
                refine lv_iconst (v := 1) hx hb dX3_end_124 (by decide) ?_
                refine lv_iadd hx hb dX3_end_125 ?_
                rw [show ((nI r) + 1 : Int32) = nI (r + 1) from nI_add r 1]
                refine va_put (D := (dC, dI)) (ci := 3) (v := .int (nI (r + 1))) (ty := .int) (C := RX3) (T := TX3) (N := 17) hx hb hts (by decide +kernel) tyX3 tyX3_ok nmX3 hown hK hP hD hS 0 rfl rfl 3 (by decide) (hts (.fieldLink RX3 73 "HouseLogModel" "rows" "I") (by decide +kernel)) (fun _ h9 => h9) rfl (by decide +kernel) rfl rfl (Nat.le_of_ble_eq_true rfl) dX3_end_126 (fun H locs hP hD hS => ?_)
                have hP : va_P (dC, dI) hlCl [(qm, .inr (3, [.int (flI 0 dn 0), .int (nI n), .ref qd, .int (nI (r + 1)), .int ak, .ref qk, .ref ql, .ref qy, .int 0, .ref qc, .int dn, .int kp, .int tr, .int md, .int wr, .ref qi, .int sm])), (qk, .inl (cAk, 64, .inl (upd K r kind))), (ql, .inl (cAl, 64, .inl (upd Ln r (nI cb)))), (qy, .inl (cAy, 2560, .inl (ebL By Co r cb))), (qc, .inl (cAc, 40, .inl Co))] H := hP
                have hD : va_D A [(qm, .inr (3, [.int (flI 0 dn 0), .int (nI n), .ref qd, .int (nI (r + 1)), .int ak, .ref qk, .ref ql, .ref qy, .int 0, .ref qc, .int dn, .int kp, .int tr, .int md, .int wr, .ref qi, .int sm])), (qk, .inl (cAk, 64, .inl (upd K r kind))), (ql, .inl (cAl, 64, .inl (upd Ln r (nI cb)))), (qy, .inl (cAy, 2560, .inl (ebL By Co r cb))), (qc, .inl (cAc, 40, .inl Co))] := hD
                refine lv_aload_n hx hb dX3_end_129 rfl (lv_at hl 1 rfl) ?_
                refine va_get (D := (dC, dI)) (ci := 3) (v := .int (nI (r + 1))) (C := RX3) (T := TX3) (N := 17) hx hb hts (by decide +kernel) hown hK hP 0 rfl rfl 3 (by decide) (hts (.fieldLink RX3 73 "HouseLogModel" "rows" "I") (by decide +kernel)) (fun _ h9 => h9) rfl dX3_end_130 ?_
                refine lv_iconst (v := 1) hx hb dX3_end_133 (by decide) ?_
                refine lv_isub hx hb dX3_end_134 ?_
                rw [show ((nI (r + 1)) - 1 : Int32) = nI ((r + 1) - 1) from pk_sub (a := (r + 1)) (b := 1) (by omega)]
                exact hr_i (v := nI ((r + 1) - 1)) hx hb hr hlocks (w1 := [(qm, .inr (3, [.int (flI 0 dn 0), .int (nI n), .ref qd, .int (nI (r + 1)), .int ak, .ref qk, .ref ql, .ref qy, .int 0, .ref qc, .int dn, .int kp, .int tr, .int md, .int wr, .ref qi, .int sm])), (qk, .inl (cAk, 64, .inl (upd K r kind))), (ql, .inl (cAl, 64, .inl (upd Ln r (nI cb)))), (qy, .inl (cAy, 2560, .inl (ebL By Co r cb))), (qc, .inl (cAc, 40, .inl Co))]) hP hD hK hS [0, 1, 2, 3, 4] [0, 1, 2, 3] rfl rfl rfl (by simp only [enRI, if_neg c_8, if_pos c_24, if_neg c_34, if_pos c_50] <;> rfl) (by simp only [enRI, enRT, enRR, enRC, enRK, enRL, enRB, if_neg c_8, if_pos c_24, if_neg c_34, if_pos c_50] <;> rfl) dX3_end_135
              · exact absurd (nI_le (a := cb) (b := cb) (Nat.le_refl _) (by omega)) c_85
            | succ k0 ih =>
              intro i H locs ls hi hP hD hS hl
              refine lv_iload_n hx hb dX3_end_80 rfl (lv_at hl 0 rfl) ?_
              refine lv_aload_n hx hb dX3_end_81 rfl (lv_at hl 1 rfl) ?_
              refine va_get (D := (dC, dI)) (ci := 3) (v := .int (nI cb)) (C := RX3) (T := TX3) (N := 17) hx hb hts (by decide +kernel) hown hK hP 0 rfl rfl 8 (by decide) (hts (.fieldLink RX3 66 "HouseLogModel" "collected" "I") (by decide +kernel)) (fun _ h9 => h9) rfl dX3_end_82 ?_
              refine lv_icmp_ge (tgt := 114) hx hb dX3_end_85 (by decide) (fun c_85 => ?_) (fun c_85 => ?_)
              · exact absurd c_85 (nI_ge (a := i) (b := cb) (by omega) (by omega))
              · skip
                refine lv_aload_n hx hb dX3_end_88 rfl (lv_at hl 1 rfl) ?_
                refine va_get (D := (dC, dI)) (ci := 3) (v := .ref qy) (C := RX3) (T := TX3) (N := 17) hx hb hts (by decide +kernel) hown hK hP 0 rfl rfl 7 (by decide) (hts (.fieldLink RX3 19 "HouseLogModel" "bytes" "[I") (by decide +kernel)) (fun _ h9 => h9) rfl dX3_end_89 ?_
                refine lv_bipush (v := 40) hx hb dX3_end_92 (by decide) ?_
                refine lv_aload_n hx hb dX3_end_94 rfl (lv_at hl 1 rfl) ?_
                refine va_get (D := (dC, dI)) (ci := 3) (v := .int (nI r)) (C := RX3) (T := TX3) (N := 17) hx hb hts (by decide +kernel) hown hK hP 0 rfl rfl 3 (by decide) (hts (.fieldLink RX3 73 "HouseLogModel" "rows" "I") (by decide +kernel)) (fun _ h9 => h9) rfl dX3_end_95 ?_
                refine lv_imul hx hb dX3_end_98 ?_
                rw [show (40 * (nI r) : Int32) = nI (40 * r) from pk_mul 40 r]
                refine lv_iload_n hx hb dX3_end_99 rfl (lv_at hl 0 rfl) ?_
                refine lv_iadd hx hb dX3_end_100 ?_
                rw [show ((nI (40 * r)) + (nI i) : Int32) = nI (40 * r + i) from nI_add (40 * r) i]
                refine lv_aload_n hx hb dX3_end_101 rfl (lv_at hl 1 rfl) ?_
                refine va_get (D := (dC, dI)) (ci := 3) (v := .ref qc) (C := RX3) (T := TX3) (N := 17) hx hb hts (by decide +kernel) hown hK hP 0 rfl rfl 9 (by decide) (hts (.fieldLink RX3 22 "HouseLogModel" "collects" "[I") (by decide +kernel)) (fun _ h9 => h9) rfl dX3_end_102 ?_
                refine lv_iload_n hx hb dX3_end_105 rfl (lv_at hl 0 rfl) ?_
                refine va_iald hx hb hK hP 4 3 rfl rfl (i := nI i) (vp_in_nI (n := i) (by omega) (by decide)) dX3_end_106 ?_
                refine W.eq (g2 := F0 m 107 ls (.int (Co i) :: .int (nI (40 * r + i)) :: .ref qy :: [])) (by rw [show (nI i : Int32).toNatClampNeg = i from nI_clamp (by omega)]) ?_
                refine va_iast hx hb hK hP hD hS 3 2 rfl rfl (i := nI (40 * r + i)) (vp_in_nI (n := 40 * r + i) (by omega) (by decide)) dX3_end_107 (fun H locs hP hD hS => ?_)
                rw [show (nI (40 * r + i) : Int32).toNatClampNeg = 40 * r + i from nI_clamp (by omega)] at hP hD
                have hP : va_P (dC, dI) hlCl [(qm, .inr (3, [.int (flI 0 dn 0), .int (nI n), .ref qd, .int (nI r), .int ak, .ref qk, .ref ql, .ref qy, .int (nI cb), .ref qc, .int dn, .int kp, .int tr, .int md, .int wr, .ref qi, .int sm])), (qk, .inl (cAk, 64, .inl (upd K r kind))), (ql, .inl (cAl, 64, .inl (upd Ln r (nI cb)))), (qy, .inl (cAy, 2560, .inl (upd (ebL By Co r i) (40 * r + i) (Co i)))), (qc, .inl (cAc, 40, .inl Co))] H := hP
                have hD : va_D A [(qm, .inr (3, [.int (flI 0 dn 0), .int (nI n), .ref qd, .int (nI r), .int ak, .ref qk, .ref ql, .ref qy, .int (nI cb), .ref qc, .int dn, .int kp, .int tr, .int md, .int wr, .ref qi, .int sm])), (qk, .inl (cAk, 64, .inl (upd K r kind))), (ql, .inl (cAl, 64, .inl (upd Ln r (nI cb)))), (qy, .inl (cAy, 2560, .inl (upd (ebL By Co r i) (40 * r + i) (Co i)))), (qc, .inl (cAc, 40, .inl Co))] := hD
                refine lv_iinc (v := nI (i + 1)) (lv' := [(3, .int (nI (i + 1))), (0, .ref qm), (1, .int kind), (2, .int rel)]) hx hb dX3_end_108 hl (k := 0) rfl (nI_add i 1) (by decide) rfl (fun ls hl => ?_)
                refine lv_goto (tgt := 80) hx hb dX3_end_111 (by decide) ?_
                exact ih (i + 1) H locs ls (by omega)  hP hD hS (lv_sub hl [0, 1, 2, 3] rfl)
          exact loop cb 0 H locs ls (by omega)  hP hD hS (lv_sub hl [0, 1, 2, 3] rfl)
        · skip
          refine lv_iconst (v := (-1)) hx hb dX3_end_53 (by decide) ?_
          exact hr_i (v := (-1)) hx hb hr hlocks (w1 := [(qm, .inr (3, [.int (flI 0 dn 0), .int (nI n), .ref qd, .int (nI r), .int ak, .ref qk, .ref ql, .ref qy, .int (nI cb), .ref qc, .int dn, .int kp, .int tr, .int md, .int wr, .ref qi, .int sm])), (qk, .inl (cAk, 64, .inl K)), (ql, .inl (cAl, 64, .inl Ln)), (qy, .inl (cAy, 2560, .inl By)), (qc, .inl (cAc, 40, .inl Co))]) hP hD hK hS [0, 1, 2, 3, 4] [0, 1, 2, 3] rfl rfl rfl (by simp only [enRI, if_neg c_8, if_pos c_24, if_neg c_34, if_neg c_50] <;> rfl) (by simp only [enRI, enRT, enRR, enRC, enRK, enRL, enRB, if_neg c_8, if_pos c_24, if_neg c_34, if_neg c_50] <;> rfl) dX3_end_54
    · skip
      refine lv_iconst (v := 0) hx hb dX3_end_27 (by decide) ?_
      exact hr_i (v := 0) hx hb hr hlocks (w1 := [(qm, .inr (3, [.int (flI 0 dn 0), .int (nI n), .ref qd, .int (nI r), .int ak, .ref qk, .ref ql, .ref qy, .int (nI cb), .ref qc, .int dn, .int kp, .int tr, .int md, .int wr, .ref qi, .int sm])), (qk, .inl (cAk, 64, .inl K)), (ql, .inl (cAl, 64, .inl Ln)), (qy, .inl (cAy, 2560, .inl By)), (qc, .inl (cAc, 40, .inl Co))]) hP hD hK hS [0, 1, 2, 3, 4] [0, 1, 2, 3] rfl rfl rfl (by simp only [enRI, if_neg c_8, if_neg c_24] <;> rfl) (by simp only [enRI, enRT, enRR, enRC, enRK, enRL, enRB, if_neg c_8, if_neg c_24] <;> rfl) dX3_end_28
  · skip
    refine lv_iconst (v := 1) hx hb dX3_end_11 (by decide) ?_
    refine lv_goto (tgt := 16) hx hb dX3_end_12 (by decide) ?_
    refine lv_aload_n hx hb dX3_end_16 rfl (lv_at hl 0 rfl) ?_
    refine va_get (D := (dC, dI)) (ci := 3) (v := .int dn) (C := RX3) (T := TX3) (N := 17) hx hb hts (by decide +kernel) hown hK hP 0 rfl rfl 10 (by decide) (hts (.fieldLink RX3 62 "HouseLogModel" "down" "Z") (by decide +kernel)) (fun _ h9 => h9) rfl dX3_end_17 ?_
    refine lv_iconst (v := 0) hx hb dX3_end_20 (by decide) ?_
    refine hc_iV (As := [.int 1, .int dn, .int 0]) (rest := []) (wr := [(qk, .inl (cAk, 64, .inl K)), (ql, .inl (cAl, 64, .inl Ln)), (qy, .inl (cAy, 2560, .inl By)), (qc, .inl (cAc, 40, .inl Co))]) ⟨hx, hb, hml, hown, hts⟩ sx_T trivial (kX3_fails l dC dI H.size qm qd qk ql qy qc qi n th (nI r) ak (nI cb) dn kp tr md wr sm 1 dn 0 ) (cwV 3 hts gX3_end_X3_fails rfl rfl rfl (by decide +kernel) ⟨Nat.le_of_ble_eq_true rfl, Nat.le_of_ble_eq_true rfl⟩) hK hP hD hS hA [0] [1, 2, 3, 4] [] rfl rfl rfl rfl rfl (by decide) (ci := 3) rfl rfl rfl rfl hl.1 rfl (Nat.le_of_ble_eq_true rfl) dX3_end_21 ⟨Nat.zero_le _, Nat.zero_le _⟩ (fun H locs hP hD hS => ?_)
    have hP : va_P (dC, dI) hlCl [(qm, .inr (3, [.int (flI 1 dn 0), .int (nI n), .ref qd, .int (nI r), .int ak, .ref qk, .ref ql, .ref qy, .int (nI cb), .ref qc, .int dn, .int kp, .int tr, .int md, .int wr, .ref qi, .int sm])), (qk, .inl (cAk, 64, .inl K)), (ql, .inl (cAl, 64, .inl Ln)), (qy, .inl (cAy, 2560, .inl By)), (qc, .inl (cAc, 40, .inl Co))] H := hP.sub [4, 0, 1, 2, 3] rfl
    have hD : va_D A [(qm, .inr (3, [.int (flI 1 dn 0), .int (nI n), .ref qd, .int (nI r), .int ak, .ref qk, .ref ql, .ref qy, .int (nI cb), .ref qc, .int dn, .int kp, .int tr, .int md, .int wr, .ref qi, .int sm])), (qk, .inl (cAk, 64, .inl K)), (ql, .inl (cAl, 64, .inl Ln)), (qy, .inl (cAy, 2560, .inl By)), (qc, .inl (cAc, 40, .inl Co))] := hD.sub [4, 0, 1, 2, 3] (by decide) rfl
    refine lv_if_eq (tgt := 29) hx hb dX3_end_24 (by decide) (fun c_24 => ?_) (fun c_24 => ?_)
    · exact absurd (fl_iff.mp c_24).1 (by decide)
    · skip
      refine lv_iconst (v := 0) hx hb dX3_end_27 (by decide) ?_
      exact hr_i (v := 0) hx hb hr hlocks (w1 := [(qm, .inr (3, [.int (flI 1 dn 0), .int (nI n), .ref qd, .int (nI r), .int ak, .ref qk, .ref ql, .ref qy, .int (nI cb), .ref qc, .int dn, .int kp, .int tr, .int md, .int wr, .ref qi, .int sm])), (qk, .inl (cAk, 64, .inl K)), (ql, .inl (cAl, 64, .inl Ln)), (qy, .inl (cAy, 2560, .inl By)), (qc, .inl (cAc, 40, .inl Co))]) hP hD hK hS [0, 1, 2, 3, 4] [0, 1, 2, 3] rfl rfl rfl (by simp only [enRI, if_pos c_8] <;> rfl) (by simp only [enRI, enRT, enRR, enRC, enRK, enRL, enRB, if_pos c_8] <;> rfl) dX3_end_28

def wrRI (kp : Int32) : Int32 := (if kp = 0 then 0 else 1)
def wrRK (kp : Int32) : Int32 := (if kp = 0 then (if kp ≤ 0 then (-1) else kp - 1) else (if kp ≤ 0 then (-1) else kp - 1))
def wrRD (kp : Int32) (tt : Nat) (D La : Nat → Int32) (u k : Nat) : Nat → Int32 := (if kp = 0 then wdL D La (4096 * u + 64 * k) tt else wdL D La (4096 * u + 64 * k) 64)
set_option maxHeartbeats 4000000 in
set_option maxRecDepth 100000 in
theorem kX3_write (l : Launch) (dC : Nat → ClassId) (dI : Nat → Nat → Nat) (sz : Nat) (qm qd qk ql qy qc qi : Nat) (n : Nat) (cAd cAi : ClassId) (th rw ak cb dn kp md wr sm : Int32) (tt : Nat) (D La : Nat → Int32) (u k : Nat) (hu : u ≤ 1) (hk : k < 64) (htt : tt ≤ 63) : Mi_ l yX3_write wsX3_write 1 22 dC dI (fun _ => True) [.ref qm, .int (nI u), .int (nI k)] [(qm, .inr (3, [.int th, .int (nI n), .ref qd, .int rw, .int ak, .ref qk, .ref ql, .ref qy, .int cb, .ref qc, .int dn, .int kp, .int (nI tt), .int md, .int wr, .ref qi, .int sm])), (qd, .inl (cAd, 8192, .inl D)), (qi, .inl (cAi, 64, .inl La))] [(cAd, .int), (cAi, .int)] sz (wrRI kp) [(qm, .inr (3, [.int th, .int (nI n), .ref qd, .int rw, .int ak, .ref qk, .ref ql, .ref qy, .int cb, .ref qc, .int dn, .int (wrRK kp), .int (nI tt), .int md, .int (wr + 1), .ref qi, .int sm])), (qd, .inl (cAd, 8192, .inl (wrRD kp tt D La u k))), (qi, .inl (cAi, 64, .inl La))] := by
  refine hm_ (cc := cX3_write) (maxL := 6) (ret := (some .boolean)) (Qc := fun A => va_Qi (fun (r9 : Int32) (_ : Unit) => r9 = wrRI kp) (fun _ t9 => qw_ dC dI A [(qm, .inr (3, [.int th, .int (nI n), .ref qd, .int rw, .int ak, .ref qk, .ref ql, .ref qy, .int cb, .ref qc, .int dn, .int (wrRK kp), .int (nI tt), .int md, .int (wr + 1), .ref qi, .int sm])), (qd, .inl (cAd, 8192, .inl (wrRD kp tt D La u k))), (qi, .inl (cAi, 64, .inl La))] [(cAd, .int), (cAi, .int)] t9) A) (by decide) rfl (Nat.le_of_ble_eq_true rfl) ?_
  intro p e s m below meth c A H locs ls hx hb hr hml hts hown hlocks hsz hP hK hD hE hA hS hl
  have hl : lv_has ls 6 [(0, .ref qm), (1, .int (nI u)), (2, .int (nI k))] := hl
  have hown : s.vm.findClass RX3 = some m.cls := hown
  refine lv_aload_n hx hb dX3_write_0 rfl (lv_at hl 0 rfl) ?_
  refine va_get (D := (dC, dI)) (ci := 3) (v := .int kp) (C := RX3) (T := TX3) (N := 17) hx hb hts (by decide +kernel) hown hK hP 0 rfl rfl 11 (by decide) (hts (.fieldLink RX3 25 "HouseLogModel" "keep" "I") (by decide +kernel)) (fun _ h9 => h9) rfl dX3_write_1 ?_
  refine lv_if_ne (tgt := 11) hx hb dX3_write_4 (by decide) (fun c_4 => ?_) (fun c_4 => ?_)
  · skip
    refine lv_iconst (v := 0) hx hb dX3_write_11 (by decide) ?_
    refine lv_istore_n (lv' := [(3, .int 0), (0, .ref qm), (1, .int (nI u)), (2, .int (nI k))]) hx hb dX3_write_12 rfl hl (by decide) rfl (fun ls hl => ?_)
    refine lv_iload_n hx hb dX3_write_13 rfl (lv_at hl 0 rfl) ?_
    refine lv_if_eq (tgt := 24) hx hb dX3_write_14 (by decide) (fun c_14 => ?_) (fun c_14 => ?_)
    · skip
      refine lv_bipush (v := 64) hx hb dX3_write_24 (by decide) ?_
      refine lv_istore (lv' := [(4, .int 64), (3, .int 0), (0, .ref qm), (1, .int (nI u)), (2, .int (nI k))]) hx hb dX3_write_26 hl (by decide) rfl (fun ls hl => ?_)
      refine lv_iconst (v := 0) hx hb dX3_write_28 (by decide) ?_
      refine lv_istore (lv' := [(5, .int 0), (4, .int 64), (3, .int 0), (0, .ref qm), (1, .int (nI u)), (2, .int (nI k))]) hx hb dX3_write_29 hl (by decide) rfl (fun ls hl => ?_)
      have loop : ∀ (k0 i : Nat) (H : Heap) (locs : List Loc) (ls : Array Slot), (i + k0 = 64) → va_P (dC, dI) hlCl [(qm, .inr (3, [.int th, .int (nI n), .ref qd, .int rw, .int ak, .ref qk, .ref ql, .ref qy, .int cb, .ref qc, .int dn, .int kp, .int (nI tt), .int md, .int wr, .ref qi, .int sm])), (qd, .inl (cAd, 8192, .inl (wdL D La (4096 * u + 64 * k) i))), (qi, .inl (cAi, 64, .inl La))] H → va_D A [(qm, .inr (3, [.int th, .int (nI n), .ref qd, .int rw, .int ak, .ref qk, .ref ql, .ref qy, .int cb, .ref qc, .int dn, .int kp, .int (nI tt), .int md, .int wr, .ref qi, .int sm])), (qd, .inl (cAd, 8192, .inl (wdL D La (4096 * u + 64 * k) i))), (qi, .inl (cAi, 64, .inl La))] → va_S A s.heap H locs → lv_has ls 6 [(5, .int (nI i)), (4, .int 64), (3, .int 0), (0, .ref qm), (1, .int (nI u)), (2, .int (nI k))] → W p l e (rm_ 1 22) s m [.ref qm, .int (nI u), .int (nI k)].toArray below meth c H locs 0 0 (MQ below ((fun A => va_Qi (fun (r9 : Int32) (_ : Unit) => r9 = wrRI kp) (fun _ t9 => qw_ dC dI A [(qm, .inr (3, [.int th, .int (nI n), .ref qd, .int rw, .int ak, .ref qk, .ref ql, .ref qy, .int cb, .ref qc, .int dn, .int (wrRK kp), .int (nI tt), .int md, .int (wr + 1), .ref qi, .int sm])), (qd, .inl (cAd, 8192, .inl (wrRD kp tt D La u k))), (qi, .inl (cAi, 64, .inl La))] [(cAd, .int), (cAi, .int)] t9) A) A) [.ref qm, .int (nI u), .int (nI k)].toArray s 0 0 A) (F0 m 31 ls []) := by
        intro k0
        induction k0 with
        | zero =>
          intro i H locs ls hi hP hD hS hl
          obtain rfl : 64 = i := by omega
          refine lv_iload hx hb dX3_write_31 (lv_at hl 0 rfl) ?_
          refine lv_iload hx hb dX3_write_33 (lv_at hl 1 rfl) ?_
          refine lv_icmp_ge (tgt := 65) hx hb dX3_write_35 (by decide) (fun c_35 => ?_) (fun c_35 => ?_)
          · skip
            refine lv_aload_n hx hb dX3_write_65 rfl (lv_at hl 3 rfl) ?_
            refine lv_dup hx hb dX3_write_66 rfl ?_
            refine va_get (D := (dC, dI)) (ci := 3) (v := .int wr) (C := RX3) (T := TX3) (N := 17) hx hb hts (by decide +kernel) hown hK hP 0 rfl rfl 14 (by decide) (hts (.fieldLink RX3 79 "HouseLogModel" "writes" "I") (by decide +kernel)) (fun _ h9 => h9) rfl dX3_write_67 ?_
            refine lv_iconst (v := 1) hx hb dX3_write_70 (by decide) ?_
            refine lv_iadd hx hb dX3_write_71 ?_
            refine va_put (D := (dC, dI)) (ci := 3) (v := .int (wr + 1)) (ty := .int) (C := RX3) (T := TX3) (N := 17) hx hb hts (by decide +kernel) tyX3 tyX3_ok nmX3 hown hK hP hD hS 0 rfl rfl 14 (by decide) (hts (.fieldLink RX3 79 "HouseLogModel" "writes" "I") (by decide +kernel)) (fun _ h9 => h9) rfl (by decide +kernel) rfl rfl (Nat.le_of_ble_eq_true rfl) dX3_write_72 (fun H locs hP hD hS => ?_)
            have hP : va_P (dC, dI) hlCl [(qm, .inr (3, [.int th, .int (nI n), .ref qd, .int rw, .int ak, .ref qk, .ref ql, .ref qy, .int cb, .ref qc, .int dn, .int kp, .int (nI tt), .int md, .int (wr + 1), .ref qi, .int sm])), (qd, .inl (cAd, 8192, .inl (wdL D La (4096 * u + 64 * k) 64))), (qi, .inl (cAi, 64, .inl La))] H := hP
            have hD : va_D A [(qm, .inr (3, [.int th, .int (nI n), .ref qd, .int rw, .int ak, .ref qk, .ref ql, .ref qy, .int cb, .ref qc, .int dn, .int kp, .int (nI tt), .int md, .int (wr + 1), .ref qi, .int sm])), (qd, .inl (cAd, 8192, .inl (wdL D La (4096 * u + 64 * k) 64))), (qi, .inl (cAi, 64, .inl La))] := hD
            refine lv_aload_n hx hb dX3_write_75 rfl (lv_at hl 3 rfl) ?_
            refine lv_aload_n hx hb dX3_write_76 rfl (lv_at hl 3 rfl) ?_
            refine va_get (D := (dC, dI)) (ci := 3) (v := .int kp) (C := RX3) (T := TX3) (N := 17) hx hb hts (by decide +kernel) hown hK hP 0 rfl rfl 11 (by decide) (hts (.fieldLink RX3 25 "HouseLogModel" "keep" "I") (by decide +kernel)) (fun _ h9 => h9) rfl dX3_write_77 ?_
            refine lv_if_le (tgt := 92) hx hb dX3_write_80 (by decide) (fun c_80 => ?_) (fun c_80 => ?_)
            · skip
              refine lv_iconst (v := (-1)) hx hb dX3_write_92 (by decide) ?_
              refine va_put (D := (dC, dI)) (ci := 3) (v := .int (-1)) (ty := .int) (C := RX3) (T := TX3) (N := 17) hx hb hts (by decide +kernel) tyX3 tyX3_ok nmX3 hown hK hP hD hS 0 rfl rfl 11 (by decide) (hts (.fieldLink RX3 25 "HouseLogModel" "keep" "I") (by decide +kernel)) (fun _ h9 => h9) rfl (by decide +kernel) rfl rfl (Nat.le_of_ble_eq_true rfl) dX3_write_93 (fun H locs hP hD hS => ?_)
              have hP : va_P (dC, dI) hlCl [(qm, .inr (3, [.int th, .int (nI n), .ref qd, .int rw, .int ak, .ref qk, .ref ql, .ref qy, .int cb, .ref qc, .int dn, .int (-1), .int (nI tt), .int md, .int (wr + 1), .ref qi, .int sm])), (qd, .inl (cAd, 8192, .inl (wdL D La (4096 * u + 64 * k) 64))), (qi, .inl (cAi, 64, .inl La))] H := hP
              have hD : va_D A [(qm, .inr (3, [.int th, .int (nI n), .ref qd, .int rw, .int ak, .ref qk, .ref ql, .ref qy, .int cb, .ref qc, .int dn, .int (-1), .int (nI tt), .int md, .int (wr + 1), .ref qi, .int sm])), (qd, .inl (cAd, 8192, .inl (wdL D La (4096 * u + 64 * k) 64))), (qi, .inl (cAi, 64, .inl La))] := hD
              refine lv_iload_n hx hb dX3_write_96 rfl (lv_at hl 2 rfl) ?_
              refine lv_if_ne (tgt := 104) hx hb dX3_write_97 (by decide) (fun c_97 => ?_) (fun c_97 => ?_)
              · exact absurd (by decide) c_97
              · skip
                refine lv_iconst (v := 1) hx hb dX3_write_100 (by decide) ?_
                refine lv_goto (tgt := 105) hx hb dX3_write_101 (by decide) ?_
                exact hr_z (v := 1) hx hb hr hlocks (by decide) (w1 := [(qm, .inr (3, [.int th, .int (nI n), .ref qd, .int rw, .int ak, .ref qk, .ref ql, .ref qy, .int cb, .ref qc, .int dn, .int (-1), .int (nI tt), .int md, .int (wr + 1), .ref qi, .int sm])), (qd, .inl (cAd, 8192, .inl (wdL D La (4096 * u + 64 * k) 64))), (qi, .inl (cAi, 64, .inl La))]) hP hD hK hS [0, 1, 2] [0, 1] rfl rfl rfl (by simp only [wrRI, if_neg c_4, if_pos c_80] <;> rfl) (by simp only [wrRI, wrRK, wrRD, if_neg c_4, if_pos c_80] <;> rfl) dX3_write_105
            · skip
              refine lv_aload_n hx hb dX3_write_83 rfl (lv_at hl 3 rfl) ?_
              refine va_get (D := (dC, dI)) (ci := 3) (v := .int kp) (C := RX3) (T := TX3) (N := 17) hx hb hts (by decide +kernel) hown hK hP 0 rfl rfl 11 (by decide) (hts (.fieldLink RX3 25 "HouseLogModel" "keep" "I") (by decide +kernel)) (fun _ h9 => h9) rfl dX3_write_84 ?_
              refine lv_iconst (v := 1) hx hb dX3_write_87 (by decide) ?_
              refine lv_isub hx hb dX3_write_88 ?_
              refine lv_goto (tgt := 93) hx hb dX3_write_89 (by decide) ?_
              refine va_put (D := (dC, dI)) (ci := 3) (v := .int (kp - 1)) (ty := .int) (C := RX3) (T := TX3) (N := 17) hx hb hts (by decide +kernel) tyX3 tyX3_ok nmX3 hown hK hP hD hS 0 rfl rfl 11 (by decide) (hts (.fieldLink RX3 25 "HouseLogModel" "keep" "I") (by decide +kernel)) (fun _ h9 => h9) rfl (by decide +kernel) rfl rfl (Nat.le_of_ble_eq_true rfl) dX3_write_93 (fun H locs hP hD hS => ?_)
              have hP : va_P (dC, dI) hlCl [(qm, .inr (3, [.int th, .int (nI n), .ref qd, .int rw, .int ak, .ref qk, .ref ql, .ref qy, .int cb, .ref qc, .int dn, .int (kp - 1), .int (nI tt), .int md, .int (wr + 1), .ref qi, .int sm])), (qd, .inl (cAd, 8192, .inl (wdL D La (4096 * u + 64 * k) 64))), (qi, .inl (cAi, 64, .inl La))] H := hP
              have hD : va_D A [(qm, .inr (3, [.int th, .int (nI n), .ref qd, .int rw, .int ak, .ref qk, .ref ql, .ref qy, .int cb, .ref qc, .int dn, .int (kp - 1), .int (nI tt), .int md, .int (wr + 1), .ref qi, .int sm])), (qd, .inl (cAd, 8192, .inl (wdL D La (4096 * u + 64 * k) 64))), (qi, .inl (cAi, 64, .inl La))] := hD
              refine lv_iload_n hx hb dX3_write_96 rfl (lv_at hl 2 rfl) ?_
              refine lv_if_ne (tgt := 104) hx hb dX3_write_97 (by decide) (fun c_97 => ?_) (fun c_97 => ?_)
              · exact absurd (by decide) c_97
              · skip
                refine lv_iconst (v := 1) hx hb dX3_write_100 (by decide) ?_
                refine lv_goto (tgt := 105) hx hb dX3_write_101 (by decide) ?_
                exact hr_z (v := 1) hx hb hr hlocks (by decide) (w1 := [(qm, .inr (3, [.int th, .int (nI n), .ref qd, .int rw, .int ak, .ref qk, .ref ql, .ref qy, .int cb, .ref qc, .int dn, .int (kp - 1), .int (nI tt), .int md, .int (wr + 1), .ref qi, .int sm])), (qd, .inl (cAd, 8192, .inl (wdL D La (4096 * u + 64 * k) 64))), (qi, .inl (cAi, 64, .inl La))]) hP hD hK hS [0, 1, 2] [0, 1] rfl rfl rfl (by simp only [wrRI, if_neg c_4, if_neg c_80] <;> rfl) (by simp only [wrRI, wrRK, wrRD, if_neg c_4, if_neg c_80] <;> rfl) dX3_write_105
          · exact absurd (nI_le (a := 64) (b := 64) (Nat.le_refl _) (by omega)) c_35
        | succ k0 ih =>
          intro i H locs ls hi hP hD hS hl
          refine lv_iload hx hb dX3_write_31 (lv_at hl 0 rfl) ?_
          refine lv_iload hx hb dX3_write_33 (lv_at hl 1 rfl) ?_
          refine lv_icmp_ge (tgt := 65) hx hb dX3_write_35 (by decide) (fun c_35 => ?_) (fun c_35 => ?_)
          · exact absurd c_35 (nI_ge (a := i) (b := 64) (by omega) (by omega))
          · skip
            refine lv_aload_n hx hb dX3_write_38 rfl (lv_at hl 3 rfl) ?_
            refine va_get (D := (dC, dI)) (ci := 3) (v := .ref qd) (C := RX3) (T := TX3) (N := 17) hx hb hts (by decide +kernel) hown hK hP 0 rfl rfl 2 (by decide) (hts (.fieldLink RX3 7 "HouseLogModel" "disk" "[I") (by decide +kernel)) (fun _ h9 => h9) rfl dX3_write_39 ?_
            refine lv_aload_n hx hb dX3_write_42 rfl (lv_at hl 3 rfl) ?_
            refine lv_iload_n hx hb dX3_write_43 rfl (lv_at hl 4 rfl) ?_
            refine lv_iload_n hx hb dX3_write_44 rfl (lv_at hl 5 rfl) ?_
            refine hc_iV (As := [.int (nI u), .int (nI k)]) (rest := [.ref qd]) (wr := [(qd, .inl (cAd, 8192, .inl (wdL D La (4096 * u + 64 * k) i))), (qi, .inl (cAi, 64, .inl La))]) ⟨hx, hb, hml, hown, hts⟩ sx_T trivial (kX3_from l dC dI H.size qm qd qk ql qy qc qi n th rw ak cb dn kp (nI tt) md wr sm u k ) (cwV 2 hts gX3_write_X3_from rfl rfl rfl (by decide +kernel) ⟨Nat.le_of_ble_eq_true rfl, Nat.le_of_ble_eq_true rfl⟩) hK hP hD hS hA [0] [1, 2] [] rfl rfl rfl rfl rfl (by decide) (ci := 3) rfl rfl rfl rfl hl.1 rfl (Nat.le_of_ble_eq_true rfl) dX3_write_45 ⟨Nat.zero_le _, Nat.zero_le _⟩ (fun H locs hP hD hS => ?_)
            have hP : va_P (dC, dI) hlCl [(qm, .inr (3, [.int th, .int (nI n), .ref qd, .int rw, .int ak, .ref qk, .ref ql, .ref qy, .int cb, .ref qc, .int dn, .int kp, .int (nI tt), .int md, .int wr, .ref qi, .int sm])), (qd, .inl (cAd, 8192, .inl (wdL D La (4096 * u + 64 * k) i))), (qi, .inl (cAi, 64, .inl La))] H := hP.sub [2, 0, 1] rfl
            have hD : va_D A [(qm, .inr (3, [.int th, .int (nI n), .ref qd, .int rw, .int ak, .ref qk, .ref ql, .ref qy, .int cb, .ref qc, .int dn, .int kp, .int (nI tt), .int md, .int wr, .ref qi, .int sm])), (qd, .inl (cAd, 8192, .inl (wdL D La (4096 * u + 64 * k) i))), (qi, .inl (cAi, 64, .inl La))] := hD.sub [2, 0, 1] (by decide) rfl
            refine lv_iload hx hb dX3_write_48 (lv_at hl 0 rfl) ?_
            refine lv_iadd hx hb dX3_write_50 ?_
            rw [show ((nI (4096 * u + 64 * k)) + (nI i) : Int32) = nI (4096 * u + 64 * k + i) from nI_add (4096 * u + 64 * k) i]
            refine lv_aload_n hx hb dX3_write_51 rfl (lv_at hl 3 rfl) ?_
            refine va_get (D := (dC, dI)) (ci := 3) (v := .ref qi) (C := RX3) (T := TX3) (N := 17) hx hb hts (by decide +kernel) hown hK hP 0 rfl rfl 15 (by decide) (hts (.fieldLink RX3 29 "HouseLogModel" "laid" "[I") (by decide +kernel)) (fun _ h9 => h9) rfl dX3_write_52 ?_
            refine lv_iload hx hb dX3_write_55 (lv_at hl 0 rfl) ?_
            refine va_iald hx hb hK hP 2 1 rfl rfl (i := nI i) (vp_in_nI (n := i) (by omega) (by decide)) dX3_write_57 ?_
            refine W.eq (g2 := F0 m 58 ls (.int (La i) :: .int (nI (4096 * u + 64 * k + i)) :: .ref qd :: [])) (by rw [show (nI i : Int32).toNatClampNeg = i from nI_clamp (by omega)]) ?_
            refine va_iast hx hb hK hP hD hS 1 0 rfl rfl (i := nI (4096 * u + 64 * k + i)) (vp_in_nI (n := 4096 * u + 64 * k + i) (by omega) (by decide)) dX3_write_58 (fun H locs hP hD hS => ?_)
            rw [show (nI (4096 * u + 64 * k + i) : Int32).toNatClampNeg = 4096 * u + 64 * k + i from nI_clamp (by omega)] at hP hD
            have hP : va_P (dC, dI) hlCl [(qm, .inr (3, [.int th, .int (nI n), .ref qd, .int rw, .int ak, .ref qk, .ref ql, .ref qy, .int cb, .ref qc, .int dn, .int kp, .int (nI tt), .int md, .int wr, .ref qi, .int sm])), (qd, .inl (cAd, 8192, .inl (upd (wdL D La (4096 * u + 64 * k) i) (4096 * u + 64 * k + i) (La i)))), (qi, .inl (cAi, 64, .inl La))] H := hP
            have hD : va_D A [(qm, .inr (3, [.int th, .int (nI n), .ref qd, .int rw, .int ak, .ref qk, .ref ql, .ref qy, .int cb, .ref qc, .int dn, .int kp, .int (nI tt), .int md, .int wr, .ref qi, .int sm])), (qd, .inl (cAd, 8192, .inl (upd (wdL D La (4096 * u + 64 * k) i) (4096 * u + 64 * k + i) (La i)))), (qi, .inl (cAi, 64, .inl La))] := hD
            refine lv_iinc (v := nI (i + 1)) (lv' := [(5, .int (nI (i + 1))), (4, .int 64), (3, .int 0), (0, .ref qm), (1, .int (nI u)), (2, .int (nI k))]) hx hb dX3_write_59 hl (k := 0) rfl (nI_add i 1) (by decide) rfl (fun ls hl => ?_)
            refine lv_goto (tgt := 31) hx hb dX3_write_62 (by decide) ?_
            exact ih (i + 1) H locs ls (by omega)  hP hD hS (lv_sub hl [0, 1, 2, 3, 4, 5] rfl)
      exact loop 64 0 H locs ls (by omega)  hP hD hS (lv_sub hl [0, 1, 2, 3, 4, 5] rfl)
    · exact absurd (by decide) c_14
  · skip
    refine lv_iconst (v := 1) hx hb dX3_write_7 (by decide) ?_
    refine lv_goto (tgt := 12) hx hb dX3_write_8 (by decide) ?_
    refine lv_istore_n (lv' := [(3, .int 1), (0, .ref qm), (1, .int (nI u)), (2, .int (nI k))]) hx hb dX3_write_12 rfl hl (by decide) rfl (fun ls hl => ?_)
    refine lv_iload_n hx hb dX3_write_13 rfl (lv_at hl 0 rfl) ?_
    refine lv_if_eq (tgt := 24) hx hb dX3_write_14 (by decide) (fun c_14 => ?_) (fun c_14 => ?_)
    · exact absurd c_14 (by decide)
    · skip
      refine lv_aload_n hx hb dX3_write_17 rfl (lv_at hl 1 rfl) ?_
      refine va_get (D := (dC, dI)) (ci := 3) (v := .int (nI tt)) (C := RX3) (T := TX3) (N := 17) hx hb hts (by decide +kernel) hown hK hP 0 rfl rfl 12 (by decide) (hts (.fieldLink RX3 76 "HouseLogModel" "tear" "I") (by decide +kernel)) (fun _ h9 => h9) rfl dX3_write_18 ?_
      refine lv_goto (tgt := 26) hx hb dX3_write_21 (by decide) ?_
      refine lv_istore (lv' := [(4, .int (nI tt)), (3, .int 1), (0, .ref qm), (1, .int (nI u)), (2, .int (nI k))]) hx hb dX3_write_26 hl (by decide) rfl (fun ls hl => ?_)
      refine lv_iconst (v := 0) hx hb dX3_write_28 (by decide) ?_
      refine lv_istore (lv' := [(5, .int 0), (4, .int (nI tt)), (3, .int 1), (0, .ref qm), (1, .int (nI u)), (2, .int (nI k))]) hx hb dX3_write_29 hl (by decide) rfl (fun ls hl => ?_)
      have loop : ∀ (k0 i : Nat) (H : Heap) (locs : List Loc) (ls : Array Slot), (i + k0 = tt) → va_P (dC, dI) hlCl [(qm, .inr (3, [.int th, .int (nI n), .ref qd, .int rw, .int ak, .ref qk, .ref ql, .ref qy, .int cb, .ref qc, .int dn, .int kp, .int (nI tt), .int md, .int wr, .ref qi, .int sm])), (qd, .inl (cAd, 8192, .inl (wdL D La (4096 * u + 64 * k) i))), (qi, .inl (cAi, 64, .inl La))] H → va_D A [(qm, .inr (3, [.int th, .int (nI n), .ref qd, .int rw, .int ak, .ref qk, .ref ql, .ref qy, .int cb, .ref qc, .int dn, .int kp, .int (nI tt), .int md, .int wr, .ref qi, .int sm])), (qd, .inl (cAd, 8192, .inl (wdL D La (4096 * u + 64 * k) i))), (qi, .inl (cAi, 64, .inl La))] → va_S A s.heap H locs → lv_has ls 6 [(5, .int (nI i)), (4, .int (nI tt)), (3, .int 1), (0, .ref qm), (1, .int (nI u)), (2, .int (nI k))] → W p l e (rm_ 1 22) s m [.ref qm, .int (nI u), .int (nI k)].toArray below meth c H locs 0 0 (MQ below ((fun A => va_Qi (fun (r9 : Int32) (_ : Unit) => r9 = wrRI kp) (fun _ t9 => qw_ dC dI A [(qm, .inr (3, [.int th, .int (nI n), .ref qd, .int rw, .int ak, .ref qk, .ref ql, .ref qy, .int cb, .ref qc, .int dn, .int (wrRK kp), .int (nI tt), .int md, .int (wr + 1), .ref qi, .int sm])), (qd, .inl (cAd, 8192, .inl (wrRD kp tt D La u k))), (qi, .inl (cAi, 64, .inl La))] [(cAd, .int), (cAi, .int)] t9) A) A) [.ref qm, .int (nI u), .int (nI k)].toArray s 0 0 A) (F0 m 31 ls []) := by
        intro k0
        induction k0 with
        | zero =>
          intro i H locs ls hi hP hD hS hl
          obtain rfl : tt = i := by omega
          refine lv_iload hx hb dX3_write_31 (lv_at hl 0 rfl) ?_
          refine lv_iload hx hb dX3_write_33 (lv_at hl 1 rfl) ?_
          refine lv_icmp_ge (tgt := 65) hx hb dX3_write_35 (by decide) (fun c_35 => ?_) (fun c_35 => ?_)
          · skip
            refine lv_aload_n hx hb dX3_write_65 rfl (lv_at hl 3 rfl) ?_
            refine lv_dup hx hb dX3_write_66 rfl ?_
            refine va_get (D := (dC, dI)) (ci := 3) (v := .int wr) (C := RX3) (T := TX3) (N := 17) hx hb hts (by decide +kernel) hown hK hP 0 rfl rfl 14 (by decide) (hts (.fieldLink RX3 79 "HouseLogModel" "writes" "I") (by decide +kernel)) (fun _ h9 => h9) rfl dX3_write_67 ?_
            refine lv_iconst (v := 1) hx hb dX3_write_70 (by decide) ?_
            refine lv_iadd hx hb dX3_write_71 ?_
            refine va_put (D := (dC, dI)) (ci := 3) (v := .int (wr + 1)) (ty := .int) (C := RX3) (T := TX3) (N := 17) hx hb hts (by decide +kernel) tyX3 tyX3_ok nmX3 hown hK hP hD hS 0 rfl rfl 14 (by decide) (hts (.fieldLink RX3 79 "HouseLogModel" "writes" "I") (by decide +kernel)) (fun _ h9 => h9) rfl (by decide +kernel) rfl rfl (Nat.le_of_ble_eq_true rfl) dX3_write_72 (fun H locs hP hD hS => ?_)
            have hP : va_P (dC, dI) hlCl [(qm, .inr (3, [.int th, .int (nI n), .ref qd, .int rw, .int ak, .ref qk, .ref ql, .ref qy, .int cb, .ref qc, .int dn, .int kp, .int (nI tt), .int md, .int (wr + 1), .ref qi, .int sm])), (qd, .inl (cAd, 8192, .inl (wdL D La (4096 * u + 64 * k) tt))), (qi, .inl (cAi, 64, .inl La))] H := hP
            have hD : va_D A [(qm, .inr (3, [.int th, .int (nI n), .ref qd, .int rw, .int ak, .ref qk, .ref ql, .ref qy, .int cb, .ref qc, .int dn, .int kp, .int (nI tt), .int md, .int (wr + 1), .ref qi, .int sm])), (qd, .inl (cAd, 8192, .inl (wdL D La (4096 * u + 64 * k) tt))), (qi, .inl (cAi, 64, .inl La))] := hD
            refine lv_aload_n hx hb dX3_write_75 rfl (lv_at hl 3 rfl) ?_
            refine lv_aload_n hx hb dX3_write_76 rfl (lv_at hl 3 rfl) ?_
            refine va_get (D := (dC, dI)) (ci := 3) (v := .int kp) (C := RX3) (T := TX3) (N := 17) hx hb hts (by decide +kernel) hown hK hP 0 rfl rfl 11 (by decide) (hts (.fieldLink RX3 25 "HouseLogModel" "keep" "I") (by decide +kernel)) (fun _ h9 => h9) rfl dX3_write_77 ?_
            refine lv_if_le (tgt := 92) hx hb dX3_write_80 (by decide) (fun c_80 => ?_) (fun c_80 => ?_)
            · skip
              refine lv_iconst (v := (-1)) hx hb dX3_write_92 (by decide) ?_
              refine va_put (D := (dC, dI)) (ci := 3) (v := .int (-1)) (ty := .int) (C := RX3) (T := TX3) (N := 17) hx hb hts (by decide +kernel) tyX3 tyX3_ok nmX3 hown hK hP hD hS 0 rfl rfl 11 (by decide) (hts (.fieldLink RX3 25 "HouseLogModel" "keep" "I") (by decide +kernel)) (fun _ h9 => h9) rfl (by decide +kernel) rfl rfl (Nat.le_of_ble_eq_true rfl) dX3_write_93 (fun H locs hP hD hS => ?_)
              have hP : va_P (dC, dI) hlCl [(qm, .inr (3, [.int th, .int (nI n), .ref qd, .int rw, .int ak, .ref qk, .ref ql, .ref qy, .int cb, .ref qc, .int dn, .int (-1), .int (nI tt), .int md, .int (wr + 1), .ref qi, .int sm])), (qd, .inl (cAd, 8192, .inl (wdL D La (4096 * u + 64 * k) tt))), (qi, .inl (cAi, 64, .inl La))] H := hP
              have hD : va_D A [(qm, .inr (3, [.int th, .int (nI n), .ref qd, .int rw, .int ak, .ref qk, .ref ql, .ref qy, .int cb, .ref qc, .int dn, .int (-1), .int (nI tt), .int md, .int (wr + 1), .ref qi, .int sm])), (qd, .inl (cAd, 8192, .inl (wdL D La (4096 * u + 64 * k) tt))), (qi, .inl (cAi, 64, .inl La))] := hD
              refine lv_iload_n hx hb dX3_write_96 rfl (lv_at hl 2 rfl) ?_
              refine lv_if_ne (tgt := 104) hx hb dX3_write_97 (by decide) (fun c_97 => ?_) (fun c_97 => ?_)
              · skip
                refine lv_iconst (v := 0) hx hb dX3_write_104 (by decide) ?_
                exact hr_z (v := 0) hx hb hr hlocks (by decide) (w1 := [(qm, .inr (3, [.int th, .int (nI n), .ref qd, .int rw, .int ak, .ref qk, .ref ql, .ref qy, .int cb, .ref qc, .int dn, .int (-1), .int (nI tt), .int md, .int (wr + 1), .ref qi, .int sm])), (qd, .inl (cAd, 8192, .inl (wdL D La (4096 * u + 64 * k) tt))), (qi, .inl (cAi, 64, .inl La))]) hP hD hK hS [0, 1, 2] [0, 1] rfl rfl rfl (by simp only [wrRI, if_pos c_4, if_pos c_80] <;> rfl) (by simp only [wrRI, wrRK, wrRD, if_pos c_4, if_pos c_80] <;> rfl) dX3_write_105
              · exact absurd c_97 (by decide)
            · skip
              refine lv_aload_n hx hb dX3_write_83 rfl (lv_at hl 3 rfl) ?_
              refine va_get (D := (dC, dI)) (ci := 3) (v := .int kp) (C := RX3) (T := TX3) (N := 17) hx hb hts (by decide +kernel) hown hK hP 0 rfl rfl 11 (by decide) (hts (.fieldLink RX3 25 "HouseLogModel" "keep" "I") (by decide +kernel)) (fun _ h9 => h9) rfl dX3_write_84 ?_
              refine lv_iconst (v := 1) hx hb dX3_write_87 (by decide) ?_
              refine lv_isub hx hb dX3_write_88 ?_
              refine lv_goto (tgt := 93) hx hb dX3_write_89 (by decide) ?_
              refine va_put (D := (dC, dI)) (ci := 3) (v := .int (kp - 1)) (ty := .int) (C := RX3) (T := TX3) (N := 17) hx hb hts (by decide +kernel) tyX3 tyX3_ok nmX3 hown hK hP hD hS 0 rfl rfl 11 (by decide) (hts (.fieldLink RX3 25 "HouseLogModel" "keep" "I") (by decide +kernel)) (fun _ h9 => h9) rfl (by decide +kernel) rfl rfl (Nat.le_of_ble_eq_true rfl) dX3_write_93 (fun H locs hP hD hS => ?_)
              have hP : va_P (dC, dI) hlCl [(qm, .inr (3, [.int th, .int (nI n), .ref qd, .int rw, .int ak, .ref qk, .ref ql, .ref qy, .int cb, .ref qc, .int dn, .int (kp - 1), .int (nI tt), .int md, .int (wr + 1), .ref qi, .int sm])), (qd, .inl (cAd, 8192, .inl (wdL D La (4096 * u + 64 * k) tt))), (qi, .inl (cAi, 64, .inl La))] H := hP
              have hD : va_D A [(qm, .inr (3, [.int th, .int (nI n), .ref qd, .int rw, .int ak, .ref qk, .ref ql, .ref qy, .int cb, .ref qc, .int dn, .int (kp - 1), .int (nI tt), .int md, .int (wr + 1), .ref qi, .int sm])), (qd, .inl (cAd, 8192, .inl (wdL D La (4096 * u + 64 * k) tt))), (qi, .inl (cAi, 64, .inl La))] := hD
              refine lv_iload_n hx hb dX3_write_96 rfl (lv_at hl 2 rfl) ?_
              refine lv_if_ne (tgt := 104) hx hb dX3_write_97 (by decide) (fun c_97 => ?_) (fun c_97 => ?_)
              · skip
                refine lv_iconst (v := 0) hx hb dX3_write_104 (by decide) ?_
                exact hr_z (v := 0) hx hb hr hlocks (by decide) (w1 := [(qm, .inr (3, [.int th, .int (nI n), .ref qd, .int rw, .int ak, .ref qk, .ref ql, .ref qy, .int cb, .ref qc, .int dn, .int (kp - 1), .int (nI tt), .int md, .int (wr + 1), .ref qi, .int sm])), (qd, .inl (cAd, 8192, .inl (wdL D La (4096 * u + 64 * k) tt))), (qi, .inl (cAi, 64, .inl La))]) hP hD hK hS [0, 1, 2] [0, 1] rfl rfl rfl (by simp only [wrRI, if_pos c_4, if_neg c_80] <;> rfl) (by simp only [wrRI, wrRK, wrRD, if_pos c_4, if_neg c_80] <;> rfl) dX3_write_105
              · exact absurd c_97 (by decide)
          · exact absurd (nI_le (a := tt) (b := tt) (Nat.le_refl _) (by omega)) c_35
        | succ k0 ih =>
          intro i H locs ls hi hP hD hS hl
          refine lv_iload hx hb dX3_write_31 (lv_at hl 0 rfl) ?_
          refine lv_iload hx hb dX3_write_33 (lv_at hl 1 rfl) ?_
          refine lv_icmp_ge (tgt := 65) hx hb dX3_write_35 (by decide) (fun c_35 => ?_) (fun c_35 => ?_)
          · exact absurd c_35 (nI_ge (a := i) (b := tt) (by omega) (by omega))
          · skip
            refine lv_aload_n hx hb dX3_write_38 rfl (lv_at hl 3 rfl) ?_
            refine va_get (D := (dC, dI)) (ci := 3) (v := .ref qd) (C := RX3) (T := TX3) (N := 17) hx hb hts (by decide +kernel) hown hK hP 0 rfl rfl 2 (by decide) (hts (.fieldLink RX3 7 "HouseLogModel" "disk" "[I") (by decide +kernel)) (fun _ h9 => h9) rfl dX3_write_39 ?_
            refine lv_aload_n hx hb dX3_write_42 rfl (lv_at hl 3 rfl) ?_
            refine lv_iload_n hx hb dX3_write_43 rfl (lv_at hl 4 rfl) ?_
            refine lv_iload_n hx hb dX3_write_44 rfl (lv_at hl 5 rfl) ?_
            refine hc_iV (As := [.int (nI u), .int (nI k)]) (rest := [.ref qd]) (wr := [(qd, .inl (cAd, 8192, .inl (wdL D La (4096 * u + 64 * k) i))), (qi, .inl (cAi, 64, .inl La))]) ⟨hx, hb, hml, hown, hts⟩ sx_T trivial (kX3_from l dC dI H.size qm qd qk ql qy qc qi n th rw ak cb dn kp (nI tt) md wr sm u k ) (cwV 2 hts gX3_write_X3_from rfl rfl rfl (by decide +kernel) ⟨Nat.le_of_ble_eq_true rfl, Nat.le_of_ble_eq_true rfl⟩) hK hP hD hS hA [0] [1, 2] [] rfl rfl rfl rfl rfl (by decide) (ci := 3) rfl rfl rfl rfl hl.1 rfl (Nat.le_of_ble_eq_true rfl) dX3_write_45 ⟨Nat.zero_le _, Nat.zero_le _⟩ (fun H locs hP hD hS => ?_)
            have hP : va_P (dC, dI) hlCl [(qm, .inr (3, [.int th, .int (nI n), .ref qd, .int rw, .int ak, .ref qk, .ref ql, .ref qy, .int cb, .ref qc, .int dn, .int kp, .int (nI tt), .int md, .int wr, .ref qi, .int sm])), (qd, .inl (cAd, 8192, .inl (wdL D La (4096 * u + 64 * k) i))), (qi, .inl (cAi, 64, .inl La))] H := hP.sub [2, 0, 1] rfl
            have hD : va_D A [(qm, .inr (3, [.int th, .int (nI n), .ref qd, .int rw, .int ak, .ref qk, .ref ql, .ref qy, .int cb, .ref qc, .int dn, .int kp, .int (nI tt), .int md, .int wr, .ref qi, .int sm])), (qd, .inl (cAd, 8192, .inl (wdL D La (4096 * u + 64 * k) i))), (qi, .inl (cAi, 64, .inl La))] := hD.sub [2, 0, 1] (by decide) rfl
            refine lv_iload hx hb dX3_write_48 (lv_at hl 0 rfl) ?_
            refine lv_iadd hx hb dX3_write_50 ?_
            rw [show ((nI (4096 * u + 64 * k)) + (nI i) : Int32) = nI (4096 * u + 64 * k + i) from nI_add (4096 * u + 64 * k) i]
            refine lv_aload_n hx hb dX3_write_51 rfl (lv_at hl 3 rfl) ?_
            refine va_get (D := (dC, dI)) (ci := 3) (v := .ref qi) (C := RX3) (T := TX3) (N := 17) hx hb hts (by decide +kernel) hown hK hP 0 rfl rfl 15 (by decide) (hts (.fieldLink RX3 29 "HouseLogModel" "laid" "[I") (by decide +kernel)) (fun _ h9 => h9) rfl dX3_write_52 ?_
            refine lv_iload hx hb dX3_write_55 (lv_at hl 0 rfl) ?_
            refine va_iald hx hb hK hP 2 1 rfl rfl (i := nI i) (vp_in_nI (n := i) (by omega) (by decide)) dX3_write_57 ?_
            refine W.eq (g2 := F0 m 58 ls (.int (La i) :: .int (nI (4096 * u + 64 * k + i)) :: .ref qd :: [])) (by rw [show (nI i : Int32).toNatClampNeg = i from nI_clamp (by omega)]) ?_
            refine va_iast hx hb hK hP hD hS 1 0 rfl rfl (i := nI (4096 * u + 64 * k + i)) (vp_in_nI (n := 4096 * u + 64 * k + i) (by omega) (by decide)) dX3_write_58 (fun H locs hP hD hS => ?_)
            rw [show (nI (4096 * u + 64 * k + i) : Int32).toNatClampNeg = 4096 * u + 64 * k + i from nI_clamp (by omega)] at hP hD
            have hP : va_P (dC, dI) hlCl [(qm, .inr (3, [.int th, .int (nI n), .ref qd, .int rw, .int ak, .ref qk, .ref ql, .ref qy, .int cb, .ref qc, .int dn, .int kp, .int (nI tt), .int md, .int wr, .ref qi, .int sm])), (qd, .inl (cAd, 8192, .inl (upd (wdL D La (4096 * u + 64 * k) i) (4096 * u + 64 * k + i) (La i)))), (qi, .inl (cAi, 64, .inl La))] H := hP
            have hD : va_D A [(qm, .inr (3, [.int th, .int (nI n), .ref qd, .int rw, .int ak, .ref qk, .ref ql, .ref qy, .int cb, .ref qc, .int dn, .int kp, .int (nI tt), .int md, .int wr, .ref qi, .int sm])), (qd, .inl (cAd, 8192, .inl (upd (wdL D La (4096 * u + 64 * k) i) (4096 * u + 64 * k + i) (La i)))), (qi, .inl (cAi, 64, .inl La))] := hD
            refine lv_iinc (v := nI (i + 1)) (lv' := [(5, .int (nI (i + 1))), (4, .int (nI tt)), (3, .int 1), (0, .ref qm), (1, .int (nI u)), (2, .int (nI k))]) hx hb dX3_write_59 hl (k := 0) rfl (nI_add i 1) (by decide) rfl (fun ls hl => ?_)
            refine lv_goto (tgt := 31) hx hb dX3_write_62 (by decide) ?_
            exact ih (i + 1) H locs ls (by omega)  hP hD hS (lv_sub hl [0, 1, 2, 3, 4, 5] rfl)
      exact loop tt 0 H locs ls (by omega)  hP hD hS (lv_sub hl [0, 1, 2, 3, 4, 5] rfl)

set_option maxHeartbeats 4000000 in
set_option maxRecDepth 100000 in
theorem kX3_find (l : Launch) (dC : Nat → ClassId) (dI : Nat → Nat → Nat) (sz : Nat) (qm qd qk ql qy qc qi : Nat) (n : Nat) (cAd cAk cAl cAy : ClassId) (th rw ak cb dn kp tr md wr sm : Int32) (D K Ln By : Nat → Int32) (u k : Nat) (hu : u ≤ 1) (hk : k < 64) (h5 : D (4096 * u + 64 * k + 5) = nI (lz D (4096 * u + 64 * k + 5))) (h52 : lz D (4096 * u + 64 * k + 5) ≤ 40) : Mv_ l yX3_find wsX3_find 1 22 dC dI (fun _ => True) [.ref qm, .int (nI u), .int (nI k)] [(qm, .inr (3, [.int th, .int (nI n), .ref qd, .int rw, .int ak, .ref qk, .ref ql, .ref qy, .int cb, .ref qc, .int dn, .int kp, .int tr, .int md, .int wr, .ref qi, .int sm])), (qd, .inl (cAd, 8192, .inl D)), (qk, .inl (cAk, 64, .inl K)), (ql, .inl (cAl, 64, .inl Ln)), (qy, .inl (cAy, 2560, .inl By))] [(cAd, .int), (cAk, .int), (cAl, .int), (cAy, .int)] sz [(qm, .inr (3, [.int th, .int (nI n), .ref qd, .int rw, .int ak, .ref qk, .ref ql, .ref qy, .int cb, .ref qc, .int dn, .int kp, .int tr, .int md, .int wr, .ref qi, .int sm])), (qd, .inl (cAd, 8192, .inl D)), (qk, .inl (cAk, 64, .inl (upd K k (D (4096 * u + 64 * k + 4))))), (ql, .inl (cAl, 64, .inl (upd Ln k (D (4096 * u + 64 * k + 5))))), (qy, .inl (cAy, 2560, .inl (fdL By D k (4096 * u + 64 * k) (lz D (4096 * u + 64 * k + 5)))))] := by
  refine hm_ (cc := cX3_find) (maxL := 5) (ret := none) (Qc := fun A => va_Qv (fun (_ : Unit) => True) (fun _ t9 => qw_ dC dI A [(qm, .inr (3, [.int th, .int (nI n), .ref qd, .int rw, .int ak, .ref qk, .ref ql, .ref qy, .int cb, .ref qc, .int dn, .int kp, .int tr, .int md, .int wr, .ref qi, .int sm])), (qd, .inl (cAd, 8192, .inl D)), (qk, .inl (cAk, 64, .inl (upd K k (D (4096 * u + 64 * k + 4))))), (ql, .inl (cAl, 64, .inl (upd Ln k (D (4096 * u + 64 * k + 5))))), (qy, .inl (cAy, 2560, .inl (fdL By D k (4096 * u + 64 * k) (lz D (4096 * u + 64 * k + 5)))))] [(cAd, .int), (cAk, .int), (cAl, .int), (cAy, .int)] t9) A) (by decide) rfl (Nat.le_of_ble_eq_true rfl) ?_
  intro p e s m below meth c A H locs ls hx hb hr hml hts hown hlocks hsz hP hK hD hE hA hS hl
  have hl : lv_has ls 5 [(0, .ref qm), (1, .int (nI u)), (2, .int (nI k))] := hl
  have hown : s.vm.findClass RX3 = some m.cls := hown
  refine lv_aload_n hx hb dX3_find_0 rfl (lv_at hl 0 rfl) ?_
  refine lv_iload_n hx hb dX3_find_1 rfl (lv_at hl 1 rfl) ?_
  refine lv_iload_n hx hb dX3_find_2 rfl (lv_at hl 2 rfl) ?_
  refine hc_iV (As := [.int (nI u), .int (nI k)]) (rest := []) (wr := [(qd, .inl (cAd, 8192, .inl D)), (qk, .inl (cAk, 64, .inl K)), (ql, .inl (cAl, 64, .inl Ln)), (qy, .inl (cAy, 2560, .inl By))]) ⟨hx, hb, hml, hown, hts⟩ sx_T trivial (kX3_from l dC dI H.size qm qd qk ql qy qc qi n th rw ak cb dn kp tr md wr sm u k ) (cwV 2 hts gX3_find_X3_from rfl rfl rfl (by decide +kernel) ⟨Nat.le_of_ble_eq_true rfl, Nat.le_of_ble_eq_true rfl⟩) hK hP hD hS hA [0] [1, 2, 3, 4] [] rfl rfl rfl rfl rfl (by decide) (ci := 3) rfl rfl rfl rfl hl.1 rfl (Nat.le_of_ble_eq_true rfl) dX3_find_3 ⟨Nat.zero_le _, Nat.zero_le _⟩ (fun H locs hP hD hS => ?_)
  have hP : va_P (dC, dI) hlCl [(qm, .inr (3, [.int th, .int (nI n), .ref qd, .int rw, .int ak, .ref qk, .ref ql, .ref qy, .int cb, .ref qc, .int dn, .int kp, .int tr, .int md, .int wr, .ref qi, .int sm])), (qd, .inl (cAd, 8192, .inl D)), (qk, .inl (cAk, 64, .inl K)), (ql, .inl (cAl, 64, .inl Ln)), (qy, .inl (cAy, 2560, .inl By))] H := hP.sub [4, 0, 1, 2, 3] rfl
  have hD : va_D A [(qm, .inr (3, [.int th, .int (nI n), .ref qd, .int rw, .int ak, .ref qk, .ref ql, .ref qy, .int cb, .ref qc, .int dn, .int kp, .int tr, .int md, .int wr, .ref qi, .int sm])), (qd, .inl (cAd, 8192, .inl D)), (qk, .inl (cAk, 64, .inl K)), (ql, .inl (cAl, 64, .inl Ln)), (qy, .inl (cAy, 2560, .inl By))] := hD.sub [4, 0, 1, 2, 3] (by decide) rfl
  refine lv_istore_n (lv' := [(3, .int (nI (4096 * u + 64 * k))), (0, .ref qm), (1, .int (nI u)), (2, .int (nI k))]) hx hb dX3_find_6 rfl hl (by decide) rfl (fun ls hl => ?_)
  refine lv_aload_n hx hb dX3_find_7 rfl (lv_at hl 1 rfl) ?_
  refine va_get (D := (dC, dI)) (ci := 3) (v := .ref qk) (C := RX3) (T := TX3) (N := 17) hx hb hts (by decide +kernel) hown hK hP 0 rfl rfl 5 (by decide) (hts (.fieldLink RX3 13 "HouseLogModel" "kinds" "[I") (by decide +kernel)) (fun _ h9 => h9) rfl dX3_find_8 ?_
  refine lv_iload_n hx hb dX3_find_11 rfl (lv_at hl 3 rfl) ?_
  refine lv_aload_n hx hb dX3_find_12 rfl (lv_at hl 1 rfl) ?_
  refine va_get (D := (dC, dI)) (ci := 3) (v := .ref qd) (C := RX3) (T := TX3) (N := 17) hx hb hts (by decide +kernel) hown hK hP 0 rfl rfl 2 (by decide) (hts (.fieldLink RX3 7 "HouseLogModel" "disk" "[I") (by decide +kernel)) (fun _ h9 => h9) rfl dX3_find_13 ?_
  refine lv_iload_n hx hb dX3_find_16 rfl (lv_at hl 0 rfl) ?_
  refine lv_iconst (v := 4) hx hb dX3_find_17 (by decide) ?_
  refine lv_iadd hx hb dX3_find_18 ?_
  rw [show ((nI (4096 * u + 64 * k)) + 4 : Int32) = nI (4096 * u + 64 * k + 4) from nI_add (4096 * u + 64 * k) 4]
  refine va_iald hx hb hK hP 1 0 rfl rfl (i := nI (4096 * u + 64 * k + 4)) (vp_in_nI (n := 4096 * u + 64 * k + 4) (by omega) (by decide)) dX3_find_19 ?_
  refine W.eq (g2 := F0 m 20 ls (.int (D (4096 * u + 64 * k + 4)) :: .int (nI k) :: .ref qk :: [])) (by rw [show (nI (4096 * u + 64 * k + 4) : Int32).toNatClampNeg = 4096 * u + 64 * k + 4 from nI_clamp (by omega)]) ?_
  refine va_iast hx hb hK hP hD hS 2 1 rfl rfl (i := nI k) (vp_in_nI (n := k) (by omega) (by decide)) dX3_find_20 (fun H locs hP hD hS => ?_)
  rw [show (nI k : Int32).toNatClampNeg = k from nI_clamp (by omega)] at hP hD
  have hP : va_P (dC, dI) hlCl [(qm, .inr (3, [.int th, .int (nI n), .ref qd, .int rw, .int ak, .ref qk, .ref ql, .ref qy, .int cb, .ref qc, .int dn, .int kp, .int tr, .int md, .int wr, .ref qi, .int sm])), (qd, .inl (cAd, 8192, .inl D)), (qk, .inl (cAk, 64, .inl (upd K k (D (4096 * u + 64 * k + 4))))), (ql, .inl (cAl, 64, .inl Ln)), (qy, .inl (cAy, 2560, .inl By))] H := hP
  have hD : va_D A [(qm, .inr (3, [.int th, .int (nI n), .ref qd, .int rw, .int ak, .ref qk, .ref ql, .ref qy, .int cb, .ref qc, .int dn, .int kp, .int tr, .int md, .int wr, .ref qi, .int sm])), (qd, .inl (cAd, 8192, .inl D)), (qk, .inl (cAk, 64, .inl (upd K k (D (4096 * u + 64 * k + 4))))), (ql, .inl (cAl, 64, .inl Ln)), (qy, .inl (cAy, 2560, .inl By))] := hD
  refine lv_aload_n hx hb dX3_find_21 rfl (lv_at hl 1 rfl) ?_
  refine va_get (D := (dC, dI)) (ci := 3) (v := .ref ql) (C := RX3) (T := TX3) (N := 17) hx hb hts (by decide +kernel) hown hK hP 0 rfl rfl 6 (by decide) (hts (.fieldLink RX3 16 "HouseLogModel" "lengths" "[I") (by decide +kernel)) (fun _ h9 => h9) rfl dX3_find_22 ?_
  refine lv_iload_n hx hb dX3_find_25 rfl (lv_at hl 3 rfl) ?_
  refine lv_aload_n hx hb dX3_find_26 rfl (lv_at hl 1 rfl) ?_
  refine va_get (D := (dC, dI)) (ci := 3) (v := .ref qd) (C := RX3) (T := TX3) (N := 17) hx hb hts (by decide +kernel) hown hK hP 0 rfl rfl 2 (by decide) (hts (.fieldLink RX3 7 "HouseLogModel" "disk" "[I") (by decide +kernel)) (fun _ h9 => h9) rfl dX3_find_27 ?_
  refine lv_iload_n hx hb dX3_find_30 rfl (lv_at hl 0 rfl) ?_
  refine lv_iconst (v := 5) hx hb dX3_find_31 (by decide) ?_
  refine lv_iadd hx hb dX3_find_32 ?_
  rw [show ((nI (4096 * u + 64 * k)) + 5 : Int32) = nI (4096 * u + 64 * k + 5) from nI_add (4096 * u + 64 * k) 5]
  refine va_iald hx hb hK hP 1 0 rfl rfl (i := nI (4096 * u + 64 * k + 5)) (vp_in_nI (n := 4096 * u + 64 * k + 5) (by omega) (by decide)) dX3_find_33 ?_
  refine W.eq (g2 := F0 m 34 ls (.int (D (4096 * u + 64 * k + 5)) :: .int (nI k) :: .ref ql :: [])) (by rw [show (nI (4096 * u + 64 * k + 5) : Int32).toNatClampNeg = 4096 * u + 64 * k + 5 from nI_clamp (by omega)]) ?_
  refine va_iast hx hb hK hP hD hS 3 2 rfl rfl (i := nI k) (vp_in_nI (n := k) (by omega) (by decide)) dX3_find_34 (fun H locs hP hD hS => ?_)
  rw [show (nI k : Int32).toNatClampNeg = k from nI_clamp (by omega)] at hP hD
  have hP : va_P (dC, dI) hlCl [(qm, .inr (3, [.int th, .int (nI n), .ref qd, .int rw, .int ak, .ref qk, .ref ql, .ref qy, .int cb, .ref qc, .int dn, .int kp, .int tr, .int md, .int wr, .ref qi, .int sm])), (qd, .inl (cAd, 8192, .inl D)), (qk, .inl (cAk, 64, .inl (upd K k (D (4096 * u + 64 * k + 4))))), (ql, .inl (cAl, 64, .inl (upd Ln k (D (4096 * u + 64 * k + 5))))), (qy, .inl (cAy, 2560, .inl By))] H := hP
  have hD : va_D A [(qm, .inr (3, [.int th, .int (nI n), .ref qd, .int rw, .int ak, .ref qk, .ref ql, .ref qy, .int cb, .ref qc, .int dn, .int kp, .int tr, .int md, .int wr, .ref qi, .int sm])), (qd, .inl (cAd, 8192, .inl D)), (qk, .inl (cAk, 64, .inl (upd K k (D (4096 * u + 64 * k + 4))))), (ql, .inl (cAl, 64, .inl (upd Ln k (D (4096 * u + 64 * k + 5))))), (qy, .inl (cAy, 2560, .inl By))] := hD
  refine lv_iconst (v := 0) hx hb dX3_find_35 (by decide) ?_
  refine lv_istore (lv' := [(4, .int 0), (3, .int (nI (4096 * u + 64 * k))), (0, .ref qm), (1, .int (nI u)), (2, .int (nI k))]) hx hb dX3_find_36 hl (by decide) rfl (fun ls hl => ?_)
  have loop : ∀ (k0 i : Nat) (H : Heap) (locs : List Loc) (ls : Array Slot), (i + k0 = lz D (4096 * u + 64 * k + 5)) → va_P (dC, dI) hlCl [(qm, .inr (3, [.int th, .int (nI n), .ref qd, .int rw, .int ak, .ref qk, .ref ql, .ref qy, .int cb, .ref qc, .int dn, .int kp, .int tr, .int md, .int wr, .ref qi, .int sm])), (qd, .inl (cAd, 8192, .inl D)), (qk, .inl (cAk, 64, .inl (upd K k (D (4096 * u + 64 * k + 4))))), (ql, .inl (cAl, 64, .inl (upd Ln k (D (4096 * u + 64 * k + 5))))), (qy, .inl (cAy, 2560, .inl (fdL By D k (4096 * u + 64 * k) i)))] H → va_D A [(qm, .inr (3, [.int th, .int (nI n), .ref qd, .int rw, .int ak, .ref qk, .ref ql, .ref qy, .int cb, .ref qc, .int dn, .int kp, .int tr, .int md, .int wr, .ref qi, .int sm])), (qd, .inl (cAd, 8192, .inl D)), (qk, .inl (cAk, 64, .inl (upd K k (D (4096 * u + 64 * k + 4))))), (ql, .inl (cAl, 64, .inl (upd Ln k (D (4096 * u + 64 * k + 5))))), (qy, .inl (cAy, 2560, .inl (fdL By D k (4096 * u + 64 * k) i)))] → va_S A s.heap H locs → lv_has ls 5 [(4, .int (nI i)), (3, .int (nI (4096 * u + 64 * k))), (0, .ref qm), (1, .int (nI u)), (2, .int (nI k))] → W p l e (rm_ 1 22) s m [.ref qm, .int (nI u), .int (nI k)].toArray below meth c H locs 0 0 (MQ below ((fun A => va_Qv (fun (_ : Unit) => True) (fun _ t9 => qw_ dC dI A [(qm, .inr (3, [.int th, .int (nI n), .ref qd, .int rw, .int ak, .ref qk, .ref ql, .ref qy, .int cb, .ref qc, .int dn, .int kp, .int tr, .int md, .int wr, .ref qi, .int sm])), (qd, .inl (cAd, 8192, .inl D)), (qk, .inl (cAk, 64, .inl (upd K k (D (4096 * u + 64 * k + 4))))), (ql, .inl (cAl, 64, .inl (upd Ln k (D (4096 * u + 64 * k + 5))))), (qy, .inl (cAy, 2560, .inl (fdL By D k (4096 * u + 64 * k) (lz D (4096 * u + 64 * k + 5)))))] [(cAd, .int), (cAk, .int), (cAl, .int), (cAy, .int)] t9) A) A) [.ref qm, .int (nI u), .int (nI k)].toArray s 0 0 A) (F0 m 38 ls []) := by
    intro k0
    induction k0 with
    | zero =>
      intro i H locs ls hi hP hD hS hl
      obtain rfl : lz D (4096 * u + 64 * k + 5) = i := by omega
      refine lv_iload hx hb dX3_find_38 (lv_at hl 0 rfl) ?_
      refine lv_aload_n hx hb dX3_find_40 rfl (lv_at hl 2 rfl) ?_
      refine va_get (D := (dC, dI)) (ci := 3) (v := .ref ql) (C := RX3) (T := TX3) (N := 17) hx hb hts (by decide +kernel) hown hK hP 0 rfl rfl 6 (by decide) (hts (.fieldLink RX3 16 "HouseLogModel" "lengths" "[I") (by decide +kernel)) (fun _ h9 => h9) rfl dX3_find_41 ?_
      refine lv_iload_n hx hb dX3_find_44 rfl (lv_at hl 4 rfl) ?_
      refine va_iald hx hb hK hP 3 2 rfl rfl (i := nI k) (vp_in_nI (n := k) (by omega) (by decide)) dX3_find_45 ?_
      refine W.eq (g2 := F0 m 46 ls (.int ((upd Ln k (D (4096 * u + 64 * k + 5))) k) :: .int (nI (lz D (4096 * u + 64 * k + 5))) :: [])) (by rw [show (nI k : Int32).toNatClampNeg = k from nI_clamp (by omega)]) ?_
      refine W.eq (g2 := F0 m 46 ls (.int (nI (lz D (4096 * u + 64 * k + 5))) :: .int (nI (lz D (4096 * u + 64 * k + 5))) :: [])) (by rw [pk_us, h5]) ?_
      refine lv_icmp_ge (tgt := 79) hx hb dX3_find_46 (by decide) (fun c_46 => ?_) (fun c_46 => ?_)
      · skip
        exact hr_v hx hb hr hlocks (w1 := [(qm, .inr (3, [.int th, .int (nI n), .ref qd, .int rw, .int ak, .ref qk, .ref ql, .ref qy, .int cb, .ref qc, .int dn, .int kp, .int tr, .int md, .int wr, .ref qi, .int sm])), (qd, .inl (cAd, 8192, .inl D)), (qk, .inl (cAk, 64, .inl (upd K k (D (4096 * u + 64 * k + 4))))), (ql, .inl (cAl, 64, .inl (upd Ln k (D (4096 * u + 64 * k + 5))))), (qy, .inl (cAy, 2560, .inl (fdL By D k (4096 * u + 64 * k) (lz D (4096 * u + 64 * k + 5)))))]) hP hD hK hS [0, 1, 2, 3, 4] [0, 1, 2, 3] rfl rfl rfl (rfl) dX3_find_79
      · exact absurd (nI_le (a := lz D (4096 * u + 64 * k + 5)) (b := lz D (4096 * u + 64 * k + 5)) (Nat.le_refl _) (by omega)) c_46
    | succ k0 ih =>
      intro i H locs ls hi hP hD hS hl
      refine lv_iload hx hb dX3_find_38 (lv_at hl 0 rfl) ?_
      refine lv_aload_n hx hb dX3_find_40 rfl (lv_at hl 2 rfl) ?_
      refine va_get (D := (dC, dI)) (ci := 3) (v := .ref ql) (C := RX3) (T := TX3) (N := 17) hx hb hts (by decide +kernel) hown hK hP 0 rfl rfl 6 (by decide) (hts (.fieldLink RX3 16 "HouseLogModel" "lengths" "[I") (by decide +kernel)) (fun _ h9 => h9) rfl dX3_find_41 ?_
      refine lv_iload_n hx hb dX3_find_44 rfl (lv_at hl 4 rfl) ?_
      refine va_iald hx hb hK hP 3 2 rfl rfl (i := nI k) (vp_in_nI (n := k) (by omega) (by decide)) dX3_find_45 ?_
      refine W.eq (g2 := F0 m 46 ls (.int ((upd Ln k (D (4096 * u + 64 * k + 5))) k) :: .int (nI i) :: [])) (by rw [show (nI k : Int32).toNatClampNeg = k from nI_clamp (by omega)]) ?_
      refine W.eq (g2 := F0 m 46 ls (.int (nI (lz D (4096 * u + 64 * k + 5))) :: .int (nI i) :: [])) (by rw [pk_us, h5]) ?_
      refine lv_icmp_ge (tgt := 79) hx hb dX3_find_46 (by decide) (fun c_46 => ?_) (fun c_46 => ?_)
      · exact absurd c_46 (nI_ge (a := i) (b := lz D (4096 * u + 64 * k + 5)) (by omega) (by omega))
      · skip
        refine lv_aload_n hx hb dX3_find_49 rfl (lv_at hl 2 rfl) ?_
        refine va_get (D := (dC, dI)) (ci := 3) (v := .ref qy) (C := RX3) (T := TX3) (N := 17) hx hb hts (by decide +kernel) hown hK hP 0 rfl rfl 7 (by decide) (hts (.fieldLink RX3 19 "HouseLogModel" "bytes" "[I") (by decide +kernel)) (fun _ h9 => h9) rfl dX3_find_50 ?_
        refine lv_bipush (v := 40) hx hb dX3_find_53 (by decide) ?_
        refine lv_iload_n hx hb dX3_find_55 rfl (lv_at hl 4 rfl) ?_
        refine lv_imul hx hb dX3_find_56 ?_
        rw [show (40 * (nI k) : Int32) = nI (40 * k) from pk_mul 40 k]
        refine lv_iload hx hb dX3_find_57 (lv_at hl 0 rfl) ?_
        refine lv_iadd hx hb dX3_find_59 ?_
        rw [show ((nI (40 * k)) + (nI i) : Int32) = nI (40 * k + i) from nI_add (40 * k) i]
        refine lv_aload_n hx hb dX3_find_60 rfl (lv_at hl 2 rfl) ?_
        refine va_get (D := (dC, dI)) (ci := 3) (v := .ref qd) (C := RX3) (T := TX3) (N := 17) hx hb hts (by decide +kernel) hown hK hP 0 rfl rfl 2 (by decide) (hts (.fieldLink RX3 7 "HouseLogModel" "disk" "[I") (by decide +kernel)) (fun _ h9 => h9) rfl dX3_find_61 ?_
        refine lv_iload_n hx hb dX3_find_64 rfl (lv_at hl 1 rfl) ?_
        refine lv_bipush (v := 6) hx hb dX3_find_65 (by decide) ?_
        refine lv_iadd hx hb dX3_find_67 ?_
        rw [show ((nI (4096 * u + 64 * k)) + 6 : Int32) = nI (4096 * u + 64 * k + 6) from nI_add (4096 * u + 64 * k) 6]
        refine lv_iload hx hb dX3_find_68 (lv_at hl 0 rfl) ?_
        refine lv_iadd hx hb dX3_find_70 ?_
        rw [show ((nI (4096 * u + 64 * k + 6)) + (nI i) : Int32) = nI (4096 * u + 64 * k + 6 + i) from nI_add (4096 * u + 64 * k + 6) i]
        refine va_iald hx hb hK hP 1 0 rfl rfl (i := nI (4096 * u + 64 * k + 6 + i)) (vp_in_nI (n := 4096 * u + 64 * k + 6 + i) (by omega) (by decide)) dX3_find_71 ?_
        refine W.eq (g2 := F0 m 72 ls (.int (D (4096 * u + 64 * k + 6 + i)) :: .int (nI (40 * k + i)) :: .ref qy :: [])) (by rw [show (nI (4096 * u + 64 * k + 6 + i) : Int32).toNatClampNeg = 4096 * u + 64 * k + 6 + i from nI_clamp (by omega)]) ?_
        refine va_iast hx hb hK hP hD hS 4 3 rfl rfl (i := nI (40 * k + i)) (vp_in_nI (n := 40 * k + i) (by omega) (by decide)) dX3_find_72 (fun H locs hP hD hS => ?_)
        rw [show (nI (40 * k + i) : Int32).toNatClampNeg = 40 * k + i from nI_clamp (by omega)] at hP hD
        have hP : va_P (dC, dI) hlCl [(qm, .inr (3, [.int th, .int (nI n), .ref qd, .int rw, .int ak, .ref qk, .ref ql, .ref qy, .int cb, .ref qc, .int dn, .int kp, .int tr, .int md, .int wr, .ref qi, .int sm])), (qd, .inl (cAd, 8192, .inl D)), (qk, .inl (cAk, 64, .inl (upd K k (D (4096 * u + 64 * k + 4))))), (ql, .inl (cAl, 64, .inl (upd Ln k (D (4096 * u + 64 * k + 5))))), (qy, .inl (cAy, 2560, .inl (upd (fdL By D k (4096 * u + 64 * k) i) (40 * k + i) (D (4096 * u + 64 * k + 6 + i)))))] H := hP
        have hD : va_D A [(qm, .inr (3, [.int th, .int (nI n), .ref qd, .int rw, .int ak, .ref qk, .ref ql, .ref qy, .int cb, .ref qc, .int dn, .int kp, .int tr, .int md, .int wr, .ref qi, .int sm])), (qd, .inl (cAd, 8192, .inl D)), (qk, .inl (cAk, 64, .inl (upd K k (D (4096 * u + 64 * k + 4))))), (ql, .inl (cAl, 64, .inl (upd Ln k (D (4096 * u + 64 * k + 5))))), (qy, .inl (cAy, 2560, .inl (upd (fdL By D k (4096 * u + 64 * k) i) (40 * k + i) (D (4096 * u + 64 * k + 6 + i)))))] := hD
        refine lv_iinc (v := nI (i + 1)) (lv' := [(4, .int (nI (i + 1))), (3, .int (nI (4096 * u + 64 * k))), (0, .ref qm), (1, .int (nI u)), (2, .int (nI k))]) hx hb dX3_find_73 hl (k := 0) rfl (nI_add i 1) (by decide) rfl (fun ls hl => ?_)
        refine lv_goto (tgt := 38) hx hb dX3_find_76 (by decide) ?_
        exact ih (i + 1) H locs ls (by omega)  hP hD hS (lv_sub hl [0, 1, 2, 3, 4] rfl)
  exact loop (lz D (4096 * u + 64 * k + 5)) 0 H locs ls (by omega)  hP hD hS (lv_sub hl [0, 1, 2, 3, 4] rfl)

set_option maxHeartbeats 4000000 in
set_option maxRecDepth 100000 in
theorem kX3_mend (l : Launch) (dC : Nat → ClassId) (dI : Nat → Nat → Nat) (sz : Nat) (qm qd qk ql qy qc qi : Nat) (n : Nat) (cAd : ClassId) (th rw ak cb dn kp tr md wr sm : Int32) (D : Nat → Int32) (u k : Nat) (hu : u ≤ 1) (hk : k < 64) : Mv_ l yX3_mend wsX3_mend 1 22 dC dI (fun _ => True) [.ref qm, .int (nI u), .int (nI k)] [(qm, .inr (3, [.int th, .int (nI n), .ref qd, .int rw, .int ak, .ref qk, .ref ql, .ref qy, .int cb, .ref qc, .int dn, .int kp, .int tr, .int md, .int wr, .ref qi, .int sm])), (qd, .inl (cAd, 8192, .inl D))] [(cAd, .int)] sz [(qm, .inr (3, [.int th, .int (nI n), .ref qd, .int rw, .int ak, .ref qk, .ref ql, .ref qy, .int cb, .ref qc, .int dn, .int kp, .int tr, .int (md + 1), .int wr, .ref qi, .int sm])), (qd, .inl (cAd, 8192, .inl (mdL D (4096 * u + 64 * k) (4096 * (1 - u) + 64 * k) 64)))] := by
  refine hm_ (cc := cX3_mend) (maxL := 4) (ret := none) (Qc := fun A => va_Qv (fun (_ : Unit) => True) (fun _ t9 => qw_ dC dI A [(qm, .inr (3, [.int th, .int (nI n), .ref qd, .int rw, .int ak, .ref qk, .ref ql, .ref qy, .int cb, .ref qc, .int dn, .int kp, .int tr, .int (md + 1), .int wr, .ref qi, .int sm])), (qd, .inl (cAd, 8192, .inl (mdL D (4096 * u + 64 * k) (4096 * (1 - u) + 64 * k) 64)))] [(cAd, .int)] t9) A) (by decide) rfl (Nat.le_of_ble_eq_true rfl) ?_
  intro p e s m below meth c A H locs ls hx hb hr hml hts hown hlocks hsz hP hK hD hE hA hS hl
  have hl : lv_has ls 4 [(0, .ref qm), (1, .int (nI u)), (2, .int (nI k))] := hl
  have hown : s.vm.findClass RX3 = some m.cls := hown
  refine lv_iconst (v := 0) hx hb dX3_mend_0 (by decide) ?_
  refine lv_istore_n (lv' := [(3, .int 0), (0, .ref qm), (1, .int (nI u)), (2, .int (nI k))]) hx hb dX3_mend_1 rfl hl (by decide) rfl (fun ls hl => ?_)
  have loop : ∀ (k0 i : Nat) (H : Heap) (locs : List Loc) (ls : Array Slot), (i + k0 = 64) → va_P (dC, dI) hlCl [(qm, .inr (3, [.int th, .int (nI n), .ref qd, .int rw, .int ak, .ref qk, .ref ql, .ref qy, .int cb, .ref qc, .int dn, .int kp, .int tr, .int md, .int wr, .ref qi, .int sm])), (qd, .inl (cAd, 8192, .inl (mdL D (4096 * u + 64 * k) (4096 * (1 - u) + 64 * k) i)))] H → va_D A [(qm, .inr (3, [.int th, .int (nI n), .ref qd, .int rw, .int ak, .ref qk, .ref ql, .ref qy, .int cb, .ref qc, .int dn, .int kp, .int tr, .int md, .int wr, .ref qi, .int sm])), (qd, .inl (cAd, 8192, .inl (mdL D (4096 * u + 64 * k) (4096 * (1 - u) + 64 * k) i)))] → va_S A s.heap H locs → lv_has ls 4 [(3, .int (nI i)), (0, .ref qm), (1, .int (nI u)), (2, .int (nI k))] → W p l e (rm_ 1 22) s m [.ref qm, .int (nI u), .int (nI k)].toArray below meth c H locs 0 0 (MQ below ((fun A => va_Qv (fun (_ : Unit) => True) (fun _ t9 => qw_ dC dI A [(qm, .inr (3, [.int th, .int (nI n), .ref qd, .int rw, .int ak, .ref qk, .ref ql, .ref qy, .int cb, .ref qc, .int dn, .int kp, .int tr, .int (md + 1), .int wr, .ref qi, .int sm])), (qd, .inl (cAd, 8192, .inl (mdL D (4096 * u + 64 * k) (4096 * (1 - u) + 64 * k) 64)))] [(cAd, .int)] t9) A) A) [.ref qm, .int (nI u), .int (nI k)].toArray s 0 0 A) (F0 m 2 ls []) := by
    intro k0
    induction k0 with
    | zero =>
      intro i H locs ls hi hP hD hS hl
      obtain rfl : 64 = i := by omega
      refine lv_iload_n hx hb dX3_mend_2 rfl (lv_at hl 0 rfl) ?_
      refine lv_bipush (v := 64) hx hb dX3_mend_3 (by decide) ?_
      refine lv_icmp_ge (tgt := 42) hx hb dX3_mend_5 (by decide) (fun c_5 => ?_) (fun c_5 => ?_)
      · skip
        refine lv_aload_n hx hb dX3_mend_42 rfl (lv_at hl 1 rfl) ?_
        refine lv_dup hx hb dX3_mend_43 rfl ?_
        refine va_get (D := (dC, dI)) (ci := 3) (v := .int md) (C := RX3) (T := TX3) (N := 17) hx hb hts (by decide +kernel) hown hK hP 0 rfl rfl 13 (by decide) (hts (.fieldLink RX3 95 "HouseLogModel" "mended" "I") (by decide +kernel)) (fun _ h9 => h9) rfl dX3_mend_44 ?_
        refine lv_iconst (v := 1) hx hb dX3_mend_47 (by decide) ?_
        refine lv_iadd hx hb dX3_mend_48 ?_
        refine va_put (D := (dC, dI)) (ci := 3) (v := .int (md + 1)) (ty := .int) (C := RX3) (T := TX3) (N := 17) hx hb hts (by decide +kernel) tyX3 tyX3_ok nmX3 hown hK hP hD hS 0 rfl rfl 13 (by decide) (hts (.fieldLink RX3 95 "HouseLogModel" "mended" "I") (by decide +kernel)) (fun _ h9 => h9) rfl (by decide +kernel) rfl rfl (Nat.le_of_ble_eq_true rfl) dX3_mend_49 (fun H locs hP hD hS => ?_)
        have hP : va_P (dC, dI) hlCl [(qm, .inr (3, [.int th, .int (nI n), .ref qd, .int rw, .int ak, .ref qk, .ref ql, .ref qy, .int cb, .ref qc, .int dn, .int kp, .int tr, .int (md + 1), .int wr, .ref qi, .int sm])), (qd, .inl (cAd, 8192, .inl (mdL D (4096 * u + 64 * k) (4096 * (1 - u) + 64 * k) 64)))] H := hP
        have hD : va_D A [(qm, .inr (3, [.int th, .int (nI n), .ref qd, .int rw, .int ak, .ref qk, .ref ql, .ref qy, .int cb, .ref qc, .int dn, .int kp, .int tr, .int (md + 1), .int wr, .ref qi, .int sm])), (qd, .inl (cAd, 8192, .inl (mdL D (4096 * u + 64 * k) (4096 * (1 - u) + 64 * k) 64)))] := hD
        exact hr_v hx hb hr hlocks (w1 := [(qm, .inr (3, [.int th, .int (nI n), .ref qd, .int rw, .int ak, .ref qk, .ref ql, .ref qy, .int cb, .ref qc, .int dn, .int kp, .int tr, .int (md + 1), .int wr, .ref qi, .int sm])), (qd, .inl (cAd, 8192, .inl (mdL D (4096 * u + 64 * k) (4096 * (1 - u) + 64 * k) 64)))]) hP hD hK hS [0, 1] [0] rfl rfl rfl (rfl) dX3_mend_52
      · exact absurd (nI_le (a := 64) (b := 64) (Nat.le_refl _) (by omega)) c_5
    | succ k0 ih =>
      intro i H locs ls hi hP hD hS hl
      refine lv_iload_n hx hb dX3_mend_2 rfl (lv_at hl 0 rfl) ?_
      refine lv_bipush (v := 64) hx hb dX3_mend_3 (by decide) ?_
      refine lv_icmp_ge (tgt := 42) hx hb dX3_mend_5 (by decide) (fun c_5 => ?_) (fun c_5 => ?_)
      · exact absurd c_5 (nI_ge (a := i) (b := 64) (by omega) (by omega))
      · skip
        refine lv_aload_n hx hb dX3_mend_8 rfl (lv_at hl 1 rfl) ?_
        refine va_get (D := (dC, dI)) (ci := 3) (v := .ref qd) (C := RX3) (T := TX3) (N := 17) hx hb hts (by decide +kernel) hown hK hP 0 rfl rfl 2 (by decide) (hts (.fieldLink RX3 7 "HouseLogModel" "disk" "[I") (by decide +kernel)) (fun _ h9 => h9) rfl dX3_mend_9 ?_
        refine lv_aload_n hx hb dX3_mend_12 rfl (lv_at hl 1 rfl) ?_
        refine lv_iload_n hx hb dX3_mend_13 rfl (lv_at hl 2 rfl) ?_
        refine lv_iload_n hx hb dX3_mend_14 rfl (lv_at hl 3 rfl) ?_
        refine hc_iV (As := [.int (nI u), .int (nI k)]) (rest := [.ref qd]) (wr := [(qd, .inl (cAd, 8192, .inl (mdL D (4096 * u + 64 * k) (4096 * (1 - u) + 64 * k) i)))]) ⟨hx, hb, hml, hown, hts⟩ sx_T trivial (kX3_from l dC dI H.size qm qd qk ql qy qc qi n th rw ak cb dn kp tr md wr sm u k ) (cwV 2 hts gX3_mend_X3_from rfl rfl rfl (by decide +kernel) ⟨Nat.le_of_ble_eq_true rfl, Nat.le_of_ble_eq_true rfl⟩) hK hP hD hS hA [0] [1] [] rfl rfl rfl rfl rfl (by decide) (ci := 3) rfl rfl rfl rfl hl.1 rfl (Nat.le_of_ble_eq_true rfl) dX3_mend_15 ⟨Nat.zero_le _, Nat.zero_le _⟩ (fun H locs hP hD hS => ?_)
        have hP : va_P (dC, dI) hlCl [(qm, .inr (3, [.int th, .int (nI n), .ref qd, .int rw, .int ak, .ref qk, .ref ql, .ref qy, .int cb, .ref qc, .int dn, .int kp, .int tr, .int md, .int wr, .ref qi, .int sm])), (qd, .inl (cAd, 8192, .inl (mdL D (4096 * u + 64 * k) (4096 * (1 - u) + 64 * k) i)))] H := hP.sub [1, 0] rfl
        have hD : va_D A [(qm, .inr (3, [.int th, .int (nI n), .ref qd, .int rw, .int ak, .ref qk, .ref ql, .ref qy, .int cb, .ref qc, .int dn, .int kp, .int tr, .int md, .int wr, .ref qi, .int sm])), (qd, .inl (cAd, 8192, .inl (mdL D (4096 * u + 64 * k) (4096 * (1 - u) + 64 * k) i)))] := hD.sub [1, 0] (by decide) rfl
        refine lv_iload_n hx hb dX3_mend_18 rfl (lv_at hl 0 rfl) ?_
        refine lv_iadd hx hb dX3_mend_19 ?_
        rw [show ((nI (4096 * u + 64 * k)) + (nI i) : Int32) = nI (4096 * u + 64 * k + i) from nI_add (4096 * u + 64 * k) i]
        refine lv_aload_n hx hb dX3_mend_20 rfl (lv_at hl 1 rfl) ?_
        refine va_get (D := (dC, dI)) (ci := 3) (v := .ref qd) (C := RX3) (T := TX3) (N := 17) hx hb hts (by decide +kernel) hown hK hP 0 rfl rfl 2 (by decide) (hts (.fieldLink RX3 7 "HouseLogModel" "disk" "[I") (by decide +kernel)) (fun _ h9 => h9) rfl dX3_mend_21 ?_
        refine lv_aload_n hx hb dX3_mend_24 rfl (lv_at hl 1 rfl) ?_
        refine lv_iconst (v := 1) hx hb dX3_mend_25 (by decide) ?_
        refine lv_iload_n hx hb dX3_mend_26 rfl (lv_at hl 2 rfl) ?_
        refine lv_isub hx hb dX3_mend_27 ?_
        rw [show (1 - (nI u) : Int32) = nI (1 - u) from pk_sub (a := 1) (b := u) (by omega)]
        refine lv_iload_n hx hb dX3_mend_28 rfl (lv_at hl 3 rfl) ?_
        refine hc_iV (As := [.int (nI (1 - u)), .int (nI k)]) (rest := [.ref qd, .int (nI (4096 * u + 64 * k + i)), .ref qd]) (wr := [(qd, .inl (cAd, 8192, .inl (mdL D (4096 * u + 64 * k) (4096 * (1 - u) + 64 * k) i)))]) ⟨hx, hb, hml, hown, hts⟩ sx_T trivial (kX3_from l dC dI H.size qm qd qk ql qy qc qi n th rw ak cb dn kp tr md wr sm (1 - u) k ) (cwV 2 hts gX3_mend_X3_from rfl rfl rfl (by decide +kernel) ⟨Nat.le_of_ble_eq_true rfl, Nat.le_of_ble_eq_true rfl⟩) hK hP hD hS hA [0] [1] [] rfl rfl rfl rfl rfl (by decide) (ci := 3) rfl rfl rfl rfl hl.1 rfl (Nat.le_of_ble_eq_true rfl) dX3_mend_29 ⟨Nat.zero_le _, Nat.zero_le _⟩ (fun H locs hP hD hS => ?_)
        have hP : va_P (dC, dI) hlCl [(qm, .inr (3, [.int th, .int (nI n), .ref qd, .int rw, .int ak, .ref qk, .ref ql, .ref qy, .int cb, .ref qc, .int dn, .int kp, .int tr, .int md, .int wr, .ref qi, .int sm])), (qd, .inl (cAd, 8192, .inl (mdL D (4096 * u + 64 * k) (4096 * (1 - u) + 64 * k) i)))] H := hP.sub [1, 0] rfl
        have hD : va_D A [(qm, .inr (3, [.int th, .int (nI n), .ref qd, .int rw, .int ak, .ref qk, .ref ql, .ref qy, .int cb, .ref qc, .int dn, .int kp, .int tr, .int md, .int wr, .ref qi, .int sm])), (qd, .inl (cAd, 8192, .inl (mdL D (4096 * u + 64 * k) (4096 * (1 - u) + 64 * k) i)))] := hD.sub [1, 0] (by decide) rfl
        refine lv_iload_n hx hb dX3_mend_32 rfl (lv_at hl 0 rfl) ?_
        refine lv_iadd hx hb dX3_mend_33 ?_
        rw [show ((nI (4096 * (1 - u) + 64 * k)) + (nI i) : Int32) = nI (4096 * (1 - u) + 64 * k + i) from nI_add (4096 * (1 - u) + 64 * k) i]
        refine va_iald hx hb hK hP 1 0 rfl rfl (i := nI (4096 * (1 - u) + 64 * k + i)) (vp_in_nI (n := 4096 * (1 - u) + 64 * k + i) (by omega) (by decide)) dX3_mend_34 ?_
        refine W.eq (g2 := F0 m 35 ls (.int ((mdL D (4096 * u + 64 * k) (4096 * (1 - u) + 64 * k) i) (4096 * (1 - u) + 64 * k + i)) :: .int (nI (4096 * u + 64 * k + i)) :: .ref qd :: [])) (by rw [show (nI (4096 * (1 - u) + 64 * k + i) : Int32).toNatClampNeg = 4096 * (1 - u) + 64 * k + i from nI_clamp (by omega)]) ?_
        refine va_iast hx hb hK hP hD hS 1 0 rfl rfl (i := nI (4096 * u + 64 * k + i)) (vp_in_nI (n := 4096 * u + 64 * k + i) (by omega) (by decide)) dX3_mend_35 (fun H locs hP hD hS => ?_)
        rw [show (nI (4096 * u + 64 * k + i) : Int32).toNatClampNeg = 4096 * u + 64 * k + i from nI_clamp (by omega)] at hP hD
        have hP : va_P (dC, dI) hlCl [(qm, .inr (3, [.int th, .int (nI n), .ref qd, .int rw, .int ak, .ref qk, .ref ql, .ref qy, .int cb, .ref qc, .int dn, .int kp, .int tr, .int md, .int wr, .ref qi, .int sm])), (qd, .inl (cAd, 8192, .inl (upd (mdL D (4096 * u + 64 * k) (4096 * (1 - u) + 64 * k) i) (4096 * u + 64 * k + i) ((mdL D (4096 * u + 64 * k) (4096 * (1 - u) + 64 * k) i) (4096 * (1 - u) + 64 * k + i)))))] H := hP
        have hD : va_D A [(qm, .inr (3, [.int th, .int (nI n), .ref qd, .int rw, .int ak, .ref qk, .ref ql, .ref qy, .int cb, .ref qc, .int dn, .int kp, .int tr, .int md, .int wr, .ref qi, .int sm])), (qd, .inl (cAd, 8192, .inl (upd (mdL D (4096 * u + 64 * k) (4096 * (1 - u) + 64 * k) i) (4096 * u + 64 * k + i) ((mdL D (4096 * u + 64 * k) (4096 * (1 - u) + 64 * k) i) (4096 * (1 - u) + 64 * k + i)))))] := hD
        refine lv_iinc (v := nI (i + 1)) (lv' := [(3, .int (nI (i + 1))), (0, .ref qm), (1, .int (nI u)), (2, .int (nI k))]) hx hb dX3_mend_36 hl (k := 0) rfl (nI_add i 1) (by decide) rfl (fun ls hl => ?_)
        refine lv_goto (tgt := 2) hx hb dX3_mend_39 (by decide) ?_
        exact ih (i + 1) H locs ls (by omega)  hP hD hS (lv_sub hl [0, 1, 2, 3] rfl)
  exact loop 64 0 H locs ls (by omega)  hP hD hS (lv_sub hl [0, 1, 2, 3] rfl)
end
