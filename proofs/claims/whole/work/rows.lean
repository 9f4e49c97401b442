section
-- ===== PART A: goes FIRST, ahead of the names: the tables' words, and 'selects' of the private methods out of them =====
/-- a private method of a class that the tables say can be made, by its rows of tables_1 -/
def lw_okq (q : MethodName × Nat) : Prop := (q.1.cls ≠ "java/lang/invoke/MethodHandle" ∧ q.1.cls ≠ "java/lang/invoke/VarHandle") ∧ Cond.instantiable q.1.cls q.2 ∈ tables_1 ∧ Cond.privateMethod q.1 ∈ tables_1 ∧ Cond.instanceMethod q.1 ∈ tables_1
theorem lw_p0 : lw_okq (⟨"java/lang/Throwable", "fillInStackTrace", "(I)Ljava/lang/Throwable;"⟩, 6) := ⟨⟨by decide +kernel, by decide +kernel⟩, List.mem_of_getElem? (i := 89) (by decide +kernel), List.mem_of_getElem? (i := 87) (by decide +kernel), List.mem_of_getElem? (i := 88) (by decide +kernel)⟩
theorem lw_p1 : lw_okq (⟨"TideHouse", "countMissing", "(I)I"⟩, 4) := ⟨⟨by decide +kernel, by decide +kernel⟩, List.mem_of_getElem? (i := 12) (by decide +kernel), List.mem_of_getElem? (i := 185) (by decide +kernel), List.mem_of_getElem? (i := 186) (by decide +kernel)⟩
theorem lw_p2 : lw_okq (⟨"TideHouse", "levelFor", "(II)I"⟩, 4) := ⟨⟨by decide +kernel, by decide +kernel⟩, List.mem_of_getElem? (i := 12) (by decide +kernel), List.mem_of_getElem? (i := 203) (by decide +kernel), List.mem_of_getElem? (i := 204) (by decide +kernel)⟩
theorem lw_p3 : lw_okq (⟨"TideHouse", "walk", "(IIIZ)I"⟩, 4) := ⟨⟨by decide +kernel, by decide +kernel⟩, List.mem_of_getElem? (i := 12) (by decide +kernel), List.mem_of_getElem? (i := 269) (by decide +kernel), List.mem_of_getElem? (i := 270) (by decide +kernel)⟩
theorem lw_p4 : lw_okq (⟨"TideHouse", "isTrueOfNext", "(III)Z"⟩, 4) := ⟨⟨by decide +kernel, by decide +kernel⟩, List.mem_of_getElem? (i := 12) (by decide +kernel), List.mem_of_getElem? (i := 273) (by decide +kernel), List.mem_of_getElem? (i := 274) (by decide +kernel)⟩
theorem lw_p5 : lw_okq (⟨"TideHouse", "moveLeft", "(III)I"⟩, 4) := ⟨⟨by decide +kernel, by decide +kernel⟩, List.mem_of_getElem? (i := 12) (by decide +kernel), List.mem_of_getElem? (i := 325) (by decide +kernel), List.mem_of_getElem? (i := 326) (by decide +kernel)⟩
theorem lw_p6 : lw_okq (⟨"TideHouseModel", "may", "(ZZ)Z"⟩, 5) := ⟨⟨by decide +kernel, by decide +kernel⟩, List.mem_of_getElem? (i := 354) (by decide +kernel), List.mem_of_getElem? (i := 396) (by decide +kernel), List.mem_of_getElem? (i := 397) (by decide +kernel)⟩
theorem lw_p7 : lw_okq (⟨"TideHouseModel", "at", "(II)I"⟩, 5) := ⟨⟨by decide +kernel, by decide +kernel⟩, List.mem_of_getElem? (i := 354) (by decide +kernel), List.mem_of_getElem? (i := 400) (by decide +kernel), List.mem_of_getElem? (i := 401) (by decide +kernel)⟩
theorem lw_p8 : lw_okq (⟨"TideHouseModel", "levelFor", "(II)I"⟩, 5) := ⟨⟨by decide +kernel, by decide +kernel⟩, List.mem_of_getElem? (i := 354) (by decide +kernel), List.mem_of_getElem? (i := 429) (by decide +kernel), List.mem_of_getElem? (i := 430) (by decide +kernel)⟩
theorem lw_p9 : lw_okq (⟨"TideHouseModel", "goOn", "(IIIZ)I"⟩, 5) := ⟨⟨by decide +kernel, by decide +kernel⟩, List.mem_of_getElem? (i := 354) (by decide +kernel), List.mem_of_getElem? (i := 460) (by decide +kernel), List.mem_of_getElem? (i := 461) (by decide +kernel)⟩
def lw_privs_1 : List (MethodName × Nat) := [(⟨"java/lang/Throwable", "fillInStackTrace", "(I)Ljava/lang/Throwable;"⟩, 6), (⟨"TideHouse", "countMissing", "(I)I"⟩, 4), (⟨"TideHouse", "levelFor", "(II)I"⟩, 4), (⟨"TideHouse", "walk", "(IIIZ)I"⟩, 4), (⟨"TideHouse", "isTrueOfNext", "(III)Z"⟩, 4), (⟨"TideHouse", "moveLeft", "(III)I"⟩, 4), (⟨"TideHouseModel", "may", "(ZZ)Z"⟩, 5), (⟨"TideHouseModel", "at", "(II)I"⟩, 5), (⟨"TideHouseModel", "levelFor", "(II)I"⟩, 5), (⟨"TideHouseModel", "goOn", "(IIIZ)I"⟩, 5)]
theorem lw_r1 : ∀ q ∈ lw_privs_1, lw_okq q := List.forall_mem_cons.mpr ⟨lw_p0, List.forall_mem_cons.mpr ⟨lw_p1, List.forall_mem_cons.mpr ⟨lw_p2, List.forall_mem_cons.mpr ⟨lw_p3, List.forall_mem_cons.mpr ⟨lw_p4, List.forall_mem_cons.mpr ⟨lw_p5, List.forall_mem_cons.mpr ⟨lw_p6, List.forall_mem_cons.mpr ⟨lw_p7, List.forall_mem_cons.mpr ⟨lw_p8, List.forall_mem_cons.mpr ⟨lw_p9, fun _ h => absurd h List.not_mem_nil⟩⟩⟩⟩⟩⟩⟩⟩⟩⟩
def lw_privs : List (MethodName × Nat) := lw_privs_1
def lw_tbl : List Cond := k2_sels lw_privs ++ tables_1
theorem lw_privs_ok : ∀ q ∈ lw_privs, lw_okq q := lw_r1
end
section
/-! A throw that is caught behind rows of the method's table that are passed, their classes cold or warm. -/
section TVC
theorem tv_goNo {Q : Handler → Pre} {E : CtlPost} {e : Env} {d : Bool} {acts : List Action} {s : State} {f : JFrame} {a : Addr} {x : ExceptionTableEntry} {t : List ExceptionTableEntry} {c1 : ClassId} {cell : Cell} (hx : covers x f.pc = true) (h0 : x.catchType ≠ 0)
    (hl : s.vm.ClassLinks e.platform f.method.cls x.catchType c1) (hcell : s.heap[a]? = some cell) (hobj : ∀ k, cell.vm ≠ .statics k)
    (hk : ∃ k, s.vm.classes[cell.cls]? = some k) (hc : ∃ k, s.vm.classes[c1]? = some k) (b : Bool) (hno : s.vm.assignable cell.cls c1 = b) :
    wp (findHandler.go f a (x :: t)) Q E e d acts s ↔ if b = true then Q (.found x.handlerPc) d acts (s.setVm (s.vm.noted f.method.cls x.catchType (.cls c1))) else wp (findHandler.go f a t) Q E e d acts (s.setVm (s.vm.noted f.method.cls x.catchType (.cls c1))) := by
  simp only [covers] at hx
  obtain ⟨ha, ht⟩ := (resolveClass_links e.toSetting hl).op (op := VmOp.resolveClass f.method.cls x.catchType) rfl
  have hal : s.vm.Alike (s.vm.noted f.method.cls x.catchType (.cls c1)) := (Vm.Alike.refl s.vm).noted _ _ _
  obtain ⟨k1, hk1⟩ := hk
  obtain ⟨k2, hk2⟩ := hc
  obtain ⟨k1', hk1', -⟩ := hal.2.2 _ _ hk1
  obtain ⟨k2', hk2', -⟩ := hal.2.2 _ _ hk2
  have hno' : (s.vm.noted f.method.cls x.catchType (.cls c1)).assignable cell.cls c1 = b := by rw [hal.assignable]; exact hno
  cases b <;> simp [findHandler.go, hx, h0, ha, ht, hcell, hobj, hk1', hk2', hno', VmOp.dirties, VmOp.acts]
theorem tv_go {e : Env} {s₀ : State} {f : JFrame} {a : Addr} {cell : Cell} (hobj : ∀ k, cell.vm ≠ .statics k) (hk0 : ∃ k, s₀.vm.classes[cell.cls]? = some k)
    (x : ExceptionTableEntry) (rest : List ExceptionTableEntry) (hx : covers x f.pc = true) (h0 : x.catchType ≠ 0) {cT : ClassId} (hl : s₀.vm.ClassLinks e.platform f.method.cls x.catchType cT) (hfit : s₀.vm.assignable cell.cls cT = true) :
    ∀ (pre : List ExceptionTableEntry) (S : State), s₀.WarmedH S.vm → S.heap[a]? = some cell → (∀ y ∈ pre, covers y f.pc = false ∨ (y.catchType ≠ 0 ∧ ∃ c1, s₀.vm.ClassLinks e.platform f.method.cls y.catchType c1 ∧ s₀.vm.assignable cell.cls c1 = false)) →
      ∃ vm', s₀.WarmedH vm' ∧ ∀ (Q : Handler → Pre) (E : CtlPost) (d : Bool) (acts : List Action), wp (findHandler.go f a (pre ++ x :: rest)) Q E e d acts S ↔ Q (.found x.handlerPc) d acts (S.setVm vm') := by
  obtain ⟨k0, hk0⟩ := hk0
  intro pre
  induction pre with
  | nil =>
    intro S hW hcell _
    obtain ⟨k0', hk0', -⟩ := hW.alike.2.2 _ _ hk0
    obtain ⟨dk, _, _, kt, hd, _, _, _, _, hkt, _, hopen⟩ := hl.here
    obtain ⟨kt', hkt', -⟩ := hW.alike.2.2 _ _ hkt
    refine ⟨_, hW.noted hd hopen (State.rightAt_cls hl), fun Q E d acts => ?_⟩
    rw [List.nil_append, tv_goNo hx h0 (hW.classLinks hl) hcell hobj ⟨k0', hk0'⟩ ⟨kt', hkt'⟩ true (by rw [hW.alike.assignable]; exact hfit), if_pos rfl]
  | cons y ys ih =>
    intro S hW hcell hpass
    obtain ⟨k0', hk0', -⟩ := hW.alike.2.2 _ _ hk0
    have hrest := fun z hz => hpass z (List.mem_cons_of_mem y hz)
    by_cases hcov : covers y f.pc = true
    · rcases hpass y List.mem_cons_self with h | ⟨h9, c1, hl1, hno⟩
      · rw [h] at hcov; cases hcov
      · obtain ⟨dk, _, _, kt, hd, _, _, _, _, hkt, _, hopen⟩ := hl1.here
        obtain ⟨kt', hkt', -⟩ := hW.alike.2.2 _ _ hkt
        obtain ⟨vm', hW', hq⟩ := ih (S.setVm (S.vm.noted f.method.cls y.catchType (.cls c1))) (hW.noted hd hopen (State.rightAt_cls hl1)) hcell hrest
        refine ⟨vm', hW', fun Q E d acts => ?_⟩
        rw [List.cons_append, tv_goNo hcov h9 (hW.classLinks hl1) hcell hobj ⟨k0', hk0'⟩ ⟨kt', hkt'⟩ false (by rw [hW.alike.assignable]; exact hno), if_neg (by decide)]
        exact hq Q E d acts
    · obtain ⟨vm', hW', hq⟩ := ih S hW hcell hrest
      refine ⟨vm', hW', fun Q E d acts => ?_⟩
      rw [List.cons_append, Jvm.W.findHandler_go_skip (by simpa using hcov)]
      exact hq Q E d acts
theorem tv_caught {p : Program} {l : Launch} {e : Env} {R : Room} {s : State} {m : MethodId} {args : Array Value} {below : List Frame} {meth : Method} {c : Code} {T : State} {locs : List Loc} {cells slots : Nat}
    (X : Stand p l e R s m args below meth c T locs cells slots) (a : Addr) {g : JFrame} (hg : g.method = m) {cell : Cell} (hcell : T.heap[a]? = some cell) (hobj : cell.vm.isStatics = false) (hk0 : ∃ k, s.vm.classes[cell.cls]? = some k)
    (pre : List ExceptionTableEntry) (x : ExceptionTableEntry) (rest : List ExceptionTableEntry) (hsplit : c.exceptionTable.toList = pre ++ x :: rest)
    (hpass : ∀ y ∈ pre, covers y g.pc = false ∨ (y.catchType ≠ 0 ∧ ∃ c1, s.vm.ClassLinks e.platform m.cls y.catchType c1 ∧ s.vm.assignable cell.cls c1 = false))
    (hx : covers x g.pc = true) (h0 : x.catchType ≠ 0) {cT : ClassId} (hl : s.vm.ClassLinks e.platform m.cls x.catchType cT) (hfit : s.vm.assignable cell.cls cT = true) :
    ∃ vm', Stand p l e R s m args below meth c (T.setVm vm') locs cells slots ∧
      ∀ target, Steps p.tables e below ((T.setVm vm').setTop { g with pc := x.handlerPc, stack := [.ref a] }) target → Steps p.tables e below ((T.setTop g).pushFrame (.throwing a)) target := by
  subst hg
  obtain ⟨vm', hW', hq⟩ := tv_go (e := e) (s₀ := s) (f := g) (a := a) (VmData.ne_statics_of hobj) hk0 x rest hx h0 hl hfit pre ((T.setTop g).pushFrame (.throwing a)) X.warmed hcell hpass
  have hfind : ∀ (Q : Handler → Pre) (E : CtlPost) (d : Bool) (acts : List Action), wp (findHandler g a) Q E e d acts ((T.setTop g).pushFrame (.throwing a)) ↔ Q (.found x.handlerPc) d acts (((T.setTop g).pushFrame (.throwing a)).setVm vm') := fun Q E d acts => by
    rw [Jvm.W.findHandler_eq (s := (T.setTop g).pushFrame (.throwing a)) X.method' X.code, hsplit]
    exact hq Q E d acts
  refine ⟨vm', X.noted hW', fun target hrest => ?_⟩
  have h : At T g.method c below := X.here
  obtain ⟨hgo, hw⟩ := h.throwing a
  refine Steps.head hgo hw ?_
  rw [stepThread_throwing (frames_entered h.top _)]
  have hst : (stepThrowing e ((T.setTop g).pushFrame (.throwing a)) a (.java g :: T.frames.tail)).Is ((((T.setTop g).pushFrame (.throwing a)).setVm vm').setFrames (.java { g with pc := x.handlerPc, stack := [.ref a] } :: T.frames.tail)) [] := by
    simp only [stepThrowing, searchFrame, vmDo]
    generalize hr : Sem.go _ e false [] ((T.setTop g).pushFrame (.throwing a)) = res
    obtain ⟨as, rfl, ha⟩ := Sem.eq_ok_of hr (a := Handler.found x.handlerPc) (s' := ((T.setTop g).pushFrame (.throwing a)).setVm vm') (acts' := []) (by simp [hfind _ _ _ _])
    exact ⟨rfl, ha⟩
  rw [hst.1]
  obtain ⟨g₀, hg₀⟩ := Option.isSome_iff_exists.mp h.top
  obtain ⟨r, hr⟩ := State.topJava?_eq_some.mp hg₀
  have hr' : (T.setVm vm').frames = .java g₀ :: r := hr
  rw [State.setTop_of_frames _ hr'] at hrest
  rw [hr, List.tail_cons]
  have e1 : (((T.setTop g).pushFrame (.throwing a)).setVm vm').setFrames (.java { g with pc := x.handlerPc, stack := [.ref a] } :: r) = (T.setVm vm').setFrames (.java { g with pc := x.handlerPc, stack := [.ref a] } :: r) := by
    rw [State.pushFrame, State.setTop_of_frames _ hr]
    show ((((T.setVm vm').setFrames _).setFrames _).setFrames _) = _
    rw [State.setFrames_setFrames, State.setFrames_setFrames]
  rw [e1]
  exact hrest
end TVC
end
section
/-! ===== BEGIN words of one list among another's, by their places ===== -/
theorem goodIn_r {big : List Cond} (ws : List Cond) (ps : List Nat) (hp : ws = ps.filterMap (fun i => big[i]?)) (h : ws.all goodWord = true) : GoodIn big ws := by
  intro w hw
  have h1 := List.all_eq_true.mp h w hw
  rw [hp] at hw
  obtain ⟨i, -, hi⟩ := List.mem_filterMap.mp hw
  have hm : w ∈ big := by first | exact List.mem_of_getElem? hi | exact List.getElem?_mem hi
  exact ⟨hm, good_of_word h1⟩
theorem goodIn_app {big a b : List Cond} (ha : GoodIn big a) (hb : GoodIn big b) : GoodIn big (a ++ b) := fun w h => (List.mem_append.mp h).elim (ha w) (hb w)
theorem goodIn_ca {big a b : List Cond} {c : Cond} (ha : GoodIn big (c :: a)) (hb : GoodIn big b) : GoodIn big (c :: (a ++ b)) := fun w h => (List.mem_cons.mp h).elim (fun e => ha w (List.mem_cons.mpr (Or.inl e))) (fun h => (List.mem_append.mp h).elim (fun h => ha w (List.mem_cons.mpr (Or.inr h))) (hb w))
theorem goodIn_sub {big ws : List Cond} (hm : ∀ w ∈ ws, w ∈ big) (h : ws.all goodWord = true) : GoodIn big ws := fun w hw => ⟨hm w hw, good_of_word (List.all_eq_true.mp h w hw)⟩
/-! ===== END ===== -/

/-! ===== BEGIN exceptions that leave a method, and their catching by the caller (launches without stack traces) ===== -/
section VXA
/-! The laws vx_back, vx_callV, vx_callS, vx_callSW, vx_throw0, vx_throwS follow proofs of the library, with one case more: JvmDerived/Free/Laws.lean (Back.of_free), Shelf42/LK1.lean (callV, callS), Shelf/KitTraced.lean (throwNew0V, throwNewS). -/
/-- where a method has thrown q: the class by its name, the cell, what was written, the world -/
def vx_T (XC : String → State → State → Prop) (st : State) (q : Addr) (t : State) (mc ms : Nat) (free : Addr → Prop) : Prop :=
  ∃ (E : String) (ce : Cell) (L : List Loc), XC E st t ∧ t.heap[q]? = some ce ∧ ce.vm = .none ∧ st.vm.findClass E = some ce.cls ∧ st.WarmedH t.vm ∧ st.sameButNew ({ t with vm := st.vm } : State) L mc ms ∧ ∀ z ∈ L, free z.base
def vx_Q (Qc : Array Value → State → Outcome → State → Prop) (XC : String → State → State → Prop) (mc ms : Nat) (free : Addr → Prop) : Array Value → State → Outcome → State → Prop := fun a st o t =>
  (Qc a st o t ∧ ∃ L, FrameEnd st o t L mc ms ∧ ∀ q ∈ L, free q.base) ∨ ∃ q, o = .threw q ∧ vx_T XC st q t mc ms free
/-- a callee that returns or throws -/
def vx_Met (l : Launch) (y : MethodName) (ws : List Cond) (rm : Room) (Pc : Array Value → State → Prop) (Qc : Array Value → State → Outcome → State → Prop) (XC : String → State → State → Prop) (mc ms : Nat) (free : Addr → Prop) : Prop :=
  MetFree l y (headSpec ws rm) Pc (fun _ _ _ _ _ => True) (vx_Q Qc XC mc ms free)
def vx_Post (XC : String → State → State → Prop) (mc ms : Nat) (free : Addr → Prop) : Pt → Array Value → Addr → Pt → Prop := fun A a q B =>
  ∃ (g : JFrame) (mk : MethodId) (t : State) (L : List Loc) (E : String) (ce : Cell), B.U.heap = t.heap ∧ B.U.vm = t.vm ∧ XC E (A.U.calling g mk a) t ∧ t.heap[q]? = some ce ∧ ce.vm = .none ∧ A.U.vm.findClass E = some ce.cls ∧ B.locs = A.locs ++ L ∧ (∀ z ∈ L, free z.base) ∧ B.cells = A.cells + mc ∧ B.slots = A.slots + ms
def vx_Back (l : Launch) (R : Room) (p : Program) (e : Env) (below : List Frame) (s : State) (sargs : Array Value) (y : MethodName) (len W9 : Nat)
    (Pre : Pt → Array Value → Prop) (Post : Pt → Array Value → Option Value → Pt → Prop) (PostX : Pt → Array Value → Addr → Pt → Prop) : Prop :=
  ∀ (m : MethodId) (meth : Method) (c : Code) (A : Pt) (g : JFrame) (ig : Instr) (mk : MethodId) (a : Array Value),
    Stand p l e R s m sargs below meth c A.U A.locs A.cells A.slots → g.method = m → g.locals.size = c.maxLocals → decode c.code g.pc = .ok (ig, len) →
    2 * g.monitorRoom + (g.stack.map fun v => v.category).sum ≤ W9 → A.U.methodNamed? y = some mk → Pre A a →
    (∃ (v : Option Value) (B : Pt), Stand p l e R s m sargs below meth c B.U B.locs B.cells B.slots ∧ Post A a v B ∧
      Steps p.tables e below (doInvoke e (A.U.setTop g) [] mk a).1 (B.U.setTop { g with pc := g.pc + len, stack := v.toList ++ g.stack })) ∨
    (∃ (q : Addr) (B : Pt), Stand p l e R s m sargs below meth c B.U B.locs B.cells B.slots ∧ PostX A a q B ∧
      Steps p.tables e below (doInvoke e (A.U.setTop g) [] mk a).1 ((B.U.setTop g).pushFrame (.throwing q)))
section Payer
variable {l : Launch} {R : Room} {p : Program} {e : Env} {below : List Frame} {s : State} {sargs : Array Value} {y : MethodName} {len W9 : Nat}
theorem vx_back {ws : List Cond} {rm : Room} {Pc : Array Value → State → Prop} {Qc : Array Value → State → Outcome → State → Prop} {XC : String → State → State → Prop} {mc ms : Nat} {free : Addr → Prop} {bytes : ByteArray} {maxL : Nat} {ret : Option FieldType}
    (hM : vx_Met l y ws rm Pc Qc XC mc ms free) (hblind : FrameBlind Pc) (hrc : rm.cells = mc) (hrs : rm.slots = ms)
    (hframes : rm.frames + 1 ≤ R.frames) (hlocals : W9 + (maxL + 11) + rm.locals ≤ R.locals)
    (hws : ∀ w ∈ ws, ∀ a' U, s.WarmedH U.vm → w.before a' U = true) (hcode : Cond.code y bytes maxL ret ∈ ws) (hinit : ∀ a' U, s.WarmedH U.vm → (Cond.initialized y.cls).before a' U = true) :
    vx_Back l R p e below s sargs y len W9 (PreOf R mc ms Pc) (PostOf Qc mc ms free) (vx_Post XC mc ms free) := by
  intro m meth c A g ig mk a X hg hsize hdg hW hn hp
  have h1 : (headSpec ws rm).pre.before a A.U = true := atoms_intro fun w hw => hws w hw _ _ X.warmed
  have h2 : (Cond.code y bytes maxL ret).before a A.U = true := hws _ hcode _ _ X.warmed
  have h3 : (Cond.initialized y.cls).before a A.U = true := hinit _ _ X.warmed
  have h4 : A.cells + (headSpec ws rm).room.cells ≤ R.cells := by rw [show (headSpec ws rm).room.cells = mc from hrc]; exact hp.1
  have h5 : A.slots + (headSpec ws rm).room.slots ≤ R.slots := by rw [show (headSpec ws rm).room.slots = ms from hrs]; exact hp.2.1
  have hPc : Pc a (A.U.calling g mk a) := hblind _ _ _ _ hp.2.2
  obtain ⟨U, Ls, c0, s0⟩ := A
  dsimp only [Pt.U, Pt.locs, Pt.cells, Pt.slots] at h1 h2 h3 h4 h5 X hn hPc ⊢
  obtain ⟨methY, cY, hmY, hcY, -, hlY, -, -, -, -⟩ := Cond.code_spec hn h2
  obtain ⟨kY, hkY, -⟩ := className_of_methodNamed hn
  have hinitY : kY.init = .initialized := Cond.initialized_spec (findClass_of_methodNamed hn) hkY h3
  have h : At U g.method c below := by rw [hg]; exact X.here
  have hlocals9 : W9 + (maxL + 11) + (headSpec ws rm).room.locals ≤ R.locals := hlocals
  have happ : (headSpec ws rm).appliesLoose y e.platform (U.calling g mk a) = true :=
    Spec.appliesLoose_calling (g := g) h hdg hn hkY hinitY
      (X.room_calling (g := g) (R' := (headSpec ws rm).room) hsize hmY hcY hframes (by rw [hlY]; omega) h4 h5) h1
  obtain ⟨mid, hmid⟩ := h.above
  have hfr : (U.setTop g).frames = (.java g :: mid) ++ below := by rw [State.frames_setTop' g h.top, hmid]; rfl
  obtain ⟨o, s₂, hsteps, -, hend, hq⟩ := Steps.callFree hM p X.admits X.cas X.clock (acts := []) hfr happ hPc trivial
  have hq' : vx_Q Qc XC mc ms free a (U.calling g mk a) o s₂ := hq
  rw [State.frames_setTop' g h.top] at hend
  obtain ⟨g₀, hg0⟩ := Option.isSome_iff_exists.mp h.top
  obtain ⟨r, hr⟩ := State.topJava?_eq_some.mp hg0
  have hr' : (({ U with heap := s₂.heap, slotsUsed := s₂.slotsUsed } : State).setVm s₂.vm).frames = .java g₀ :: r := hr
  rcases hq' with ⟨hqc, L, hfe, hL⟩ | ⟨q, rfl, E, ce, L, hx, hce, hcv, hcl, hW₂, hsm, hL⟩
  · obtain ⟨⟨v, rfl⟩, hW₂, e2, q2, q3, q4, q5, q6⟩ := id hfe
    have e3 : s₂ = ({ (U.calling g mk a).setFrames s₂.frames with heap := s₂.heap, slotsUsed := s₂.slotsUsed } : State).setVm s₂.vm := by
      have : s₂ = ({ s₂ with vm := (U.calling g mk a).vm } : State).setVm s₂.vm := rfl
      rw [e2] at this
      exact this
    obtain ⟨c₂, i₂, len₂, hc₂, hd₂, hf₂⟩ := hend
    have hW' : U.WarmedH s₂.vm := hW₂
    have hcc : c₂ = c := by
      have h1 : s₂.code? g.method = U.code? g.method := by
        rw [State.code?_eq, State.code?_eq, hW'.alike.method?]
      exact Option.some.inj (hc₂.symm.trans (h1.trans h.code))
    subst hcc
    have hlen : len₂ = len := by rw [hdg] at hd₂; cases hd₂; rfl
    subst hlen
    have hs₂ : s₂ = (({ U with heap := s₂.heap, slotsUsed := s₂.slotsUsed } : State).setVm s₂.vm).setTop { g with pc := g.pc + len₂, stack := v.toList ++ g.stack } := by
      refine e3.trans ?_
      rw [hf₂, State.calling_eq h.top, State.setFrames_setFrames, State.setTop_of_frames _ hr', hr]
      rfl
    have hsame : U.sameButNew ({ U with heap := s₂.heap, slotsUsed := s₂.slotsUsed } : State) L mc ms := by
      refine ⟨?_, q2, q3, q4, q5, q6⟩
      obtain ⟨t, ht, -⟩ := State.frames_cons hr
      show ({ U with heap := s₂.heap, slotsUsed := s₂.slotsUsed } : State) = { U.setFrames U.frames with heap := s₂.heap, slotsUsed := s₂.slotsUsed }
      rw [State.setFrames_self ht]
    subst hg
    refine Or.inl ⟨v, ⟨(({ U with heap := s₂.heap, slotsUsed := s₂.slotsUsed } : State).setVm s₂.vm), Ls ++ L, c0 + mc, s0 + ms⟩,
      ⟨X.admits, X.cas, X.clock, X.frames, X.room, X.hears, X.method, X.code, (X.here.setHeapUsed s₂.heap s₂.slotsUsed).setVm hW'.alike, X.tail, State.WarmedH.trans X.warmed hW', X.limits, X.bytes, X.same.trans (hsame.setVm s.vm)⟩,
      ⟨g, mk, s₂, L, rfl, rfl, hqc, rfl, hL, rfl, rfl⟩, ?_⟩
    show Steps p.tables e below _ ((({ U with heap := s₂.heap, slotsUsed := s₂.slotsUsed } : State).setVm s₂.vm).setTop { g with pc := g.pc + len₂, stack := v.toList ++ g.stack })
    rw [← hs₂]
    exact hsteps
  · obtain ⟨e2, q2, q3, q4, q5, q6⟩ := id hsm
    have e3 : s₂ = ({ (U.calling g mk a).setFrames s₂.frames with heap := s₂.heap, slotsUsed := s₂.slotsUsed } : State).setVm s₂.vm := by
      have : s₂ = ({ s₂ with vm := (U.calling g mk a).vm } : State).setVm s₂.vm := rfl
      rw [e2] at this
      exact this
    have hf₂ : s₂.frames = .throwing q :: .java g :: U.frames.tail := hend
    have hW' : U.WarmedH s₂.vm := hW₂
    have hs₂ : s₂ = ((({ U with heap := s₂.heap, slotsUsed := s₂.slotsUsed } : State).setVm s₂.vm).setTop g).pushFrame (.throwing q) := by
      refine e3.trans ?_
      rw [hf₂, State.calling_eq h.top, State.setFrames_setFrames, State.pushFrame, State.frames_setTop _ hr', State.setTop_of_frames _ hr', State.setFrames_setFrames, hr]
      rfl
    have hsame : U.sameButNew ({ U with heap := s₂.heap, slotsUsed := s₂.slotsUsed } : State) L mc ms := by
      refine ⟨?_, q2, q3, q4, q5, q6⟩
      obtain ⟨t, ht, -⟩ := State.frames_cons hr
      show ({ U with heap := s₂.heap, slotsUsed := s₂.slotsUsed } : State) = { U.setFrames U.frames with heap := s₂.heap, slotsUsed := s₂.slotsUsed }
      rw [State.setFrames_self ht]
    subst hg
    refine Or.inr ⟨q, ⟨(({ U with heap := s₂.heap, slotsUsed := s₂.slotsUsed } : State).setVm s₂.vm), Ls ++ L, c0 + mc, s0 + ms⟩,
      ⟨X.admits, X.cas, X.clock, X.frames, X.room, X.hears, X.method, X.code, (X.here.setHeapUsed s₂.heap s₂.slotsUsed).setVm hW'.alike, X.tail, State.WarmedH.trans X.warmed hW', X.limits, X.bytes, X.same.trans (hsame.setVm s.vm)⟩,
      ⟨g, mk, s₂, L, E, ce, rfl, rfl, hx, hce, hcv, hcl, rfl, hL, rfl, rfl⟩, ?_⟩
    show Steps p.tables e below _ (((({ U with heap := s₂.heap, slotsUsed := s₂.slotsUsed } : State).setVm s₂.vm).setTop g).pushFrame (.throwing q))
    rw [← hs₂]
    exact hsteps
end Payer
section Calls
variable {p : Program} {l : Launch} {e : Env} {R : Room} {s : State} {m : MethodId} {args : Array Value} {below : List Frame} {meth : Method} {c : Code} {T : State} {locs : List Loc} {cells slots : Nat}
theorem vx_callV (X : Stand p l e R s m args below meth c T locs cells slots) (hexec : p.tables.exec = Jvm.exec) {own C : String} {index : Nat} {y : MethodName} {bytes : ByteArray} {maxL : Nat} {ret : Option FieldType}
    (hown : s.vm.findClass own = some m.cls) (hlink : (Cond.methodLink own index y).before args s = true) (hinst : (Cond.instanceMethod y).before args s = true) (hsel : (Cond.selects C y y).before args s = true)
    (hcode : (Cond.code y bytes maxL ret).before args s = true) (hy : y.cls ≠ "java/lang/invoke/MethodHandle" ∧ y.cls ≠ "java/lang/invoke/VarHandle")
    {W9 : Nat} {Pre : Pt → Array Value → Prop} {Post : Pt → Array Value → Option Value → Pt → Prop} {PostX : Pt → Array Value → Addr → Pt → Prop} (hK : vx_Back l R p e below s args y 3 W9 Pre Post PostX)
    {b : Addr} {cellB : Cell} (hcell : T.heap[b]? = some cellB) (hobj : cellB.vm.isStatics = false) (hcls : s.vm.findClass C = some cellB.cls)
    {g : JFrame} (hg : g.method = m) (hsize : g.locals.size = c.maxLocals) {argsL rest : List Value} (hlen : ∀ sig, parseMethodDescriptor y.desc = some sig → argsL.length = sig.parameters.length)
    (hstack : g.stack = argsL.reverse ++ .ref b :: rest) (hW : 2 * g.monitorRoom + (rest.map fun v => v.category).sum ≤ W9) (hdg : decode c.code g.pc = .ok (.invokevirtual index, 3))
    (hpre : ∀ vm₁, s.WarmedH vm₁ → Pre ⟨T.setVm vm₁, locs, cells, slots⟩ (Value.ref b :: argsL).toArray) :
    (∃ (v : Option Value) (vm₁ : Vm) (B : Pt), s.WarmedH vm₁ ∧ Stand p l e R s m args below meth c B.U B.locs B.cells B.slots ∧ Post ⟨T.setVm vm₁, locs, cells, slots⟩ (Value.ref b :: argsL).toArray v B ∧
      ∀ target, Steps p.tables e below (B.U.setTop { g with pc := g.pc + 3, stack := v.toList ++ rest }) target → Steps p.tables e below (T.setTop g) target) ∨
    (∃ (q : Addr) (vm₁ : Vm) (B : Pt), s.WarmedH vm₁ ∧ Stand p l e R s m args below meth c B.U B.locs B.cells B.slots ∧ PostX ⟨T.setVm vm₁, locs, cells, slots⟩ (Value.ref b :: argsL).toArray q B ∧
      Steps p.tables e below (T.setTop g) ((B.U.setTop { g with stack := rest }).pushFrame (.throwing q))) := by
  obtain ⟨mk, methM, hnamed, hmethM, hstM, habM⟩ := Cond.instanceMethod_spec hinst
  obtain ⟨methM', cM, hmethM', -, -, -, -, -, -, hsigM⟩ := Cond.code_spec hnamed hcode
  cases hmethM.symm.trans hmethM'
  obtain ⟨c2, r2, m2, q1, q2, q3, q4, kP, hkP, hkPi⟩ := Cond.selects_spec hsel
  cases hcls.symm.trans q1
  cases (State.methodFound?_of_named hnamed hy).symm.trans q2
  cases hnamed.symm.trans q3
  have hselP : selectMethod e.platform s.vm cellB.cls mk = .method mk := by rw [Launch.admits_selectMethod X.admits]; exact q4
  obtain ⟨vm₁, X₁, hstep₁⟩ := X.invokevirtual hexec hown hlink hnamed hmethM hstM hkP hkPi hy (a := b) (cell := cellB) hcell
    (fun z h => by rw [h] at hobj; cases hobj) hselP hmethM habM hkP hkPi (g := g) hg (argsL := argsL) (rest := rest) (hlen _ hsigM) hstack hdg
  rcases hK m meth c ⟨T.setVm vm₁, locs, cells, slots⟩ { g with stack := rest } (.invokevirtual index) mk (Value.ref b :: argsL).toArray X₁ hg hsize hdg hW (X₁.named hnamed) (hpre vm₁ X₁.warmed) with ⟨v, B, X', hpost, hsteps⟩ | ⟨q, B, X', hpost, hsteps⟩
  · exact Or.inl ⟨v, vm₁, B, X₁.warmed, X', hpost, fun target h => hstep₁ _ fun acts => by rw [doInvoke_state]; exact hsteps.trans h⟩
  · exact Or.inr ⟨q, vm₁, B, X₁.warmed, X', hpost, hstep₁ _ fun acts => by rw [doInvoke_state]; exact hsteps⟩
theorem vx_callS (X : Stand p l e R s m args below meth c T locs cells slots) (hexec : p.tables.exec = Jvm.exec) {own : String} {index : Nat} {y : MethodName} {bytes : ByteArray} {maxL : Nat} {ret : Option FieldType}
    (hown : s.vm.findClass own = some m.cls) (hlink : (Cond.methodLink own index y).before args s = true) (hstat : (Cond.static y).before args s = true) (hinit : (Cond.initialized y.cls).before args s = true)
    (hcode : (Cond.code y bytes maxL ret).before args s = true) (hy : y.cls ≠ "java/lang/invoke/MethodHandle" ∧ y.cls ≠ "java/lang/invoke/VarHandle")
    {W9 : Nat} {Pre : Pt → Array Value → Prop} {Post : Pt → Array Value → Option Value → Pt → Prop} {PostX : Pt → Array Value → Addr → Pt → Prop} (hK : vx_Back l R p e below s args y 3 W9 Pre Post PostX)
    {g : JFrame} (hg : g.method = m) (hsize : g.locals.size = c.maxLocals) {argsL rest : List Value} (hlen : ∀ sig, parseMethodDescriptor y.desc = some sig → argsL.length = sig.parameters.length)
    (hstack : g.stack = argsL.reverse ++ rest) (hW : 2 * g.monitorRoom + (rest.map fun v => v.category).sum ≤ W9) (hdg : decode c.code g.pc = .ok (.invokestatic index, 3))
    (hpre : ∀ vm₁, s.WarmedH vm₁ → Pre ⟨T.setVm vm₁, locs, cells, slots⟩ argsL.toArray) :
    (∃ (v : Option Value) (vm₁ : Vm) (B : Pt), s.WarmedH vm₁ ∧ Stand p l e R s m args below meth c B.U B.locs B.cells B.slots ∧ Post ⟨T.setVm vm₁, locs, cells, slots⟩ argsL.toArray v B ∧
      ∀ target, Steps p.tables e below (B.U.setTop { g with pc := g.pc + 3, stack := v.toList ++ rest }) target → Steps p.tables e below (T.setTop g) target) ∨
    (∃ (q : Addr) (vm₁ : Vm) (B : Pt), s.WarmedH vm₁ ∧ Stand p l e R s m args below meth c B.U B.locs B.cells B.slots ∧ PostX ⟨T.setVm vm₁, locs, cells, slots⟩ argsL.toArray q B ∧
      Steps p.tables e below (T.setTop g) ((B.U.setTop { g with stack := rest }).pushFrame (.throwing q))) := by
  obtain ⟨mk, hnamed⟩ := Cond.code_named hcode
  obtain ⟨methM, cM, hmethM, -, -, -, -, -, -, hsigM⟩ := Cond.code_spec hnamed hcode
  have hstatic : methM.isStatic = true := Cond.static_spec hnamed hmethM hstat
  obtain ⟨kP, hkP, -⟩ := className_of_methodNamed hnamed
  have hinitP : kP.init = .initialized := Cond.initialized_spec (findClass_of_methodNamed hnamed) hkP hinit
  obtain ⟨vm₁, X₁, hstep₁⟩ := X.invokestatic hexec hown hlink hnamed hmethM hstatic hkP hinitP hy (g := g) hg (argsL := argsL) (rest := rest) (hlen _ hsigM) hstack hdg
  rcases hK m meth c ⟨T.setVm vm₁, locs, cells, slots⟩ { g with stack := rest } (.invokestatic index) mk argsL.toArray X₁ hg hsize hdg hW (X₁.named hnamed) (hpre vm₁ X₁.warmed) with ⟨v, B, X', hpost, hsteps⟩ | ⟨q, B, X', hpost, hsteps⟩
  · exact Or.inl ⟨v, vm₁, B, X₁.warmed, X', hpost, fun target h => hstep₁ _ fun acts => by rw [doInvoke_state]; exact hsteps.trans h⟩
  · exact Or.inr ⟨q, vm₁, B, X₁.warmed, X', hpost, hstep₁ _ fun acts => by rw [doInvoke_state]; exact hsteps⟩
end Calls
theorem vx_cls {s : State} {T : State} {vm₁ : Vm} {E : String} {k : ClassId} (hW : s.WarmedH vm₁) (h : (T.setVm vm₁).vm.findClass E = some k) : s.vm.findClass E = some k := by
  have h1 : vm₁.findClass E = some k := h
  rw [hW.alike.findClass] at h1
  exact h1
/-- the method's frame g, with q thrown over it -/
def vx_W (p : Program) (l : Launch) (e : Env) (R : Room) (s : State) (m : MethodId) (args : Array Value) (below : List Frame) (meth : Method) (c : Code) (H : Heap) (locs : List Loc) (cells slots : Nat) (Q : State → Prop) (g : JFrame) (q : Addr) : Prop :=
  ∀ T : State, T.heap = H → Stand p l e R s m args below meth c T locs cells slots → ∃ t, Steps p.tables e below ((T.setTop g).pushFrame (.throwing q)) t ∧ Q t
def vx_Run (p : Program) (l : Launch) (e : Env) (R : Room) (s : State) (m : MethodId) (args : Array Value) (below : List Frame) (meth : Method) (c : Code) (H : Heap) (locs : List Loc) (cells slots mc ms : Nat) (g : JFrame) (rest : List Value) (Qa : State → Outcome → State → Prop) (XC : String → State → State → Prop) (free : Addr → Prop) : Prop :=
  ∀ T : State, T.heap = H → Stand p l e R s m args below meth c T locs cells slots →
    (∃ (v : Option Value) (st₀ t T' : State) (L : List Loc), st₀.heap = H ∧ Stand p l e R s m args below meth c T' (locs ++ L) (cells + mc) (slots + ms) ∧ (∀ q ∈ L, free q.base) ∧ T'.heap = t.heap ∧ T'.vm = t.vm ∧ Qa st₀ (.returned v) t ∧
      Goes p e below T g T' { g with pc := g.pc + 3, stack := v.toList ++ rest }) ∨
    (∃ (q : Addr) (st₀ t T' : State) (L : List Loc) (E : String) (ce : Cell), st₀.heap = H ∧ Stand p l e R s m args below meth c T' (locs ++ L) (cells + mc) (slots + ms) ∧ (∀ z ∈ L, free z.base) ∧ T'.heap = t.heap ∧ T'.vm = t.vm ∧ XC E st₀ t ∧ t.heap[q]? = some ce ∧ ce.vm = .none ∧ s.vm.findClass E = some ce.cls ∧
      Steps p.tables e below (T.setTop g) ((T'.setTop { g with stack := rest }).pushFrame (.throwing q)))
def vx_X {S : Type} (px : S → Prop) (B : String → S → State → Prop) (A : Nat → Prop) : String → State → State → Prop := fun E st t => ∃ u : S, px u ∧ B E u t ∧ va_F A st t
section Runs
variable {p : Program} {l : Launch} {e : Env} {R : Room} {s : State} {m : MethodId} {args : Array Value} {below : List Frame} {meth : Method} {c : Code} {H : Heap} {locs : List Loc} {cells slots : Nat}
variable {y : MethodName} {bytes cc : ByteArray} {maxL nL mc ms n index : Nat} {ret : Option FieldType} {ws : List Cond} {rm : Room} {Pc : Array Value → State → Prop} {Qc : Array Value → State → Outcome → State → Prop} {XC : String → State → State → Prop} {free : Addr → Prop} {Ts : List Cond} {own C : String} {b : Addr} {As rest : List Value} {g : JFrame}
theorem vx_callBack (cb : CallB R s args own index y bytes maxL ret ws rm mc ms n) (hM : vx_Met l y ws rm Pc Qc XC mc ms free) (hbl : FrameBlind Pc) : vx_Back l R p e below s args y 3 8 (PreOf R mc ms Pc) (PostOf Qc mc ms free) (vx_Post XC mc ms free) := by
  obtain ⟨hrc, hrs, hfr, hlo, hws, hcw, -, hini, -⟩ := cb
  exact vx_back (bytes := bytes) (maxL := maxL) (ret := ret) hM hbl hrc hrs hfr hlo hws hcw (fun a' U hW => word_at hW (Or.inl (by first | rfl | simp [Cond.onTables, Cond.keeps, Cond.steady])) hini)
theorem vx_runV (S : CallFix p m c cc nL s args Ts own) (hM : vx_Met l y ws rm Pc Qc XC mc ms free) (cw : CallW R s args own C index y bytes maxL ret ws rm mc ms n) (hp : PreV s H C b Pc As)
    (hg : g.method = m) (hn : As.length = n) (hsize : g.locals.size = nL) (hstack : g.stack = As.reverse ++ .ref b :: rest) (hW : 2 * g.monitorRoom + (rest.map fun v => v.category).sum ≤ 8) (hdg : decode cc g.pc = .ok (.invokevirtual index, 3)) (hf : cells + mc ≤ R.cells ∧ slots + ms ≤ R.slots) :
    vx_Run p l e R s m args below meth c H locs cells slots mc ms g rest (Qc (Value.ref b :: As).toArray) XC free := by
  have hK : vx_Back l R p e below s args y 3 8 (PreOf R mc ms Pc) (PostOf Qc mc ms free) (vx_Post XC mc ms free) := vx_callBack cw.1 hM hp.1
  obtain ⟨⟨-, -, -, -, -, -, hcode, -, hy, hlen, hl⟩, hin, hse⟩ := cw
  obtain ⟨hx, hb, hml, ho, -⟩ := S
  obtain ⟨-, ⟨cellB, hcB, hoB, hclB⟩, hPc⟩ := hp
  intro T hT X
  rcases vx_callV X hx (C := C) (bytes := bytes) (maxL := maxL) (ret := ret) ho hl hin hse hcode hy hK (by rw [hT]; exact hcB) hoB hclB hg (hsize.trans hml.symm) (argsL := As) (rest := rest) (fun sig h => hn.trans (hlen sig h)) hstack hW (by rw [hb]; exact hdg)
    (fun vm₁ hW₁ => ⟨hf.1, hf.2, hPc (T.setVm vm₁) hT hW₁⟩) with ⟨v, vm₁, ⟨U', l2, c2, s2⟩, hW₁, X', ⟨g', mk, t, L, e1, e2, hq, h1, hL, h2, h3⟩, st⟩ | ⟨q, vm₁, ⟨U', l2, c2, s2⟩, hW₁, X', ⟨g', mk, t, L, E, ce, e1, e2, hq, hce, hcv, hcl, h1, hL, h2, h3⟩, st⟩
  · dsimp only [Pt.U, Pt.locs, Pt.cells, Pt.slots] at X' e1 e2 h1 h2 h3 st
    subst h1; subst h2; subst h3
    exact Or.inl ⟨v, (T.setVm vm₁).calling g' mk (Value.ref b :: As).toArray, t, U', L, hT, X', hL, e1, e2, hq, st⟩
  · dsimp only [Pt.U, Pt.locs, Pt.cells, Pt.slots] at X' e1 e2 h1 h2 h3 st hcl
    subst h1; subst h2; subst h3
    exact Or.inr ⟨q, (T.setVm vm₁).calling g' mk (Value.ref b :: As).toArray, t, U', L, E, ce, hT, X', hL, e1, e2, hq, hce, hcv, vx_cls hW₁ hcl, st⟩
theorem vx_runS (S : CallFix p m c cc nL s args Ts own) (hM : vx_Met l y ws rm Pc Qc XC mc ms free) (cw : CallB R s args own index y bytes maxL ret ws rm mc ms n ∧ (Cond.static y).before args s = true) (hp : PreS s H Pc As)
    (hg : g.method = m) (hn : As.length = n) (hsize : g.locals.size = nL) (hstack : g.stack = As.reverse ++ rest) (hW : 2 * g.monitorRoom + (rest.map fun v => v.category).sum ≤ 8) (hdg : decode cc g.pc = .ok (.invokestatic index, 3)) (hf : cells + mc ≤ R.cells ∧ slots + ms ≤ R.slots) :
    vx_Run p l e R s m args below meth c H locs cells slots mc ms g rest (Qc As.toArray) XC free := by
  have hK : vx_Back l R p e below s args y 3 8 (PreOf R mc ms Pc) (PostOf Qc mc ms free) (vx_Post XC mc ms free) := vx_callBack cw.1 hM hp.1
  obtain ⟨⟨-, -, -, -, -, -, hcode, hini, hy, hlen, hl⟩, hstt⟩ := cw
  obtain ⟨hx, hb, hml, ho, -⟩ := S
  intro T hT X
  rcases vx_callS X hx (bytes := bytes) (maxL := maxL) (ret := ret) ho hl hstt hini hcode hy hK hg (hsize.trans hml.symm) (argsL := As) (rest := rest) (fun sig h => hn.trans (hlen sig h)) hstack hW (by rw [hb]; exact hdg)
    (fun vm₁ hW₁ => ⟨hf.1, hf.2, hp.2 (T.setVm vm₁) hT hW₁⟩) with ⟨v, vm₁, ⟨U', l2, c2, s2⟩, hW₁, X', ⟨g', mk, t, L, e1, e2, hq, h1, hL, h2, h3⟩, st⟩ | ⟨q, vm₁, ⟨U', l2, c2, s2⟩, hW₁, X', ⟨g', mk, t, L, E, ce, e1, e2, hq, hce, hcv, hcl, h1, hL, h2, h3⟩, st⟩
  · dsimp only [Pt.U, Pt.locs, Pt.cells, Pt.slots] at X' e1 e2 h1 h2 h3 st
    subst h1; subst h2; subst h3
    exact Or.inl ⟨v, (T.setVm vm₁).calling g' mk As.toArray, t, U', L, hT, X', hL, e1, e2, hq, st⟩
  · dsimp only [Pt.U, Pt.locs, Pt.cells, Pt.slots] at X' e1 e2 h1 h2 h3 st hcl
    subst h1; subst h2; subst h3
    exact Or.inr ⟨q, (T.setVm vm₁).calling g' mk As.toArray, t, U', L, E, ce, hT, X', hL, e1, e2, hq, hce, hcv, vx_cls hW₁ hcl, st⟩
end Runs
section Rows
variable {p : Program} {l : Launch} {e : Env} {R : Room} {s : State} {m : MethodId} {args : Array Value} {below : List Frame} {meth : Method} {c : Code} {H : Heap} {locs : List Loc} {cells slots : Nat} {Q : State → Prop}
variable {mc ms : Nat} {free : Addr → Prop} {A0 A1 : Nat → Prop} {H0 : Heap} {a : Array Value} {pc : Nat} {ls : Array Slot} {st0 rest : List Value}
theorem vx_keep {st₀ t T' : State} {L : List Loc} (h0 : st₀.heap = H) (e1 : T'.heap = t.heap) (hS : va_S A0 H0 H locs) (hA : ∀ q, q < H.size → A1 q → A0 q) (hf : ∀ q, free q → A0 q) (hL : ∀ q ∈ L, free q.base) (hF : va_F A1 st₀ t) :
    H.size ≤ T'.heap.size ∧ (∀ q : Nat, q < H.size → ¬ A1 q → T'.heap[q]? = H[q]?) ∧ va_S A0 H0 T'.heap (locs ++ L) := by
  obtain ⟨hz, hk⟩ := hF
  rw [h0] at hz hk
  exact ⟨by rw [e1]; exact hz, fun q h1 h2 => by rw [e1]; exact hk q h1 h2,
    ⟨Nat.le_trans hS.1 (by rw [e1]; exact hz), fun q h1 h2 => by rw [e1, hk q (Nat.lt_of_lt_of_le h1 hS.1) (fun z => h2 (hA q (Nat.lt_of_lt_of_le h1 hS.1) z))]; exact hS.2.1 q h1 h2, fun q hq => by
      rcases List.mem_append.mp hq with h | h
      · exact hS.2.2 q h
      · exact hf _ (hL q h)⟩⟩
theorem vx_calli {S SX : Type} {post : Int32 → S → Prop} {px : SX → Prop} {B : S → State → Prop} {BX : String → SX → State → Prop} {AX : Nat → Prop} (hr : vx_Run p l e R s m args below meth c H locs cells slots mc ms (F0 m pc ls st0) rest (va_Qi post B A1 a) (vx_X px BX AX) free) (hS : va_S A0 H0 H locs) (hA : ∀ q, q < H.size → A1 q → A0 q) (hf : ∀ q, free q → A0 q) (hAX : ∀ q, q < H.size → AX q → A0 q)
    (kx : ∀ (E : String) (ce : Cell) (q9 : Addr) (u : SX) (t : State) (H1 : Heap) (locs1 : List Loc), t.heap = H1 → s.vm.Alike t.vm → px u → BX E u t → H.size ≤ H1.size → (∀ q : Nat, q < H.size → ¬ AX q → H1[q]? = H[q]?) → va_S A0 H0 H1 locs1 → H1[q9]? = some ce → ce.vm = .none → s.vm.findClass E = some ce.cls → vx_W p l e R s m args below meth c H1 locs1 (cells + mc) (slots + ms) Q (F0 m pc ls rest) q9)
    (kk : ∀ (r : Int32) (u : S) (t : State) (H1 : Heap) (locs1 : List Loc), t.heap = H1 → s.vm.Alike t.vm → post r u → B u t → H.size ≤ H1.size → (∀ q : Nat, q < H.size → ¬ A1 q → H1[q]? = H[q]?) → va_S A0 H0 H1 locs1 → W p l e R s m args below meth c H1 locs1 (cells + mc) (slots + ms) Q (F0 m (pc + 3) ls (.int r :: rest))) : W p l e R s m args below meth c H locs cells slots Q (F0 m pc ls st0) := by
  intro T hT X
  rcases hr T hT X with ⟨v, st₀, t, T', L, h0, X', hL, e1, e2, ⟨⟨r, u, hv, hp, hb⟩, hF⟩, st⟩ | ⟨q, st₀, t, T', L, E, ce, h0, X', hL, e1, e2, ⟨u, hp, hb, hF⟩, hce, hcv, hcl, st⟩
  · cases hv
    obtain ⟨k1, k2, k3⟩ := vx_keep h0 e1 hS hA hf hL hF
    obtain ⟨t2, a1, b1⟩ := kk r u t T'.heap (locs ++ L) e1.symm (by rw [← e2]; exact X'.warmed.alike) hp hb k1 k2 k3 T' rfl X'
    exact ⟨t2, st t2 a1, b1⟩
  · obtain ⟨k1, k2, k3⟩ := vx_keep h0 e1 hS hAX hf hL hF
    obtain ⟨t2, a1, b1⟩ := kx E ce q u t T'.heap (locs ++ L) e1.symm (by rw [← e2]; exact X'.warmed.alike) hp hb k1 k2 k3 (by rw [e1]; exact hce) hcv hcl T' rfl X'
    exact ⟨t2, st.trans a1, b1⟩
theorem vx_calll {S SX : Type} {post : Int64 → S → Prop} {px : SX → Prop} {B : S → State → Prop} {BX : String → SX → State → Prop} {AX : Nat → Prop} (hr : vx_Run p l e R s m args below meth c H locs cells slots mc ms (F0 m pc ls st0) rest (va_Ql post B A1 a) (vx_X px BX AX) free) (hS : va_S A0 H0 H locs) (hA : ∀ q, q < H.size → A1 q → A0 q) (hf : ∀ q, free q → A0 q) (hAX : ∀ q, q < H.size → AX q → A0 q)
    (kx : ∀ (E : String) (ce : Cell) (q9 : Addr) (u : SX) (t : State) (H1 : Heap) (locs1 : List Loc), t.heap = H1 → s.vm.Alike t.vm → px u → BX E u t → H.size ≤ H1.size → (∀ q : Nat, q < H.size → ¬ AX q → H1[q]? = H[q]?) → va_S A0 H0 H1 locs1 → H1[q9]? = some ce → ce.vm = .none → s.vm.findClass E = some ce.cls → vx_W p l e R s m args below meth c H1 locs1 (cells + mc) (slots + ms) Q (F0 m pc ls rest) q9)
    (kk : ∀ (r : Int64) (u : S) (t : State) (H1 : Heap) (locs1 : List Loc), t.heap = H1 → s.vm.Alike t.vm → post r u → B u t → H.size ≤ H1.size → (∀ q : Nat, q < H.size → ¬ A1 q → H1[q]? = H[q]?) → va_S A0 H0 H1 locs1 → W p l e R s m args below meth c H1 locs1 (cells + mc) (slots + ms) Q (F0 m (pc + 3) ls (.long r :: rest))) : W p l e R s m args below meth c H locs cells slots Q (F0 m pc ls st0) := by
  intro T hT X
  rcases hr T hT X with ⟨v, st₀, t, T', L, h0, X', hL, e1, e2, ⟨⟨r, u, hv, hp, hb⟩, hF⟩, st⟩ | ⟨q, st₀, t, T', L, E, ce, h0, X', hL, e1, e2, ⟨u, hp, hb, hF⟩, hce, hcv, hcl, st⟩
  · cases hv
    obtain ⟨k1, k2, k3⟩ := vx_keep h0 e1 hS hA hf hL hF
    obtain ⟨t2, a1, b1⟩ := kk r u t T'.heap (locs ++ L) e1.symm (by rw [← e2]; exact X'.warmed.alike) hp hb k1 k2 k3 T' rfl X'
    exact ⟨t2, st t2 a1, b1⟩
  · obtain ⟨k1, k2, k3⟩ := vx_keep h0 e1 hS hAX hf hL hF
    obtain ⟨t2, a1, b1⟩ := kx E ce q u t T'.heap (locs ++ L) e1.symm (by rw [← e2]; exact X'.warmed.alike) hp hb k1 k2 k3 (by rw [e1]; exact hce) hcv hcl T' rfl X'
    exact ⟨t2, st.trans a1, b1⟩
theorem vx_callf {S SX : Type} {post : UInt32 → S → Prop} {px : SX → Prop} {B : S → State → Prop} {BX : String → SX → State → Prop} {AX : Nat → Prop} (hr : vx_Run p l e R s m args below meth c H locs cells slots mc ms (F0 m pc ls st0) rest (va_Qf post B A1 a) (vx_X px BX AX) free) (hS : va_S A0 H0 H locs) (hA : ∀ q, q < H.size → A1 q → A0 q) (hf : ∀ q, free q → A0 q) (hAX : ∀ q, q < H.size → AX q → A0 q)
    (kx : ∀ (E : String) (ce : Cell) (q9 : Addr) (u : SX) (t : State) (H1 : Heap) (locs1 : List Loc), t.heap = H1 → s.vm.Alike t.vm → px u → BX E u t → H.size ≤ H1.size → (∀ q : Nat, q < H.size → ¬ AX q → H1[q]? = H[q]?) → va_S A0 H0 H1 locs1 → H1[q9]? = some ce → ce.vm = .none → s.vm.findClass E = some ce.cls → vx_W p l e R s m args below meth c H1 locs1 (cells + mc) (slots + ms) Q (F0 m pc ls rest) q9)
    (kk : ∀ (r : UInt32) (u : S) (t : State) (H1 : Heap) (locs1 : List Loc), t.heap = H1 → s.vm.Alike t.vm → post r u → B u t → H.size ≤ H1.size → (∀ q : Nat, q < H.size → ¬ A1 q → H1[q]? = H[q]?) → va_S A0 H0 H1 locs1 → W p l e R s m args below meth c H1 locs1 (cells + mc) (slots + ms) Q (F0 m (pc + 3) ls (.float r :: rest))) : W p l e R s m args below meth c H locs cells slots Q (F0 m pc ls st0) := by
  intro T hT X
  rcases hr T hT X with ⟨v, st₀, t, T', L, h0, X', hL, e1, e2, ⟨⟨r, u, hv, hp, hb⟩, hF⟩, st⟩ | ⟨q, st₀, t, T', L, E, ce, h0, X', hL, e1, e2, ⟨u, hp, hb, hF⟩, hce, hcv, hcl, st⟩
  · cases hv
    obtain ⟨k1, k2, k3⟩ := vx_keep h0 e1 hS hA hf hL hF
    obtain ⟨t2, a1, b1⟩ := kk r u t T'.heap (locs ++ L) e1.symm (by rw [← e2]; exact X'.warmed.alike) hp hb k1 k2 k3 T' rfl X'
    exact ⟨t2, st t2 a1, b1⟩
  · obtain ⟨k1, k2, k3⟩ := vx_keep h0 e1 hS hAX hf hL hF
    obtain ⟨t2, a1, b1⟩ := kx E ce q u t T'.heap (locs ++ L) e1.symm (by rw [← e2]; exact X'.warmed.alike) hp hb k1 k2 k3 (by rw [e1]; exact hce) hcv hcl T' rfl X'
    exact ⟨t2, st.trans a1, b1⟩
theorem vx_calld {S SX : Type} {post : UInt64 → S → Prop} {px : SX → Prop} {B : S → State → Prop} {BX : String → SX → State → Prop} {AX : Nat → Prop} (hr : vx_Run p l e R s m args below meth c H locs cells slots mc ms (F0 m pc ls st0) rest (va_Qd post B A1 a) (vx_X px BX AX) free) (hS : va_S A0 H0 H locs) (hA : ∀ q, q < H.size → A1 q → A0 q) (hf : ∀ q, free q → A0 q) (hAX : ∀ q, q < H.size → AX q → A0 q)
    (kx : ∀ (E : String) (ce : Cell) (q9 : Addr) (u : SX) (t : State) (H1 : Heap) (locs1 : List Loc), t.heap = H1 → s.vm.Alike t.vm → px u → BX E u t → H.size ≤ H1.size → (∀ q : Nat, q < H.size → ¬ AX q → H1[q]? = H[q]?) → va_S A0 H0 H1 locs1 → H1[q9]? = some ce → ce.vm = .none → s.vm.findClass E = some ce.cls → vx_W p l e R s m args below meth c H1 locs1 (cells + mc) (slots + ms) Q (F0 m pc ls rest) q9)
    (kk : ∀ (r : UInt64) (u : S) (t : State) (H1 : Heap) (locs1 : List Loc), t.heap = H1 → s.vm.Alike t.vm → post r u → B u t → H.size ≤ H1.size → (∀ q : Nat, q < H.size → ¬ A1 q → H1[q]? = H[q]?) → va_S A0 H0 H1 locs1 → W p l e R s m args below meth c H1 locs1 (cells + mc) (slots + ms) Q (F0 m (pc + 3) ls (.double r :: rest))) : W p l e R s m args below meth c H locs cells slots Q (F0 m pc ls st0) := by
  intro T hT X
  rcases hr T hT X with ⟨v, st₀, t, T', L, h0, X', hL, e1, e2, ⟨⟨r, u, hv, hp, hb⟩, hF⟩, st⟩ | ⟨q, st₀, t, T', L, E, ce, h0, X', hL, e1, e2, ⟨u, hp, hb, hF⟩, hce, hcv, hcl, st⟩
  · cases hv
    obtain ⟨k1, k2, k3⟩ := vx_keep h0 e1 hS hA hf hL hF
    obtain ⟨t2, a1, b1⟩ := kk r u t T'.heap (locs ++ L) e1.symm (by rw [← e2]; exact X'.warmed.alike) hp hb k1 k2 k3 T' rfl X'
    exact ⟨t2, st t2 a1, b1⟩
  · obtain ⟨k1, k2, k3⟩ := vx_keep h0 e1 hS hAX hf hL hF
    obtain ⟨t2, a1, b1⟩ := kx E ce q u t T'.heap (locs ++ L) e1.symm (by rw [← e2]; exact X'.warmed.alike) hp hb k1 k2 k3 (by rw [e1]; exact hce) hcv hcl T' rfl X'
    exact ⟨t2, st.trans a1, b1⟩
theorem vx_callv {S SX : Type} {post : S → Prop} {px : SX → Prop} {B : S → State → Prop} {BX : String → SX → State → Prop} {AX : Nat → Prop} (hr : vx_Run p l e R s m args below meth c H locs cells slots mc ms (F0 m pc ls st0) rest (va_Qv post B A1 a) (vx_X px BX AX) free) (hS : va_S A0 H0 H locs) (hA : ∀ q, q < H.size → A1 q → A0 q) (hf : ∀ q, free q → A0 q) (hAX : ∀ q, q < H.size → AX q → A0 q)
    (kx : ∀ (E : String) (ce : Cell) (q9 : Addr) (u : SX) (t : State) (H1 : Heap) (locs1 : List Loc), t.heap = H1 → s.vm.Alike t.vm → px u → BX E u t → H.size ≤ H1.size → (∀ q : Nat, q < H.size → ¬ AX q → H1[q]? = H[q]?) → va_S A0 H0 H1 locs1 → H1[q9]? = some ce → ce.vm = .none → s.vm.findClass E = some ce.cls → vx_W p l e R s m args below meth c H1 locs1 (cells + mc) (slots + ms) Q (F0 m pc ls rest) q9)
    (kk : ∀ (u : S) (t : State) (H1 : Heap) (locs1 : List Loc), t.heap = H1 → s.vm.Alike t.vm → post u → B u t → H.size ≤ H1.size → (∀ q : Nat, q < H.size → ¬ A1 q → H1[q]? = H[q]?) → va_S A0 H0 H1 locs1 → W p l e R s m args below meth c H1 locs1 (cells + mc) (slots + ms) Q (F0 m (pc + 3) ls (rest))) : W p l e R s m args below meth c H locs cells slots Q (F0 m pc ls st0) := by
  intro T hT X
  rcases hr T hT X with ⟨v, st₀, t, T', L, h0, X', hL, e1, e2, ⟨⟨u, hv, hp, hb⟩, hF⟩, st⟩ | ⟨q, st₀, t, T', L, E, ce, h0, X', hL, e1, e2, ⟨u, hp, hb, hF⟩, hce, hcv, hcl, st⟩
  · cases hv
    obtain ⟨k1, k2, k3⟩ := vx_keep h0 e1 hS hA hf hL hF
    obtain ⟨t2, a1, b1⟩ := kk u t T'.heap (locs ++ L) e1.symm (by rw [← e2]; exact X'.warmed.alike) hp hb k1 k2 k3 T' rfl X'
    exact ⟨t2, st t2 a1, b1⟩
  · obtain ⟨k1, k2, k3⟩ := vx_keep h0 e1 hS hAX hf hL hF
    obtain ⟨t2, a1, b1⟩ := kx E ce q u t T'.heap (locs ++ L) e1.symm (by rw [← e2]; exact X'.warmed.alike) hp hb k1 k2 k3 (by rw [e1]; exact hce) hcv hcl T' rfl X'
    exact ⟨t2, st.trans a1, b1⟩
/-- caught by the row x of this method's table; the rows ahead don't take it -/
theorem vx_catch {own name : String} {E : String} {ce : Cell} {q : Addr} (hown : s.vm.findClass own = some m.cls) (pre : List ExceptionTableEntry) (x : ExceptionTableEntry) (suf : List ExceptionTableEntry) (hsplit : c.exceptionTable.toList = pre ++ x :: suf)
    (hpass : ∀ z ∈ pre, covers z pc = false ∨ (z.catchType ≠ 0 ∧ ∃ nm : String, (Cond.classLink own z.catchType nm).before args s = true ∧ va_Nc E nm s)) (hx : covers x pc = true) (h0 : x.catchType ≠ 0)
    (hlink : (Cond.classLink own x.catchType name).before args s = true) (hcast : (Cond.castable E name).before args s = true) (hcell : H[q]? = some ce) (hv : ce.vm = .none) (hcl : s.vm.findClass E = some ce.cls)
    (kk : W p l e R s m args below meth c H locs cells slots Q (F0 m x.handlerPc ls [.ref q])) : vx_W p l e R s m args below meth c H locs cells slots Q (F0 m pc ls rest) q := by
  intro T hT X
  have hpl : e.platform.magicAccessors = ({} : Platform).magicAccessors := by rw [X.admits.platform]
  obtain ⟨c3, c4, hc3, hc4, hasg⟩ := Cond.castable_spec hcast
  cases Option.some.inj (hc3.symm.trans hcl)
  obtain ⟨c5, hc5, hcl5⟩ := Cond.classLink_spec hown hlink e.platform hpl
  cases Option.some.inj (hc4.symm.trans hc5)
  obtain ⟨vm', X', st⟩ := tv_caught X q (g := F0 m pc ls rest) rfl (by rw [hT]; exact hcell) (by rw [hv]; rfl) (by obtain ⟨k9, h9, -⟩ := Vm.findClass_spec hcl; exact ⟨k9, h9⟩) pre x suf hsplit
    (fun z hz => by
      rcases hpass z hz with h | ⟨hz0, nm, hl1, hn1⟩
      · exact Or.inl h
      · obtain ⟨c6, hc6, hcl6⟩ := Cond.classLink_spec hown hl1 e.platform hpl
        obtain ⟨a8, b8, h1, h2, h3⟩ := hn1
        cases Option.some.inj (h1.symm.trans hcl)
        cases Option.some.inj (h2.symm.trans hc6)
        exact Or.inr ⟨hz0, _, hcl6, h3⟩) hx h0 hcl5 hasg
  obtain ⟨t, a1, b1⟩ := kk (T.setVm vm') hT X'
  exact ⟨t, st _ a1, b1⟩
end Rows
section Ends
variable {p : Program} {l : Launch} {e : Env} {R : Room} {s : State} {m : MethodId} {args : Array Value} {below : List Frame} {meth : Method} {c : Code} {H : Heap} {locs : List Loc} {cells slots : Nat} {Q : State → Prop}
variable {mc ms : Nat} {free : Addr → Prop} {A0 A1 : Nat → Prop} {H0 : Heap} {a : Array Value} {ls : Array Slot} {st0 rest : List Value}
variable {Qc : Array Value → State → Outcome → State → Prop} {XC : String → State → State → Prop}
/-- what a body that may throw owes at its end -/
def vx_MQ (below : List Frame) (Qc : Array Value → State → Outcome → State → Prop) (XC : String → State → State → Prop) (a : Array Value) (s : State) (mc ms : Nat) (free : Addr → Prop) : State → Prop := fun t =>
  ∃ o, t.status = .running ∧ Ended t below o ∧ vx_Q Qc XC mc ms free a s o t
theorem vx_ret {g : JFrame} {mc ms : Nat} (k : W p l e R s m args below meth c H locs cells slots (MQ below Qc args s mc ms free) g) : W p l e R s m args below meth c H locs cells slots (vx_MQ below Qc XC args s mc ms free) g := by
  intro T hT X
  obtain ⟨t, a1, o, b1, b2, b3, b4⟩ := k T hT X
  exact ⟨t, a1, o, b1, b2, Or.inl ⟨b3, b4⟩⟩
/-- not caught here: it goes on to the caller -/
theorem vx_widen {g : JFrame} {q : Addr} {k n : Nat} (h1 : cells ≤ k) (h2 : slots ≤ n) (kk : vx_W p l e R s m args below meth c H locs k n Q g q) : vx_W p l e R s m args below meth c H locs cells slots Q g q := fun T hT X => kk T hT (stand_widen X h1 h2)
theorem vx_out {pc : Nat} {E : String} {ce : Cell} {q : Addr} {mc ms : Nat} (hout : ∀ x ∈ c.exceptionTable.toList, covers x pc = false) (hlocks : meth.locks = false) (hcell : H[q]? = some ce) (hv : ce.vm = .none) (hcl : s.vm.findClass E = some ce.cls)
    (hx : ∀ t : State, t.heap = H → s.vm.Alike t.vm → XC E s t) (hf : ∀ z ∈ locs, free z.base) (hc : cells ≤ mc) (hs : slots ≤ ms) :
    vx_W p l e R s m args below meth c H locs cells slots (vx_MQ below Qc XC args s mc ms free) (F0 m pc ls rest) q := by
  intro T hT X
  obtain ⟨st1, hrun, hend, hW, hsm⟩ := X.leaveThrown q (g := F0 m pc ls rest) rfl rfl rfl hout hlocks
  have hcell9 : (T.setFrames (.throwing q :: below)).heap[q]? = some ce := by
    show T.heap[q]? = some ce
    rw [hT]; exact hcell
  exact ⟨_, st1, .threw q, hrun, hend, Or.inr ⟨q, rfl, E, ce, locs, hx _ hT hW.alike, hcell9, hv, hcl, hW, hsm.mono hc hs, hf⟩⟩
theorem vx_frame {U : State} {k n : Nat} (h : s.sameButNew ({ U with vm := s.vm } : State) locs k n) : s.heap.size ≤ U.heap.size ∧ ∀ q : Nat, q < s.heap.size → (∀ z ∈ locs, z.base ≠ q) → U.heap[q]? = s.heap[q]? := by
  obtain ⟨-, h2, -, -, -, h6⟩ := h
  refine ⟨h2, fun q hq hz => ?_⟩
  obtain ⟨c9, e1, e2, e3, e4⟩ := h6 q _ (Array.getElem?_eq_getElem hq)
  have hs : c9.slots = (s.heap[q]).slots := Array.ext_getElem? fun i => e4 i fun hm => hz _ hm rfl
  have h9 : c9 = s.heap[q] := by
    rw [hs] at e2
    exact e2
  have e5 : U.heap[q]? = some c9 := e1
  rw [e5, h9, Array.getElem?_eq_getElem hq]
/-- the words of a throw but the four that speak of the heap -/
def vx_no (w : Cond) : Bool := decide (w ≠ .isRef (.static Bundle.tN "UNASSIGNED_STACK" Bundle.steD)) && decide (w ≠ .isRef (.static Bundle.tN "SUPPRESSED_SENTINEL" Bundle.listD)) && decide (w ≠ .laysStatic Bundle.tN "UNASSIGNED_STACK" Bundle.steD) && decide (w ≠ .laysStatic Bundle.tN "SUPPRESSED_SENTINEL" Bundle.listD)
def vx_at0 (own : String) (ic : Nat) (X : String) (names : List String) : List Cond := (Bundle.ownAtoms0 own ic X names).filter vx_no
def vx_atS (own : String) (ic : Nat) (X : String) (names : List String) : List Cond := (Bundle.ownAtoms own ic X names).filter vx_no
/-- a word that the tables alone decide, or a good one -/
def vx_ot (w : Cond) : Bool := w.onTables || goodWord w
theorem vx_ot_at {args a' : Array Value} {s U : State} {w : Cond} (hW : s.WarmedH U.vm) (hvm : s.vm = U.vm) (hg : vx_ot w = true) (h : w.before args s = true) : w.before a' U = true := by
  simp only [vx_ot, Bool.or_eq_true] at hg
  rcases hg with hg | hg
  · exact va_tabs hg hvm h
  · exact word_at hW (good_of_word hg) h
/-- a list's words: the good ones out of the method's own list, the others by premises of their own -/
theorem vx_hat {args : Array Value} {s : State} {L B : List Cond} (h1 : ∀ w ∈ L.filter goodWord, w.before args s = true) (h2 : ∀ w ∈ L.filter (fun w => !goodWord w), w ∈ B) (h3 : ∀ w ∈ B, w.before args s = true) : ∀ w ∈ L, w.before args s = true := by
  intro w hw
  by_cases g : goodWord w = true
  · exact h1 w (List.mem_filter.mpr ⟨hw, g⟩)
  · refine h3 w (h2 w (List.mem_filter.mpr ⟨hw, ?_⟩))
    show (!goodWord w) = true
    cases hgw : goodWord w
    · rfl
    · exact absurd hgw g
theorem vx_c {args : Array Value} {s : State} {w : Cond} {B : List Cond} (h : w.before args s = true) (t : ∀ w ∈ B, w.before args s = true) : ∀ w' ∈ w :: B, w'.before args s = true := fun w' h' => (List.mem_cons.mp h').elim (fun e => by rw [e]; exact h) (t w')
theorem vx_n {args : Array Value} {s : State} : ∀ w ∈ ([] : List Cond), w.before args s = true := fun _ h => nomatch h
theorem vx_own {args : Array Value} {s : State} {L : List Cond} (h1 : ∀ w ∈ L.filter vx_no, w.before args s = true)
    (hU : (Cond.isRef (.static Bundle.tN "UNASSIGNED_STACK" Bundle.steD)).before args s = true) (hN : (Cond.isRef (.static Bundle.tN "SUPPRESSED_SENTINEL" Bundle.listD)).before args s = true)
    (lU : (Cond.laysStatic Bundle.tN "UNASSIGNED_STACK" Bundle.steD).before args s = true) (lN : (Cond.laysStatic Bundle.tN "SUPPRESSED_SENTINEL" Bundle.listD).before args s = true) : ∀ w ∈ L, w.before args s = true := by
  intro w hw
  by_cases e1 : w = .isRef (.static Bundle.tN "UNASSIGNED_STACK" Bundle.steD)
  · rw [e1]; exact hU
  · by_cases e2 : w = .isRef (.static Bundle.tN "SUPPRESSED_SENTINEL" Bundle.listD)
    · rw [e2]; exact hN
    · by_cases e3 : w = .laysStatic Bundle.tN "UNASSIGNED_STACK" Bundle.steD
      · rw [e3]; exact lU
      · by_cases e4 : w = .laysStatic Bundle.tN "SUPPRESSED_SENTINEL" Bundle.listD
        · rw [e4]; exact lN
        · exact h1 w (List.mem_filter.mpr ⟨hw, by unfold vx_no; rw [decide_eq_true e1, decide_eq_true e2, decide_eq_true e3, decide_eq_true e4]; rfl⟩)
/-- where a static field lies, its class's statics cell in H -/
def vx_L (C n d : String) (A : Nat → Prop) (U : State) (H : Heap) : Prop := ∃ (c : ClassId) (k : Class) (i : Nat) (f : Field) (a : Nat) (cell : Cell), U.vm.findClass C = some c ∧ U.fieldFound? C n d = some (c, k, i, f) ∧ f.isStatic = true ∧ k.statics = some a ∧ H[a]? = some cell ∧ cell.vm.isStatics = true ∧ cell.cls = c ∧ f.slot < cell.slots.size ∧ k.staticTypes[f.slot]? = some f.type ∧ ¬ A a
theorem vx_L.moved {C n d : String} {A : Nat → Prop} {u U : State} {H : Heap} (hvm : u.vm.Alike U.vm) (h : vx_L C n d A u H) : vx_L C n d A U H := by
  obtain ⟨c, k, i, f, a, cell, h1, h2, h3, h4, h5, h6, h7, h8, h9, h10⟩ := h
  obtain ⟨k', hi', he⟩ := State.fieldFound?_setVm hvm h2
  exact ⟨c, k', i, f, a, cell, by rw [hvm.findClass]; exact h1, hi', h3, by rw [he]; exact h4, h5, h6, h7, h8, by rw [he]; exact h9, h10⟩
theorem vx_L.kept {C n d : String} {A : Nat → Prop} {U : State} {H H1 : Heap} (h : vx_L C n d A U H) (hq : ∀ a : Nat, a < H.size → ¬ A a → H1[a]? = H[a]?) : vx_L C n d A U H1 := by
  obtain ⟨c, k, i, f, a, cell, h1, h2, h3, h4, h5, h6, h7, h8, h9, h10⟩ := h
  exact ⟨c, k, i, f, a, cell, h1, h2, h3, h4, by rw [hq a (Array.getElem?_eq_some_iff.mp h5).1 h10]; exact h5, h6, h7, h8, h9, h10⟩
theorem vx_L.narrow {C n d : String} {A B : Nat → Prop} {U : State} {H : Heap} (h : vx_L C n d A U H) (hAB : ∀ q, B q → A q) : vx_L C n d B U H := by
  obtain ⟨c, k, i, f, a, cell, h1, h2, h3, h4, h5, h6, h7, h8, h9, h10⟩ := h
  exact ⟨c, k, i, f, a, cell, h1, h2, h3, h4, h5, h6, h7, h8, h9, fun z => h10 (hAB _ z)⟩
theorem vx_L.word {C n d : String} {A : Nat → Prop} {s : State} {args : Array Value} (h : vx_L C n d A s s.heap) : (Cond.laysStatic C n d).before args s = true := by
  obtain ⟨c, k, i, f, a, cell, h1, h2, h3, h4, h5, h6, h7, h8, h9, -⟩ := h
  show (Cond.laysStatic C n d).holds args s none s [] = true
  exact Cond.laysStatic_of h1 h2 h3 h4 h5 h6 h7 h8 h9
/-- .. and what it holds: null or some reference -/
def vx_Zq (C n d : String) (A : Nat → Prop) (U : State) (H : Heap) : Prop := va_Zq C n d A U H ∧ vx_L C n d A U H
theorem vx_Zq.moved {C n d : String} {A : Nat → Prop} {u U : State} {H : Heap} (hvm : u.vm.Alike U.vm) (h : vx_Zq C n d A u H) : vx_Zq C n d A U H := ⟨va_Zq.moved hvm h.1, vx_L.moved hvm h.2⟩
theorem vx_Zq.kept {C n d : String} {A : Nat → Prop} {U : State} {H H1 : Heap} (h : vx_Zq C n d A U H) (hq : ∀ a : Nat, a < H.size → ¬ A a → H1[a]? = H[a]?) : vx_Zq C n d A U H1 := ⟨va_Zq.kept h.1 hq, vx_L.kept h.2 hq⟩
theorem vx_Zq.narrow {C n d : String} {A B : Nat → Prop} {U : State} {H : Heap} (h : vx_Zq C n d A U H) (hAB : ∀ q, B q → A q) : vx_Zq C n d B U H := ⟨va_Zq.narrow h.1 hAB, vx_L.narrow h.2 hAB⟩
theorem vx_Zqof {args : Array Value} {s : State} {C n d : String} {A : Nat → Prop} (hl : (Cond.laysStatic C n d).before args s = true) (hini : (Cond.initialized C).before args s = true) (h : (Cond.isRef (.static C n d)).before args s = true) (hA : ∀ a : Nat, a < s.heap.size → ¬ A a) : vx_Zq C n d A s s.heap := by
  refine ⟨va_Zqof hl hini h hA, ?_⟩
  obtain ⟨c, k, i, f, a, cell, h1, h2, h3, h4, h5, h6, h7, h8, h9⟩ := Cond.laysStatic_spec hl
  exact ⟨c, k, i, f, a, cell, h1, h2, h3, h4, h5, h6, h7, h8, h9, hA a (Array.getElem?_eq_some_iff.mp h5).1⟩
theorem vx_isRef {C n d : String} {v : Value} {A : Nat → Prop} {s : State} {args : Array Value} (h : va_Z C n d v A s s.heap) (hv : v.isRef = true) : (Cond.isRef (.static C n d)).before args s = true := by
  obtain ⟨cf, kf, fi, f, a, cell, h1, h2, h3, h4, h5, h6, h7, -⟩ := h
  have he : (Term.static C n d).eval args s none [] s = some v := by
    simp [Term.eval, State.fieldNamed?, h1, h2, h4, h5, h6, h7]
  simp only [Cond.before, Cond.holds, Cond.value, he]
  cases v <;> simp_all [Value.isRef]
theorem vx_isRefq {C n d : String} {A : Nat → Prop} {s : State} {args : Array Value} (h : va_Zq C n d A s s.heap) : (Cond.isRef (.static C n d)).before args s = true := by
  rcases h with h | ⟨t, h⟩
  · exact vx_isRef h rfl
  · exact vx_isRef h rfl
/-- the same frame, seen from here: as if the method were called anew in this heap -/
theorem vx_rebase {T : State} (X : Stand p l e R s m args below meth c T locs cells slots) {R' : Room} (hf : R'.frames ≤ R.frames) (hl : R'.locals ≤ R.locals) (hc : cells + R'.cells ≤ R.cells) (hs : slots + R'.slots ≤ R.slots) :
    Stand p l e R' ((T.setVm s.vm).setFrames (.invoking m args :: below)) m args below meth c T [] 0 0 := by
  have htop : (T.setVm s.vm).topJava?.isSome := X.here.top
  have hF : ((T.setVm s.vm).setFrames (.invoking m args :: below)).frames = .invoking m args :: below := State.frames_setFrames _ (State.cur_lt_of_top htop)
  obtain ⟨g₀, hg0⟩ := Option.isSome_iff_exists.mp htop
  obtain ⟨r, hr⟩ := State.topJava?_eq_some.mp hg0
  have hl9 : e.platform.stackLimits (T.setVm s.vm).me = e.platform.stackLimits s.me := X.limits
  have hb9 : (T.setVm s.vm).me.stackBytes = s.me.stackBytes := X.bytes
  refine ⟨X.admits, X.cas, X.clock, hF, ?_, X.hears, X.method, X.code, X.here, X.tail, X.warmed, ?_, ?_, ?_⟩
  · have h := X.room
    have hU : ((T.setVm s.vm).setFrames (.invoking m args :: below)).localsInUse = s.localsInUse := by
      rw [State.localsInUse_invoking hF (meth := meth) (c := c) X.method X.code, State.localsInUse_invoking X.frames X.method X.code]
    simp only [State.hasRoom, Bool.and_eq_true, decide_eq_true_eq] at h ⊢
    obtain ⟨⟨⟨⟨h1, h2, h3, h4, h5, h6⟩, h7⟩, h8⟩, h9⟩ := h
    rw [X.frames, List.length_cons] at h2 h3
    have q1 := X.heapSize
    have q2 := X.used
    simp only [hF, hU, List.length_cons, State.stackLimits_setFrames, State.stackBytes_setFrames, hl9, hb9]
    refine ⟨⟨⟨⟨by omega, by omega, by omega, by omega, by omega, h6⟩, ?_⟩, ?_⟩, X.book⟩
    · show T.heap.size + R'.cells ≤ e.platform.maxCells
      omega
    · show T.slotsUsed + R'.slots ≤ e.platform.maxSlots
      omega
  · rw [State.stackLimits_setFrames]; rfl
  · rw [State.stackBytes_setFrames]; rfl
  · refine ⟨?_, Nat.le_refl _, Nat.le_refl _, ?_, ?_, fun a c9 h9 => ⟨c9, h9, rfl, rfl, fun _ _ => rfl⟩⟩
    · obtain ⟨t, ht, -⟩ := State.frames_cons hr
      show T.setVm s.vm = { ((T.setVm s.vm).setFrames (.invoking m args :: below)).setFrames (T.setVm s.vm).frames with heap := T.heap, slotsUsed := T.slotsUsed }
      rw [State.setFrames_setFrames, State.setFrames_self ht]
      rfl
    · show T.slotsUsed = T.slotsUsed + ((T.heap.toList.drop T.heap.size).map (·.slots.size)).sum
      rw [List.drop_eq_nil_of_le (Nat.le_of_eq Array.length_toList)]
      rfl
    · show ((T.heap.toList.drop T.heap.size).map (·.slots.size)).sum ≤ 0
      rw [List.drop_eq_nil_of_le (Nat.le_of_eq Array.length_toList)]
      exact Nat.le_refl _
/-- 'throw new E()': new; dup; invokespecial; athrow -/
theorem vx_throw0 {cc : ByteArray} {pc : Nat} (hexec : p.tables.exec = Jvm.exec) (hb : c.code = cc) (hl : l.stackTraces = false) {own cls : String} {names : List String} {ik ic mc ms : Nat} {A : Nat → Prop}
    (hown : s.vm.findClass own = some m.cls) (hcls : Bundle.fit cls = true) (hnames : ∀ n ∈ names, Bundle.fit n = true)
    (hk : (Cond.classLink own ik cls).before args s = true) (hini : (Cond.initialized cls).before args s = true) (hat : ∀ w ∈ vx_at0 own ic cls names, w.before args s = true)
    (hgood : ∀ w ∈ Cond.classLink own ik cls :: Cond.initialized cls :: vx_at0 own ic cls names, vx_ot w = true)
    (hU : vx_Zq Bundle.tN "UNASSIGNED_STACK" Bundle.steD A s s.heap) (hN : vx_Zq Bundle.tN "SUPPRESSED_SENTINEL" Bundle.listD A s s.heap) (hS : va_S A s.heap H locs) (hsize : ls.size = c.maxLocals)
    (d0 : decode cc pc = .ok (.new ik, 3)) (d3 : decode cc (pc + 3) = .ok (.dup, 1)) (d4 : decode cc (pc + 4) = .ok (.invokespecial ic, 3)) (d7 : decode cc (pc + 7) = .ok (.athrow, 1))
    (hout : ∀ x ∈ c.exceptionTable.toList, covers x (pc + 7) = false)
    (hRframes : names.length + 3 < R.frames) (hRlocals : (rest.map fun v => v.category).sum + (13 * (names.length + 1) + 42) ≤ R.locals) (hRcells : cells + 1 ≤ R.cells) (hRslots : slots + 6 ≤ R.slots) (hlocks : meth.locks = false)
    (hx : ∀ t : State, s.vm.Alike t.vm → H.size ≤ t.heap.size → (∀ q : Nat, q < H.size → t.heap[q]? = H[q]?) → XC cls s t)
    (hf : ∀ z ∈ locs, free z.base) (hc : cells + 1 ≤ mc) (hs : slots + 6 ≤ ms) :
    W p l e R s m args below meth c H locs cells slots (vx_MQ below Qc XC args s mc ms free) (F0 m pc ls rest) := by
  intro T hT X
  have htr : e.platform.stackTraces = false := (show e.platform.stackTraces = l.stackTraces by rw [X.admits.platform]).trans hl
  have Y := vx_rebase X (R' := { frames := R.frames, locals := R.locals, cells := 1, slots := 6 }) (Nat.le_refl _) (Nat.le_refl _) hRcells hRslots
  obtain ⟨s', hA⟩ : ∃ z, z = (T.setVm s.vm).setFrames (.invoking m args :: below) := ⟨_, rfl⟩
  rw [← hA] at Y
  have hvm : s'.vm = s.vm := by rw [hA]; rfl
  have hhp : s'.heap = H := by rw [hA]; exact hT
  have hW0 : s.WarmedH s'.vm := by rw [hvm]; exact State.WarmedH.refl s
  have hat' : ∀ w ∈ vx_at0 own ic cls names, w.before args s' = true := fun w hw => vx_ot_at hW0 hvm.symm (hgood w (List.mem_cons_of_mem _ (List.mem_cons_of_mem _ hw))) (hat w hw)
  have hk' : (Cond.classLink own ik cls).before args s' = true := vx_ot_at hW0 hvm.symm (hgood _ List.mem_cons_self) hk
  have hini' : (Cond.initialized cls).before args s' = true := vx_ot_at hW0 hvm.symm (hgood _ (List.mem_cons_of_mem _ List.mem_cons_self)) hini
  have hU' : vx_Zq Bundle.tN "UNASSIGNED_STACK" Bundle.steD A s' s'.heap := by rw [hhp]; exact vx_Zq.moved hW0.alike (hU.kept hS.2.1)
  have hN' : vx_Zq Bundle.tN "SUPPRESSED_SENTINEL" Bundle.listD A s' s'.heap := by rw [hhp]; exact vx_Zq.moved hW0.alike (hN.kept hS.2.1)
  have h : ∀ w ∈ Bundle.ownAtoms0 own ic cls names, w.before args s' = true := vx_own hat' (vx_isRefq hU'.1) (vx_isRefq hN'.1) hU'.2.word hN'.2.word
  have hown' : s'.vm.findClass own = some m.cls := by rw [hvm]; exact hown
  have hins : (Cond.instantiable cls 6).before args s' = true := h _ (by simp [Bundle.ownAtoms0])
  obtain ⟨vm₁, cX, kX, hfX, hkX, -, -, X₁, st1⟩ := Y.newCold hexec (own := own) (C := cls) (index := ik) (n := 6) hown' hk' hins hini'
    (g := F0 m pc ls rest) rfl (by rw [hb]; exact d0) (Nat.le_refl _) (Nat.le_refl _)
  generalize hT1 : (T.setVm vm₁).pushCell { cls := cX, slots := kX.instanceTypes.map defaultValue, vm := .none } = T1 at X₁ st1
  have hcat : (Value.ref T.heap.size).category = 1 := rfl
  have hcellA : T1.heap[T.heap.size]? = some (freshCell cX kX) := by rw [← hT1]; exact State.heap_pushCell_size _ _
  have d3' : decode c.code (pc + 3) = .ok (.dup, 1) := by rw [hb]; exact d3
  obtain ⟨U, hsteps, hrun, hend, hW, hsame, ce, hce, hO⟩ := X₁.ctorThrow0 hexec htr (own := own) (cls := cls) (names := names) (ic := ic) hown' hcls hnames h (fun x hx => nomatch hx) hfX hkX hcellA (by rw [hhp, hT]; exact Nat.le_refl _)
    (g := { method := m, pc := pc + 4, locals := ls, stack := .ref T.heap.size :: .ref T.heap.size :: rest, locked := none }) rfl hsize rfl rfl (rest := rest) rfl
    (by rw [hb]; exact d4) (by rw [hb]; exact d7) hout hRframes (by simp only [List.map_cons, List.sum_cons, hcat]; omega) hlocks
  obtain ⟨f1, f2⟩ := vx_frame hsame
  rw [hhp] at f1 f2
  have hWs : s.WarmedH U.vm := State.WarmedH.trans hW0 hW
  have hcl : s.vm.findClass cls = some ce.cls := by
    have h9 := hO.cls
    rw [hvm] at h9
    exact h9
  have hall : s.sameButNew ({ U with vm := s.vm } : State) locs mc ms := by
    subst hA
    obtain ⟨e1, e2⟩ := hsame
    rw [State.setFrames_setFrames] at e1
    have h2 : (T.setVm s.vm).sameButNew ({ U with vm := s.vm } : State) [] (0 + 1) (0 + 6) := ⟨e1, e2⟩
    have h3 := X.same.trans h2
    rw [List.append_nil] at h3
    exact h3.mono hc hs
  refine ⟨U, ?_, .threw T.heap.size, hrun, hend, Or.inr ⟨T.heap.size, rfl, cls, ce, locs, hx U hWs.alike f1 (fun q hq => f2 q hq (fun z hz => nomatch hz)), hce, hO.vm, hcl, hWs, hall, hf⟩⟩
  refine st1 _ ?_
  show Steps p.tables e below (T1.setTop { method := m, pc := pc + 3, locals := ls, stack := .ref T.heap.size :: rest, locked := none }) _
  jvm_step X₁.here [X₁.here.top, hexec, d3', Value.category]
  exact hsteps
/-- 'throw new E("text")': new; dup; ldc; invokespecial; athrow -/
theorem vx_throwS {cc : ByteArray} {pc : Nat} (hexec : p.tables.exec = Jvm.exec) (hb : c.code = cc) (hl : l.stackTraces = false) {own cls text : String} {names : List String} {ik is ic mc ms sa : Nat} {A : Nat → Prop}
    (hown : s.vm.findClass own = some m.cls) (hcls : Bundle.fit cls = true) (hnames : ∀ n ∈ names, Bundle.fit n = true)
    (hk : (Cond.classLink own ik cls).before args s = true) (hini : (Cond.initialized cls).before args s = true) (hstr : vk_R own is text sa s) (hat : ∀ w ∈ vx_atS own ic cls names, w.before args s = true)
    (hgood : ∀ w ∈ Cond.classLink own ik cls :: Cond.initialized cls :: vx_atS own ic cls names, vx_ot w = true)
    (hU : vx_Zq Bundle.tN "UNASSIGNED_STACK" Bundle.steD A s s.heap) (hN : vx_Zq Bundle.tN "SUPPRESSED_SENTINEL" Bundle.listD A s s.heap) (hS : va_S A s.heap H locs) (hsize : ls.size = c.maxLocals)
    (d0 : decode cc pc = .ok (.new ik, 3)) (d3 : decode cc (pc + 3) = .ok (.dup, 1)) (d4 : decode cc (pc + 4) = .ok (.ldc is, 2)) (d6 : decode cc (pc + 6) = .ok (.invokespecial ic, 3)) (d9 : decode cc (pc + 9) = .ok (.athrow, 1))
    (hout : ∀ x ∈ c.exceptionTable.toList, covers x (pc + 9) = false)
    (hRframes : names.length + 3 < R.frames) (hRlocals : (rest.map fun v => v.category).sum + (13 * (names.length + 1) + 43) ≤ R.locals) (hRcells : cells + 1 ≤ R.cells) (hRslots : slots + 6 ≤ R.slots) (hlocks : meth.locks = false)
    (hx : ∀ t : State, s.vm.Alike t.vm → H.size ≤ t.heap.size → (∀ q : Nat, q < H.size → t.heap[q]? = H[q]?) → XC cls s t)
    (hf : ∀ z ∈ locs, free z.base) (hc : cells + 1 ≤ mc) (hs : slots + 6 ≤ ms) :
    W p l e R s m args below meth c H locs cells slots (vx_MQ below Qc XC args s mc ms free) (F0 m pc ls rest) := by
  intro T hT X
  have htr : e.platform.stackTraces = false := (show e.platform.stackTraces = l.stackTraces by rw [X.admits.platform]).trans hl
  have Y := vx_rebase X (R' := { frames := R.frames, locals := R.locals, cells := 1, slots := 6 }) (Nat.le_refl _) (Nat.le_refl _) hRcells hRslots
  obtain ⟨s', hA⟩ : ∃ z, z = (T.setVm s.vm).setFrames (.invoking m args :: below) := ⟨_, rfl⟩
  rw [← hA] at Y
  have hvm : s'.vm = s.vm := by rw [hA]; rfl
  have hhp : s'.heap = H := by rw [hA]; exact hT
  have hW0 : s.WarmedH s'.vm := by rw [hvm]; exact State.WarmedH.refl s
  have hat' : ∀ w ∈ vx_atS own ic cls names, w.before args s' = true := fun w hw => vx_ot_at hW0 hvm.symm (hgood w (List.mem_cons_of_mem _ (List.mem_cons_of_mem _ hw))) (hat w hw)
  have hk' : (Cond.classLink own ik cls).before args s' = true := vx_ot_at hW0 hvm.symm (hgood _ List.mem_cons_self) hk
  have hini' : (Cond.initialized cls).before args s' = true := vx_ot_at hW0 hvm.symm (hgood _ (List.mem_cons_of_mem _ List.mem_cons_self)) hini
  have hU' : vx_Zq Bundle.tN "UNASSIGNED_STACK" Bundle.steD A s' s'.heap := by rw [hhp]; exact vx_Zq.moved hW0.alike (hU.kept hS.2.1)
  have hN' : vx_Zq Bundle.tN "SUPPRESSED_SENTINEL" Bundle.listD A s' s'.heap := by rw [hhp]; exact vx_Zq.moved hW0.alike (hN.kept hS.2.1)
  have h : ∀ w ∈ Bundle.ownAtoms own ic cls names, w.before args s' = true := vx_own hat' (vx_isRefq hU'.1) (vx_isRefq hN'.1) hU'.2.word hN'.2.word
  have hown' : s'.vm.findClass own = some m.cls := by rw [hvm]; exact hown
  have hins : (Cond.instantiable cls 6).before args s' = true := h _ (by simp [Bundle.ownAtoms])
  obtain ⟨vm₁, cX, kX, hfX, hkX, -, -, X₁, st1⟩ := Y.newCold hexec (own := own) (C := cls) (index := ik) (n := 6) hown' hk' hins hini'
    (g := F0 m pc ls rest) rfl (by rw [hb]; exact d0) (Nat.le_refl _) (Nat.le_refl _)
  generalize hT1 : (T.setVm vm₁).pushCell { cls := cX, slots := kX.instanceTypes.map defaultValue, vm := .none } = T1 at X₁ st1
  have hcat : (Value.ref T.heap.size).category = 1 := rfl
  have hcellA : T1.heap[T.heap.size]? = some (freshCell cX kX) := by rw [← hT1]; exact State.heap_pushCell_size _ _
  have d3' : decode c.code (pc + 3) = .ok (.dup, 1) := by rw [hb]; exact d3
  have d4' : decode c.code (pc + 4) = .ok (.ldc is, 2) := by rw [hb]; exact d4
  have hstr' : vk_R own is text sa s' := vk_R.warm hW0 hstr
  obtain ⟨U, hsteps, hrun, hend, hW, hsame, ce, hce, hO⟩ := X₁.ctorThrowS hexec htr (own := own) (cls := cls) (names := names) (ic := ic) hown' hcls hnames h (fun x hx => nomatch hx) hfX hkX hcellA (by rw [hhp, hT]; exact Nat.le_refl _) (msg := .ref sa) rfl
    (g := { method := m, pc := pc + 6, locals := ls, stack := .ref sa :: .ref T.heap.size :: .ref T.heap.size :: rest, locked := none }) rfl hsize rfl rfl (rest := rest) rfl
    (by rw [hb]; exact d6) (by rw [hb]; exact d9) hout hRframes (by simp only [List.map_cons, List.sum_cons, hcat]; omega) hlocks
  obtain ⟨f1, f2⟩ := vx_frame hsame
  rw [hhp] at f1 f2
  have hWs : s.WarmedH U.vm := State.WarmedH.trans hW0 hW
  have hcl : s.vm.findClass cls = some ce.cls := by
    have h9 := hO.cls
    rw [hvm] at h9
    exact h9
  have hall : s.sameButNew ({ U with vm := s.vm } : State) locs mc ms := by
    subst hA
    obtain ⟨e1, e2⟩ := hsame
    rw [State.setFrames_setFrames] at e1
    have h2 : (T.setVm s.vm).sameButNew ({ U with vm := s.vm } : State) [] (0 + 1) (0 + 6) := ⟨e1, e2⟩
    have h3 := X.same.trans h2
    rw [List.append_nil] at h3
    exact h3.mono hc hs
  refine ⟨U, ?_, .threw T.heap.size, hrun, hend, Or.inr ⟨T.heap.size, rfl, cls, ce, locs, hx U hWs.alike f1 (fun q hq => f2 q hq (fun z hz => nomatch hz)), hce, hO.vm, hcl, hWs, hall, hf⟩⟩
  refine st1 _ ?_
  show Steps p.tables e below (T1.setTop { method := m, pc := pc + 3, locals := ls, stack := .ref T.heap.size :: rest, locked := none }) _
  jvm_step X₁.here [X₁.here.top, hexec, d3', Value.category]
  exact X₁.ldcString hexec (own := own) (text := text) (index := is) (a := sa) hown' hstr'.1 hstr'.2
    (g := { method := m, pc := pc + 4, locals := ls, stack := .ref T.heap.size :: .ref T.heap.size :: rest, locked := none }) rfl d4' _ hsteps
/-- 'throw new E("text")', the text by a wide index -/
theorem vx_throwSW {cc : ByteArray} {pc : Nat} (hexec : p.tables.exec = Jvm.exec) (hb : c.code = cc) (hl : l.stackTraces = false) {own cls text : String} {names : List String} {ik is ic mc ms sa : Nat} {A : Nat → Prop}
    (hown : s.vm.findClass own = some m.cls) (hcls : Bundle.fit cls = true) (hnames : ∀ n ∈ names, Bundle.fit n = true)
    (hk : (Cond.classLink own ik cls).before args s = true) (hini : (Cond.initialized cls).before args s = true) (hstr : vk_R own is text sa s) (hat : ∀ w ∈ vx_atS own ic cls names, w.before args s = true)
    (hgood : ∀ w ∈ Cond.classLink own ik cls :: Cond.initialized cls :: vx_atS own ic cls names, vx_ot w = true)
    (hU : vx_Zq Bundle.tN "UNASSIGNED_STACK" Bundle.steD A s s.heap) (hN : vx_Zq Bundle.tN "SUPPRESSED_SENTINEL" Bundle.listD A s s.heap) (hS : va_S A s.heap H locs) (hsize : ls.size = c.maxLocals)
    (d0 : decode cc pc = .ok (.new ik, 3)) (d3 : decode cc (pc + 3) = .ok (.dup, 1)) (d4 : decode cc (pc + 4) = .ok (.ldc_w is, 3)) (d7 : decode cc (pc + 7) = .ok (.invokespecial ic, 3)) (d10 : decode cc (pc + 10) = .ok (.athrow, 1))
    (hout : ∀ x ∈ c.exceptionTable.toList, covers x (pc + 10) = false)
    (hRframes : names.length + 3 < R.frames) (hRlocals : (rest.map fun v => v.category).sum + (13 * (names.length + 1) + 43) ≤ R.locals) (hRcells : cells + 1 ≤ R.cells) (hRslots : slots + 6 ≤ R.slots) (hlocks : meth.locks = false)
    (hx : ∀ t : State, s.vm.Alike t.vm → H.size ≤ t.heap.size → (∀ q : Nat, q < H.size → t.heap[q]? = H[q]?) → XC cls s t)
    (hf : ∀ z ∈ locs, free z.base) (hc : cells + 1 ≤ mc) (hs : slots + 6 ≤ ms) :
    W p l e R s m args below meth c H locs cells slots (vx_MQ below Qc XC args s mc ms free) (F0 m pc ls rest) := by
  intro T hT X
  have htr : e.platform.stackTraces = false := (show e.platform.stackTraces = l.stackTraces by rw [X.admits.platform]).trans hl
  have Y := vx_rebase X (R' := { frames := R.frames, locals := R.locals, cells := 1, slots := 6 }) (Nat.le_refl _) (Nat.le_refl _) hRcells hRslots
  obtain ⟨s', hA⟩ : ∃ z, z = (T.setVm s.vm).setFrames (.invoking m args :: below) := ⟨_, rfl⟩
  rw [← hA] at Y
  have hvm : s'.vm = s.vm := by rw [hA]; rfl
  have hhp : s'.heap = H := by rw [hA]; exact hT
  have hW0 : s.WarmedH s'.vm := by rw [hvm]; exact State.WarmedH.refl s
  have hat' : ∀ w ∈ vx_atS own ic cls names, w.before args s' = true := fun w hw => vx_ot_at hW0 hvm.symm (hgood w (List.mem_cons_of_mem _ (List.mem_cons_of_mem _ hw))) (hat w hw)
  have hk' : (Cond.classLink own ik cls).before args s' = true := vx_ot_at hW0 hvm.symm (hgood _ List.mem_cons_self) hk
  have hini' : (Cond.initialized cls).before args s' = true := vx_ot_at hW0 hvm.symm (hgood _ (List.mem_cons_of_mem _ List.mem_cons_self)) hini
  have hU' : vx_Zq Bundle.tN "UNASSIGNED_STACK" Bundle.steD A s' s'.heap := by rw [hhp]; exact vx_Zq.moved hW0.alike (hU.kept hS.2.1)
  have hN' : vx_Zq Bundle.tN "SUPPRESSED_SENTINEL" Bundle.listD A s' s'.heap := by rw [hhp]; exact vx_Zq.moved hW0.alike (hN.kept hS.2.1)
  have h : ∀ w ∈ Bundle.ownAtoms own ic cls names, w.before args s' = true := vx_own hat' (vx_isRefq hU'.1) (vx_isRefq hN'.1) hU'.2.word hN'.2.word
  have hown' : s'.vm.findClass own = some m.cls := by rw [hvm]; exact hown
  have hins : (Cond.instantiable cls 6).before args s' = true := h _ (by simp [Bundle.ownAtoms])
  obtain ⟨vm₁, cX, kX, hfX, hkX, -, -, X₁, st1⟩ := Y.newCold hexec (own := own) (C := cls) (index := ik) (n := 6) hown' hk' hins hini'
    (g := F0 m pc ls rest) rfl (by rw [hb]; exact d0) (Nat.le_refl _) (Nat.le_refl _)
  generalize hT1 : (T.setVm vm₁).pushCell { cls := cX, slots := kX.instanceTypes.map defaultValue, vm := .none } = T1 at X₁ st1
  have hcat : (Value.ref T.heap.size).category = 1 := rfl
  have hcellA : T1.heap[T.heap.size]? = some (freshCell cX kX) := by rw [← hT1]; exact State.heap_pushCell_size _ _
  have d3' : decode c.code (pc + 3) = .ok (.dup, 1) := by rw [hb]; exact d3
  have d4' : decode c.code (pc + 4) = .ok (.ldc_w is, 3) := by rw [hb]; exact d4
  have hstr' : vk_R own is text sa s' := vk_R.warm hW0 hstr
  obtain ⟨U, hsteps, hrun, hend, hW, hsame, ce, hce, hO⟩ := X₁.ctorThrowS hexec htr (own := own) (cls := cls) (names := names) (ic := ic) hown' hcls hnames h (fun x hx => nomatch hx) hfX hkX hcellA (by rw [hhp, hT]; exact Nat.le_refl _) (msg := .ref sa) rfl
    (g := { method := m, pc := pc + 7, locals := ls, stack := .ref sa :: .ref T.heap.size :: .ref T.heap.size :: rest, locked := none }) rfl hsize rfl rfl (rest := rest) rfl
    (by rw [hb]; exact d7) (by rw [hb]; exact d10) hout hRframes (by simp only [List.map_cons, List.sum_cons, hcat]; omega) hlocks
  obtain ⟨f1, f2⟩ := vx_frame hsame
  rw [hhp] at f1 f2
  have hWs : s.WarmedH U.vm := State.WarmedH.trans hW0 hW
  have hcl : s.vm.findClass cls = some ce.cls := by
    have h9 := hO.cls
    rw [hvm] at h9
    exact h9
  have hall : s.sameButNew ({ U with vm := s.vm } : State) locs mc ms := by
    subst hA
    obtain ⟨e1, e2⟩ := hsame
    rw [State.setFrames_setFrames] at e1
    have h2 : (T.setVm s.vm).sameButNew ({ U with vm := s.vm } : State) [] (0 + 1) (0 + 6) := ⟨e1, e2⟩
    have h3 := X.same.trans h2
    rw [List.append_nil] at h3
    exact h3.mono hc hs
  refine ⟨U, ?_, .threw T.heap.size, hrun, hend, Or.inr ⟨T.heap.size, rfl, cls, ce, locs, hx U hWs.alike f1 (fun q hq => f2 q hq (fun z hz => nomatch hz)), hce, hO.vm, hcl, hWs, hall, hf⟩⟩
  refine st1 _ ?_
  show Steps p.tables e below (T1.setTop { method := m, pc := pc + 3, locals := ls, stack := .ref T.heap.size :: rest, locked := none }) _
  jvm_step X₁.here [X₁.here.top, hexec, d3', Value.category]
  exact X₁.ldcStringW hexec (own := own) (text := text) (index := is) (a := sa) hown' hstr'.1 hstr'.2
    (g := { method := m, pc := pc + 4, locals := ls, stack := .ref T.heap.size :: .ref T.heap.size :: rest, locked := none }) rfl d4' _ hsteps
end Ends
section Bodies
variable {l : Launch}
theorem vx_ofW {y : MethodName} {ws ws' : List Cond} {rm : Room} {Pc : Array Value → State → Prop} {Qc : Array Value → State → Outcome → State → Prop} {XC : String → State → State → Prop} {mc ms : Nat} {free : Addr → Prop} {cc : ByteArray} {maxL : Nat} {ret : Option FieldType}
    (hy : plainName y.cls = true) (hw : ws = Cond.code y cc maxL ret :: ws')
    (body : ∀ p e s m args below meth c s₁, BodyLoose p l y (headSpec ws rm) cc maxL ret e s m args below meth c s₁ → c.maxLocals = maxL → (∀ x ∈ c.exceptionTable.toList, False) → Pc args s →
      W p l e (headSpec ws rm).room s m args below meth c s.heap [] 0 0 (vx_MQ below Qc XC args s mc ms free) (entryFrame m args maxL)) : vx_Met l y ws rm Pc Qc XC mc ms free := by
  refine MetFree.of_bodyS (code := cc) (maxLocals := maxL) (ret := ret) hy ?_ ?_
  · intro args s m h hn
    obtain ⟨meth, c, h1, h2, h3, h4, h5, h6, -, -⟩ := Cond.code_spec hn (atoms_spec (ws := ws) h _ (by rw [hw]; exact List.mem_cons_self))
    exact ⟨meth, c, h1, h2, h3, h4, h5, h6⟩
  · intro p e s m args below meth c s₁ B hml hP _
    have hh0 : s₁.heap = s.heap := by rw [B.state]; rfl
    have ht : ∀ x ∈ c.exceptionTable.toList, False := by
      obtain ⟨meth9, c9, h1, h2, -, -, -, -, h7, -⟩ := Cond.code_spec B.named (atoms_spec (ws := ws) B.pre _ (by rw [hw]; exact List.mem_cons_self))
      cases Option.some.inj (h1.symm.trans B.method)
      cases Option.some.inj (h2.symm.trans (Stand.of_body B).code)
      intro x hx
      rw [Array.isEmpty_iff.mp h7] at hx
      cases hx
    obtain ⟨t, a1, o, b1, b2, b3⟩ := body p e s m args below meth c s₁ B hml ht hP s₁ hh0 (Stand.of_body B)
    exact ⟨t, o, a1, b1, b2, b3⟩
/-- the table of a body with handlers -/
theorem vx_table {p : Program} {x y : MethodName} {S : Spec} {cc bytes : ByteArray} {maxL maxL' : Nat} {ret ret' : Option FieldType} {e : Env} {s s₁ : State} {m : MethodId} {args : Array Value} {below : List Frame} {meth : Method} {c : Code} {hh : List (Nat × Nat × Nat × Nat)}
    (B : BodyLoose p l y S cc maxL ret e s m args below meth c s₁) (h : (Cond.codeWith y bytes maxL' ret' hh).before args s = true) : c.exceptionTable.toList = tableOf hh := by
  obtain ⟨m9, meth9, c9, hn9, h1, h2, -, -, h6, -⟩ := Cond.codeWith_spec h
  cases Option.some.inj (hn9.symm.trans B.named)
  cases Option.some.inj (h1.symm.trans B.method)
  cases Option.some.inj (h2.symm.trans (Stand.of_body B).code)
  rw [← h6, table_eq]
end Bodies
end VXA
/-! ===== END ===== -/
/-! ===== BEGIN a static call of a method with an exception table ===== -/
section VXS
variable {p : Program} {l : Launch} {e : Env} {R : Room} {s : State} {m : MethodId} {args : Array Value} {below : List Frame} {meth : Method} {c : Code} {T : State} {H : Heap} {locs : List Loc} {cells slots : Nat}
abbrev vx_CSW (R : Room) (s : State) (args : Array Value) (own : String) (index : Nat) (y : MethodName) (bytes : ByteArray) (maxL : Nat) (ret : Option FieldType) (hh : List (Nat × Nat × Nat × Nat)) (ws : List Cond) (rm : Room) (mc ms n : Nat) : Prop :=
  (rm.cells = mc ∧ rm.slots = ms ∧ rm.frames + 1 ≤ R.frames ∧ 8 + (maxL + 11) + rm.locals ≤ R.locals ∧ (∀ w ∈ ws, ∀ (a' : Array Value) (U : State), s.WarmedH U.vm → w.before a' U = true) ∧ Cond.codeWith y bytes maxL ret hh ∈ ws) ∧
  (Cond.codeWith y bytes maxL ret hh).before args s = true ∧ (Cond.initialized y.cls).before args s = true ∧ (y.cls ≠ "java/lang/invoke/MethodHandle" ∧ y.cls ≠ "java/lang/invoke/VarHandle") ∧
  (∀ sig, parseMethodDescriptor y.desc = some sig → n = sig.parameters.length) ∧ (Cond.methodLink own index y).before args s = true ∧ (Cond.static y).before args s = true
theorem vx_cwSW {own : String} {index maxL mc ms : Nat} {y : MethodName} {bytes : ByteArray} {ret : Option FieldType} {hh : List (Nat × Nat × Nat × Nat)} {Ts ws ws' : List Cond} {rm : Room} (n : Nat) (ht : ∀ w ∈ Ts, w.before args s = true) (hT : GoodIn Ts (va_wsS own index y ws)) (hw : ws = Cond.codeWith y bytes maxL ret hh :: ws') (hrc : rm.cells = mc) (hrs : rm.slots = ms)
    (hd : y.cls ≠ "java/lang/invoke/MethodHandle" ∧ y.cls ≠ "java/lang/invoke/VarHandle" ∧ (parseMethodDescriptor y.desc).map (fun d => d.parameters.length) = some n) (hR : rm.frames + 1 ≤ R.frames ∧ 8 + (maxL + 11) + rm.locals ≤ R.locals) :
    vx_CSW R s args own index y bytes maxL ret hh ws rm mc ms n := by
  have ok : ∀ w ∈ va_wsS own index y ws, w.before args s = true := fun w h => ht w (hT w h).1
  have hG : GoodIn Ts ws := fun w h => hT w (by unfold va_wsS; exact List.mem_append_right _ h)
  have hc : Cond.codeWith y bytes maxL ret hh ∈ ws := by rw [hw]; exact List.mem_cons_self
  refine ⟨⟨hrc, hrs, hR.1, hR.2, pay_in ht hG, hc⟩, ht _ (hG _ hc).1, ok _ (by simp [va_wsS]), ⟨hd.1, hd.2.1⟩, fun sig h => ?_, ok _ (by simp [va_wsS]), ok _ (by simp [va_wsS])⟩
  have h2 := hd.2.2
  rw [h] at h2
  exact (Option.some.inj h2).symm
theorem vx_callSW (X : Stand p l e R s m args below meth c T locs cells slots) (hexec : p.tables.exec = Jvm.exec) {own : String} {index : Nat} {y : MethodName} {bytes : ByteArray} {maxL : Nat} {ret : Option FieldType} {hh : List (Nat × Nat × Nat × Nat)}
    (hown : s.vm.findClass own = some m.cls) (hlink : (Cond.methodLink own index y).before args s = true) (hstat : (Cond.static y).before args s = true) (hinit : (Cond.initialized y.cls).before args s = true)
    (hcode : (Cond.codeWith y bytes maxL ret hh).before args s = true) (hy : y.cls ≠ "java/lang/invoke/MethodHandle" ∧ y.cls ≠ "java/lang/invoke/VarHandle")
    {W9 : Nat} {Pre : Pt → Array Value → Prop} {Post : Pt → Array Value → Option Value → Pt → Prop} (hK : Back l R p e below s args y 3 W9 Pre Post)
    {g : JFrame} (hg : g.method = m) (hsize : g.locals.size = c.maxLocals) {argsL rest : List Value} (hlen : ∀ sig, parseMethodDescriptor y.desc = some sig → argsL.length = sig.parameters.length)
    (hstack : g.stack = argsL.reverse ++ rest) (hW : 2 * g.monitorRoom + (rest.map fun v => v.category).sum ≤ W9) (hdg : decode c.code g.pc = .ok (.invokestatic index, 3))
    (hpre : ∀ vm₁, s.WarmedH vm₁ → Pre ⟨T.setVm vm₁, locs, cells, slots⟩ argsL.toArray) :
    ∃ (v : Option Value) (vm₁ : Vm) (B : Pt), s.WarmedH vm₁ ∧ Stand p l e R s m args below meth c B.U B.locs B.cells B.slots ∧ Post ⟨T.setVm vm₁, locs, cells, slots⟩ argsL.toArray v B ∧
      ∀ target, Steps p.tables e below (B.U.setTop { g with pc := g.pc + 3, stack := v.toList ++ rest }) target → Steps p.tables e below (T.setTop g) target := by
  obtain ⟨mk, methM, cM, hnamed, hmethM, -, -, -, -, -, -, hsigM⟩ := Cond.codeWith_spec hcode
  have hstatic : methM.isStatic = true := Cond.static_spec hnamed hmethM hstat
  obtain ⟨kP, hkP, -⟩ := className_of_methodNamed hnamed
  have hinitP : kP.init = .initialized := Cond.initialized_spec (findClass_of_methodNamed hnamed) hkP hinit
  obtain ⟨vm₁, X₁, hstep₁⟩ := X.invokestatic hexec hown hlink hnamed hmethM hstatic hkP hinitP hy (g := g) hg (argsL := argsL) (rest := rest) (hlen _ hsigM) hstack hdg
  obtain ⟨v, B, X', hpost, hsteps⟩ := hK m meth c ⟨T.setVm vm₁, locs, cells, slots⟩ { g with stack := rest } (.invokestatic index) mk argsL.toArray X₁ hg hsize hdg hW (X₁.named hnamed) (hpre vm₁ X₁.warmed)
  exact ⟨v, vm₁, B, X₁.warmed, X', hpost, fun target h => hstep₁ _ fun acts => by rw [doInvoke_state]; exact hsteps.trans h⟩
theorem vx_runSW {y : MethodName} {bytes cc : ByteArray} {maxL nL mc ms n index : Nat} {ret : Option FieldType} {hh : List (Nat × Nat × Nat × Nat)} {ws : List Cond} {rm : Room} {Pc : Array Value → State → Prop} {Qc : Array Value → State → Outcome → State → Prop} {free : Addr → Prop} {Ts : List Cond} {own : String} {As rest : List Value} {g : JFrame}
    (S : CallFix p m c cc nL s args Ts own) (hM : Met l y ws rm Pc Qc mc ms free) (cw : vx_CSW R s args own index y bytes maxL ret hh ws rm mc ms n) (hp : PreS s H Pc As)
    (hg : g.method = m) (hn : As.length = n) (hsize : g.locals.size = nL) (hstack : g.stack = As.reverse ++ rest) (hW : 2 * g.monitorRoom + (rest.map fun v => v.category).sum ≤ 8) (hdg : decode cc g.pc = .ok (.invokestatic index, 3)) (hf : cells + mc ≤ R.cells ∧ slots + ms ≤ R.slots) :
    va_Run p l e R s m args below meth c H locs cells slots mc ms g rest (Qc As.toArray) (free) := by
  obtain ⟨⟨hrc, hrs, hfr, hlo, hws, hcw⟩, hcode, hini, hy, hlen, hl, hstt⟩ := cw
  have hK : Back l R p e below s args y 3 8 (PreOf R mc ms Pc) (PostOf Qc mc ms free) := va_backW (hh := hh) (bytes := bytes) (maxL := maxL) (ret := ret) hM hp.1 hrc hrs hfr hlo hws hcw (fun a' U hW => word_at hW (Or.inl (by first | rfl | simp [Cond.onTables, Cond.keeps, Cond.steady])) hini)
  obtain ⟨hx, hb, hml, ho, -⟩ := S
  intro T hT X
  obtain ⟨v, vm₁, ⟨U', l2, c2, s2⟩, hW₁, X', ⟨g', mk, t, L, e1, e2, hq, h1, hL, h2, h3⟩, st⟩ := vx_callSW X hx (hh := hh) (bytes := bytes) (maxL := maxL) (ret := ret) ho hl hstt hini hcode hy hK hg (hsize.trans hml.symm) (argsL := As) (rest := rest) (fun sig h => hn.trans (hlen sig h)) hstack hW (by rw [hb]; exact hdg)
    (fun vm₁ hW₁ => ⟨hf.1, hf.2, hp.2 (T.setVm vm₁) hT hW₁⟩)
  dsimp only [Pt.U, Pt.locs, Pt.cells, Pt.slots] at X' e1 e2 h1 h2 h3 st
  subst h1; subst h2; subst h3
  exact ⟨v, (T.setVm vm₁).calling g' mk As.toArray, t, U', L, hT, X', hL, e1, e2, hq, st⟩
/-- a thing of a world lies in the heap -/
theorem vx_lt {D : va_G} {cl : List vw_C} {ws : va_W} {H1 : Heap} (h : va_P D cl ws H1) {k : Nat} {q : Nat × va_E} (hk : ws[k]? = some q) : q.1 < H1.size := (h k q hk).lt
end VXS
/-! ===== END ===== -/
/-! ===== BEGIN methods with a table of their own: called by a name, returning or throwing ===== -/
section VXH
/-! vx_backW, vx_callVX, vx_callSX, vx_callVW, vx_runVW, vx_runVX, vx_runSX, vx_ofWH follow the same proofs as their sisters above (Free/Laws.lean, Shelf42/LK1.lean); vx_outP calls Shelf42/NT130.lean (outThrough). -/
section
variable {l : Launch} {R : Room} {p : Program} {e : Env} {below : List Frame} {s : State} {sargs : Array Value} {y : MethodName} {len W9 : Nat}
theorem vx_backW {ws : List Cond} {rm : Room} {Pc : Array Value → State → Prop} {Qc : Array Value → State → Outcome → State → Prop} {XC : String → State → State → Prop} {mc ms : Nat} {free : Addr → Prop} {bytes : ByteArray} {maxL : Nat} {ret : Option FieldType} {hh : List (Nat × Nat × Nat × Nat)}
    (hM : vx_Met l y ws rm Pc Qc XC mc ms free) (hblind : FrameBlind Pc) (hrc : rm.cells = mc) (hrs : rm.slots = ms)
    (hframes : rm.frames + 1 ≤ R.frames) (hlocals : W9 + (maxL + 11) + rm.locals ≤ R.locals)
    (hws : ∀ w ∈ ws, ∀ a' U, s.WarmedH U.vm → w.before a' U = true) (hcode : Cond.codeWith y bytes maxL ret hh ∈ ws) (hinit : ∀ a' U, s.WarmedH U.vm → (Cond.initialized y.cls).before a' U = true) :
    vx_Back l R p e below s sargs y len W9 (PreOf R mc ms Pc) (PostOf Qc mc ms free) (vx_Post XC mc ms free) := by
  intro m meth c A g ig mk a X hg hsize hdg hW hn hp
  have h1 : (headSpec ws rm).pre.before a A.U = true := atoms_intro fun w hw => hws w hw _ _ X.warmed
  have h2 : (Cond.codeWith y bytes maxL ret hh).before a A.U = true := hws _ hcode _ _ X.warmed
  have h3 : (Cond.initialized y.cls).before a A.U = true := hinit _ _ X.warmed
  have h4 : A.cells + (headSpec ws rm).room.cells ≤ R.cells := by rw [show (headSpec ws rm).room.cells = mc from hrc]; exact hp.1
  have h5 : A.slots + (headSpec ws rm).room.slots ≤ R.slots := by rw [show (headSpec ws rm).room.slots = ms from hrs]; exact hp.2.1
  have hPc : Pc a (A.U.calling g mk a) := hblind _ _ _ _ hp.2.2
  obtain ⟨U, Ls, c0, s0⟩ := A
  dsimp only [Pt.U, Pt.locs, Pt.cells, Pt.slots] at h1 h2 h3 h4 h5 X hn hPc ⊢
  obtain ⟨m9, methY, cY, hn9, hmY, hcY, -, hlY, -⟩ := Cond.codeWith_spec h2
  cases Option.some.inj (hn9.symm.trans hn)
  obtain ⟨kY, hkY, -⟩ := className_of_methodNamed hn
  have hinitY : kY.init = .initialized := Cond.initialized_spec (findClass_of_methodNamed hn) hkY h3
  have h : At U g.method c below := by rw [hg]; exact X.here
  have hlocals9 : W9 + (maxL + 11) + (headSpec ws rm).room.locals ≤ R.locals := hlocals
  have happ : (headSpec ws rm).appliesLoose y e.platform (U.calling g mk a) = true :=
    Spec.appliesLoose_calling (g := g) h hdg hn hkY hinitY
      (X.room_calling (g := g) (R' := (headSpec ws rm).room) hsize hmY hcY hframes (by rw [hlY]; omega) h4 h5) h1
  obtain ⟨mid, hmid⟩ := h.above
  have hfr : (U.setTop g).frames = (.java g :: mid) ++ below := by rw [State.frames_setTop' g h.top, hmid]; rfl
  obtain ⟨o, s₂, hsteps, -, hend, hq⟩ := Steps.callFree hM p X.admits X.cas X.clock (acts := []) hfr happ hPc trivial
  have hq' : vx_Q Qc XC mc ms free a (U.calling g mk a) o s₂ := hq
  rw [State.frames_setTop' g h.top] at hend
  obtain ⟨g₀, hg0⟩ := Option.isSome_iff_exists.mp h.top
  obtain ⟨r, hr⟩ := State.topJava?_eq_some.mp hg0
  have hr' : (({ U with heap := s₂.heap, slotsUsed := s₂.slotsUsed } : State).setVm s₂.vm).frames = .java g₀ :: r := hr
  rcases hq' with ⟨hqc, L, hfe, hL⟩ | ⟨q, rfl, E, ce, L, hx, hce, hcv, hcl, hW₂, hsm, hL⟩
  · obtain ⟨⟨v, rfl⟩, hW₂, e2, q2, q3, q4, q5, q6⟩ := id hfe
    have e3 : s₂ = ({ (U.calling g mk a).setFrames s₂.frames with heap := s₂.heap, slotsUsed := s₂.slotsUsed } : State).setVm s₂.vm := by
      have : s₂ = ({ s₂ with vm := (U.calling g mk a).vm } : State).setVm s₂.vm := rfl
      rw [e2] at this
      exact this
    obtain ⟨c₂, i₂, len₂, hc₂, hd₂, hf₂⟩ := hend
    have hW' : U.WarmedH s₂.vm := hW₂
    have hcc : c₂ = c := by
      have h1 : s₂.code? g.method = U.code? g.method := by
        rw [State.code?_eq, State.code?_eq, hW'.alike.method?]
      exact Option.some.inj (hc₂.symm.trans (h1.trans h.code))
    subst hcc
    have hlen : len₂ = len := by rw [hdg] at hd₂; cases hd₂; rfl
    subst hlen
    have hs₂ : s₂ = (({ U with heap := s₂.heap, slotsUsed := s₂.slotsUsed } : State).setVm s₂.vm).setTop { g with pc := g.pc + len₂, stack := v.toList ++ g.stack } := by
      refine e3.trans ?_
      rw [hf₂, State.calling_eq h.top, State.setFrames_setFrames, State.setTop_of_frames _ hr', hr]
      rfl
    have hsame : U.sameButNew ({ U with heap := s₂.heap, slotsUsed := s₂.slotsUsed } : State) L mc ms := by
      refine ⟨?_, q2, q3, q4, q5, q6⟩
      obtain ⟨t, ht, -⟩ := State.frames_cons hr
      show ({ U with heap := s₂.heap, slotsUsed := s₂.slotsUsed } : State) = { U.setFrames U.frames with heap := s₂.heap, slotsUsed := s₂.slotsUsed }
      rw [State.setFrames_self ht]
    subst hg
    refine Or.inl ⟨v, ⟨(({ U with heap := s₂.heap, slotsUsed := s₂.slotsUsed } : State).setVm s₂.vm), Ls ++ L, c0 + mc, s0 + ms⟩,
      ⟨X.admits, X.cas, X.clock, X.frames, X.room, X.hears, X.method, X.code, (X.here.setHeapUsed s₂.heap s₂.slotsUsed).setVm hW'.alike, X.tail, State.WarmedH.trans X.warmed hW', X.limits, X.bytes, X.same.trans (hsame.setVm s.vm)⟩,
      ⟨g, mk, s₂, L, rfl, rfl, hqc, rfl, hL, rfl, rfl⟩, ?_⟩
    show Steps p.tables e below _ ((({ U with heap := s₂.heap, slotsUsed := s₂.slotsUsed } : State).setVm s₂.vm).setTop { g with pc := g.pc + len₂, stack := v.toList ++ g.stack })
    rw [← hs₂]
    exact hsteps
  · obtain ⟨e2, q2, q3, q4, q5, q6⟩ := id hsm
    have e3 : s₂ = ({ (U.calling g mk a).setFrames s₂.frames with heap := s₂.heap, slotsUsed := s₂.slotsUsed } : State).setVm s₂.vm := by
      have : s₂ = ({ s₂ with vm := (U.calling g mk a).vm } : State).setVm s₂.vm := rfl
      rw [e2] at this
      exact this
    have hf₂ : s₂.frames = .throwing q :: .java g :: U.frames.tail := hend
    have hW' : U.WarmedH s₂.vm := hW₂
    have hs₂ : s₂ = ((({ U with heap := s₂.heap, slotsUsed := s₂.slotsUsed } : State).setVm s₂.vm).setTop g).pushFrame (.throwing q) := by
      refine e3.trans ?_
      rw [hf₂, State.calling_eq h.top, State.setFrames_setFrames, State.pushFrame, State.frames_setTop _ hr', State.setTop_of_frames _ hr', State.setFrames_setFrames, hr]
      rfl
    have hsame : U.sameButNew ({ U with heap := s₂.heap, slotsUsed := s₂.slotsUsed } : State) L mc ms := by
      refine ⟨?_, q2, q3, q4, q5, q6⟩
      obtain ⟨t, ht, -⟩ := State.frames_cons hr
      show ({ U with heap := s₂.heap, slotsUsed := s₂.slotsUsed } : State) = { U.setFrames U.frames with heap := s₂.heap, slotsUsed := s₂.slotsUsed }
      rw [State.setFrames_self ht]
    subst hg
    refine Or.inr ⟨q, ⟨(({ U with heap := s₂.heap, slotsUsed := s₂.slotsUsed } : State).setVm s₂.vm), Ls ++ L, c0 + mc, s0 + ms⟩,
      ⟨X.admits, X.cas, X.clock, X.frames, X.room, X.hears, X.method, X.code, (X.here.setHeapUsed s₂.heap s₂.slotsUsed).setVm hW'.alike, X.tail, State.WarmedH.trans X.warmed hW', X.limits, X.bytes, X.same.trans (hsame.setVm s.vm)⟩,
      ⟨g, mk, s₂, L, E, ce, rfl, rfl, hx, hce, hcv, hcl, rfl, hL, rfl, rfl⟩, ?_⟩
    show Steps p.tables e below _ (((({ U with heap := s₂.heap, slotsUsed := s₂.slotsUsed } : State).setVm s₂.vm).setTop g).pushFrame (.throwing q))
    rw [← hs₂]
    exact hsteps
end
variable {p : Program} {l : Launch} {e : Env} {R : Room} {s : State} {m : MethodId} {args : Array Value} {below : List Frame} {meth : Method} {c : Code} {T : State} {H : Heap} {locs : List Loc} {cells slots : Nat}
theorem vx_callVX (X : Stand p l e R s m args below meth c T locs cells slots) (hexec : p.tables.exec = Jvm.exec) {own C : String} {index : Nat} {y : MethodName} {bytes : ByteArray} {maxL : Nat} {ret : Option FieldType} {hh : List (Nat × Nat × Nat × Nat)}
    (hown : s.vm.findClass own = some m.cls) (hlink : (Cond.methodLink own index y).before args s = true) (hinst : (Cond.instanceMethod y).before args s = true) (hsel : (Cond.selects C y y).before args s = true)
    (hcode : (Cond.codeWith y bytes maxL ret hh).before args s = true) (hy : y.cls ≠ "java/lang/invoke/MethodHandle" ∧ y.cls ≠ "java/lang/invoke/VarHandle")
    {W9 : Nat} {Pre : Pt → Array Value → Prop} {Post : Pt → Array Value → Option Value → Pt → Prop} {PostX : Pt → Array Value → Addr → Pt → Prop} (hK : vx_Back l R p e below s args y 3 W9 Pre Post PostX)
    {b : Addr} {cellB : Cell} (hcell : T.heap[b]? = some cellB) (hobj : cellB.vm.isStatics = false) (hcls : s.vm.findClass C = some cellB.cls)
    {g : JFrame} (hg : g.method = m) (hsize : g.locals.size = c.maxLocals) {argsL rest : List Value} (hlen : ∀ sig, parseMethodDescriptor y.desc = some sig → argsL.length = sig.parameters.length)
    (hstack : g.stack = argsL.reverse ++ .ref b :: rest) (hW : 2 * g.monitorRoom + (rest.map fun v => v.category).sum ≤ W9) (hdg : decode c.code g.pc = .ok (.invokevirtual index, 3))
    (hpre : ∀ vm₁, s.WarmedH vm₁ → Pre ⟨T.setVm vm₁, locs, cells, slots⟩ (Value.ref b :: argsL).toArray) :
    (∃ (v : Option Value) (vm₁ : Vm) (B : Pt), s.WarmedH vm₁ ∧ Stand p l e R s m args below meth c B.U B.locs B.cells B.slots ∧ Post ⟨T.setVm vm₁, locs, cells, slots⟩ (Value.ref b :: argsL).toArray v B ∧
      ∀ target, Steps p.tables e below (B.U.setTop { g with pc := g.pc + 3, stack := v.toList ++ rest }) target → Steps p.tables e below (T.setTop g) target) ∨
    (∃ (q : Addr) (vm₁ : Vm) (B : Pt), s.WarmedH vm₁ ∧ Stand p l e R s m args below meth c B.U B.locs B.cells B.slots ∧ PostX ⟨T.setVm vm₁, locs, cells, slots⟩ (Value.ref b :: argsL).toArray q B ∧
      Steps p.tables e below (T.setTop g) ((B.U.setTop { g with stack := rest }).pushFrame (.throwing q))) := by
  obtain ⟨mk, methM, hnamed, hmethM, hstM, habM⟩ := Cond.instanceMethod_spec hinst
  obtain ⟨m8, methM', cM, hn8, hmethM', -, -, -, -, -, -, hsigM⟩ := Cond.codeWith_spec hcode
  cases Option.some.inj (hn8.symm.trans hnamed)
  cases hmethM.symm.trans hmethM'
  obtain ⟨c2, r2, m2, q1, q2, q3, q4, kP, hkP, hkPi⟩ := Cond.selects_spec hsel
  cases hcls.symm.trans q1
  cases (State.methodFound?_of_named hnamed hy).symm.trans q2
  cases hnamed.symm.trans q3
  have hselP : selectMethod e.platform s.vm cellB.cls mk = .method mk := by rw [Launch.admits_selectMethod X.admits]; exact q4
  obtain ⟨vm₁, X₁, hstep₁⟩ := X.invokevirtual hexec hown hlink hnamed hmethM hstM hkP hkPi hy (a := b) (cell := cellB) hcell
    (fun z h => by rw [h] at hobj; cases hobj) hselP hmethM habM hkP hkPi (g := g) hg (argsL := argsL) (rest := rest) (hlen _ hsigM) hstack hdg
  rcases hK m meth c ⟨T.setVm vm₁, locs, cells, slots⟩ { g with stack := rest } (.invokevirtual index) mk (Value.ref b :: argsL).toArray X₁ hg hsize hdg hW (X₁.named hnamed) (hpre vm₁ X₁.warmed) with ⟨v, B, X', hpost, hsteps⟩ | ⟨q, B, X', hpost, hsteps⟩
  · exact Or.inl ⟨v, vm₁, B, X₁.warmed, X', hpost, fun target h => hstep₁ _ fun acts => by rw [doInvoke_state]; exact hsteps.trans h⟩
  · exact Or.inr ⟨q, vm₁, B, X₁.warmed, X', hpost, hstep₁ _ fun acts => by rw [doInvoke_state]; exact hsteps⟩
theorem vx_callSX (X : Stand p l e R s m args below meth c T locs cells slots) (hexec : p.tables.exec = Jvm.exec) {own : String} {index : Nat} {y : MethodName} {bytes : ByteArray} {maxL : Nat} {ret : Option FieldType} {hh : List (Nat × Nat × Nat × Nat)}
    (hown : s.vm.findClass own = some m.cls) (hlink : (Cond.methodLink own index y).before args s = true) (hstat : (Cond.static y).before args s = true) (hinit : (Cond.initialized y.cls).before args s = true)
    (hcode : (Cond.codeWith y bytes maxL ret hh).before args s = true) (hy : y.cls ≠ "java/lang/invoke/MethodHandle" ∧ y.cls ≠ "java/lang/invoke/VarHandle")
    {W9 : Nat} {Pre : Pt → Array Value → Prop} {Post : Pt → Array Value → Option Value → Pt → Prop} {PostX : Pt → Array Value → Addr → Pt → Prop} (hK : vx_Back l R p e below s args y 3 W9 Pre Post PostX)
    {g : JFrame} (hg : g.method = m) (hsize : g.locals.size = c.maxLocals) {argsL rest : List Value} (hlen : ∀ sig, parseMethodDescriptor y.desc = some sig → argsL.length = sig.parameters.length)
    (hstack : g.stack = argsL.reverse ++ rest) (hW : 2 * g.monitorRoom + (rest.map fun v => v.category).sum ≤ W9) (hdg : decode c.code g.pc = .ok (.invokestatic index, 3))
    (hpre : ∀ vm₁, s.WarmedH vm₁ → Pre ⟨T.setVm vm₁, locs, cells, slots⟩ argsL.toArray) :
    (∃ (v : Option Value) (vm₁ : Vm) (B : Pt), s.WarmedH vm₁ ∧ Stand p l e R s m args below meth c B.U B.locs B.cells B.slots ∧ Post ⟨T.setVm vm₁, locs, cells, slots⟩ argsL.toArray v B ∧
      ∀ target, Steps p.tables e below (B.U.setTop { g with pc := g.pc + 3, stack := v.toList ++ rest }) target → Steps p.tables e below (T.setTop g) target) ∨
    (∃ (q : Addr) (vm₁ : Vm) (B : Pt), s.WarmedH vm₁ ∧ Stand p l e R s m args below meth c B.U B.locs B.cells B.slots ∧ PostX ⟨T.setVm vm₁, locs, cells, slots⟩ argsL.toArray q B ∧
      Steps p.tables e below (T.setTop g) ((B.U.setTop { g with stack := rest }).pushFrame (.throwing q))) := by
  obtain ⟨mk, methM, cM, hnamed, hmethM, -, -, -, -, -, -, hsigM⟩ := Cond.codeWith_spec hcode
  have hstatic : methM.isStatic = true := Cond.static_spec hnamed hmethM hstat
  obtain ⟨kP, hkP, -⟩ := className_of_methodNamed hnamed
  have hinitP : kP.init = .initialized := Cond.initialized_spec (findClass_of_methodNamed hnamed) hkP hinit
  obtain ⟨vm₁, X₁, hstep₁⟩ := X.invokestatic hexec hown hlink hnamed hmethM hstatic hkP hinitP hy (g := g) hg (argsL := argsL) (rest := rest) (hlen _ hsigM) hstack hdg
  rcases hK m meth c ⟨T.setVm vm₁, locs, cells, slots⟩ { g with stack := rest } (.invokestatic index) mk argsL.toArray X₁ hg hsize hdg hW (X₁.named hnamed) (hpre vm₁ X₁.warmed) with ⟨v, B, X', hpost, hsteps⟩ | ⟨q, B, X', hpost, hsteps⟩
  · exact Or.inl ⟨v, vm₁, B, X₁.warmed, X', hpost, fun target h => hstep₁ _ fun acts => by rw [doInvoke_state]; exact hsteps.trans h⟩
  · exact Or.inr ⟨q, vm₁, B, X₁.warmed, X', hpost, hstep₁ _ fun acts => by rw [doInvoke_state]; exact hsteps⟩
theorem vx_callVW (X : Stand p l e R s m args below meth c T locs cells slots) (hexec : p.tables.exec = Jvm.exec) {own C : String} {index : Nat} {y : MethodName} {bytes : ByteArray} {maxL : Nat} {ret : Option FieldType} {hh : List (Nat × Nat × Nat × Nat)}
    (hown : s.vm.findClass own = some m.cls) (hlink : (Cond.methodLink own index y).before args s = true) (hinst : (Cond.instanceMethod y).before args s = true) (hsel : (Cond.selects C y y).before args s = true)
    (hcode : (Cond.codeWith y bytes maxL ret hh).before args s = true) (hy : y.cls ≠ "java/lang/invoke/MethodHandle" ∧ y.cls ≠ "java/lang/invoke/VarHandle")
    {W9 : Nat} {Pre : Pt → Array Value → Prop} {Post : Pt → Array Value → Option Value → Pt → Prop} (hK : Back l R p e below s args y 3 W9 Pre Post)
    {b : Addr} {cellB : Cell} (hcell : T.heap[b]? = some cellB) (hobj : cellB.vm.isStatics = false) (hcls : s.vm.findClass C = some cellB.cls)
    {g : JFrame} (hg : g.method = m) (hsize : g.locals.size = c.maxLocals) {argsL rest : List Value} (hlen : ∀ sig, parseMethodDescriptor y.desc = some sig → argsL.length = sig.parameters.length)
    (hstack : g.stack = argsL.reverse ++ .ref b :: rest) (hW : 2 * g.monitorRoom + (rest.map fun v => v.category).sum ≤ W9) (hdg : decode c.code g.pc = .ok (.invokevirtual index, 3))
    (hpre : ∀ vm₁, s.WarmedH vm₁ → Pre ⟨T.setVm vm₁, locs, cells, slots⟩ (Value.ref b :: argsL).toArray) :
    ∃ (v : Option Value) (vm₁ : Vm) (B : Pt), s.WarmedH vm₁ ∧ Stand p l e R s m args below meth c B.U B.locs B.cells B.slots ∧ Post ⟨T.setVm vm₁, locs, cells, slots⟩ (Value.ref b :: argsL).toArray v B ∧
      ∀ target, Steps p.tables e below (B.U.setTop { g with pc := g.pc + 3, stack := v.toList ++ rest }) target → Steps p.tables e below (T.setTop g) target := by
  obtain ⟨mk, methM, hnamed, hmethM, hstM, habM⟩ := Cond.instanceMethod_spec hinst
  obtain ⟨m8, methM', cM, hn8, hmethM', -, -, -, -, -, -, hsigM⟩ := Cond.codeWith_spec hcode
  cases Option.some.inj (hn8.symm.trans hnamed)
  cases hmethM.symm.trans hmethM'
  obtain ⟨c2, r2, m2, q1, q2, q3, q4, kP, hkP, hkPi⟩ := Cond.selects_spec hsel
  cases hcls.symm.trans q1
  cases (State.methodFound?_of_named hnamed hy).symm.trans q2
  cases hnamed.symm.trans q3
  have hselP : selectMethod e.platform s.vm cellB.cls mk = .method mk := by rw [Launch.admits_selectMethod X.admits]; exact q4
  obtain ⟨vm₁, X₁, hstep₁⟩ := X.invokevirtual hexec hown hlink hnamed hmethM hstM hkP hkPi hy (a := b) (cell := cellB) hcell
    (fun z h => by rw [h] at hobj; cases hobj) hselP hmethM habM hkP hkPi (g := g) hg (argsL := argsL) (rest := rest) (hlen _ hsigM) hstack hdg
  obtain ⟨v, B, X', hpost, hsteps⟩ := hK m meth c ⟨T.setVm vm₁, locs, cells, slots⟩ { g with stack := rest } (.invokevirtual index) mk (Value.ref b :: argsL).toArray X₁ hg hsize hdg hW (X₁.named hnamed) (hpre vm₁ X₁.warmed)
  exact ⟨v, vm₁, B, X₁.warmed, X', hpost, fun target h => hstep₁ _ fun acts => by rw [doInvoke_state]; exact hsteps.trans h⟩
abbrev vx_CVW (R : Room) (s : State) (args : Array Value) (own C : String) (index : Nat) (y : MethodName) (bytes : ByteArray) (maxL : Nat) (ret : Option FieldType) (hh : List (Nat × Nat × Nat × Nat)) (ws : List Cond) (rm : Room) (mc ms n : Nat) : Prop :=
  (rm.cells = mc ∧ rm.slots = ms ∧ rm.frames + 1 ≤ R.frames ∧ 8 + (maxL + 11) + rm.locals ≤ R.locals ∧ (∀ w ∈ ws, ∀ (a' : Array Value) (U : State), s.WarmedH U.vm → w.before a' U = true) ∧ Cond.codeWith y bytes maxL ret hh ∈ ws) ∧
  (Cond.codeWith y bytes maxL ret hh).before args s = true ∧ (Cond.initialized y.cls).before args s = true ∧ (y.cls ≠ "java/lang/invoke/MethodHandle" ∧ y.cls ≠ "java/lang/invoke/VarHandle") ∧
  (∀ sig, parseMethodDescriptor y.desc = some sig → n = sig.parameters.length) ∧ (Cond.methodLink own index y).before args s = true ∧ (Cond.instanceMethod y).before args s = true ∧ (Cond.selects C y y).before args s = true
theorem vx_cwVW {own C : String} {index maxL mc ms : Nat} {y : MethodName} {bytes : ByteArray} {ret : Option FieldType} {hh : List (Nat × Nat × Nat × Nat)} {Ts ws ws' : List Cond} {rm : Room} (n : Nat) (ht : ∀ w ∈ Ts, w.before args s = true) (hT : GoodIn Ts (wsV own index C y ws)) (hw : ws = Cond.codeWith y bytes maxL ret hh :: ws') (hrc : rm.cells = mc) (hrs : rm.slots = ms)
    (hd : y.cls = C ∧ y.cls ≠ "java/lang/invoke/MethodHandle" ∧ y.cls ≠ "java/lang/invoke/VarHandle" ∧ (parseMethodDescriptor y.desc).map (fun d => d.parameters.length) = some n) (hR : rm.frames + 1 ≤ R.frames ∧ 8 + (maxL + 11) + rm.locals ≤ R.locals) :
    vx_CVW R s args own C index y bytes maxL ret hh ws rm mc ms n := by
  obtain ⟨hC, hd⟩ := hd
  subst hC
  have ok : ∀ w ∈ wsV own index y.cls y ws, w.before args s = true := fun w h => ht w (hT w h).1
  have hG : GoodIn Ts ws := fun w h => hT w (by unfold wsV; exact List.mem_append_right _ h)
  have hc : Cond.codeWith y bytes maxL ret hh ∈ ws := by rw [hw]; exact List.mem_cons_self
  refine ⟨⟨hrc, hrs, hR.1, hR.2, pay_in ht hG, hc⟩, ht _ (hG _ hc).1, ok _ (by simp [wsV]), ⟨hd.1, hd.2.1⟩, fun sig h => ?_, ok _ (by simp [wsV]), ok _ (by simp [wsV]), ok _ (by simp [wsV])⟩
  have h2 := hd.2.2
  rw [h] at h2
  exact (Option.some.inj h2).symm
theorem vx_runVW {y : MethodName} {bytes cc : ByteArray} {maxL nL mc ms n index : Nat} {ret : Option FieldType} {hh : List (Nat × Nat × Nat × Nat)} {ws : List Cond} {rm : Room} {Pc : Array Value → State → Prop} {Qc : Array Value → State → Outcome → State → Prop} {free : Addr → Prop} {Ts : List Cond} {own C : String} {b : Addr} {As rest : List Value} {g : JFrame}
    (S : CallFix p m c cc nL s args Ts own) (hM : Met l y ws rm Pc Qc mc ms free) (cw : vx_CVW R s args own C index y bytes maxL ret hh ws rm mc ms n) (hp : PreV s H C b Pc As)
    (hg : g.method = m) (hn : As.length = n) (hsize : g.locals.size = nL) (hstack : g.stack = As.reverse ++ .ref b :: rest) (hW : 2 * g.monitorRoom + (rest.map fun v => v.category).sum ≤ 8) (hdg : decode cc g.pc = .ok (.invokevirtual index, 3)) (hf : cells + mc ≤ R.cells ∧ slots + ms ≤ R.slots) :
    va_Run p l e R s m args below meth c H locs cells slots mc ms g rest (Qc (Value.ref b :: As).toArray) free := by
  obtain ⟨⟨hrc, hrs, hfr, hlo, hws, hcw⟩, hcode, hini, hy, hlen, hl, hin, hse⟩ := cw
  have hK : Back l R p e below s args y 3 8 (PreOf R mc ms Pc) (PostOf Qc mc ms free) := va_backW (hh := hh) (bytes := bytes) (maxL := maxL) (ret := ret) hM hp.1 hrc hrs hfr hlo hws hcw (fun a' U hW => word_at hW (Or.inl (by first | rfl | simp [Cond.onTables, Cond.keeps, Cond.steady])) hini)
  obtain ⟨hx, hb, hml, ho, -⟩ := S
  obtain ⟨-, ⟨cellB, hcB, hoB, hclB⟩, hPc⟩ := hp
  intro T hT X
  obtain ⟨v, vm₁, ⟨U', l2, c2, s2⟩, hW₁, X', ⟨g', mk, t, L, e1, e2, hq, h1, hL, h2, h3⟩, st⟩ := vx_callVW X hx (C := C) (hh := hh) (bytes := bytes) (maxL := maxL) (ret := ret) ho hl hin hse hcode hy hK (by rw [hT]; exact hcB) hoB hclB hg (hsize.trans hml.symm) (argsL := As) (rest := rest) (fun sig h => hn.trans (hlen sig h)) hstack hW (by rw [hb]; exact hdg)
    (fun vm₁ hW₁ => ⟨hf.1, hf.2, hPc (T.setVm vm₁) hT hW₁⟩)
  dsimp only [Pt.U, Pt.locs, Pt.cells, Pt.slots] at X' e1 e2 h1 h2 h3 st
  subst h1; subst h2; subst h3
  exact ⟨v, (T.setVm vm₁).calling g' mk (Value.ref b :: As).toArray, t, U', L, hT, X', hL, e1, e2, hq, st⟩
section
variable {y : MethodName} {bytes cc : ByteArray} {maxL nL mc ms n index : Nat} {ret : Option FieldType} {ws : List Cond} {rm : Room} {Pc : Array Value → State → Prop} {Qc : Array Value → State → Outcome → State → Prop} {XC : String → State → State → Prop} {free : Addr → Prop} {Ts : List Cond} {own C : String} {b : Addr} {As rest : List Value} {g : JFrame}
theorem vx_runVX {hh : List (Nat × Nat × Nat × Nat)} (S : CallFix p m c cc nL s args Ts own) (hM : vx_Met l y ws rm Pc Qc XC mc ms free) (cw : vx_CVW R s args own C index y bytes maxL ret hh ws rm mc ms n) (hp : PreV s H C b Pc As)
    (hg : g.method = m) (hn : As.length = n) (hsize : g.locals.size = nL) (hstack : g.stack = As.reverse ++ .ref b :: rest) (hW : 2 * g.monitorRoom + (rest.map fun v => v.category).sum ≤ 8) (hdg : decode cc g.pc = .ok (.invokevirtual index, 3)) (hf : cells + mc ≤ R.cells ∧ slots + ms ≤ R.slots) :
    vx_Run p l e R s m args below meth c H locs cells slots mc ms g rest (Qc (Value.ref b :: As).toArray) XC free := by
  obtain ⟨⟨hrc, hrs, hfr, hlo, hws, hcw⟩, hcode, hini, hy, hlen, hl, hin, hse⟩ := cw
  have hK : vx_Back l R p e below s args y 3 8 (PreOf R mc ms Pc) (PostOf Qc mc ms free) (vx_Post XC mc ms free) := vx_backW (hh := hh) (bytes := bytes) (maxL := maxL) (ret := ret) hM hp.1 hrc hrs hfr hlo hws hcw (fun a' U hW => word_at hW (Or.inl (by first | rfl | simp [Cond.onTables, Cond.keeps, Cond.steady])) hini)
  obtain ⟨hx, hb, hml, ho, -⟩ := S
  obtain ⟨-, ⟨cellB, hcB, hoB, hclB⟩, hPc⟩ := hp
  intro T hT X
  rcases vx_callVX X hx (C := C) (hh := hh) (bytes := bytes) (maxL := maxL) (ret := ret) ho hl hin hse hcode hy hK (by rw [hT]; exact hcB) hoB hclB hg (hsize.trans hml.symm) (argsL := As) (rest := rest) (fun sig h => hn.trans (hlen sig h)) hstack hW (by rw [hb]; exact hdg)
    (fun vm₁ hW₁ => ⟨hf.1, hf.2, hPc (T.setVm vm₁) hT hW₁⟩) with ⟨v, vm₁, ⟨U', l2, c2, s2⟩, hW₁, X', ⟨g', mk, t, L, e1, e2, hq, h1, hL, h2, h3⟩, st⟩ | ⟨q, vm₁, ⟨U', l2, c2, s2⟩, hW₁, X', ⟨g', mk, t, L, E, ce, e1, e2, hq, hce, hcv, hcl, h1, hL, h2, h3⟩, st⟩
  · dsimp only [Pt.U, Pt.locs, Pt.cells, Pt.slots] at X' e1 e2 h1 h2 h3 st
    subst h1; subst h2; subst h3
    exact Or.inl ⟨v, (T.setVm vm₁).calling g' mk (Value.ref b :: As).toArray, t, U', L, hT, X', hL, e1, e2, hq, st⟩
  · dsimp only [Pt.U, Pt.locs, Pt.cells, Pt.slots] at X' e1 e2 h1 h2 h3 st hcl
    subst h1; subst h2; subst h3
    exact Or.inr ⟨q, (T.setVm vm₁).calling g' mk (Value.ref b :: As).toArray, t, U', L, E, ce, hT, X', hL, e1, e2, hq, hce, hcv, vx_cls hW₁ hcl, st⟩
theorem vx_runSX {hh : List (Nat × Nat × Nat × Nat)} (S : CallFix p m c cc nL s args Ts own) (hM : vx_Met l y ws rm Pc Qc XC mc ms free) (cw : vx_CSW R s args own index y bytes maxL ret hh ws rm mc ms n) (hp : PreS s H Pc As)
    (hg : g.method = m) (hn : As.length = n) (hsize : g.locals.size = nL) (hstack : g.stack = As.reverse ++ rest) (hW : 2 * g.monitorRoom + (rest.map fun v => v.category).sum ≤ 8) (hdg : decode cc g.pc = .ok (.invokestatic index, 3)) (hf : cells + mc ≤ R.cells ∧ slots + ms ≤ R.slots) :
    vx_Run p l e R s m args below meth c H locs cells slots mc ms g rest (Qc As.toArray) XC free := by
  obtain ⟨⟨hrc, hrs, hfr, hlo, hws, hcw⟩, hcode, hini, hy, hlen, hl, hstt⟩ := cw
  have hK : vx_Back l R p e below s args y 3 8 (PreOf R mc ms Pc) (PostOf Qc mc ms free) (vx_Post XC mc ms free) := vx_backW (hh := hh) (bytes := bytes) (maxL := maxL) (ret := ret) hM hp.1 hrc hrs hfr hlo hws hcw (fun a' U hW => word_at hW (Or.inl (by first | rfl | simp [Cond.onTables, Cond.keeps, Cond.steady])) hini)
  obtain ⟨hx, hb, hml, ho, -⟩ := S
  intro T hT X
  rcases vx_callSX X hx (hh := hh) (bytes := bytes) (maxL := maxL) (ret := ret) ho hl hstt hini hcode hy hK hg (hsize.trans hml.symm) (argsL := As) (rest := rest) (fun sig h => hn.trans (hlen sig h)) hstack hW (by rw [hb]; exact hdg)
    (fun vm₁ hW₁ => ⟨hf.1, hf.2, hp.2 (T.setVm vm₁) hT hW₁⟩) with ⟨v, vm₁, ⟨U', l2, c2, s2⟩, hW₁, X', ⟨g', mk, t, L, e1, e2, hq, h1, hL, h2, h3⟩, st⟩ | ⟨q, vm₁, ⟨U', l2, c2, s2⟩, hW₁, X', ⟨g', mk, t, L, E, ce, e1, e2, hq, hce, hcv, hcl, h1, hL, h2, h3⟩, st⟩
  · dsimp only [Pt.U, Pt.locs, Pt.cells, Pt.slots] at X' e1 e2 h1 h2 h3 st
    subst h1; subst h2; subst h3
    exact Or.inl ⟨v, (T.setVm vm₁).calling g' mk As.toArray, t, U', L, hT, X', hL, e1, e2, hq, st⟩
  · dsimp only [Pt.U, Pt.locs, Pt.cells, Pt.slots] at X' e1 e2 h1 h2 h3 st hcl
    subst h1; subst h2; subst h3
    exact Or.inr ⟨q, (T.setVm vm₁).calling g' mk As.toArray, t, U', L, E, ce, hT, X', hL, e1, e2, hq, hce, hcv, vx_cls hW₁ hcl, st⟩
end
end VXH
theorem vx_ofWH {l : Launch} {y : MethodName} {ws ws' : List Cond} {rm : Room} {Pc : Array Value → State → Prop} {Qc : Array Value → State → Outcome → State → Prop} {XC : String → State → State → Prop} {mc ms : Nat} {free : Addr → Prop} {cc : ByteArray} {maxL : Nat} {ret : Option FieldType} {hh : List (Nat × Nat × Nat × Nat)}
    (hy : plainName y.cls = true) (hw : ws = Cond.codeWith y cc maxL ret hh :: ws')
    (body : ∀ p e s m args below meth c s₁, BodyLoose p l y (headSpec ws rm) cc maxL ret e s m args below meth c s₁ → c.maxLocals = maxL → Pc args s →
      W p l e (headSpec ws rm).room s m args below meth c s.heap [] 0 0 (vx_MQ below Qc XC args s mc ms free) (entryFrame m args maxL)) : vx_Met l y ws rm Pc Qc XC mc ms free := by
  refine MetFree.of_bodyS (code := cc) (maxLocals := maxL) (ret := ret) hy ?_ ?_
  · intro args s m h hn
    obtain ⟨m9, meth, c, hn9, h1, h2, h3, h4, -, h5, h6, -⟩ := Cond.codeWith_spec (atoms_spec (ws := ws) h _ (by rw [hw]; exact List.mem_cons_self))
    cases hn.symm.trans hn9
    exact ⟨meth, c, h1, h2, h3, h4, h5, h6⟩
  · intro p e s m args below meth c s₁ B hml hP _
    have hh0 : s₁.heap = s.heap := by rw [B.state]; rfl
    obtain ⟨t, a1, o, b1, b2, b3⟩ := body p e s m args below meth c s₁ B hml hP s₁ hh0 (Stand.of_body B)
    exact ⟨t, o, a1, b1, b2, b3⟩
/-! ===== END ===== -/
end
section
/-! ===== BEGIN printed: names, fields, word lists, decode rows ===== -/
def RX0 : String := "TideHouse"
def TX0 : u_T := fun k => match k with
  | 0 => ("TideHouse", "readings", "[I", true)
  | 1 => ("TideHouse", "levels", "[I", true)
  | 2 => ("TideHouse", "open", "[Z", true)
  | _ => ("TideHouse", "rowNotes", "[I", true)
def tyX0 : Nat → FieldType := fun k => match k with
  | 0 => .array .int
  | 1 => .array .int
  | 2 => .array .boolean
  | _ => .array .int
abbrev wsX00 : List Cond := u_ws RX0 TX0 4
theorem nmX0 : ∀ a, a < 4 → ∀ b, b < 4 → a ≠ b → (TX0 a).2.1 ≠ (TX0 b).2.1 := by decide +kernel
theorem tyX0_ok : ∀ k, k < 4 → parseFieldDescriptor (TX0 k).2.2.1 = some (tyX0 k) := by decide +kernel
abbrev cX0_init : ByteArray := prog_1_method_1_code
def yX0_init : MethodName := ⟨RX0, "<init>", "()V"⟩
abbrev cX0_put : ByteArray := prog_1_method_2_code
def yX0_put : MethodName := ⟨RX0, "put", "(III)Z"⟩
abbrev cX0_reading : ByteArray := prog_1_method_3_code
def yX0_reading : MethodName := ⟨RX0, "reading", "(II)I"⟩
abbrev cX0_level : ByteArray := prog_1_method_4_code
def yX0_level : MethodName := ⟨RX0, "level", "(IZI)Z"⟩
abbrev cX0_copy : ByteArray := prog_1_method_5_code
def yX0_copy : MethodName := ⟨RX0, "copy", "(II)I"⟩
abbrev cX0_straight : ByteArray := prog_1_method_6_code
def yX0_straight : MethodName := ⟨RX0, "straight", "(III)I"⟩
abbrev cX0_turned : ByteArray := prog_1_method_7_code
def yX0_turned : MethodName := ⟨RX0, "turned", "(III)I"⟩
abbrev cX0_between : ByteArray := prog_1_method_8_code
def yX0_between : MethodName := ⟨RX0, "between", "(III)I"⟩
abbrev cX0_must : ByteArray := prog_1_method_9_code
def yX0_must : MethodName := ⟨RX0, "must", "(IIII)I"⟩
abbrev cX0_watch : ByteArray := prog_1_method_10_code
def yX0_watch : MethodName := ⟨RX0, "watch", "(IIZ)I"⟩
abbrev cX0_isOpen : ByteArray := prog_1_method_11_code
def yX0_isOpen : MethodName := ⟨RX0, "isOpen", "(I)Z"⟩
abbrev cX0_climb : ByteArray := prog_1_method_12_code
def yX0_climb : MethodName := ⟨RX0, "climb", "(III)I"⟩
abbrev cX0_drift : ByteArray := prog_1_method_13_code
def yX0_drift : MethodName := ⟨RX0, "drift", "(III)I"⟩
abbrev cX0_pick : ByteArray := prog_1_method_14_code
def yX0_pick : MethodName := ⟨RX0, "pick", "(II)I"⟩
abbrev cX0_keep : ByteArray := prog_1_method_15_code
def yX0_keep : MethodName := ⟨RX0, "keep", "(II)I"⟩
abbrev cX0_notes : ByteArray := prog_1_method_16_code
def yX0_notes : MethodName := ⟨RX0, "notes", "(I)I"⟩
abbrev cX0_gaps : ByteArray := prog_1_method_17_code
def yX0_gaps : MethodName := ⟨RX0, "gaps", "(I)I"⟩
abbrev cX0_settle : ByteArray := prog_1_method_18_code
def yX0_settle : MethodName := ⟨RX0, "settle", "(II)I"⟩
abbrev cX0_meet : ByteArray := prog_1_method_19_code
def yX0_meet : MethodName := ⟨RX0, "meet", "(III)I"⟩
abbrev cX0_alike : ByteArray := prog_1_method_20_code
def yX0_alike : MethodName := ⟨RX0, "alike", "(II)Z"⟩
abbrev cX0_merge : ByteArray := prog_1_method_21_code
def yX0_merge : MethodName := ⟨RX0, "merge", "(IIII)I"⟩
abbrev cX0_isTrue : ByteArray := prog_1_method_22_code
def yX0_isTrue : MethodName := ⟨RX0, "isTrue", "(III)Z"⟩
abbrev cX0_isTrueOfNext : ByteArray := prog_1_method_23_code
def yX0_isTrueOfNext : MethodName := ⟨RX0, "isTrueOfNext", "(III)Z"⟩
abbrev cX0_walk : ByteArray := prog_1_method_24_code
def yX0_walk : MethodName := ⟨RX0, "walk", "(IIIZ)I"⟩
abbrev cX0_moveLeft : ByteArray := prog_1_method_25_code
def yX0_moveLeft : MethodName := ⟨RX0, "moveLeft", "(III)I"⟩
abbrev cX0_countMissing : ByteArray := prog_1_method_26_code
def yX0_countMissing : MethodName := ⟨RX0, "countMissing", "(I)I"⟩
abbrev cX0_opens : ByteArray := prog_1_method_27_code
def yX0_opens : MethodName := ⟨RX0, "opens", "(IIZ)Z"⟩
abbrev cX0_store : ByteArray := prog_1_method_28_code
def yX0_store : MethodName := ⟨RX0, "store", "([III)Z"⟩
abbrev cX0_spot : ByteArray := prog_1_method_29_code
def yX0_spot : MethodName := ⟨RX0, "spot", "(II)I"⟩
abbrev cX0_levelSpot : ByteArray := prog_1_method_30_code
def yX0_levelSpot : MethodName := ⟨RX0, "levelSpot", "(IZ)I"⟩
abbrev cX0_isRough : ByteArray := prog_1_method_31_code
def yX0_isRough : MethodName := ⟨RX0, "isRough", "(I)Z"⟩
abbrev cX0_levelFor : ByteArray := prog_1_method_32_code
def yX0_levelFor : MethodName := ⟨RX0, "levelFor", "(II)I"⟩
abbrev cX0_needRow : ByteArray := prog_1_method_33_code
def yX0_needRow : MethodName := ⟨RX0, "needRow", "(I)V"⟩
abbrev cX0_needPlace : ByteArray := prog_1_method_34_code
def yX0_needPlace : MethodName := ⟨RX0, "needPlace", "(I)V"⟩
abbrev cX0_needGate : ByteArray := prog_1_method_35_code
def yX0_needGate : MethodName := ⟨RX0, "needGate", "(I)V"⟩
abbrev cX0_needSign : ByteArray := prog_1_method_36_code
def yX0_needSign : MethodName := ⟨RX0, "needSign", "(I)V"⟩
abbrev cX0_needNumber : ByteArray := prog_1_method_37_code
def yX0_needNumber : MethodName := ⟨RX0, "needNumber", "(I)V"⟩
abbrev cX0_needOneSort : ByteArray := prog_1_method_38_code
def yX0_needOneSort : MethodName := ⟨RX0, "needOneSort", "(II)V"⟩
abbrev cX0_needApart : ByteArray := prog_1_method_39_code
def yX0_needApart : MethodName := ⟨RX0, "needApart", "(II)V"⟩
def RX1 : String := "TideHouseModel"
def TX1 : u_T := fun k => match k with
  | 0 => ("TideHouseModel", "readings", "[I", true)
  | 1 => ("TideHouseModel", "levels", "[I", true)
  | 2 => ("TideHouseModel", "open", "[Z", true)
  | 3 => ("TideHouseModel", "notes", "[I", true)
  | _ => ("TideHouseModel", "thrown", "I", false)
def tyX1 : Nat → FieldType := fun k => match k with
  | 0 => .array .int
  | 1 => .array .int
  | 2 => .array .boolean
  | 3 => .array .int
  | _ => .int
abbrev wsX10 : List Cond := u_ws RX1 TX1 5
theorem nmX1 : ∀ a, a < 5 → ∀ b, b < 5 → a ≠ b → (TX1 a).2.1 ≠ (TX1 b).2.1 := by decide +kernel
theorem tyX1_ok : ∀ k, k < 5 → parseFieldDescriptor (TX1 k).2.2.1 = some (tyX1 k) := by decide +kernel
abbrev cX1_init : ByteArray := prog_3_method_1_code
def yX1_init : MethodName := ⟨RX1, "<init>", "()V"⟩
abbrev cX1_isTrue : ByteArray := prog_3_method_2_code
def yX1_isTrue : MethodName := ⟨RX1, "isTrue", "(III)Z"⟩
abbrev cX1_isRow : ByteArray := prog_3_method_3_code
def yX1_isRow : MethodName := ⟨RX1, "isRow", "(I)Z"⟩
abbrev cX1_isPlace : ByteArray := prog_3_method_4_code
def yX1_isPlace : MethodName := ⟨RX1, "isPlace", "(I)Z"⟩
abbrev cX1_isGate : ByteArray := prog_3_method_5_code
def yX1_isGate : MethodName := ⟨RX1, "isGate", "(I)Z"⟩
abbrev cX1_isNumber : ByteArray := prog_3_method_6_code
def yX1_isNumber : MethodName := ⟨RX1, "isNumber", "(I)Z"⟩
abbrev cX1_isSign : ByteArray := prog_3_method_7_code
def yX1_isSign : MethodName := ⟨RX1, "isSign", "(I)Z"⟩
abbrev cX1_areOneSort : ByteArray := prog_3_method_8_code
def yX1_areOneSort : MethodName := ⟨RX1, "areOneSort", "(II)Z"⟩
abbrev cX1_may : ByteArray := prog_3_method_9_code
def yX1_may : MethodName := ⟨RX1, "may", "(ZZ)Z"⟩
abbrev cX1_thrown : ByteArray := prog_3_method_10_code
def yX1_thrown : MethodName := ⟨RX1, "thrown", "()I"⟩
abbrev cX1_at : ByteArray := prog_3_method_11_code
def yX1_at : MethodName := ⟨RX1, "at", "(II)I"⟩
abbrev cX1_levelFor : ByteArray := prog_3_method_12_code
def yX1_levelFor : MethodName := ⟨RX1, "levelFor", "(II)I"⟩
abbrev cX1_put : ByteArray := prog_3_method_13_code
def yX1_put : MethodName := ⟨RX1, "put", "(III)Z"⟩
abbrev cX1_reading : ByteArray := prog_3_method_14_code
def yX1_reading : MethodName := ⟨RX1, "reading", "(II)I"⟩
abbrev cX1_level : ByteArray := prog_3_method_15_code
def yX1_level : MethodName := ⟨RX1, "level", "(IZI)Z"⟩
abbrev cX1_copy : ByteArray := prog_3_method_16_code
def yX1_copy : MethodName := ⟨RX1, "copy", "(II)I"⟩
abbrev cX1_straight : ByteArray := prog_3_method_17_code
def yX1_straight : MethodName := ⟨RX1, "straight", "(III)I"⟩
abbrev cX1_turned : ByteArray := prog_3_method_18_code
def yX1_turned : MethodName := ⟨RX1, "turned", "(III)I"⟩
abbrev cX1_between : ByteArray := prog_3_method_19_code
def yX1_between : MethodName := ⟨RX1, "between", "(III)I"⟩
abbrev cX1_must : ByteArray := prog_3_method_20_code
def yX1_must : MethodName := ⟨RX1, "must", "(IIII)I"⟩
abbrev cX1_watch : ByteArray := prog_3_method_21_code
def yX1_watch : MethodName := ⟨RX1, "watch", "(IIZ)I"⟩
abbrev cX1_isOpen : ByteArray := prog_3_method_22_code
def yX1_isOpen : MethodName := ⟨RX1, "isOpen", "(I)Z"⟩
abbrev cX1_goOn : ByteArray := prog_3_method_23_code
def yX1_goOn : MethodName := ⟨RX1, "goOn", "(IIIZ)I"⟩
abbrev cX1_climb : ByteArray := prog_3_method_24_code
def yX1_climb : MethodName := ⟨RX1, "climb", "(III)I"⟩
abbrev cX1_drift : ByteArray := prog_3_method_25_code
def yX1_drift : MethodName := ⟨RX1, "drift", "(III)I"⟩
abbrev cX1_pick : ByteArray := prog_3_method_26_code
def yX1_pick : MethodName := ⟨RX1, "pick", "(II)I"⟩
abbrev cX1_keep : ByteArray := prog_3_method_27_code
def yX1_keep : MethodName := ⟨RX1, "keep", "(II)I"⟩
abbrev cX1_notes : ByteArray := prog_3_method_28_code
def yX1_notes : MethodName := ⟨RX1, "notes", "(I)I"⟩
abbrev cX1_gaps : ByteArray := prog_3_method_29_code
def yX1_gaps : MethodName := ⟨RX1, "gaps", "(I)I"⟩
abbrev cX1_settle : ByteArray := prog_3_method_30_code
def yX1_settle : MethodName := ⟨RX1, "settle", "(II)I"⟩
abbrev cX1_meet : ByteArray := prog_3_method_31_code
def yX1_meet : MethodName := ⟨RX1, "meet", "(III)I"⟩
abbrev cX1_alike : ByteArray := prog_3_method_32_code
def yX1_alike : MethodName := ⟨RX1, "alike", "(II)Z"⟩
abbrev cX1_merge : ByteArray := prog_3_method_33_code
def yX1_merge : MethodName := ⟨RX1, "merge", "(IIII)I"⟩
def RJ6 : String := "java/lang/Integer"
def TJ6 : u_T := fun k => match k with
  | _ => ("", "", "", false)
def tyJ6 : Nat → FieldType := fun k => match k with
  | _ => .int
abbrev wsJ60 : List Cond := u_ws RJ6 TJ6 0
theorem nmJ6 : ∀ a, a < 0 → ∀ b, b < 0 → a ≠ b → (TJ6 a).2.1 ≠ (TJ6 b).2.1 := by decide +kernel
theorem tyJ6_ok : ∀ k, k < 0 → parseFieldDescriptor (TJ6 k).2.2.1 = some (tyJ6 k) := by decide +kernel
abbrev cJ6_bitCount_0f7a4 : ByteArray := prog_8_method_49_code
def yJ6_bitCount_0f7a4 : MethodName := ⟨RJ6, "bitCount", "(I)I"⟩
def RJ0 : String := "java/lang/String"
def TJ0 : u_T := fun k => match k with
  | _ => ("", "", "", false)
def tyJ0 : Nat → FieldType := fun k => match k with
  | _ => .int
abbrev wsJ00 : List Cond := u_ws RJ0 TJ0 0
theorem nmJ0 : ∀ a, a < 0 → ∀ b, b < 0 → a ≠ b → (TJ0 a).2.1 ≠ (TJ0 b).2.1 := by decide +kernel
theorem tyJ0_ok : ∀ k, k < 0 → parseFieldDescriptor (TJ0 k).2.2.1 = some (tyJ0 k) := by decide +kernel
def RJ7 : String := "java/util/Arrays"
def TJ7 : u_T := fun k => match k with
  | _ => ("", "", "", false)
def tyJ7 : Nat → FieldType := fun k => match k with
  | _ => .int
abbrev wsJ70 : List Cond := u_ws RJ7 TJ7 0
theorem nmJ7 : ∀ a, a < 0 → ∀ b, b < 0 → a ≠ b → (TJ7 a).2.1 ≠ (TJ7 b).2.1 := by decide +kernel
theorem tyJ7_ok : ∀ k, k < 0 → parseFieldDescriptor (TJ7 k).2.2.1 = some (tyJ7 k) := by decide +kernel
abbrev cJ7_fill_53178 : ByteArray := prog_12_method_103_code
def yJ7_fill_53178 : MethodName := ⟨RJ7, "fill", "([II)V"⟩
def RL : String := "TideHouseLaw"
abbrev cL_put : ByteArray := method_3_code
def yL_put : MethodName := ⟨RL, "put", "(LTideHouse;III[J)I"⟩
abbrev cL_reading : ByteArray := method_4_code
def yL_reading : MethodName := ⟨RL, "reading", "(LTideHouse;II[J)I"⟩
abbrev cL_level : ByteArray := method_5_code
def yL_level : MethodName := ⟨RL, "level", "(LTideHouse;IZI[J)I"⟩
abbrev cL_copy : ByteArray := method_6_code
def yL_copy : MethodName := ⟨RL, "copy", "(LTideHouse;II[J)I"⟩
abbrev cL_straight : ByteArray := method_7_code
def yL_straight : MethodName := ⟨RL, "straight", "(LTideHouse;III[J)I"⟩
abbrev cL_turned : ByteArray := method_8_code
def yL_turned : MethodName := ⟨RL, "turned", "(LTideHouse;III[J)I"⟩
abbrev cL_between : ByteArray := method_9_code
def yL_between : MethodName := ⟨RL, "between", "(LTideHouse;III[J)I"⟩
abbrev cL_must : ByteArray := method_10_code
def yL_must : MethodName := ⟨RL, "must", "(LTideHouse;IIII[J)I"⟩
abbrev cL_watch : ByteArray := method_11_code
def yL_watch : MethodName := ⟨RL, "watch", "(LTideHouse;IIZ[J)I"⟩
abbrev cL_isOpen : ByteArray := method_12_code
def yL_isOpen : MethodName := ⟨RL, "isOpen", "(LTideHouse;I[J)I"⟩
abbrev cL_climb : ByteArray := method_13_code
def yL_climb : MethodName := ⟨RL, "climb", "(LTideHouse;III[J)I"⟩
abbrev cL_drift : ByteArray := method_14_code
def yL_drift : MethodName := ⟨RL, "drift", "(LTideHouse;III[J)I"⟩
abbrev cL_pick : ByteArray := method_15_code
def yL_pick : MethodName := ⟨RL, "pick", "(LTideHouse;II[J)I"⟩
abbrev cL_keep : ByteArray := method_16_code
def yL_keep : MethodName := ⟨RL, "keep", "(LTideHouse;II[J)I"⟩
abbrev cL_notes : ByteArray := method_17_code
def yL_notes : MethodName := ⟨RL, "notes", "(LTideHouse;I[J)I"⟩
abbrev cL_gaps : ByteArray := method_18_code
def yL_gaps : MethodName := ⟨RL, "gaps", "(LTideHouse;I[J)I"⟩
abbrev cL_settle : ByteArray := method_19_code
def yL_settle : MethodName := ⟨RL, "settle", "(LTideHouse;II[J)I"⟩
abbrev cL_meet : ByteArray := method_20_code
def yL_meet : MethodName := ⟨RL, "meet", "(LTideHouse;III[J)I"⟩
abbrev cL_alike : ByteArray := method_21_code
def yL_alike : MethodName := ⟨RL, "alike", "(LTideHouse;II[J)I"⟩
abbrev cL_merge : ByteArray := method_22_code
def yL_merge : MethodName := ⟨RL, "merge", "(LTideHouse;IIII[J)I"⟩
abbrev cL_law : ByteArray := code
def yL_law : MethodName := ⟨RL, "law", "([I)Z"⟩
def wsJ7_fill_53178 : List Cond := .code yJ7_fill_53178 cJ7_fill_53178 4 none :: ([])
def wsX0_init : List Cond := .code yX0_init cX0_init 1 none :: ([.methodLink RX0 1 objectInit, .instanceMethod objectInit, .code objectInit ⟨#[0xb1]⟩ 1 none, .arrayClass .int, .fieldLink RX0 9 "TideHouse" "readings" "[I", .fieldLink RX0 13 "TideHouse" "levels" "[I", .arrayClass .boolean, .fieldLink RX0 16 "TideHouse" "open" "[Z", .fieldLink RX0 20 "TideHouse" "rowNotes" "[I", .constant RX0 23 (-2147483648), .methodLink RX0 24 yJ7_fill_53178, .static yJ7_fill_53178, .initialized RJ7, .code yJ7_fill_53178 cJ7_fill_53178 4 none] ++ wsX00)
def wsX0_needRow : List Cond := .code yX0_needRow cX0_needRow 1 none :: ([.classLink RX0 107 "java/lang/IndexOutOfBoundsException", .initialized "java/lang/IndexOutOfBoundsException"] ++ (vx_atS RX0 111 "java/lang/IndexOutOfBoundsException" ["java/lang/RuntimeException", "java/lang/Exception"]).filter goodWord)
def wsX0_needPlace : List Cond := .code yX0_needPlace cX0_needPlace 1 none :: ([.classLink RX0 107 "java/lang/IndexOutOfBoundsException", .initialized "java/lang/IndexOutOfBoundsException"] ++ (vx_atS RX0 111 "java/lang/IndexOutOfBoundsException" ["java/lang/RuntimeException", "java/lang/Exception"]).filter goodWord)
def wsX0_needNumber : List Cond := .code yX0_needNumber cX0_needNumber 1 none :: ([.classLink RX0 116 "java/lang/IllegalArgumentException", .initialized "java/lang/IllegalArgumentException", .constant RX0 23 (-2147483648), .constant RX0 121 (-8000000), .constant RX0 122 (8000000)] ++ (vx_atS RX0 120 "java/lang/IllegalArgumentException" ["java/lang/RuntimeException", "java/lang/Exception"]).filter goodWord)
def wsX0_spot : List Cond := .code yX0_spot cX0_spot 2 (some .int) :: ([])
def wsX0_store : List Cond := .code yX0_store cX0_store 4 (some .boolean) :: ([])
def wsX0_put : List Cond := .code yX0_put cX0_put 4 (some .boolean) :: ([.fieldLink RX0 9 "TideHouse" "readings" "[I", .methodLink RX0 30 yX0_needRow, .static yX0_needRow, .initialized RX0, .code yX0_needRow cX0_needRow 1 none, .classLink RX0 107 "java/lang/IndexOutOfBoundsException", .initialized "java/lang/IndexOutOfBoundsException", .methodLink RX0 34 yX0_needPlace, .static yX0_needPlace, .code yX0_needPlace cX0_needPlace 1 none, .methodLink RX0 37 yX0_needNumber, .static yX0_needNumber, .code yX0_needNumber cX0_needNumber 1 none, .classLink RX0 116 "java/lang/IllegalArgumentException", .initialized "java/lang/IllegalArgumentException", .constant RX0 23 (-2147483648), .constant RX0 121 (-8000000), .constant RX0 122 (8000000), .methodLink RX0 40 yX0_spot, .static yX0_spot, .code yX0_spot cX0_spot 2 (some .int), .methodLink RX0 44 yX0_store, .static yX0_store, .code yX0_store cX0_store 4 (some .boolean)] ++ wsX00 ++ (vx_atS RX0 111 "java/lang/IndexOutOfBoundsException" ["java/lang/RuntimeException", "java/lang/Exception"]).filter goodWord ++ (vx_atS RX0 120 "java/lang/IllegalArgumentException" ["java/lang/RuntimeException", "java/lang/Exception"]).filter goodWord)
def wsX0_reading : List Cond := .code yX0_reading cX0_reading 3 (some .int) :: ([.fieldLink RX0 9 "TideHouse" "readings" "[I", .methodLink RX0 30 yX0_needRow, .static yX0_needRow, .initialized RX0, .code yX0_needRow cX0_needRow 1 none, .classLink RX0 107 "java/lang/IndexOutOfBoundsException", .initialized "java/lang/IndexOutOfBoundsException", .methodLink RX0 34 yX0_needPlace, .static yX0_needPlace, .code yX0_needPlace cX0_needPlace 1 none, .methodLink RX0 40 yX0_spot, .static yX0_spot, .code yX0_spot cX0_spot 2 (some .int)] ++ wsX00 ++ (vx_atS RX0 111 "java/lang/IndexOutOfBoundsException" ["java/lang/RuntimeException", "java/lang/Exception"]).filter goodWord)
def wsX0_needGate : List Cond := .code yX0_needGate cX0_needGate 1 none :: ([.classLink RX0 107 "java/lang/IndexOutOfBoundsException", .initialized "java/lang/IndexOutOfBoundsException"] ++ (vx_atS RX0 111 "java/lang/IndexOutOfBoundsException" ["java/lang/RuntimeException", "java/lang/Exception"]).filter goodWord)
def wsX0_levelSpot : List Cond := .code yX0_levelSpot cX0_levelSpot 2 (some .int) :: ([])
def wsX0_level : List Cond := .code yX0_level cX0_level 4 (some .boolean) :: ([.fieldLink RX0 13 "TideHouse" "levels" "[I", .methodLink RX0 48 yX0_needGate, .static yX0_needGate, .initialized RX0, .code yX0_needGate cX0_needGate 1 none, .classLink RX0 107 "java/lang/IndexOutOfBoundsException", .initialized "java/lang/IndexOutOfBoundsException", .methodLink RX0 37 yX0_needNumber, .static yX0_needNumber, .code yX0_needNumber cX0_needNumber 1 none, .classLink RX0 116 "java/lang/IllegalArgumentException", .initialized "java/lang/IllegalArgumentException", .constant RX0 23 (-2147483648), .constant RX0 121 (-8000000), .constant RX0 122 (8000000), .methodLink RX0 51 yX0_levelSpot, .static yX0_levelSpot, .code yX0_levelSpot cX0_levelSpot 2 (some .int), .methodLink RX0 44 yX0_store, .static yX0_store, .code yX0_store cX0_store 4 (some .boolean)] ++ wsX00 ++ (vx_atS RX0 111 "java/lang/IndexOutOfBoundsException" ["java/lang/RuntimeException", "java/lang/Exception"]).filter goodWord ++ (vx_atS RX0 120 "java/lang/IllegalArgumentException" ["java/lang/RuntimeException", "java/lang/Exception"]).filter goodWord)
def wsX0_isRough : List Cond := .code yX0_isRough cX0_isRough 1 (some .boolean) :: ([])
def wsX0_needOneSort : List Cond := .code yX0_needOneSort cX0_needOneSort 2 none :: ([.classLink RX0 116 "java/lang/IllegalArgumentException", .initialized "java/lang/IllegalArgumentException", .methodLink RX0 103 yX0_isRough, .static yX0_isRough, .initialized RX0, .code yX0_isRough cX0_isRough 1 (some .boolean)] ++ (vx_atS RX0 120 "java/lang/IllegalArgumentException" ["java/lang/RuntimeException", "java/lang/Exception"]).filter goodWord)
def wsX0_isTrue : List Cond := .code yX0_isTrue cX0_isTrue 3 (some .boolean) :: ([.constant RX0 23 (-2147483648)])
def wsX0_countMissing : List Cond := .code yX0_countMissing cX0_countMissing 5 (some .int) :: ([.fieldLink RX0 9 "TideHouse" "readings" "[I", .methodLink RX0 40 yX0_spot, .static yX0_spot, .initialized RX0, .code yX0_spot cX0_spot 2 (some .int), .methodLink RX0 69 yX0_isTrue, .static yX0_isTrue, .code yX0_isTrue cX0_isTrue 3 (some .boolean), .constant RX0 23 (-2147483648)] ++ wsX00)
def wsX0_copy_r1 : List Cond := [Cond.fieldLink RX0 9 "TideHouse" "readings" "[I", Cond.methodLink RX0 30 yX0_needRow, Cond.static yX0_needRow, Cond.initialized RX0, Cond.code yX0_needRow cX0_needRow 1 none, Cond.classLink RX0 107 "java/lang/IndexOutOfBoundsException", Cond.initialized "java/lang/IndexOutOfBoundsException", Cond.methodLink RX0 55 yX0_needOneSort, Cond.static yX0_needOneSort, Cond.code yX0_needOneSort cX0_needOneSort 2 none, Cond.classLink RX0 116 "java/lang/IllegalArgumentException", Cond.initialized "java/lang/IllegalArgumentException", Cond.methodLink RX0 103 yX0_isRough, Cond.static yX0_isRough, Cond.code yX0_isRough cX0_isRough 1 (some .boolean), Cond.methodLink RX0 40 yX0_spot, Cond.static yX0_spot, Cond.code yX0_spot cX0_spot 2 (some .int), Cond.methodLink RX0 59 yX0_countMissing, Cond.instanceMethod yX0_countMissing, Cond.selects RX0 yX0_countMissing yX0_countMissing, Cond.code yX0_countMissing cX0_countMissing 5 (some .int), Cond.methodLink RX0 69 yX0_isTrue, Cond.static yX0_isTrue]
def wsX0_copy_r2 : List Cond := [Cond.code yX0_isTrue cX0_isTrue 3 (some .boolean), Cond.constant RX0 23 (-2147483648)]
def wsX0_copy : List Cond := .code yX0_copy cX0_copy 4 (some .int) :: ((wsX0_copy_r1 ++ wsX0_copy_r2) ++ wsX00 ++ (vx_atS RX0 111 "java/lang/IndexOutOfBoundsException" ["java/lang/RuntimeException", "java/lang/Exception"]).filter goodWord ++ (vx_atS RX0 120 "java/lang/IllegalArgumentException" ["java/lang/RuntimeException", "java/lang/Exception"]).filter goodWord)
def wsX0_needSign : List Cond := .code yX0_needSign cX0_needSign 1 none :: ([.classLink RX0 116 "java/lang/IllegalArgumentException", .initialized "java/lang/IllegalArgumentException"] ++ (vx_atS RX0 120 "java/lang/IllegalArgumentException" ["java/lang/RuntimeException", "java/lang/Exception"]).filter goodWord)
def wsX0_levelFor : List Cond := .code yX0_levelFor cX0_levelFor 3 (some .int) :: ([.fieldLink RX0 13 "TideHouse" "levels" "[I", .methodLink RX0 103 yX0_isRough, .static yX0_isRough, .initialized RX0, .code yX0_isRough cX0_isRough 1 (some .boolean), .methodLink RX0 51 yX0_levelSpot, .static yX0_levelSpot, .code yX0_levelSpot cX0_levelSpot 2 (some .int)] ++ wsX00)
def wsX0_straight_r1 : List Cond := [Cond.fieldLink RX0 9 "TideHouse" "readings" "[I", Cond.methodLink RX0 30 yX0_needRow, Cond.static yX0_needRow, Cond.initialized RX0, Cond.code yX0_needRow cX0_needRow 1 none, Cond.classLink RX0 107 "java/lang/IndexOutOfBoundsException", Cond.initialized "java/lang/IndexOutOfBoundsException", Cond.methodLink RX0 48 yX0_needGate, Cond.static yX0_needGate, Cond.code yX0_needGate cX0_needGate 1 none, Cond.methodLink RX0 63 yX0_needSign, Cond.static yX0_needSign, Cond.code yX0_needSign cX0_needSign 1 none, Cond.classLink RX0 116 "java/lang/IllegalArgumentException", Cond.initialized "java/lang/IllegalArgumentException", Cond.methodLink RX0 66 yX0_levelFor, Cond.instanceMethod yX0_levelFor, Cond.selects RX0 yX0_levelFor yX0_levelFor, Cond.code yX0_levelFor cX0_levelFor 3 (some .int), Cond.fieldLink RX0 13 "TideHouse" "levels" "[I", Cond.methodLink RX0 103 yX0_isRough, Cond.static yX0_isRough, Cond.code yX0_isRough cX0_isRough 1 (some .boolean), Cond.methodLink RX0 51 yX0_levelSpot]
def wsX0_straight_r2 : List Cond := [Cond.static yX0_levelSpot, Cond.code yX0_levelSpot cX0_levelSpot 2 (some .int), Cond.methodLink RX0 40 yX0_spot, Cond.static yX0_spot, Cond.code yX0_spot cX0_spot 2 (some .int), Cond.methodLink RX0 69 yX0_isTrue, Cond.static yX0_isTrue, Cond.code yX0_isTrue cX0_isTrue 3 (some .boolean), Cond.constant RX0 23 (-2147483648)]
def wsX0_straight : List Cond := .code yX0_straight cX0_straight 7 (some .int) :: ((wsX0_straight_r1 ++ wsX0_straight_r2) ++ wsX00 ++ (vx_atS RX0 111 "java/lang/IndexOutOfBoundsException" ["java/lang/RuntimeException", "java/lang/Exception"]).filter goodWord ++ (vx_atS RX0 120 "java/lang/IllegalArgumentException" ["java/lang/RuntimeException", "java/lang/Exception"]).filter goodWord)
def wsX0_turned_r1 : List Cond := [Cond.fieldLink RX0 9 "TideHouse" "readings" "[I", Cond.methodLink RX0 30 yX0_needRow, Cond.static yX0_needRow, Cond.initialized RX0, Cond.code yX0_needRow cX0_needRow 1 none, Cond.classLink RX0 107 "java/lang/IndexOutOfBoundsException", Cond.initialized "java/lang/IndexOutOfBoundsException", Cond.methodLink RX0 48 yX0_needGate, Cond.static yX0_needGate, Cond.code yX0_needGate cX0_needGate 1 none, Cond.methodLink RX0 63 yX0_needSign, Cond.static yX0_needSign, Cond.code yX0_needSign cX0_needSign 1 none, Cond.classLink RX0 116 "java/lang/IllegalArgumentException", Cond.initialized "java/lang/IllegalArgumentException", Cond.methodLink RX0 66 yX0_levelFor, Cond.instanceMethod yX0_levelFor, Cond.selects RX0 yX0_levelFor yX0_levelFor, Cond.code yX0_levelFor cX0_levelFor 3 (some .int), Cond.fieldLink RX0 13 "TideHouse" "levels" "[I", Cond.methodLink RX0 103 yX0_isRough, Cond.static yX0_isRough, Cond.code yX0_isRough cX0_isRough 1 (some .boolean), Cond.methodLink RX0 51 yX0_levelSpot]
def wsX0_turned_r2 : List Cond := [Cond.static yX0_levelSpot, Cond.code yX0_levelSpot cX0_levelSpot 2 (some .int), Cond.methodLink RX0 40 yX0_spot, Cond.static yX0_spot, Cond.code yX0_spot cX0_spot 2 (some .int), Cond.methodLink RX0 69 yX0_isTrue, Cond.static yX0_isTrue, Cond.code yX0_isTrue cX0_isTrue 3 (some .boolean), Cond.constant RX0 23 (-2147483648)]
def wsX0_turned : List Cond := .code yX0_turned cX0_turned 7 (some .int) :: ((wsX0_turned_r1 ++ wsX0_turned_r2) ++ wsX00 ++ (vx_atS RX0 111 "java/lang/IndexOutOfBoundsException" ["java/lang/RuntimeException", "java/lang/Exception"]).filter goodWord ++ (vx_atS RX0 120 "java/lang/IllegalArgumentException" ["java/lang/RuntimeException", "java/lang/Exception"]).filter goodWord)
def wsX0_between_r1 : List Cond := [Cond.fieldLink RX0 9 "TideHouse" "readings" "[I", Cond.methodLink RX0 30 yX0_needRow, Cond.static yX0_needRow, Cond.initialized RX0, Cond.code yX0_needRow cX0_needRow 1 none, Cond.classLink RX0 107 "java/lang/IndexOutOfBoundsException", Cond.initialized "java/lang/IndexOutOfBoundsException", Cond.methodLink RX0 48 yX0_needGate, Cond.static yX0_needGate, Cond.code yX0_needGate cX0_needGate 1 none, Cond.methodLink RX0 66 yX0_levelFor, Cond.instanceMethod yX0_levelFor, Cond.selects RX0 yX0_levelFor yX0_levelFor, Cond.code yX0_levelFor cX0_levelFor 3 (some .int), Cond.fieldLink RX0 13 "TideHouse" "levels" "[I", Cond.methodLink RX0 103 yX0_isRough, Cond.static yX0_isRough, Cond.code yX0_isRough cX0_isRough 1 (some .boolean), Cond.methodLink RX0 51 yX0_levelSpot, Cond.static yX0_levelSpot, Cond.code yX0_levelSpot cX0_levelSpot 2 (some .int), Cond.methodLink RX0 40 yX0_spot, Cond.static yX0_spot, Cond.code yX0_spot cX0_spot 2 (some .int)]
def wsX0_between_r2 : List Cond := [Cond.methodLink RX0 69 yX0_isTrue, Cond.static yX0_isTrue, Cond.code yX0_isTrue cX0_isTrue 3 (some .boolean), Cond.constant RX0 23 (-2147483648)]
def wsX0_between : List Cond := .code yX0_between cX0_between 10 (some .int) :: ((wsX0_between_r1 ++ wsX0_between_r2) ++ wsX00 ++ (vx_atS RX0 111 "java/lang/IndexOutOfBoundsException" ["java/lang/RuntimeException", "java/lang/Exception"]).filter goodWord)
def wsX0_must_r1 : List Cond := [Cond.classLink RX0 73 "java/lang/IllegalStateException", Cond.initialized "java/lang/IllegalStateException", Cond.fieldLink RX0 9 "TideHouse" "readings" "[I", Cond.methodLink RX0 30 yX0_needRow, Cond.static yX0_needRow, Cond.initialized RX0, Cond.code yX0_needRow cX0_needRow 1 none, Cond.classLink RX0 107 "java/lang/IndexOutOfBoundsException", Cond.initialized "java/lang/IndexOutOfBoundsException", Cond.methodLink RX0 34 yX0_needPlace, Cond.static yX0_needPlace, Cond.code yX0_needPlace cX0_needPlace 1 none, Cond.methodLink RX0 48 yX0_needGate, Cond.static yX0_needGate, Cond.code yX0_needGate cX0_needGate 1 none, Cond.methodLink RX0 63 yX0_needSign, Cond.static yX0_needSign, Cond.code yX0_needSign cX0_needSign 1 none, Cond.classLink RX0 116 "java/lang/IllegalArgumentException", Cond.initialized "java/lang/IllegalArgumentException", Cond.methodLink RX0 40 yX0_spot, Cond.static yX0_spot, Cond.code yX0_spot cX0_spot 2 (some .int), Cond.methodLink RX0 66 yX0_levelFor]
def wsX0_must_r2 : List Cond := [Cond.instanceMethod yX0_levelFor, Cond.selects RX0 yX0_levelFor yX0_levelFor, Cond.code yX0_levelFor cX0_levelFor 3 (some .int), Cond.fieldLink RX0 13 "TideHouse" "levels" "[I", Cond.methodLink RX0 103 yX0_isRough, Cond.static yX0_isRough, Cond.code yX0_isRough cX0_isRough 1 (some .boolean), Cond.methodLink RX0 51 yX0_levelSpot, Cond.static yX0_levelSpot, Cond.code yX0_levelSpot cX0_levelSpot 2 (some .int), Cond.methodLink RX0 69 yX0_isTrue, Cond.static yX0_isTrue, Cond.code yX0_isTrue cX0_isTrue 3 (some .boolean), Cond.constant RX0 23 (-2147483648)]
def wsX0_must : List Cond := .code yX0_must cX0_must 6 (some .int) :: ((wsX0_must_r1 ++ wsX0_must_r2) ++ wsX00 ++ (vx_atS RX0 77 "java/lang/IllegalStateException" ["java/lang/RuntimeException", "java/lang/Exception"]).filter goodWord ++ (vx_atS RX0 111 "java/lang/IndexOutOfBoundsException" ["java/lang/RuntimeException", "java/lang/Exception"]).filter goodWord ++ (vx_atS RX0 120 "java/lang/IllegalArgumentException" ["java/lang/RuntimeException", "java/lang/Exception"]).filter goodWord)
def wsX0_opens : List Cond := .code yX0_opens cX0_opens 3 (some .boolean) :: ([.methodLink RX0 69 yX0_isTrue, .static yX0_isTrue, .initialized RX0, .code yX0_isTrue cX0_isTrue 3 (some .boolean), .constant RX0 23 (-2147483648)])
def wsX0_watch_r1 : List Cond := [Cond.fieldLink RX0 9 "TideHouse" "readings" "[I", Cond.fieldLink RX0 16 "TideHouse" "open" "[Z", Cond.methodLink RX0 48 yX0_needGate, Cond.static yX0_needGate, Cond.initialized RX0, Cond.code yX0_needGate cX0_needGate 1 none, Cond.classLink RX0 107 "java/lang/IndexOutOfBoundsException", Cond.initialized "java/lang/IndexOutOfBoundsException", Cond.methodLink RX0 30 yX0_needRow, Cond.static yX0_needRow, Cond.code yX0_needRow cX0_needRow 1 none, Cond.methodLink RX0 66 yX0_levelFor, Cond.instanceMethod yX0_levelFor, Cond.selects RX0 yX0_levelFor yX0_levelFor, Cond.code yX0_levelFor cX0_levelFor 3 (some .int), Cond.fieldLink RX0 13 "TideHouse" "levels" "[I", Cond.methodLink RX0 103 yX0_isRough, Cond.static yX0_isRough, Cond.code yX0_isRough cX0_isRough 1 (some .boolean), Cond.methodLink RX0 51 yX0_levelSpot, Cond.static yX0_levelSpot, Cond.code yX0_levelSpot cX0_levelSpot 2 (some .int), Cond.methodLink RX0 40 yX0_spot, Cond.static yX0_spot]
def wsX0_watch_r2 : List Cond := [Cond.code yX0_spot cX0_spot 2 (some .int), Cond.methodLink RX0 80 yX0_opens, Cond.static yX0_opens, Cond.code yX0_opens cX0_opens 3 (some .boolean), Cond.methodLink RX0 69 yX0_isTrue, Cond.static yX0_isTrue, Cond.code yX0_isTrue cX0_isTrue 3 (some .boolean), Cond.constant RX0 23 (-2147483648)]
def wsX0_watch : List Cond := .code yX0_watch cX0_watch 8 (some .int) :: ((wsX0_watch_r1 ++ wsX0_watch_r2) ++ wsX00 ++ (vx_atS RX0 111 "java/lang/IndexOutOfBoundsException" ["java/lang/RuntimeException", "java/lang/Exception"]).filter goodWord)
def wsX0_isOpen : List Cond := .code yX0_isOpen cX0_isOpen 2 (some .boolean) :: ([.fieldLink RX0 16 "TideHouse" "open" "[Z", .methodLink RX0 48 yX0_needGate, .static yX0_needGate, .initialized RX0, .code yX0_needGate cX0_needGate 1 none, .classLink RX0 107 "java/lang/IndexOutOfBoundsException", .initialized "java/lang/IndexOutOfBoundsException"] ++ wsX00 ++ (vx_atS RX0 111 "java/lang/IndexOutOfBoundsException" ["java/lang/RuntimeException", "java/lang/Exception"]).filter goodWord)
def wsX0_isTrueOfNext : List Cond := .code yX0_isTrueOfNext cX0_isTrueOfNext 4 (some .boolean) :: ([.fieldLink RX0 9 "TideHouse" "readings" "[I", .methodLink RX0 40 yX0_spot, .static yX0_spot, .initialized RX0, .code yX0_spot cX0_spot 2 (some .int), .methodLink RX0 69 yX0_isTrue, .static yX0_isTrue, .code yX0_isTrue cX0_isTrue 3 (some .boolean), .constant RX0 23 (-2147483648)] ++ wsX00)
def wsX0_walk : List Cond := .code yX0_walk cX0_walk 6 (some .int) :: ([.methodLink RX0 88 yX0_isTrueOfNext, .instanceMethod yX0_isTrueOfNext, .selects RX0 yX0_isTrueOfNext yX0_isTrueOfNext, .initialized RX0, .code yX0_isTrueOfNext cX0_isTrueOfNext 4 (some .boolean), .fieldLink RX0 9 "TideHouse" "readings" "[I", .methodLink RX0 40 yX0_spot, .static yX0_spot, .code yX0_spot cX0_spot 2 (some .int), .methodLink RX0 69 yX0_isTrue, .static yX0_isTrue, .code yX0_isTrue cX0_isTrue 3 (some .boolean), .constant RX0 23 (-2147483648)] ++ wsX00)
def wsX0_climb_r1 : List Cond := [Cond.methodLink RX0 30 yX0_needRow, Cond.static yX0_needRow, Cond.initialized RX0, Cond.code yX0_needRow cX0_needRow 1 none, Cond.classLink RX0 107 "java/lang/IndexOutOfBoundsException", Cond.initialized "java/lang/IndexOutOfBoundsException", Cond.methodLink RX0 34 yX0_needPlace, Cond.static yX0_needPlace, Cond.code yX0_needPlace cX0_needPlace 1 none, Cond.methodLink RX0 63 yX0_needSign, Cond.static yX0_needSign, Cond.code yX0_needSign cX0_needSign 1 none, Cond.classLink RX0 116 "java/lang/IllegalArgumentException", Cond.initialized "java/lang/IllegalArgumentException", Cond.methodLink RX0 84 yX0_walk, Cond.instanceMethod yX0_walk, Cond.selects RX0 yX0_walk yX0_walk, Cond.code yX0_walk cX0_walk 6 (some .int), Cond.methodLink RX0 88 yX0_isTrueOfNext, Cond.instanceMethod yX0_isTrueOfNext, Cond.selects RX0 yX0_isTrueOfNext yX0_isTrueOfNext, Cond.code yX0_isTrueOfNext cX0_isTrueOfNext 4 (some .boolean), Cond.fieldLink RX0 9 "TideHouse" "readings" "[I", Cond.methodLink RX0 40 yX0_spot]
def wsX0_climb_r2 : List Cond := [Cond.static yX0_spot, Cond.code yX0_spot cX0_spot 2 (some .int), Cond.methodLink RX0 69 yX0_isTrue, Cond.static yX0_isTrue, Cond.code yX0_isTrue cX0_isTrue 3 (some .boolean), Cond.constant RX0 23 (-2147483648)]
def wsX0_climb : List Cond := .code yX0_climb cX0_climb 4 (some .int) :: ((wsX0_climb_r1 ++ wsX0_climb_r2) ++ wsX00 ++ (vx_atS RX0 111 "java/lang/IndexOutOfBoundsException" ["java/lang/RuntimeException", "java/lang/Exception"]).filter goodWord ++ (vx_atS RX0 120 "java/lang/IllegalArgumentException" ["java/lang/RuntimeException", "java/lang/Exception"]).filter goodWord)
def wsX0_drift_r1 : List Cond := [Cond.methodLink RX0 30 yX0_needRow, Cond.static yX0_needRow, Cond.initialized RX0, Cond.code yX0_needRow cX0_needRow 1 none, Cond.classLink RX0 107 "java/lang/IndexOutOfBoundsException", Cond.initialized "java/lang/IndexOutOfBoundsException", Cond.methodLink RX0 34 yX0_needPlace, Cond.static yX0_needPlace, Cond.code yX0_needPlace cX0_needPlace 1 none, Cond.methodLink RX0 63 yX0_needSign, Cond.static yX0_needSign, Cond.code yX0_needSign cX0_needSign 1 none, Cond.classLink RX0 116 "java/lang/IllegalArgumentException", Cond.initialized "java/lang/IllegalArgumentException", Cond.methodLink RX0 84 yX0_walk, Cond.instanceMethod yX0_walk, Cond.selects RX0 yX0_walk yX0_walk, Cond.code yX0_walk cX0_walk 6 (some .int), Cond.methodLink RX0 88 yX0_isTrueOfNext, Cond.instanceMethod yX0_isTrueOfNext, Cond.selects RX0 yX0_isTrueOfNext yX0_isTrueOfNext, Cond.code yX0_isTrueOfNext cX0_isTrueOfNext 4 (some .boolean), Cond.fieldLink RX0 9 "TideHouse" "readings" "[I", Cond.methodLink RX0 40 yX0_spot]
def wsX0_drift_r2 : List Cond := [Cond.static yX0_spot, Cond.code yX0_spot cX0_spot 2 (some .int), Cond.methodLink RX0 69 yX0_isTrue, Cond.static yX0_isTrue, Cond.code yX0_isTrue cX0_isTrue 3 (some .boolean), Cond.constant RX0 23 (-2147483648)]
def wsX0_drift : List Cond := .code yX0_drift cX0_drift 4 (some .int) :: ((wsX0_drift_r1 ++ wsX0_drift_r2) ++ wsX00 ++ (vx_atS RX0 111 "java/lang/IndexOutOfBoundsException" ["java/lang/RuntimeException", "java/lang/Exception"]).filter goodWord ++ (vx_atS RX0 120 "java/lang/IllegalArgumentException" ["java/lang/RuntimeException", "java/lang/Exception"]).filter goodWord)
def wsX0_pick : List Cond := .code yX0_pick cX0_pick 5 (some .int) :: ([.fieldLink RX0 9 "TideHouse" "readings" "[I", .methodLink RX0 30 yX0_needRow, .static yX0_needRow, .initialized RX0, .code yX0_needRow cX0_needRow 1 none, .classLink RX0 107 "java/lang/IndexOutOfBoundsException", .initialized "java/lang/IndexOutOfBoundsException", .methodLink RX0 63 yX0_needSign, .static yX0_needSign, .code yX0_needSign cX0_needSign 1 none, .classLink RX0 116 "java/lang/IllegalArgumentException", .initialized "java/lang/IllegalArgumentException", .methodLink RX0 40 yX0_spot, .static yX0_spot, .code yX0_spot cX0_spot 2 (some .int), .methodLink RX0 69 yX0_isTrue, .static yX0_isTrue, .code yX0_isTrue cX0_isTrue 3 (some .boolean), .constant RX0 23 (-2147483648)] ++ wsX00 ++ (vx_atS RX0 111 "java/lang/IndexOutOfBoundsException" ["java/lang/RuntimeException", "java/lang/Exception"]).filter goodWord ++ (vx_atS RX0 120 "java/lang/IllegalArgumentException" ["java/lang/RuntimeException", "java/lang/Exception"]).filter goodWord)
def wsJ6_bitCount_0f7a4 : List Cond := .code yJ6_bitCount_0f7a4 cJ6_bitCount_0f7a4 1 (some .int) :: ([.constant RJ6 265 (1431655765), .constant RJ6 266 (858993459), .constant RJ6 267 (252645135)])
def wsX0_keep_r1 : List Cond := [Cond.fieldLink RX0 20 "TideHouse" "rowNotes" "[I", Cond.methodLink RX0 30 yX0_needRow, Cond.static yX0_needRow, Cond.initialized RX0, Cond.code yX0_needRow cX0_needRow 1 none, Cond.classLink RX0 107 "java/lang/IndexOutOfBoundsException", Cond.initialized "java/lang/IndexOutOfBoundsException", Cond.methodLink RX0 63 yX0_needSign, Cond.static yX0_needSign, Cond.code yX0_needSign cX0_needSign 1 none, Cond.classLink RX0 116 "java/lang/IllegalArgumentException", Cond.initialized "java/lang/IllegalArgumentException", Cond.methodLink RX0 88 yX0_isTrueOfNext, Cond.instanceMethod yX0_isTrueOfNext, Cond.selects RX0 yX0_isTrueOfNext yX0_isTrueOfNext, Cond.code yX0_isTrueOfNext cX0_isTrueOfNext 4 (some .boolean), Cond.fieldLink RX0 9 "TideHouse" "readings" "[I", Cond.methodLink RX0 40 yX0_spot, Cond.static yX0_spot, Cond.code yX0_spot cX0_spot 2 (some .int), Cond.methodLink RX0 69 yX0_isTrue, Cond.static yX0_isTrue, Cond.code yX0_isTrue cX0_isTrue 3 (some .boolean), Cond.constant RX0 23 (-2147483648)]
def wsX0_keep_r2 : List Cond := [Cond.methodLink RX0 91 yJ6_bitCount_0f7a4, Cond.static yJ6_bitCount_0f7a4, Cond.initialized RJ6, Cond.code yJ6_bitCount_0f7a4 cJ6_bitCount_0f7a4 1 (some .int), Cond.constant RJ6 265 (1431655765), Cond.constant RJ6 266 (858993459), Cond.constant RJ6 267 (252645135)]
def wsX0_keep : List Cond := .code yX0_keep cX0_keep 5 (some .int) :: ((wsX0_keep_r1 ++ wsX0_keep_r2) ++ wsX00 ++ (vx_atS RX0 111 "java/lang/IndexOutOfBoundsException" ["java/lang/RuntimeException", "java/lang/Exception"]).filter goodWord ++ (vx_atS RX0 120 "java/lang/IllegalArgumentException" ["java/lang/RuntimeException", "java/lang/Exception"]).filter goodWord)
def wsX0_notes : List Cond := .code yX0_notes cX0_notes 2 (some .int) :: ([.fieldLink RX0 20 "TideHouse" "rowNotes" "[I", .methodLink RX0 30 yX0_needRow, .static yX0_needRow, .initialized RX0, .code yX0_needRow cX0_needRow 1 none, .classLink RX0 107 "java/lang/IndexOutOfBoundsException", .initialized "java/lang/IndexOutOfBoundsException"] ++ wsX00 ++ (vx_atS RX0 111 "java/lang/IndexOutOfBoundsException" ["java/lang/RuntimeException", "java/lang/Exception"]).filter goodWord)
def wsX0_gaps : List Cond := .code yX0_gaps cX0_gaps 2 (some .int) :: ([.methodLink RX0 30 yX0_needRow, .static yX0_needRow, .initialized RX0, .code yX0_needRow cX0_needRow 1 none, .classLink RX0 107 "java/lang/IndexOutOfBoundsException", .initialized "java/lang/IndexOutOfBoundsException", .methodLink RX0 59 yX0_countMissing, .instanceMethod yX0_countMissing, .selects RX0 yX0_countMissing yX0_countMissing, .code yX0_countMissing cX0_countMissing 5 (some .int), .fieldLink RX0 9 "TideHouse" "readings" "[I", .methodLink RX0 40 yX0_spot, .static yX0_spot, .code yX0_spot cX0_spot 2 (some .int), .methodLink RX0 69 yX0_isTrue, .static yX0_isTrue, .code yX0_isTrue cX0_isTrue 3 (some .boolean), .constant RX0 23 (-2147483648)] ++ wsX00 ++ (vx_atS RX0 111 "java/lang/IndexOutOfBoundsException" ["java/lang/RuntimeException", "java/lang/Exception"]).filter goodWord)
def wsX0_moveLeft : List Cond := .code yX0_moveLeft cX0_moveLeft 6 (some .int) :: ([.fieldLink RX0 9 "TideHouse" "readings" "[I", .methodLink RX0 40 yX0_spot, .static yX0_spot, .initialized RX0, .code yX0_spot cX0_spot 2 (some .int), .methodLink RX0 69 yX0_isTrue, .static yX0_isTrue, .code yX0_isTrue cX0_isTrue 3 (some .boolean), .constant RX0 23 (-2147483648)] ++ wsX00)
def wsX0_settle : List Cond := .code yX0_settle cX0_settle 5 (some .int) :: ([.methodLink RX0 30 yX0_needRow, .static yX0_needRow, .initialized RX0, .code yX0_needRow cX0_needRow 1 none, .classLink RX0 107 "java/lang/IndexOutOfBoundsException", .initialized "java/lang/IndexOutOfBoundsException", .methodLink RX0 63 yX0_needSign, .static yX0_needSign, .code yX0_needSign cX0_needSign 1 none, .classLink RX0 116 "java/lang/IllegalArgumentException", .initialized "java/lang/IllegalArgumentException", .methodLink RX0 96 yX0_moveLeft, .instanceMethod yX0_moveLeft, .selects RX0 yX0_moveLeft yX0_moveLeft, .code yX0_moveLeft cX0_moveLeft 6 (some .int), .fieldLink RX0 9 "TideHouse" "readings" "[I", .methodLink RX0 40 yX0_spot, .static yX0_spot, .code yX0_spot cX0_spot 2 (some .int), .methodLink RX0 69 yX0_isTrue, .static yX0_isTrue, .code yX0_isTrue cX0_isTrue 3 (some .boolean), .constant RX0 23 (-2147483648)] ++ wsX00 ++ (vx_atS RX0 111 "java/lang/IndexOutOfBoundsException" ["java/lang/RuntimeException", "java/lang/Exception"]).filter goodWord ++ (vx_atS RX0 120 "java/lang/IllegalArgumentException" ["java/lang/RuntimeException", "java/lang/Exception"]).filter goodWord)
def wsX0_meet_r1 : List Cond := [Cond.fieldLink RX0 9 "TideHouse" "readings" "[I", Cond.methodLink RX0 30 yX0_needRow, Cond.static yX0_needRow, Cond.initialized RX0, Cond.code yX0_needRow cX0_needRow 1 none, Cond.classLink RX0 107 "java/lang/IndexOutOfBoundsException", Cond.initialized "java/lang/IndexOutOfBoundsException", Cond.methodLink RX0 63 yX0_needSign, Cond.static yX0_needSign, Cond.code yX0_needSign cX0_needSign 1 none, Cond.classLink RX0 116 "java/lang/IllegalArgumentException", Cond.initialized "java/lang/IllegalArgumentException", Cond.methodLink RX0 55 yX0_needOneSort, Cond.static yX0_needOneSort, Cond.code yX0_needOneSort cX0_needOneSort 2 none, Cond.methodLink RX0 103 yX0_isRough, Cond.static yX0_isRough, Cond.code yX0_isRough cX0_isRough 1 (some .boolean), Cond.methodLink RX0 40 yX0_spot, Cond.static yX0_spot, Cond.code yX0_spot cX0_spot 2 (some .int), Cond.methodLink RX0 69 yX0_isTrue, Cond.static yX0_isTrue, Cond.code yX0_isTrue cX0_isTrue 3 (some .boolean)]
def wsX0_meet_r2 : List Cond := [Cond.constant RX0 23 (-2147483648)]
def wsX0_meet : List Cond := .code yX0_meet cX0_meet 6 (some .int) :: ((wsX0_meet_r1 ++ wsX0_meet_r2) ++ wsX00 ++ (vx_atS RX0 111 "java/lang/IndexOutOfBoundsException" ["java/lang/RuntimeException", "java/lang/Exception"]).filter goodWord ++ (vx_atS RX0 120 "java/lang/IllegalArgumentException" ["java/lang/RuntimeException", "java/lang/Exception"]).filter goodWord)
def wsX0_alike : List Cond := .code yX0_alike cX0_alike 4 (some .boolean) :: ([.fieldLink RX0 9 "TideHouse" "readings" "[I", .methodLink RX0 30 yX0_needRow, .static yX0_needRow, .initialized RX0, .code yX0_needRow cX0_needRow 1 none, .classLink RX0 107 "java/lang/IndexOutOfBoundsException", .initialized "java/lang/IndexOutOfBoundsException", .methodLink RX0 55 yX0_needOneSort, .static yX0_needOneSort, .code yX0_needOneSort cX0_needOneSort 2 none, .classLink RX0 116 "java/lang/IllegalArgumentException", .initialized "java/lang/IllegalArgumentException", .methodLink RX0 103 yX0_isRough, .static yX0_isRough, .code yX0_isRough cX0_isRough 1 (some .boolean), .methodLink RX0 40 yX0_spot, .static yX0_spot, .code yX0_spot cX0_spot 2 (some .int)] ++ wsX00 ++ (vx_atS RX0 111 "java/lang/IndexOutOfBoundsException" ["java/lang/RuntimeException", "java/lang/Exception"]).filter goodWord ++ (vx_atS RX0 120 "java/lang/IllegalArgumentException" ["java/lang/RuntimeException", "java/lang/Exception"]).filter goodWord)
def wsX0_needApart : List Cond := .code yX0_needApart cX0_needApart 2 none :: ([.classLink RX0 116 "java/lang/IllegalArgumentException", .initialized "java/lang/IllegalArgumentException"] ++ (vx_atS RX0 120 "java/lang/IllegalArgumentException" ["java/lang/RuntimeException", "java/lang/Exception"]).filter goodWord)
def wsX0_merge_r1 : List Cond := [Cond.fieldLink RX0 9 "TideHouse" "readings" "[I", Cond.methodLink RX0 30 yX0_needRow, Cond.static yX0_needRow, Cond.initialized RX0, Cond.code yX0_needRow cX0_needRow 1 none, Cond.classLink RX0 107 "java/lang/IndexOutOfBoundsException", Cond.initialized "java/lang/IndexOutOfBoundsException", Cond.methodLink RX0 63 yX0_needSign, Cond.static yX0_needSign, Cond.code yX0_needSign cX0_needSign 1 none, Cond.classLink RX0 116 "java/lang/IllegalArgumentException", Cond.initialized "java/lang/IllegalArgumentException", Cond.methodLink RX0 55 yX0_needOneSort, Cond.static yX0_needOneSort, Cond.code yX0_needOneSort cX0_needOneSort 2 none, Cond.methodLink RX0 103 yX0_isRough, Cond.static yX0_isRough, Cond.code yX0_isRough cX0_isRough 1 (some .boolean), Cond.methodLink RX0 100 yX0_needApart, Cond.static yX0_needApart, Cond.code yX0_needApart cX0_needApart 2 none, Cond.methodLink RX0 40 yX0_spot, Cond.static yX0_spot, Cond.code yX0_spot cX0_spot 2 (some .int)]
def wsX0_merge_r2 : List Cond := [Cond.methodLink RX0 69 yX0_isTrue, Cond.static yX0_isTrue, Cond.code yX0_isTrue cX0_isTrue 3 (some .boolean), Cond.constant RX0 23 (-2147483648)]
def wsX0_merge : List Cond := .code yX0_merge cX0_merge 10 (some .int) :: ((wsX0_merge_r1 ++ wsX0_merge_r2) ++ wsX00 ++ (vx_atS RX0 111 "java/lang/IndexOutOfBoundsException" ["java/lang/RuntimeException", "java/lang/Exception"]).filter goodWord ++ (vx_atS RX0 120 "java/lang/IllegalArgumentException" ["java/lang/RuntimeException", "java/lang/Exception"]).filter goodWord)
def wsX1_init : List Cond := .code yX1_init cX1_init 2 none :: ([.methodLink RX1 1 objectInit, .instanceMethod objectInit, .code objectInit ⟨#[0xb1]⟩ 1 none, .arrayClass .int, .fieldLink RX1 7 "TideHouseModel" "readings" "[I", .fieldLink RX1 13 "TideHouseModel" "levels" "[I", .arrayClass .boolean, .fieldLink RX1 16 "TideHouseModel" "open" "[Z", .fieldLink RX1 20 "TideHouseModel" "notes" "[I", .constant RX1 23 (-2147483648)] ++ wsX10)
def wsX1_isTrue : List Cond := .code yX1_isTrue cX1_isTrue 3 (some .boolean) :: ([.constant RX1 23 (-2147483648)])
def wsX1_isRow : List Cond := .code yX1_isRow cX1_isRow 1 (some .boolean) :: ([])
def wsX1_isPlace : List Cond := .code yX1_isPlace cX1_isPlace 1 (some .boolean) :: ([])
def wsX1_isGate : List Cond := .code yX1_isGate cX1_isGate 1 (some .boolean) :: ([])
def wsX1_isNumber : List Cond := .code yX1_isNumber cX1_isNumber 1 (some .boolean) :: ([.constant RX1 23 (-2147483648), .constant RX1 24 (-8000000), .constant RX1 25 (8000000)])
def wsX1_isSign : List Cond := .code yX1_isSign cX1_isSign 1 (some .boolean) :: ([])
def wsX1_areOneSort : List Cond := .code yX1_areOneSort cX1_areOneSort 2 (some .boolean) :: ([])
def wsX1_may : List Cond := .code yX1_may cX1_may 3 (some .boolean) :: ([.fieldLink RX1 26 "TideHouseModel" "thrown" "I"] ++ wsX10)
def wsX1_thrown : List Cond := .code yX1_thrown cX1_thrown 1 (some .int) :: ([.fieldLink RX1 26 "TideHouseModel" "thrown" "I"] ++ wsX10)
def wsX1_at : List Cond := .code yX1_at cX1_at 3 (some .int) :: ([.fieldLink RX1 7 "TideHouseModel" "readings" "[I"] ++ wsX10)
def wsX1_levelFor : List Cond := .code yX1_levelFor cX1_levelFor 3 (some .int) :: ([.fieldLink RX1 13 "TideHouseModel" "levels" "[I"] ++ wsX10)
def wsX1_put : List Cond := .code yX1_put cX1_put 5 (some .boolean) :: ([.fieldLink RX1 7 "TideHouseModel" "readings" "[I", .methodLink RX1 30 yX1_isRow, .static yX1_isRow, .initialized RX1, .code yX1_isRow cX1_isRow 1 (some .boolean), .methodLink RX1 34 yX1_isPlace, .static yX1_isPlace, .code yX1_isPlace cX1_isPlace 1 (some .boolean), .methodLink RX1 37 yX1_isNumber, .static yX1_isNumber, .code yX1_isNumber cX1_isNumber 1 (some .boolean), .constant RX1 23 (-2147483648), .constant RX1 24 (-8000000), .constant RX1 25 (8000000), .methodLink RX1 40 yX1_may, .instanceMethod yX1_may, .selects RX1 yX1_may yX1_may, .code yX1_may cX1_may 3 (some .boolean), .fieldLink RX1 26 "TideHouseModel" "thrown" "I", .methodLink RX1 44 yX1_at, .instanceMethod yX1_at, .selects RX1 yX1_at yX1_at, .code yX1_at cX1_at 3 (some .int)] ++ wsX10)
def wsX1_reading : List Cond := .code yX1_reading cX1_reading 3 (some .int) :: ([.methodLink RX1 30 yX1_isRow, .static yX1_isRow, .initialized RX1, .code yX1_isRow cX1_isRow 1 (some .boolean), .methodLink RX1 34 yX1_isPlace, .static yX1_isPlace, .code yX1_isPlace cX1_isPlace 1 (some .boolean), .methodLink RX1 40 yX1_may, .instanceMethod yX1_may, .selects RX1 yX1_may yX1_may, .code yX1_may cX1_may 3 (some .boolean), .fieldLink RX1 26 "TideHouseModel" "thrown" "I", .methodLink RX1 44 yX1_at, .instanceMethod yX1_at, .selects RX1 yX1_at yX1_at, .code yX1_at cX1_at 3 (some .int), .fieldLink RX1 7 "TideHouseModel" "readings" "[I"] ++ wsX10)
def wsX1_level : List Cond := .code yX1_level cX1_level 6 (some .boolean) :: ([.fieldLink RX1 13 "TideHouseModel" "levels" "[I", .methodLink RX1 48 yX1_isGate, .static yX1_isGate, .initialized RX1, .code yX1_isGate cX1_isGate 1 (some .boolean), .methodLink RX1 37 yX1_isNumber, .static yX1_isNumber, .code yX1_isNumber cX1_isNumber 1 (some .boolean), .constant RX1 23 (-2147483648), .constant RX1 24 (-8000000), .constant RX1 25 (8000000), .methodLink RX1 40 yX1_may, .instanceMethod yX1_may, .selects RX1 yX1_may yX1_may, .code yX1_may cX1_may 3 (some .boolean), .fieldLink RX1 26 "TideHouseModel" "thrown" "I"] ++ wsX10)
def wsX1_copy : List Cond := .code yX1_copy cX1_copy 6 (some .int) :: ([.fieldLink RX1 7 "TideHouseModel" "readings" "[I", .constant RX1 23 (-2147483648), .methodLink RX1 30 yX1_isRow, .static yX1_isRow, .initialized RX1, .code yX1_isRow cX1_isRow 1 (some .boolean), .methodLink RX1 51 yX1_areOneSort, .static yX1_areOneSort, .code yX1_areOneSort cX1_areOneSort 2 (some .boolean), .methodLink RX1 40 yX1_may, .instanceMethod yX1_may, .selects RX1 yX1_may yX1_may, .code yX1_may cX1_may 3 (some .boolean), .fieldLink RX1 26 "TideHouseModel" "thrown" "I", .methodLink RX1 44 yX1_at, .instanceMethod yX1_at, .selects RX1 yX1_at yX1_at, .code yX1_at cX1_at 3 (some .int)] ++ wsX10)
def wsX1_straight_r1 : List Cond := [Cond.methodLink RX1 30 yX1_isRow, Cond.static yX1_isRow, Cond.initialized RX1, Cond.code yX1_isRow cX1_isRow 1 (some .boolean), Cond.methodLink RX1 48 yX1_isGate, Cond.static yX1_isGate, Cond.code yX1_isGate cX1_isGate 1 (some .boolean), Cond.methodLink RX1 55 yX1_isSign, Cond.static yX1_isSign, Cond.code yX1_isSign cX1_isSign 1 (some .boolean), Cond.methodLink RX1 40 yX1_may, Cond.instanceMethod yX1_may, Cond.selects RX1 yX1_may yX1_may, Cond.code yX1_may cX1_may 3 (some .boolean), Cond.fieldLink RX1 26 "TideHouseModel" "thrown" "I", Cond.methodLink RX1 44 yX1_at, Cond.instanceMethod yX1_at, Cond.selects RX1 yX1_at yX1_at, Cond.code yX1_at cX1_at 3 (some .int), Cond.fieldLink RX1 7 "TideHouseModel" "readings" "[I", Cond.methodLink RX1 58 yX1_levelFor, Cond.instanceMethod yX1_levelFor, Cond.selects RX1 yX1_levelFor yX1_levelFor, Cond.code yX1_levelFor cX1_levelFor 3 (some .int)]
def wsX1_straight_r2 : List Cond := [Cond.fieldLink RX1 13 "TideHouseModel" "levels" "[I", Cond.methodLink RX1 61 yX1_isTrue, Cond.static yX1_isTrue, Cond.code yX1_isTrue cX1_isTrue 3 (some .boolean), Cond.constant RX1 23 (-2147483648)]
def wsX1_straight : List Cond := .code yX1_straight cX1_straight 6 (some .int) :: ((wsX1_straight_r1 ++ wsX1_straight_r2) ++ wsX10)
def wsX1_turned_r1 : List Cond := [Cond.methodLink RX1 30 yX1_isRow, Cond.static yX1_isRow, Cond.initialized RX1, Cond.code yX1_isRow cX1_isRow 1 (some .boolean), Cond.methodLink RX1 48 yX1_isGate, Cond.static yX1_isGate, Cond.code yX1_isGate cX1_isGate 1 (some .boolean), Cond.methodLink RX1 55 yX1_isSign, Cond.static yX1_isSign, Cond.code yX1_isSign cX1_isSign 1 (some .boolean), Cond.methodLink RX1 40 yX1_may, Cond.instanceMethod yX1_may, Cond.selects RX1 yX1_may yX1_may, Cond.code yX1_may cX1_may 3 (some .boolean), Cond.fieldLink RX1 26 "TideHouseModel" "thrown" "I", Cond.methodLink RX1 58 yX1_levelFor, Cond.instanceMethod yX1_levelFor, Cond.selects RX1 yX1_levelFor yX1_levelFor, Cond.code yX1_levelFor cX1_levelFor 3 (some .int), Cond.fieldLink RX1 13 "TideHouseModel" "levels" "[I", Cond.methodLink RX1 44 yX1_at, Cond.instanceMethod yX1_at, Cond.selects RX1 yX1_at yX1_at, Cond.code yX1_at cX1_at 3 (some .int)]
def wsX1_turned_r2 : List Cond := [Cond.fieldLink RX1 7 "TideHouseModel" "readings" "[I", Cond.methodLink RX1 61 yX1_isTrue, Cond.static yX1_isTrue, Cond.code yX1_isTrue cX1_isTrue 3 (some .boolean), Cond.constant RX1 23 (-2147483648)]
def wsX1_turned : List Cond := .code yX1_turned cX1_turned 6 (some .int) :: ((wsX1_turned_r1 ++ wsX1_turned_r2) ++ wsX10)
def wsX1_between_r1 : List Cond := [Cond.methodLink RX1 30 yX1_isRow, Cond.static yX1_isRow, Cond.initialized RX1, Cond.code yX1_isRow cX1_isRow 1 (some .boolean), Cond.methodLink RX1 48 yX1_isGate, Cond.static yX1_isGate, Cond.code yX1_isGate cX1_isGate 1 (some .boolean), Cond.methodLink RX1 40 yX1_may, Cond.instanceMethod yX1_may, Cond.selects RX1 yX1_may yX1_may, Cond.code yX1_may cX1_may 3 (some .boolean), Cond.fieldLink RX1 26 "TideHouseModel" "thrown" "I", Cond.methodLink RX1 58 yX1_levelFor, Cond.instanceMethod yX1_levelFor, Cond.selects RX1 yX1_levelFor yX1_levelFor, Cond.code yX1_levelFor cX1_levelFor 3 (some .int), Cond.fieldLink RX1 13 "TideHouseModel" "levels" "[I", Cond.methodLink RX1 44 yX1_at, Cond.instanceMethod yX1_at, Cond.selects RX1 yX1_at yX1_at, Cond.code yX1_at cX1_at 3 (some .int), Cond.fieldLink RX1 7 "TideHouseModel" "readings" "[I", Cond.methodLink RX1 61 yX1_isTrue, Cond.static yX1_isTrue]
def wsX1_between_r2 : List Cond := [Cond.code yX1_isTrue cX1_isTrue 3 (some .boolean), Cond.constant RX1 23 (-2147483648)]
def wsX1_between : List Cond := .code yX1_between cX1_between 10 (some .int) :: ((wsX1_between_r1 ++ wsX1_between_r2) ++ wsX10)
def wsX1_must_r1 : List Cond := [Cond.fieldLink RX1 26 "TideHouseModel" "thrown" "I", Cond.methodLink RX1 30 yX1_isRow, Cond.static yX1_isRow, Cond.initialized RX1, Cond.code yX1_isRow cX1_isRow 1 (some .boolean), Cond.methodLink RX1 34 yX1_isPlace, Cond.static yX1_isPlace, Cond.code yX1_isPlace cX1_isPlace 1 (some .boolean), Cond.methodLink RX1 48 yX1_isGate, Cond.static yX1_isGate, Cond.code yX1_isGate cX1_isGate 1 (some .boolean), Cond.methodLink RX1 55 yX1_isSign, Cond.static yX1_isSign, Cond.code yX1_isSign cX1_isSign 1 (some .boolean), Cond.methodLink RX1 40 yX1_may, Cond.instanceMethod yX1_may, Cond.selects RX1 yX1_may yX1_may, Cond.code yX1_may cX1_may 3 (some .boolean), Cond.methodLink RX1 44 yX1_at, Cond.instanceMethod yX1_at, Cond.selects RX1 yX1_at yX1_at, Cond.code yX1_at cX1_at 3 (some .int), Cond.fieldLink RX1 7 "TideHouseModel" "readings" "[I", Cond.methodLink RX1 58 yX1_levelFor]
def wsX1_must_r2 : List Cond := [Cond.instanceMethod yX1_levelFor, Cond.selects RX1 yX1_levelFor yX1_levelFor, Cond.code yX1_levelFor cX1_levelFor 3 (some .int), Cond.fieldLink RX1 13 "TideHouseModel" "levels" "[I", Cond.methodLink RX1 61 yX1_isTrue, Cond.static yX1_isTrue, Cond.code yX1_isTrue cX1_isTrue 3 (some .boolean), Cond.constant RX1 23 (-2147483648)]
def wsX1_must : List Cond := .code yX1_must cX1_must 5 (some .int) :: ((wsX1_must_r1 ++ wsX1_must_r2) ++ wsX10)
def wsX1_watch_r1 : List Cond := [Cond.fieldLink RX1 16 "TideHouseModel" "open" "[Z", Cond.methodLink RX1 48 yX1_isGate, Cond.static yX1_isGate, Cond.initialized RX1, Cond.code yX1_isGate cX1_isGate 1 (some .boolean), Cond.methodLink RX1 30 yX1_isRow, Cond.static yX1_isRow, Cond.code yX1_isRow cX1_isRow 1 (some .boolean), Cond.methodLink RX1 40 yX1_may, Cond.instanceMethod yX1_may, Cond.selects RX1 yX1_may yX1_may, Cond.code yX1_may cX1_may 3 (some .boolean), Cond.fieldLink RX1 26 "TideHouseModel" "thrown" "I", Cond.methodLink RX1 44 yX1_at, Cond.instanceMethod yX1_at, Cond.selects RX1 yX1_at yX1_at, Cond.code yX1_at cX1_at 3 (some .int), Cond.fieldLink RX1 7 "TideHouseModel" "readings" "[I", Cond.methodLink RX1 58 yX1_levelFor, Cond.instanceMethod yX1_levelFor, Cond.selects RX1 yX1_levelFor yX1_levelFor, Cond.code yX1_levelFor cX1_levelFor 3 (some .int), Cond.fieldLink RX1 13 "TideHouseModel" "levels" "[I", Cond.methodLink RX1 61 yX1_isTrue]
def wsX1_watch_r2 : List Cond := [Cond.static yX1_isTrue, Cond.code yX1_isTrue cX1_isTrue 3 (some .boolean), Cond.constant RX1 23 (-2147483648)]
def wsX1_watch : List Cond := .code yX1_watch cX1_watch 9 (some .int) :: ((wsX1_watch_r1 ++ wsX1_watch_r2) ++ wsX10)
def wsX1_isOpen : List Cond := .code yX1_isOpen cX1_isOpen 2 (some .boolean) :: ([.fieldLink RX1 16 "TideHouseModel" "open" "[Z", .methodLink RX1 48 yX1_isGate, .static yX1_isGate, .initialized RX1, .code yX1_isGate cX1_isGate 1 (some .boolean), .methodLink RX1 40 yX1_may, .instanceMethod yX1_may, .selects RX1 yX1_may yX1_may, .code yX1_may cX1_may 3 (some .boolean), .fieldLink RX1 26 "TideHouseModel" "thrown" "I"] ++ wsX10)
def wsX1_goOn : List Cond := .code yX1_goOn cX1_goOn 6 (some .int) :: ([.methodLink RX1 30 yX1_isRow, .static yX1_isRow, .initialized RX1, .code yX1_isRow cX1_isRow 1 (some .boolean), .methodLink RX1 34 yX1_isPlace, .static yX1_isPlace, .code yX1_isPlace cX1_isPlace 1 (some .boolean), .methodLink RX1 55 yX1_isSign, .static yX1_isSign, .code yX1_isSign cX1_isSign 1 (some .boolean), .methodLink RX1 40 yX1_may, .instanceMethod yX1_may, .selects RX1 yX1_may yX1_may, .code yX1_may cX1_may 3 (some .boolean), .fieldLink RX1 26 "TideHouseModel" "thrown" "I", .methodLink RX1 44 yX1_at, .instanceMethod yX1_at, .selects RX1 yX1_at yX1_at, .code yX1_at cX1_at 3 (some .int), .fieldLink RX1 7 "TideHouseModel" "readings" "[I", .methodLink RX1 61 yX1_isTrue, .static yX1_isTrue, .code yX1_isTrue cX1_isTrue 3 (some .boolean), .constant RX1 23 (-2147483648)] ++ wsX10)
def wsX1_climb_r1 : List Cond := [Cond.methodLink RX1 65 yX1_goOn, Cond.instanceMethod yX1_goOn, Cond.selects RX1 yX1_goOn yX1_goOn, Cond.initialized RX1, Cond.code yX1_goOn cX1_goOn 6 (some .int), Cond.methodLink RX1 30 yX1_isRow, Cond.static yX1_isRow, Cond.code yX1_isRow cX1_isRow 1 (some .boolean), Cond.methodLink RX1 34 yX1_isPlace, Cond.static yX1_isPlace, Cond.code yX1_isPlace cX1_isPlace 1 (some .boolean), Cond.methodLink RX1 55 yX1_isSign, Cond.static yX1_isSign, Cond.code yX1_isSign cX1_isSign 1 (some .boolean), Cond.methodLink RX1 40 yX1_may, Cond.instanceMethod yX1_may, Cond.selects RX1 yX1_may yX1_may, Cond.code yX1_may cX1_may 3 (some .boolean), Cond.fieldLink RX1 26 "TideHouseModel" "thrown" "I", Cond.methodLink RX1 44 yX1_at, Cond.instanceMethod yX1_at, Cond.selects RX1 yX1_at yX1_at, Cond.code yX1_at cX1_at 3 (some .int), Cond.fieldLink RX1 7 "TideHouseModel" "readings" "[I"]
def wsX1_climb_r2 : List Cond := [Cond.methodLink RX1 61 yX1_isTrue, Cond.static yX1_isTrue, Cond.code yX1_isTrue cX1_isTrue 3 (some .boolean), Cond.constant RX1 23 (-2147483648)]
def wsX1_climb : List Cond := .code yX1_climb cX1_climb 4 (some .int) :: ((wsX1_climb_r1 ++ wsX1_climb_r2) ++ wsX10)
def wsX1_drift_r1 : List Cond := [Cond.methodLink RX1 65 yX1_goOn, Cond.instanceMethod yX1_goOn, Cond.selects RX1 yX1_goOn yX1_goOn, Cond.initialized RX1, Cond.code yX1_goOn cX1_goOn 6 (some .int), Cond.methodLink RX1 30 yX1_isRow, Cond.static yX1_isRow, Cond.code yX1_isRow cX1_isRow 1 (some .boolean), Cond.methodLink RX1 34 yX1_isPlace, Cond.static yX1_isPlace, Cond.code yX1_isPlace cX1_isPlace 1 (some .boolean), Cond.methodLink RX1 55 yX1_isSign, Cond.static yX1_isSign, Cond.code yX1_isSign cX1_isSign 1 (some .boolean), Cond.methodLink RX1 40 yX1_may, Cond.instanceMethod yX1_may, Cond.selects RX1 yX1_may yX1_may, Cond.code yX1_may cX1_may 3 (some .boolean), Cond.fieldLink RX1 26 "TideHouseModel" "thrown" "I", Cond.methodLink RX1 44 yX1_at, Cond.instanceMethod yX1_at, Cond.selects RX1 yX1_at yX1_at, Cond.code yX1_at cX1_at 3 (some .int), Cond.fieldLink RX1 7 "TideHouseModel" "readings" "[I"]
def wsX1_drift_r2 : List Cond := [Cond.methodLink RX1 61 yX1_isTrue, Cond.static yX1_isTrue, Cond.code yX1_isTrue cX1_isTrue 3 (some .boolean), Cond.constant RX1 23 (-2147483648)]
def wsX1_drift : List Cond := .code yX1_drift cX1_drift 4 (some .int) :: ((wsX1_drift_r1 ++ wsX1_drift_r2) ++ wsX10)
def wsX1_pick : List Cond := .code yX1_pick cX1_pick 5 (some .int) :: ([.methodLink RX1 30 yX1_isRow, .static yX1_isRow, .initialized RX1, .code yX1_isRow cX1_isRow 1 (some .boolean), .methodLink RX1 55 yX1_isSign, .static yX1_isSign, .code yX1_isSign cX1_isSign 1 (some .boolean), .methodLink RX1 40 yX1_may, .instanceMethod yX1_may, .selects RX1 yX1_may yX1_may, .code yX1_may cX1_may 3 (some .boolean), .fieldLink RX1 26 "TideHouseModel" "thrown" "I", .methodLink RX1 44 yX1_at, .instanceMethod yX1_at, .selects RX1 yX1_at yX1_at, .code yX1_at cX1_at 3 (some .int), .fieldLink RX1 7 "TideHouseModel" "readings" "[I", .methodLink RX1 61 yX1_isTrue, .static yX1_isTrue, .code yX1_isTrue cX1_isTrue 3 (some .boolean), .constant RX1 23 (-2147483648)] ++ wsX10)
def wsX1_keep : List Cond := .code yX1_keep cX1_keep 6 (some .int) :: ([.fieldLink RX1 20 "TideHouseModel" "notes" "[I", .methodLink RX1 30 yX1_isRow, .static yX1_isRow, .initialized RX1, .code yX1_isRow cX1_isRow 1 (some .boolean), .methodLink RX1 55 yX1_isSign, .static yX1_isSign, .code yX1_isSign cX1_isSign 1 (some .boolean), .methodLink RX1 40 yX1_may, .instanceMethod yX1_may, .selects RX1 yX1_may yX1_may, .code yX1_may cX1_may 3 (some .boolean), .fieldLink RX1 26 "TideHouseModel" "thrown" "I", .methodLink RX1 44 yX1_at, .instanceMethod yX1_at, .selects RX1 yX1_at yX1_at, .code yX1_at cX1_at 3 (some .int), .fieldLink RX1 7 "TideHouseModel" "readings" "[I", .methodLink RX1 61 yX1_isTrue, .static yX1_isTrue, .code yX1_isTrue cX1_isTrue 3 (some .boolean), .constant RX1 23 (-2147483648)] ++ wsX10)
def wsX1_notes : List Cond := .code yX1_notes cX1_notes 2 (some .int) :: ([.fieldLink RX1 20 "TideHouseModel" "notes" "[I", .methodLink RX1 30 yX1_isRow, .static yX1_isRow, .initialized RX1, .code yX1_isRow cX1_isRow 1 (some .boolean), .methodLink RX1 40 yX1_may, .instanceMethod yX1_may, .selects RX1 yX1_may yX1_may, .code yX1_may cX1_may 3 (some .boolean), .fieldLink RX1 26 "TideHouseModel" "thrown" "I"] ++ wsX10)
def wsX1_gaps : List Cond := .code yX1_gaps cX1_gaps 4 (some .int) :: ([.constant RX1 23 (-2147483648), .methodLink RX1 30 yX1_isRow, .static yX1_isRow, .initialized RX1, .code yX1_isRow cX1_isRow 1 (some .boolean), .methodLink RX1 40 yX1_may, .instanceMethod yX1_may, .selects RX1 yX1_may yX1_may, .code yX1_may cX1_may 3 (some .boolean), .fieldLink RX1 26 "TideHouseModel" "thrown" "I", .methodLink RX1 44 yX1_at, .instanceMethod yX1_at, .selects RX1 yX1_at yX1_at, .code yX1_at cX1_at 3 (some .int), .fieldLink RX1 7 "TideHouseModel" "readings" "[I"] ++ wsX10)
def wsX1_settle : List Cond := .code yX1_settle cX1_settle 7 (some .int) :: ([.fieldLink RX1 7 "TideHouseModel" "readings" "[I", .methodLink RX1 30 yX1_isRow, .static yX1_isRow, .initialized RX1, .code yX1_isRow cX1_isRow 1 (some .boolean), .methodLink RX1 55 yX1_isSign, .static yX1_isSign, .code yX1_isSign cX1_isSign 1 (some .boolean), .methodLink RX1 40 yX1_may, .instanceMethod yX1_may, .selects RX1 yX1_may yX1_may, .code yX1_may cX1_may 3 (some .boolean), .fieldLink RX1 26 "TideHouseModel" "thrown" "I", .methodLink RX1 44 yX1_at, .instanceMethod yX1_at, .selects RX1 yX1_at yX1_at, .code yX1_at cX1_at 3 (some .int), .methodLink RX1 61 yX1_isTrue, .static yX1_isTrue, .code yX1_isTrue cX1_isTrue 3 (some .boolean), .constant RX1 23 (-2147483648)] ++ wsX10)
def wsX1_meet : List Cond := .code yX1_meet cX1_meet 6 (some .int) :: ([.methodLink RX1 30 yX1_isRow, .static yX1_isRow, .initialized RX1, .code yX1_isRow cX1_isRow 1 (some .boolean), .methodLink RX1 55 yX1_isSign, .static yX1_isSign, .code yX1_isSign cX1_isSign 1 (some .boolean), .methodLink RX1 51 yX1_areOneSort, .static yX1_areOneSort, .code yX1_areOneSort cX1_areOneSort 2 (some .boolean), .methodLink RX1 40 yX1_may, .instanceMethod yX1_may, .selects RX1 yX1_may yX1_may, .code yX1_may cX1_may 3 (some .boolean), .fieldLink RX1 26 "TideHouseModel" "thrown" "I", .methodLink RX1 44 yX1_at, .instanceMethod yX1_at, .selects RX1 yX1_at yX1_at, .code yX1_at cX1_at 3 (some .int), .fieldLink RX1 7 "TideHouseModel" "readings" "[I", .methodLink RX1 61 yX1_isTrue, .static yX1_isTrue, .code yX1_isTrue cX1_isTrue 3 (some .boolean), .constant RX1 23 (-2147483648)] ++ wsX10)
def wsX1_alike : List Cond := .code yX1_alike cX1_alike 5 (some .boolean) :: ([.methodLink RX1 30 yX1_isRow, .static yX1_isRow, .initialized RX1, .code yX1_isRow cX1_isRow 1 (some .boolean), .methodLink RX1 51 yX1_areOneSort, .static yX1_areOneSort, .code yX1_areOneSort cX1_areOneSort 2 (some .boolean), .methodLink RX1 40 yX1_may, .instanceMethod yX1_may, .selects RX1 yX1_may yX1_may, .code yX1_may cX1_may 3 (some .boolean), .fieldLink RX1 26 "TideHouseModel" "thrown" "I", .methodLink RX1 44 yX1_at, .instanceMethod yX1_at, .selects RX1 yX1_at yX1_at, .code yX1_at cX1_at 3 (some .int), .fieldLink RX1 7 "TideHouseModel" "readings" "[I"] ++ wsX10)
def wsX1_merge : List Cond := .code yX1_merge cX1_merge 10 (some .int) :: ([.fieldLink RX1 7 "TideHouseModel" "readings" "[I", .methodLink RX1 30 yX1_isRow, .static yX1_isRow, .initialized RX1, .code yX1_isRow cX1_isRow 1 (some .boolean), .methodLink RX1 55 yX1_isSign, .static yX1_isSign, .code yX1_isSign cX1_isSign 1 (some .boolean), .methodLink RX1 51 yX1_areOneSort, .static yX1_areOneSort, .code yX1_areOneSort cX1_areOneSort 2 (some .boolean), .methodLink RX1 40 yX1_may, .instanceMethod yX1_may, .selects RX1 yX1_may yX1_may, .code yX1_may cX1_may 3 (some .boolean), .fieldLink RX1 26 "TideHouseModel" "thrown" "I", .methodLink RX1 44 yX1_at, .instanceMethod yX1_at, .selects RX1 yX1_at yX1_at, .code yX1_at cX1_at 3 (some .int), .methodLink RX1 61 yX1_isTrue, .static yX1_isTrue, .code yX1_isTrue cX1_isTrue 3 (some .boolean), .constant RX1 23 (-2147483648)] ++ wsX10)
def wsL_put_r1 : List Cond := [Cond.classLink RL 13 "java/lang/IndexOutOfBoundsException", Cond.classLink RL 15 "java/lang/IllegalArgumentException", Cond.methodLink RL 7 yX0_put, Cond.instanceMethod yX0_put, Cond.selects RX0 yX0_put yX0_put, Cond.initialized RX0, Cond.code yX0_put cX0_put 4 (some .boolean), Cond.fieldLink RX0 9 "TideHouse" "readings" "[I", Cond.methodLink RX0 30 yX0_needRow, Cond.static yX0_needRow, Cond.code yX0_needRow cX0_needRow 1 none, Cond.classLink RX0 107 "java/lang/IndexOutOfBoundsException", Cond.initialized "java/lang/IndexOutOfBoundsException", Cond.methodLink RX0 34 yX0_needPlace, Cond.static yX0_needPlace, Cond.code yX0_needPlace cX0_needPlace 1 none, Cond.methodLink RX0 37 yX0_needNumber, Cond.static yX0_needNumber, Cond.code yX0_needNumber cX0_needNumber 1 none, Cond.classLink RX0 116 "java/lang/IllegalArgumentException", Cond.initialized "java/lang/IllegalArgumentException", Cond.constant RX0 23 (-2147483648), Cond.constant RX0 121 (-8000000), Cond.constant RX0 122 (8000000)]
def wsL_put_r2 : List Cond := [Cond.methodLink RX0 40 yX0_spot, Cond.static yX0_spot, Cond.code yX0_spot cX0_spot 2 (some .int), Cond.methodLink RX0 44 yX0_store, Cond.static yX0_store, Cond.code yX0_store cX0_store 4 (some .boolean)]
def wsL_put : List Cond := .codeWith yL_put cL_put 6 (some .int) [(0, 19, 22, 13), (0, 19, 26, 15)] :: ((wsL_put_r1 ++ wsL_put_r2) ++ wsX00 ++ (vx_atS RX0 111 "java/lang/IndexOutOfBoundsException" ["java/lang/RuntimeException", "java/lang/Exception"]).filter goodWord ++ (vx_atS RX0 120 "java/lang/IllegalArgumentException" ["java/lang/RuntimeException", "java/lang/Exception"]).filter goodWord)
def wsL_reading : List Cond := .codeWith yL_reading cL_reading 5 (some .int) [(0, 10, 13, 13)] :: ([.classLink RL 13 "java/lang/IndexOutOfBoundsException", .methodLink RL 17 yX0_reading, .instanceMethod yX0_reading, .selects RX0 yX0_reading yX0_reading, .initialized RX0, .code yX0_reading cX0_reading 3 (some .int), .fieldLink RX0 9 "TideHouse" "readings" "[I", .methodLink RX0 30 yX0_needRow, .static yX0_needRow, .code yX0_needRow cX0_needRow 1 none, .classLink RX0 107 "java/lang/IndexOutOfBoundsException", .initialized "java/lang/IndexOutOfBoundsException", .methodLink RX0 34 yX0_needPlace, .static yX0_needPlace, .code yX0_needPlace cX0_needPlace 1 none, .methodLink RX0 40 yX0_spot, .static yX0_spot, .code yX0_spot cX0_spot 2 (some .int)] ++ wsX00 ++ (vx_atS RX0 111 "java/lang/IndexOutOfBoundsException" ["java/lang/RuntimeException", "java/lang/Exception"]).filter goodWord)
def wsL_level_r1 : List Cond := [Cond.classLink RL 13 "java/lang/IndexOutOfBoundsException", Cond.classLink RL 15 "java/lang/IllegalArgumentException", Cond.methodLink RL 21 yX0_level, Cond.instanceMethod yX0_level, Cond.selects RX0 yX0_level yX0_level, Cond.initialized RX0, Cond.code yX0_level cX0_level 4 (some .boolean), Cond.fieldLink RX0 13 "TideHouse" "levels" "[I", Cond.methodLink RX0 48 yX0_needGate, Cond.static yX0_needGate, Cond.code yX0_needGate cX0_needGate 1 none, Cond.classLink RX0 107 "java/lang/IndexOutOfBoundsException", Cond.initialized "java/lang/IndexOutOfBoundsException", Cond.methodLink RX0 37 yX0_needNumber, Cond.static yX0_needNumber, Cond.code yX0_needNumber cX0_needNumber 1 none, Cond.classLink RX0 116 "java/lang/IllegalArgumentException", Cond.initialized "java/lang/IllegalArgumentException", Cond.constant RX0 23 (-2147483648), Cond.constant RX0 121 (-8000000), Cond.constant RX0 122 (8000000), Cond.methodLink RX0 51 yX0_levelSpot, Cond.static yX0_levelSpot, Cond.code yX0_levelSpot cX0_levelSpot 2 (some .int)]
def wsL_level_r2 : List Cond := [Cond.methodLink RX0 44 yX0_store, Cond.static yX0_store, Cond.code yX0_store cX0_store 4 (some .boolean)]
def wsL_level : List Cond := .codeWith yL_level cL_level 6 (some .int) [(0, 19, 22, 13), (0, 19, 26, 15)] :: ((wsL_level_r1 ++ wsL_level_r2) ++ wsX00 ++ (vx_atS RX0 111 "java/lang/IndexOutOfBoundsException" ["java/lang/RuntimeException", "java/lang/Exception"]).filter goodWord ++ (vx_atS RX0 120 "java/lang/IllegalArgumentException" ["java/lang/RuntimeException", "java/lang/Exception"]).filter goodWord)
def wsL_copy_r1 : List Cond := [Cond.classLink RL 13 "java/lang/IndexOutOfBoundsException", Cond.classLink RL 15 "java/lang/IllegalArgumentException", Cond.methodLink RL 25 yX0_copy, Cond.instanceMethod yX0_copy, Cond.selects RX0 yX0_copy yX0_copy, Cond.initialized RX0, Cond.code yX0_copy cX0_copy 4 (some .int), Cond.fieldLink RX0 9 "TideHouse" "readings" "[I", Cond.methodLink RX0 30 yX0_needRow, Cond.static yX0_needRow, Cond.code yX0_needRow cX0_needRow 1 none, Cond.classLink RX0 107 "java/lang/IndexOutOfBoundsException", Cond.initialized "java/lang/IndexOutOfBoundsException", Cond.methodLink RX0 55 yX0_needOneSort, Cond.static yX0_needOneSort, Cond.code yX0_needOneSort cX0_needOneSort 2 none, Cond.classLink RX0 116 "java/lang/IllegalArgumentException", Cond.initialized "java/lang/IllegalArgumentException", Cond.methodLink RX0 103 yX0_isRough, Cond.static yX0_isRough, Cond.code yX0_isRough cX0_isRough 1 (some .boolean), Cond.methodLink RX0 40 yX0_spot, Cond.static yX0_spot, Cond.code yX0_spot cX0_spot 2 (some .int)]
def wsL_copy_r2 : List Cond := [Cond.methodLink RX0 59 yX0_countMissing, Cond.instanceMethod yX0_countMissing, Cond.selects RX0 yX0_countMissing yX0_countMissing, Cond.code yX0_countMissing cX0_countMissing 5 (some .int), Cond.methodLink RX0 69 yX0_isTrue, Cond.static yX0_isTrue, Cond.code yX0_isTrue cX0_isTrue 3 (some .boolean), Cond.constant RX0 23 (-2147483648)]
def wsL_copy : List Cond := .codeWith yL_copy cL_copy 5 (some .int) [(0, 10, 13, 13), (0, 10, 17, 15)] :: ((wsL_copy_r1 ++ wsL_copy_r2) ++ wsX00 ++ (vx_atS RX0 111 "java/lang/IndexOutOfBoundsException" ["java/lang/RuntimeException", "java/lang/Exception"]).filter goodWord ++ (vx_atS RX0 120 "java/lang/IllegalArgumentException" ["java/lang/RuntimeException", "java/lang/Exception"]).filter goodWord)
def wsL_straight_r1 : List Cond := [Cond.classLink RL 13 "java/lang/IndexOutOfBoundsException", Cond.classLink RL 15 "java/lang/IllegalArgumentException", Cond.methodLink RL 28 yX0_straight, Cond.instanceMethod yX0_straight, Cond.selects RX0 yX0_straight yX0_straight, Cond.initialized RX0, Cond.code yX0_straight cX0_straight 7 (some .int), Cond.fieldLink RX0 9 "TideHouse" "readings" "[I", Cond.methodLink RX0 30 yX0_needRow, Cond.static yX0_needRow, Cond.code yX0_needRow cX0_needRow 1 none, Cond.classLink RX0 107 "java/lang/IndexOutOfBoundsException", Cond.initialized "java/lang/IndexOutOfBoundsException", Cond.methodLink RX0 48 yX0_needGate, Cond.static yX0_needGate, Cond.code yX0_needGate cX0_needGate 1 none, Cond.methodLink RX0 63 yX0_needSign, Cond.static yX0_needSign, Cond.code yX0_needSign cX0_needSign 1 none, Cond.classLink RX0 116 "java/lang/IllegalArgumentException", Cond.initialized "java/lang/IllegalArgumentException", Cond.methodLink RX0 66 yX0_levelFor, Cond.instanceMethod yX0_levelFor, Cond.selects RX0 yX0_levelFor yX0_levelFor]
def wsL_straight_r2 : List Cond := [Cond.code yX0_levelFor cX0_levelFor 3 (some .int), Cond.fieldLink RX0 13 "TideHouse" "levels" "[I", Cond.methodLink RX0 103 yX0_isRough, Cond.static yX0_isRough, Cond.code yX0_isRough cX0_isRough 1 (some .boolean), Cond.methodLink RX0 51 yX0_levelSpot, Cond.static yX0_levelSpot, Cond.code yX0_levelSpot cX0_levelSpot 2 (some .int), Cond.methodLink RX0 40 yX0_spot, Cond.static yX0_spot, Cond.code yX0_spot cX0_spot 2 (some .int), Cond.methodLink RX0 69 yX0_isTrue, Cond.static yX0_isTrue, Cond.code yX0_isTrue cX0_isTrue 3 (some .boolean), Cond.constant RX0 23 (-2147483648)]
def wsL_straight : List Cond := .codeWith yL_straight cL_straight 6 (some .int) [(0, 12, 15, 13), (0, 12, 19, 15)] :: ((wsL_straight_r1 ++ wsL_straight_r2) ++ wsX00 ++ (vx_atS RX0 111 "java/lang/IndexOutOfBoundsException" ["java/lang/RuntimeException", "java/lang/Exception"]).filter goodWord ++ (vx_atS RX0 120 "java/lang/IllegalArgumentException" ["java/lang/RuntimeException", "java/lang/Exception"]).filter goodWord)
def wsL_turned_r1 : List Cond := [Cond.classLink RL 13 "java/lang/IndexOutOfBoundsException", Cond.classLink RL 15 "java/lang/IllegalArgumentException", Cond.methodLink RL 32 yX0_turned, Cond.instanceMethod yX0_turned, Cond.selects RX0 yX0_turned yX0_turned, Cond.initialized RX0, Cond.code yX0_turned cX0_turned 7 (some .int), Cond.fieldLink RX0 9 "TideHouse" "readings" "[I", Cond.methodLink RX0 30 yX0_needRow, Cond.static yX0_needRow, Cond.code yX0_needRow cX0_needRow 1 none, Cond.classLink RX0 107 "java/lang/IndexOutOfBoundsException", Cond.initialized "java/lang/IndexOutOfBoundsException", Cond.methodLink RX0 48 yX0_needGate, Cond.static yX0_needGate, Cond.code yX0_needGate cX0_needGate 1 none, Cond.methodLink RX0 63 yX0_needSign, Cond.static yX0_needSign, Cond.code yX0_needSign cX0_needSign 1 none, Cond.classLink RX0 116 "java/lang/IllegalArgumentException", Cond.initialized "java/lang/IllegalArgumentException", Cond.methodLink RX0 66 yX0_levelFor, Cond.instanceMethod yX0_levelFor, Cond.selects RX0 yX0_levelFor yX0_levelFor]
def wsL_turned_r2 : List Cond := [Cond.code yX0_levelFor cX0_levelFor 3 (some .int), Cond.fieldLink RX0 13 "TideHouse" "levels" "[I", Cond.methodLink RX0 103 yX0_isRough, Cond.static yX0_isRough, Cond.code yX0_isRough cX0_isRough 1 (some .boolean), Cond.methodLink RX0 51 yX0_levelSpot, Cond.static yX0_levelSpot, Cond.code yX0_levelSpot cX0_levelSpot 2 (some .int), Cond.methodLink RX0 40 yX0_spot, Cond.static yX0_spot, Cond.code yX0_spot cX0_spot 2 (some .int), Cond.methodLink RX0 69 yX0_isTrue, Cond.static yX0_isTrue, Cond.code yX0_isTrue cX0_isTrue 3 (some .boolean), Cond.constant RX0 23 (-2147483648)]
def wsL_turned : List Cond := .codeWith yL_turned cL_turned 6 (some .int) [(0, 12, 15, 13), (0, 12, 19, 15)] :: ((wsL_turned_r1 ++ wsL_turned_r2) ++ wsX00 ++ (vx_atS RX0 111 "java/lang/IndexOutOfBoundsException" ["java/lang/RuntimeException", "java/lang/Exception"]).filter goodWord ++ (vx_atS RX0 120 "java/lang/IllegalArgumentException" ["java/lang/RuntimeException", "java/lang/Exception"]).filter goodWord)
def wsL_between_r1 : List Cond := [Cond.classLink RL 13 "java/lang/IndexOutOfBoundsException", Cond.methodLink RL 35 yX0_between, Cond.instanceMethod yX0_between, Cond.selects RX0 yX0_between yX0_between, Cond.initialized RX0, Cond.code yX0_between cX0_between 10 (some .int), Cond.fieldLink RX0 9 "TideHouse" "readings" "[I", Cond.methodLink RX0 30 yX0_needRow, Cond.static yX0_needRow, Cond.code yX0_needRow cX0_needRow 1 none, Cond.classLink RX0 107 "java/lang/IndexOutOfBoundsException", Cond.initialized "java/lang/IndexOutOfBoundsException", Cond.methodLink RX0 48 yX0_needGate, Cond.static yX0_needGate, Cond.code yX0_needGate cX0_needGate 1 none, Cond.methodLink RX0 66 yX0_levelFor, Cond.instanceMethod yX0_levelFor, Cond.selects RX0 yX0_levelFor yX0_levelFor, Cond.code yX0_levelFor cX0_levelFor 3 (some .int), Cond.fieldLink RX0 13 "TideHouse" "levels" "[I", Cond.methodLink RX0 103 yX0_isRough, Cond.static yX0_isRough, Cond.code yX0_isRough cX0_isRough 1 (some .boolean), Cond.methodLink RX0 51 yX0_levelSpot]
def wsL_between_r2 : List Cond := [Cond.static yX0_levelSpot, Cond.code yX0_levelSpot cX0_levelSpot 2 (some .int), Cond.methodLink RX0 40 yX0_spot, Cond.static yX0_spot, Cond.code yX0_spot cX0_spot 2 (some .int), Cond.methodLink RX0 69 yX0_isTrue, Cond.static yX0_isTrue, Cond.code yX0_isTrue cX0_isTrue 3 (some .boolean), Cond.constant RX0 23 (-2147483648)]
def wsL_between : List Cond := .codeWith yL_between cL_between 6 (some .int) [(0, 12, 15, 13)] :: ((wsL_between_r1 ++ wsL_between_r2) ++ wsX00 ++ (vx_atS RX0 111 "java/lang/IndexOutOfBoundsException" ["java/lang/RuntimeException", "java/lang/Exception"]).filter goodWord)
def wsL_must_r1 : List Cond := [Cond.classLink RL 13 "java/lang/IndexOutOfBoundsException", Cond.classLink RL 15 "java/lang/IllegalArgumentException", Cond.classLink RL 42 "java/lang/IllegalStateException", Cond.methodLink RL 38 yX0_must, Cond.instanceMethod yX0_must, Cond.selects RX0 yX0_must yX0_must, Cond.initialized RX0, Cond.code yX0_must cX0_must 6 (some .int), Cond.classLink RX0 73 "java/lang/IllegalStateException", Cond.initialized "java/lang/IllegalStateException", Cond.fieldLink RX0 9 "TideHouse" "readings" "[I", Cond.methodLink RX0 30 yX0_needRow, Cond.static yX0_needRow, Cond.code yX0_needRow cX0_needRow 1 none, Cond.classLink RX0 107 "java/lang/IndexOutOfBoundsException", Cond.initialized "java/lang/IndexOutOfBoundsException", Cond.methodLink RX0 34 yX0_needPlace, Cond.static yX0_needPlace, Cond.code yX0_needPlace cX0_needPlace 1 none, Cond.methodLink RX0 48 yX0_needGate, Cond.static yX0_needGate, Cond.code yX0_needGate cX0_needGate 1 none, Cond.methodLink RX0 63 yX0_needSign, Cond.static yX0_needSign]
def wsL_must_r2 : List Cond := [Cond.code yX0_needSign cX0_needSign 1 none, Cond.classLink RX0 116 "java/lang/IllegalArgumentException", Cond.initialized "java/lang/IllegalArgumentException", Cond.methodLink RX0 40 yX0_spot, Cond.static yX0_spot, Cond.code yX0_spot cX0_spot 2 (some .int), Cond.methodLink RX0 66 yX0_levelFor, Cond.instanceMethod yX0_levelFor, Cond.selects RX0 yX0_levelFor yX0_levelFor, Cond.code yX0_levelFor cX0_levelFor 3 (some .int), Cond.fieldLink RX0 13 "TideHouse" "levels" "[I", Cond.methodLink RX0 103 yX0_isRough, Cond.static yX0_isRough, Cond.code yX0_isRough cX0_isRough 1 (some .boolean), Cond.methodLink RX0 51 yX0_levelSpot, Cond.static yX0_levelSpot, Cond.code yX0_levelSpot cX0_levelSpot 2 (some .int), Cond.methodLink RX0 69 yX0_isTrue, Cond.static yX0_isTrue, Cond.code yX0_isTrue cX0_isTrue 3 (some .boolean), Cond.constant RX0 23 (-2147483648)]
def wsL_must : List Cond := .codeWith yL_must cL_must 7 (some .int) [(0, 14, 17, 13), (0, 14, 21, 15), (0, 14, 25, 42)] :: ((wsL_must_r1 ++ wsL_must_r2) ++ wsX00 ++ (vx_atS RX0 77 "java/lang/IllegalStateException" ["java/lang/RuntimeException", "java/lang/Exception"]).filter goodWord ++ (vx_atS RX0 111 "java/lang/IndexOutOfBoundsException" ["java/lang/RuntimeException", "java/lang/Exception"]).filter goodWord ++ (vx_atS RX0 120 "java/lang/IllegalArgumentException" ["java/lang/RuntimeException", "java/lang/Exception"]).filter goodWord)
def wsL_watch_r1 : List Cond := [Cond.classLink RL 13 "java/lang/IndexOutOfBoundsException", Cond.methodLink RL 44 yX0_watch, Cond.instanceMethod yX0_watch, Cond.selects RX0 yX0_watch yX0_watch, Cond.initialized RX0, Cond.code yX0_watch cX0_watch 8 (some .int), Cond.fieldLink RX0 9 "TideHouse" "readings" "[I", Cond.fieldLink RX0 16 "TideHouse" "open" "[Z", Cond.methodLink RX0 48 yX0_needGate, Cond.static yX0_needGate, Cond.code yX0_needGate cX0_needGate 1 none, Cond.classLink RX0 107 "java/lang/IndexOutOfBoundsException", Cond.initialized "java/lang/IndexOutOfBoundsException", Cond.methodLink RX0 30 yX0_needRow, Cond.static yX0_needRow, Cond.code yX0_needRow cX0_needRow 1 none, Cond.methodLink RX0 66 yX0_levelFor, Cond.instanceMethod yX0_levelFor, Cond.selects RX0 yX0_levelFor yX0_levelFor, Cond.code yX0_levelFor cX0_levelFor 3 (some .int), Cond.fieldLink RX0 13 "TideHouse" "levels" "[I", Cond.methodLink RX0 103 yX0_isRough, Cond.static yX0_isRough, Cond.code yX0_isRough cX0_isRough 1 (some .boolean)]
def wsL_watch_r2 : List Cond := [Cond.methodLink RX0 51 yX0_levelSpot, Cond.static yX0_levelSpot, Cond.code yX0_levelSpot cX0_levelSpot 2 (some .int), Cond.methodLink RX0 40 yX0_spot, Cond.static yX0_spot, Cond.code yX0_spot cX0_spot 2 (some .int), Cond.methodLink RX0 80 yX0_opens, Cond.static yX0_opens, Cond.code yX0_opens cX0_opens 3 (some .boolean), Cond.methodLink RX0 69 yX0_isTrue, Cond.static yX0_isTrue, Cond.code yX0_isTrue cX0_isTrue 3 (some .boolean), Cond.constant RX0 23 (-2147483648)]
def wsL_watch : List Cond := .codeWith yL_watch cL_watch 6 (some .int) [(0, 12, 15, 13)] :: ((wsL_watch_r1 ++ wsL_watch_r2) ++ wsX00 ++ (vx_atS RX0 111 "java/lang/IndexOutOfBoundsException" ["java/lang/RuntimeException", "java/lang/Exception"]).filter goodWord)
def wsL_isOpen : List Cond := .codeWith yL_isOpen cL_isOpen 4 (some .int) [(0, 16, 19, 13)] :: ([.classLink RL 13 "java/lang/IndexOutOfBoundsException", .methodLink RL 48 yX0_isOpen, .instanceMethod yX0_isOpen, .selects RX0 yX0_isOpen yX0_isOpen, .initialized RX0, .code yX0_isOpen cX0_isOpen 2 (some .boolean), .fieldLink RX0 16 "TideHouse" "open" "[Z", .methodLink RX0 48 yX0_needGate, .static yX0_needGate, .code yX0_needGate cX0_needGate 1 none, .classLink RX0 107 "java/lang/IndexOutOfBoundsException", .initialized "java/lang/IndexOutOfBoundsException"] ++ wsX00 ++ (vx_atS RX0 111 "java/lang/IndexOutOfBoundsException" ["java/lang/RuntimeException", "java/lang/Exception"]).filter goodWord)
def wsL_climb_r1 : List Cond := [Cond.classLink RL 13 "java/lang/IndexOutOfBoundsException", Cond.classLink RL 15 "java/lang/IllegalArgumentException", Cond.methodLink RL 52 yX0_climb, Cond.instanceMethod yX0_climb, Cond.selects RX0 yX0_climb yX0_climb, Cond.initialized RX0, Cond.code yX0_climb cX0_climb 4 (some .int), Cond.methodLink RX0 30 yX0_needRow, Cond.static yX0_needRow, Cond.code yX0_needRow cX0_needRow 1 none, Cond.classLink RX0 107 "java/lang/IndexOutOfBoundsException", Cond.initialized "java/lang/IndexOutOfBoundsException", Cond.methodLink RX0 34 yX0_needPlace, Cond.static yX0_needPlace, Cond.code yX0_needPlace cX0_needPlace 1 none, Cond.methodLink RX0 63 yX0_needSign, Cond.static yX0_needSign, Cond.code yX0_needSign cX0_needSign 1 none, Cond.classLink RX0 116 "java/lang/IllegalArgumentException", Cond.initialized "java/lang/IllegalArgumentException", Cond.methodLink RX0 84 yX0_walk, Cond.instanceMethod yX0_walk, Cond.selects RX0 yX0_walk yX0_walk, Cond.code yX0_walk cX0_walk 6 (some .int)]
def wsL_climb_r2 : List Cond := [Cond.methodLink RX0 88 yX0_isTrueOfNext, Cond.instanceMethod yX0_isTrueOfNext, Cond.selects RX0 yX0_isTrueOfNext yX0_isTrueOfNext, Cond.code yX0_isTrueOfNext cX0_isTrueOfNext 4 (some .boolean), Cond.fieldLink RX0 9 "TideHouse" "readings" "[I", Cond.methodLink RX0 40 yX0_spot, Cond.static yX0_spot, Cond.code yX0_spot cX0_spot 2 (some .int), Cond.methodLink RX0 69 yX0_isTrue, Cond.static yX0_isTrue, Cond.code yX0_isTrue cX0_isTrue 3 (some .boolean), Cond.constant RX0 23 (-2147483648)]
def wsL_climb : List Cond := .codeWith yL_climb cL_climb 6 (some .int) [(0, 12, 15, 13), (0, 12, 19, 15)] :: ((wsL_climb_r1 ++ wsL_climb_r2) ++ wsX00 ++ (vx_atS RX0 111 "java/lang/IndexOutOfBoundsException" ["java/lang/RuntimeException", "java/lang/Exception"]).filter goodWord ++ (vx_atS RX0 120 "java/lang/IllegalArgumentException" ["java/lang/RuntimeException", "java/lang/Exception"]).filter goodWord)
def wsL_drift_r1 : List Cond := [Cond.classLink RL 13 "java/lang/IndexOutOfBoundsException", Cond.classLink RL 15 "java/lang/IllegalArgumentException", Cond.methodLink RL 55 yX0_drift, Cond.instanceMethod yX0_drift, Cond.selects RX0 yX0_drift yX0_drift, Cond.initialized RX0, Cond.code yX0_drift cX0_drift 4 (some .int), Cond.methodLink RX0 30 yX0_needRow, Cond.static yX0_needRow, Cond.code yX0_needRow cX0_needRow 1 none, Cond.classLink RX0 107 "java/lang/IndexOutOfBoundsException", Cond.initialized "java/lang/IndexOutOfBoundsException", Cond.methodLink RX0 34 yX0_needPlace, Cond.static yX0_needPlace, Cond.code yX0_needPlace cX0_needPlace 1 none, Cond.methodLink RX0 63 yX0_needSign, Cond.static yX0_needSign, Cond.code yX0_needSign cX0_needSign 1 none, Cond.classLink RX0 116 "java/lang/IllegalArgumentException", Cond.initialized "java/lang/IllegalArgumentException", Cond.methodLink RX0 84 yX0_walk, Cond.instanceMethod yX0_walk, Cond.selects RX0 yX0_walk yX0_walk, Cond.code yX0_walk cX0_walk 6 (some .int)]
def wsL_drift_r2 : List Cond := [Cond.methodLink RX0 88 yX0_isTrueOfNext, Cond.instanceMethod yX0_isTrueOfNext, Cond.selects RX0 yX0_isTrueOfNext yX0_isTrueOfNext, Cond.code yX0_isTrueOfNext cX0_isTrueOfNext 4 (some .boolean), Cond.fieldLink RX0 9 "TideHouse" "readings" "[I", Cond.methodLink RX0 40 yX0_spot, Cond.static yX0_spot, Cond.code yX0_spot cX0_spot 2 (some .int), Cond.methodLink RX0 69 yX0_isTrue, Cond.static yX0_isTrue, Cond.code yX0_isTrue cX0_isTrue 3 (some .boolean), Cond.constant RX0 23 (-2147483648)]
def wsL_drift : List Cond := .codeWith yL_drift cL_drift 6 (some .int) [(0, 12, 15, 13), (0, 12, 19, 15)] :: ((wsL_drift_r1 ++ wsL_drift_r2) ++ wsX00 ++ (vx_atS RX0 111 "java/lang/IndexOutOfBoundsException" ["java/lang/RuntimeException", "java/lang/Exception"]).filter goodWord ++ (vx_atS RX0 120 "java/lang/IllegalArgumentException" ["java/lang/RuntimeException", "java/lang/Exception"]).filter goodWord)
def wsL_pick_r1 : List Cond := [Cond.classLink RL 13 "java/lang/IndexOutOfBoundsException", Cond.classLink RL 15 "java/lang/IllegalArgumentException", Cond.methodLink RL 58 yX0_pick, Cond.instanceMethod yX0_pick, Cond.selects RX0 yX0_pick yX0_pick, Cond.initialized RX0, Cond.code yX0_pick cX0_pick 5 (some .int), Cond.fieldLink RX0 9 "TideHouse" "readings" "[I", Cond.methodLink RX0 30 yX0_needRow, Cond.static yX0_needRow, Cond.code yX0_needRow cX0_needRow 1 none, Cond.classLink RX0 107 "java/lang/IndexOutOfBoundsException", Cond.initialized "java/lang/IndexOutOfBoundsException", Cond.methodLink RX0 63 yX0_needSign, Cond.static yX0_needSign, Cond.code yX0_needSign cX0_needSign 1 none, Cond.classLink RX0 116 "java/lang/IllegalArgumentException", Cond.initialized "java/lang/IllegalArgumentException", Cond.methodLink RX0 40 yX0_spot, Cond.static yX0_spot, Cond.code yX0_spot cX0_spot 2 (some .int), Cond.methodLink RX0 69 yX0_isTrue, Cond.static yX0_isTrue, Cond.code yX0_isTrue cX0_isTrue 3 (some .boolean)]
def wsL_pick_r2 : List Cond := [Cond.constant RX0 23 (-2147483648)]
def wsL_pick : List Cond := .codeWith yL_pick cL_pick 5 (some .int) [(0, 10, 13, 13), (0, 10, 17, 15)] :: ((wsL_pick_r1 ++ wsL_pick_r2) ++ wsX00 ++ (vx_atS RX0 111 "java/lang/IndexOutOfBoundsException" ["java/lang/RuntimeException", "java/lang/Exception"]).filter goodWord ++ (vx_atS RX0 120 "java/lang/IllegalArgumentException" ["java/lang/RuntimeException", "java/lang/Exception"]).filter goodWord)
def wsL_keep_r1 : List Cond := [Cond.classLink RL 13 "java/lang/IndexOutOfBoundsException", Cond.classLink RL 15 "java/lang/IllegalArgumentException", Cond.methodLink RL 61 yX0_keep, Cond.instanceMethod yX0_keep, Cond.selects RX0 yX0_keep yX0_keep, Cond.initialized RX0, Cond.code yX0_keep cX0_keep 5 (some .int), Cond.fieldLink RX0 20 "TideHouse" "rowNotes" "[I", Cond.methodLink RX0 30 yX0_needRow, Cond.static yX0_needRow, Cond.code yX0_needRow cX0_needRow 1 none, Cond.classLink RX0 107 "java/lang/IndexOutOfBoundsException", Cond.initialized "java/lang/IndexOutOfBoundsException", Cond.methodLink RX0 63 yX0_needSign, Cond.static yX0_needSign, Cond.code yX0_needSign cX0_needSign 1 none, Cond.classLink RX0 116 "java/lang/IllegalArgumentException", Cond.initialized "java/lang/IllegalArgumentException", Cond.methodLink RX0 88 yX0_isTrueOfNext, Cond.instanceMethod yX0_isTrueOfNext, Cond.selects RX0 yX0_isTrueOfNext yX0_isTrueOfNext, Cond.code yX0_isTrueOfNext cX0_isTrueOfNext 4 (some .boolean), Cond.fieldLink RX0 9 "TideHouse" "readings" "[I", Cond.methodLink RX0 40 yX0_spot]
def wsL_keep_r2 : List Cond := [Cond.static yX0_spot, Cond.code yX0_spot cX0_spot 2 (some .int), Cond.methodLink RX0 69 yX0_isTrue, Cond.static yX0_isTrue, Cond.code yX0_isTrue cX0_isTrue 3 (some .boolean), Cond.constant RX0 23 (-2147483648), Cond.methodLink RX0 91 yJ6_bitCount_0f7a4, Cond.static yJ6_bitCount_0f7a4, Cond.initialized RJ6, Cond.code yJ6_bitCount_0f7a4 cJ6_bitCount_0f7a4 1 (some .int), Cond.constant RJ6 265 (1431655765), Cond.constant RJ6 266 (858993459), Cond.constant RJ6 267 (252645135)]
def wsL_keep : List Cond := .codeWith yL_keep cL_keep 5 (some .int) [(0, 10, 13, 13), (0, 10, 17, 15)] :: ((wsL_keep_r1 ++ wsL_keep_r2) ++ wsX00 ++ (vx_atS RX0 111 "java/lang/IndexOutOfBoundsException" ["java/lang/RuntimeException", "java/lang/Exception"]).filter goodWord ++ (vx_atS RX0 120 "java/lang/IllegalArgumentException" ["java/lang/RuntimeException", "java/lang/Exception"]).filter goodWord)
def wsL_notes : List Cond := .codeWith yL_notes cL_notes 4 (some .int) [(0, 9, 12, 13)] :: ([.classLink RL 13 "java/lang/IndexOutOfBoundsException", .methodLink RL 64 yX0_notes, .instanceMethod yX0_notes, .selects RX0 yX0_notes yX0_notes, .initialized RX0, .code yX0_notes cX0_notes 2 (some .int), .fieldLink RX0 20 "TideHouse" "rowNotes" "[I", .methodLink RX0 30 yX0_needRow, .static yX0_needRow, .code yX0_needRow cX0_needRow 1 none, .classLink RX0 107 "java/lang/IndexOutOfBoundsException", .initialized "java/lang/IndexOutOfBoundsException"] ++ wsX00 ++ (vx_atS RX0 111 "java/lang/IndexOutOfBoundsException" ["java/lang/RuntimeException", "java/lang/Exception"]).filter goodWord)
def wsL_gaps : List Cond := .codeWith yL_gaps cL_gaps 4 (some .int) [(0, 9, 12, 13)] :: ([.classLink RL 13 "java/lang/IndexOutOfBoundsException", .methodLink RL 68 yX0_gaps, .instanceMethod yX0_gaps, .selects RX0 yX0_gaps yX0_gaps, .initialized RX0, .code yX0_gaps cX0_gaps 2 (some .int), .methodLink RX0 30 yX0_needRow, .static yX0_needRow, .code yX0_needRow cX0_needRow 1 none, .classLink RX0 107 "java/lang/IndexOutOfBoundsException", .initialized "java/lang/IndexOutOfBoundsException", .methodLink RX0 59 yX0_countMissing, .instanceMethod yX0_countMissing, .selects RX0 yX0_countMissing yX0_countMissing, .code yX0_countMissing cX0_countMissing 5 (some .int), .fieldLink RX0 9 "TideHouse" "readings" "[I", .methodLink RX0 40 yX0_spot, .static yX0_spot, .code yX0_spot cX0_spot 2 (some .int), .methodLink RX0 69 yX0_isTrue, .static yX0_isTrue, .code yX0_isTrue cX0_isTrue 3 (some .boolean), .constant RX0 23 (-2147483648)] ++ wsX00 ++ (vx_atS RX0 111 "java/lang/IndexOutOfBoundsException" ["java/lang/RuntimeException", "java/lang/Exception"]).filter goodWord)
def wsL_settle_r1 : List Cond := [Cond.classLink RL 13 "java/lang/IndexOutOfBoundsException", Cond.classLink RL 15 "java/lang/IllegalArgumentException", Cond.methodLink RL 71 yX0_settle, Cond.instanceMethod yX0_settle, Cond.selects RX0 yX0_settle yX0_settle, Cond.initialized RX0, Cond.code yX0_settle cX0_settle 5 (some .int), Cond.methodLink RX0 30 yX0_needRow, Cond.static yX0_needRow, Cond.code yX0_needRow cX0_needRow 1 none, Cond.classLink RX0 107 "java/lang/IndexOutOfBoundsException", Cond.initialized "java/lang/IndexOutOfBoundsException", Cond.methodLink RX0 63 yX0_needSign, Cond.static yX0_needSign, Cond.code yX0_needSign cX0_needSign 1 none, Cond.classLink RX0 116 "java/lang/IllegalArgumentException", Cond.initialized "java/lang/IllegalArgumentException", Cond.methodLink RX0 96 yX0_moveLeft, Cond.instanceMethod yX0_moveLeft, Cond.selects RX0 yX0_moveLeft yX0_moveLeft, Cond.code yX0_moveLeft cX0_moveLeft 6 (some .int), Cond.fieldLink RX0 9 "TideHouse" "readings" "[I", Cond.methodLink RX0 40 yX0_spot, Cond.static yX0_spot]
def wsL_settle_r2 : List Cond := [Cond.code yX0_spot cX0_spot 2 (some .int), Cond.methodLink RX0 69 yX0_isTrue, Cond.static yX0_isTrue, Cond.code yX0_isTrue cX0_isTrue 3 (some .boolean), Cond.constant RX0 23 (-2147483648)]
def wsL_settle : List Cond := .codeWith yL_settle cL_settle 5 (some .int) [(0, 10, 13, 13), (0, 10, 17, 15)] :: ((wsL_settle_r1 ++ wsL_settle_r2) ++ wsX00 ++ (vx_atS RX0 111 "java/lang/IndexOutOfBoundsException" ["java/lang/RuntimeException", "java/lang/Exception"]).filter goodWord ++ (vx_atS RX0 120 "java/lang/IllegalArgumentException" ["java/lang/RuntimeException", "java/lang/Exception"]).filter goodWord)
def wsL_meet_r1 : List Cond := [Cond.classLink RL 13 "java/lang/IndexOutOfBoundsException", Cond.classLink RL 15 "java/lang/IllegalArgumentException", Cond.methodLink RL 74 yX0_meet, Cond.instanceMethod yX0_meet, Cond.selects RX0 yX0_meet yX0_meet, Cond.initialized RX0, Cond.code yX0_meet cX0_meet 6 (some .int), Cond.fieldLink RX0 9 "TideHouse" "readings" "[I", Cond.methodLink RX0 30 yX0_needRow, Cond.static yX0_needRow, Cond.code yX0_needRow cX0_needRow 1 none, Cond.classLink RX0 107 "java/lang/IndexOutOfBoundsException", Cond.initialized "java/lang/IndexOutOfBoundsException", Cond.methodLink RX0 63 yX0_needSign, Cond.static yX0_needSign, Cond.code yX0_needSign cX0_needSign 1 none, Cond.classLink RX0 116 "java/lang/IllegalArgumentException", Cond.initialized "java/lang/IllegalArgumentException", Cond.methodLink RX0 55 yX0_needOneSort, Cond.static yX0_needOneSort, Cond.code yX0_needOneSort cX0_needOneSort 2 none, Cond.methodLink RX0 103 yX0_isRough, Cond.static yX0_isRough, Cond.code yX0_isRough cX0_isRough 1 (some .boolean)]
def wsL_meet_r2 : List Cond := [Cond.methodLink RX0 40 yX0_spot, Cond.static yX0_spot, Cond.code yX0_spot cX0_spot 2 (some .int), Cond.methodLink RX0 69 yX0_isTrue, Cond.static yX0_isTrue, Cond.code yX0_isTrue cX0_isTrue 3 (some .boolean), Cond.constant RX0 23 (-2147483648)]
def wsL_meet : List Cond := .codeWith yL_meet cL_meet 6 (some .int) [(0, 12, 15, 13), (0, 12, 19, 15)] :: ((wsL_meet_r1 ++ wsL_meet_r2) ++ wsX00 ++ (vx_atS RX0 111 "java/lang/IndexOutOfBoundsException" ["java/lang/RuntimeException", "java/lang/Exception"]).filter goodWord ++ (vx_atS RX0 120 "java/lang/IllegalArgumentException" ["java/lang/RuntimeException", "java/lang/Exception"]).filter goodWord)
def wsL_alike : List Cond := .codeWith yL_alike cL_alike 5 (some .int) [(0, 17, 20, 13), (0, 17, 24, 15)] :: ([.classLink RL 13 "java/lang/IndexOutOfBoundsException", .classLink RL 15 "java/lang/IllegalArgumentException", .methodLink RL 77 yX0_alike, .instanceMethod yX0_alike, .selects RX0 yX0_alike yX0_alike, .initialized RX0, .code yX0_alike cX0_alike 4 (some .boolean), .fieldLink RX0 9 "TideHouse" "readings" "[I", .methodLink RX0 30 yX0_needRow, .static yX0_needRow, .code yX0_needRow cX0_needRow 1 none, .classLink RX0 107 "java/lang/IndexOutOfBoundsException", .initialized "java/lang/IndexOutOfBoundsException", .methodLink RX0 55 yX0_needOneSort, .static yX0_needOneSort, .code yX0_needOneSort cX0_needOneSort 2 none, .classLink RX0 116 "java/lang/IllegalArgumentException", .initialized "java/lang/IllegalArgumentException", .methodLink RX0 103 yX0_isRough, .static yX0_isRough, .code yX0_isRough cX0_isRough 1 (some .boolean), .methodLink RX0 40 yX0_spot, .static yX0_spot, .code yX0_spot cX0_spot 2 (some .int)] ++ wsX00 ++ (vx_atS RX0 111 "java/lang/IndexOutOfBoundsException" ["java/lang/RuntimeException", "java/lang/Exception"]).filter goodWord ++ (vx_atS RX0 120 "java/lang/IllegalArgumentException" ["java/lang/RuntimeException", "java/lang/Exception"]).filter goodWord)
def wsL_merge_r1 : List Cond := [Cond.classLink RL 13 "java/lang/IndexOutOfBoundsException", Cond.classLink RL 15 "java/lang/IllegalArgumentException", Cond.methodLink RL 81 yX0_merge, Cond.instanceMethod yX0_merge, Cond.selects RX0 yX0_merge yX0_merge, Cond.initialized RX0, Cond.code yX0_merge cX0_merge 10 (some .int), Cond.fieldLink RX0 9 "TideHouse" "readings" "[I", Cond.methodLink RX0 30 yX0_needRow, Cond.static yX0_needRow, Cond.code yX0_needRow cX0_needRow 1 none, Cond.classLink RX0 107 "java/lang/IndexOutOfBoundsException", Cond.initialized "java/lang/IndexOutOfBoundsException", Cond.methodLink RX0 63 yX0_needSign, Cond.static yX0_needSign, Cond.code yX0_needSign cX0_needSign 1 none, Cond.classLink RX0 116 "java/lang/IllegalArgumentException", Cond.initialized "java/lang/IllegalArgumentException", Cond.methodLink RX0 55 yX0_needOneSort, Cond.static yX0_needOneSort, Cond.code yX0_needOneSort cX0_needOneSort 2 none, Cond.methodLink RX0 103 yX0_isRough, Cond.static yX0_isRough, Cond.code yX0_isRough cX0_isRough 1 (some .boolean)]
def wsL_merge_r2 : List Cond := [Cond.methodLink RX0 100 yX0_needApart, Cond.static yX0_needApart, Cond.code yX0_needApart cX0_needApart 2 none, Cond.methodLink RX0 40 yX0_spot, Cond.static yX0_spot, Cond.code yX0_spot cX0_spot 2 (some .int), Cond.methodLink RX0 69 yX0_isTrue, Cond.static yX0_isTrue, Cond.code yX0_isTrue cX0_isTrue 3 (some .boolean), Cond.constant RX0 23 (-2147483648)]
def wsL_merge : List Cond := .codeWith yL_merge cL_merge 7 (some .int) [(0, 14, 17, 13), (0, 14, 21, 15)] :: ((wsL_merge_r1 ++ wsL_merge_r2) ++ wsX00 ++ (vx_atS RX0 111 "java/lang/IndexOutOfBoundsException" ["java/lang/RuntimeException", "java/lang/Exception"]).filter goodWord ++ (vx_atS RX0 120 "java/lang/IllegalArgumentException" ["java/lang/RuntimeException", "java/lang/Exception"]).filter goodWord)
def wsL_law0_r1 : List Cond := [Cond.classLink RL 8 RX0, Cond.instantiable RX0 4, Cond.initialized RX0, Cond.classLink RL 85 RX1, Cond.instantiable RX1 5, Cond.initialized RX1, Cond.arrayClass .long, Cond.methodLink RL 84 yX0_init, Cond.instanceMethod yX0_init, Cond.code yX0_init cX0_init 1 none, Cond.methodLink RX0 1 objectInit, Cond.instanceMethod objectInit, Cond.code objectInit ⟨#[0xb1]⟩ 1 none, Cond.arrayClass .int, Cond.fieldLink RX0 9 "TideHouse" "readings" "[I", Cond.fieldLink RX0 13 "TideHouse" "levels" "[I", Cond.arrayClass .boolean, Cond.fieldLink RX0 16 "TideHouse" "open" "[Z", Cond.fieldLink RX0 20 "TideHouse" "rowNotes" "[I", Cond.constant RX0 23 (-2147483648), Cond.methodLink RX0 24 yJ7_fill_53178, Cond.static yJ7_fill_53178, Cond.initialized RJ7, Cond.code yJ7_fill_53178 cJ7_fill_53178 4 none]
def wsL_law0_r2 : List Cond := [Cond.methodLink RL 87 yX1_init, Cond.instanceMethod yX1_init, Cond.code yX1_init cX1_init 2 none, Cond.methodLink RX1 1 objectInit, Cond.fieldLink RX1 7 "TideHouseModel" "readings" "[I", Cond.fieldLink RX1 13 "TideHouseModel" "levels" "[I", Cond.fieldLink RX1 16 "TideHouseModel" "open" "[Z", Cond.fieldLink RX1 20 "TideHouseModel" "notes" "[I", Cond.constant RX1 23 (-2147483648), Cond.methodLink RL 88 yL_put, Cond.static yL_put, Cond.initialized RL, Cond.codeWith yL_put cL_put 6 (some .int) [(0, 19, 22, 13), (0, 19, 26, 15)], Cond.classLink RL 13 "java/lang/IndexOutOfBoundsException", Cond.classLink RL 15 "java/lang/IllegalArgumentException", Cond.methodLink RL 7 yX0_put, Cond.instanceMethod yX0_put, Cond.selects RX0 yX0_put yX0_put, Cond.code yX0_put cX0_put 4 (some .boolean), Cond.methodLink RX0 30 yX0_needRow, Cond.static yX0_needRow, Cond.code yX0_needRow cX0_needRow 1 none, Cond.classLink RX0 107 "java/lang/IndexOutOfBoundsException", Cond.initialized "java/lang/IndexOutOfBoundsException"]
def wsL_law0_r3 : List Cond := [Cond.methodLink RX0 34 yX0_needPlace, Cond.static yX0_needPlace, Cond.code yX0_needPlace cX0_needPlace 1 none, Cond.methodLink RX0 37 yX0_needNumber, Cond.static yX0_needNumber, Cond.code yX0_needNumber cX0_needNumber 1 none, Cond.classLink RX0 116 "java/lang/IllegalArgumentException", Cond.initialized "java/lang/IllegalArgumentException", Cond.constant RX0 121 (-8000000), Cond.constant RX0 122 (8000000), Cond.methodLink RX0 40 yX0_spot, Cond.static yX0_spot, Cond.code yX0_spot cX0_spot 2 (some .int), Cond.methodLink RX0 44 yX0_store, Cond.static yX0_store, Cond.code yX0_store cX0_store 4 (some .boolean), Cond.methodLink RL 93 yX1_put, Cond.instanceMethod yX1_put, Cond.selects RX1 yX1_put yX1_put, Cond.code yX1_put cX1_put 5 (some .boolean), Cond.methodLink RX1 30 yX1_isRow, Cond.static yX1_isRow, Cond.code yX1_isRow cX1_isRow 1 (some .boolean), Cond.methodLink RX1 34 yX1_isPlace]
def wsL_law0_r4 : List Cond := [Cond.static yX1_isPlace, Cond.code yX1_isPlace cX1_isPlace 1 (some .boolean), Cond.methodLink RX1 37 yX1_isNumber, Cond.static yX1_isNumber, Cond.code yX1_isNumber cX1_isNumber 1 (some .boolean), Cond.constant RX1 24 (-8000000), Cond.constant RX1 25 (8000000), Cond.methodLink RX1 40 yX1_may, Cond.instanceMethod yX1_may, Cond.selects RX1 yX1_may yX1_may, Cond.code yX1_may cX1_may 3 (some .boolean), Cond.fieldLink RX1 26 "TideHouseModel" "thrown" "I", Cond.methodLink RX1 44 yX1_at, Cond.instanceMethod yX1_at, Cond.selects RX1 yX1_at yX1_at, Cond.code yX1_at cX1_at 3 (some .int), Cond.methodLink RL 94 yX1_thrown, Cond.instanceMethod yX1_thrown, Cond.selects RX1 yX1_thrown yX1_thrown, Cond.code yX1_thrown cX1_thrown 1 (some .int), Cond.methodLink RL 98 yL_reading, Cond.static yL_reading, Cond.codeWith yL_reading cL_reading 5 (some .int) [(0, 10, 13, 13)], Cond.methodLink RL 17 yX0_reading]
def wsL_law0_r5 : List Cond := [Cond.instanceMethod yX0_reading, Cond.selects RX0 yX0_reading yX0_reading, Cond.code yX0_reading cX0_reading 3 (some .int), Cond.methodLink RL 101 yX1_reading, Cond.instanceMethod yX1_reading, Cond.selects RX1 yX1_reading yX1_reading, Cond.code yX1_reading cX1_reading 3 (some .int), Cond.methodLink RL 102 yL_level, Cond.static yL_level, Cond.codeWith yL_level cL_level 6 (some .int) [(0, 19, 22, 13), (0, 19, 26, 15)], Cond.methodLink RL 21 yX0_level, Cond.instanceMethod yX0_level, Cond.selects RX0 yX0_level yX0_level, Cond.code yX0_level cX0_level 4 (some .boolean), Cond.methodLink RX0 48 yX0_needGate, Cond.static yX0_needGate, Cond.code yX0_needGate cX0_needGate 1 none, Cond.methodLink RX0 51 yX0_levelSpot, Cond.static yX0_levelSpot, Cond.code yX0_levelSpot cX0_levelSpot 2 (some .int), Cond.methodLink RL 105 yX1_level, Cond.instanceMethod yX1_level, Cond.selects RX1 yX1_level yX1_level, Cond.code yX1_level cX1_level 6 (some .boolean)]
def wsL_law0_r6 : List Cond := [Cond.methodLink RX1 48 yX1_isGate, Cond.static yX1_isGate, Cond.code yX1_isGate cX1_isGate 1 (some .boolean), Cond.methodLink RL 106 yL_copy, Cond.static yL_copy, Cond.codeWith yL_copy cL_copy 5 (some .int) [(0, 10, 13, 13), (0, 10, 17, 15)], Cond.methodLink RL 25 yX0_copy, Cond.instanceMethod yX0_copy, Cond.selects RX0 yX0_copy yX0_copy, Cond.code yX0_copy cX0_copy 4 (some .int), Cond.methodLink RX0 55 yX0_needOneSort, Cond.static yX0_needOneSort, Cond.code yX0_needOneSort cX0_needOneSort 2 none, Cond.methodLink RX0 103 yX0_isRough, Cond.static yX0_isRough, Cond.code yX0_isRough cX0_isRough 1 (some .boolean), Cond.methodLink RX0 59 yX0_countMissing, Cond.instanceMethod yX0_countMissing, Cond.selects RX0 yX0_countMissing yX0_countMissing, Cond.code yX0_countMissing cX0_countMissing 5 (some .int), Cond.methodLink RX0 69 yX0_isTrue, Cond.static yX0_isTrue, Cond.code yX0_isTrue cX0_isTrue 3 (some .boolean), Cond.methodLink RL 108 yX1_copy]
def wsL_law0_r7 : List Cond := [Cond.instanceMethod yX1_copy, Cond.selects RX1 yX1_copy yX1_copy, Cond.code yX1_copy cX1_copy 6 (some .int), Cond.methodLink RX1 51 yX1_areOneSort, Cond.static yX1_areOneSort, Cond.code yX1_areOneSort cX1_areOneSort 2 (some .boolean), Cond.methodLink RL 109 yL_straight, Cond.static yL_straight, Cond.codeWith yL_straight cL_straight 6 (some .int) [(0, 12, 15, 13), (0, 12, 19, 15)], Cond.methodLink RL 28 yX0_straight, Cond.instanceMethod yX0_straight, Cond.selects RX0 yX0_straight yX0_straight, Cond.code yX0_straight cX0_straight 7 (some .int), Cond.methodLink RX0 63 yX0_needSign, Cond.static yX0_needSign, Cond.code yX0_needSign cX0_needSign 1 none, Cond.methodLink RX0 66 yX0_levelFor, Cond.instanceMethod yX0_levelFor, Cond.selects RX0 yX0_levelFor yX0_levelFor, Cond.code yX0_levelFor cX0_levelFor 3 (some .int), Cond.methodLink RL 111 yX1_straight, Cond.instanceMethod yX1_straight, Cond.selects RX1 yX1_straight yX1_straight, Cond.code yX1_straight cX1_straight 6 (some .int)]
def wsL_law0_r8 : List Cond := [Cond.methodLink RX1 55 yX1_isSign, Cond.static yX1_isSign, Cond.code yX1_isSign cX1_isSign 1 (some .boolean), Cond.methodLink RX1 58 yX1_levelFor, Cond.instanceMethod yX1_levelFor, Cond.selects RX1 yX1_levelFor yX1_levelFor, Cond.code yX1_levelFor cX1_levelFor 3 (some .int), Cond.methodLink RX1 61 yX1_isTrue, Cond.static yX1_isTrue, Cond.code yX1_isTrue cX1_isTrue 3 (some .boolean), Cond.methodLink RL 112 yL_turned, Cond.static yL_turned, Cond.codeWith yL_turned cL_turned 6 (some .int) [(0, 12, 15, 13), (0, 12, 19, 15)], Cond.methodLink RL 32 yX0_turned, Cond.instanceMethod yX0_turned, Cond.selects RX0 yX0_turned yX0_turned, Cond.code yX0_turned cX0_turned 7 (some .int), Cond.methodLink RL 114 yX1_turned, Cond.instanceMethod yX1_turned, Cond.selects RX1 yX1_turned yX1_turned, Cond.code yX1_turned cX1_turned 6 (some .int), Cond.methodLink RL 115 yL_between, Cond.static yL_between, Cond.codeWith yL_between cL_between 6 (some .int) [(0, 12, 15, 13)]]
def wsL_law0_r9 : List Cond := [Cond.methodLink RL 35 yX0_between, Cond.instanceMethod yX0_between, Cond.selects RX0 yX0_between yX0_between, Cond.code yX0_between cX0_between 10 (some .int), Cond.methodLink RL 117 yX1_between, Cond.instanceMethod yX1_between, Cond.selects RX1 yX1_between yX1_between, Cond.code yX1_between cX1_between 10 (some .int), Cond.methodLink RL 118 yL_must, Cond.static yL_must, Cond.codeWith yL_must cL_must 7 (some .int) [(0, 14, 17, 13), (0, 14, 21, 15), (0, 14, 25, 42)], Cond.classLink RL 42 "java/lang/IllegalStateException", Cond.methodLink RL 38 yX0_must, Cond.instanceMethod yX0_must, Cond.selects RX0 yX0_must yX0_must, Cond.code yX0_must cX0_must 6 (some .int), Cond.classLink RX0 73 "java/lang/IllegalStateException", Cond.initialized "java/lang/IllegalStateException", Cond.methodLink RL 121 yX1_must, Cond.instanceMethod yX1_must, Cond.selects RX1 yX1_must yX1_must, Cond.code yX1_must cX1_must 5 (some .int), Cond.methodLink RL 122 yL_watch, Cond.static yL_watch]
def wsL_law0_r10 : List Cond := [Cond.codeWith yL_watch cL_watch 6 (some .int) [(0, 12, 15, 13)], Cond.methodLink RL 44 yX0_watch, Cond.instanceMethod yX0_watch, Cond.selects RX0 yX0_watch yX0_watch, Cond.code yX0_watch cX0_watch 8 (some .int), Cond.methodLink RX0 80 yX0_opens, Cond.static yX0_opens, Cond.code yX0_opens cX0_opens 3 (some .boolean), Cond.methodLink RL 125 yX1_watch, Cond.instanceMethod yX1_watch, Cond.selects RX1 yX1_watch yX1_watch, Cond.code yX1_watch cX1_watch 9 (some .int), Cond.methodLink RL 126 yL_isOpen, Cond.static yL_isOpen, Cond.codeWith yL_isOpen cL_isOpen 4 (some .int) [(0, 16, 19, 13)], Cond.methodLink RL 48 yX0_isOpen, Cond.instanceMethod yX0_isOpen, Cond.selects RX0 yX0_isOpen yX0_isOpen, Cond.code yX0_isOpen cX0_isOpen 2 (some .boolean), Cond.methodLink RL 129 yX1_isOpen, Cond.instanceMethod yX1_isOpen, Cond.selects RX1 yX1_isOpen yX1_isOpen, Cond.code yX1_isOpen cX1_isOpen 2 (some .boolean), Cond.methodLink RL 130 yL_climb]
def wsL_law0_r11 : List Cond := [Cond.static yL_climb, Cond.codeWith yL_climb cL_climb 6 (some .int) [(0, 12, 15, 13), (0, 12, 19, 15)], Cond.methodLink RL 52 yX0_climb, Cond.instanceMethod yX0_climb, Cond.selects RX0 yX0_climb yX0_climb, Cond.code yX0_climb cX0_climb 4 (some .int), Cond.methodLink RX0 84 yX0_walk, Cond.instanceMethod yX0_walk, Cond.selects RX0 yX0_walk yX0_walk, Cond.code yX0_walk cX0_walk 6 (some .int), Cond.methodLink RX0 88 yX0_isTrueOfNext, Cond.instanceMethod yX0_isTrueOfNext, Cond.selects RX0 yX0_isTrueOfNext yX0_isTrueOfNext, Cond.code yX0_isTrueOfNext cX0_isTrueOfNext 4 (some .boolean), Cond.methodLink RL 132 yX1_climb, Cond.instanceMethod yX1_climb, Cond.selects RX1 yX1_climb yX1_climb, Cond.code yX1_climb cX1_climb 4 (some .int), Cond.methodLink RX1 65 yX1_goOn, Cond.instanceMethod yX1_goOn, Cond.selects RX1 yX1_goOn yX1_goOn, Cond.code yX1_goOn cX1_goOn 6 (some .int), Cond.methodLink RL 133 yL_drift, Cond.static yL_drift]
def wsL_law0_r12 : List Cond := [Cond.codeWith yL_drift cL_drift 6 (some .int) [(0, 12, 15, 13), (0, 12, 19, 15)], Cond.methodLink RL 55 yX0_drift, Cond.instanceMethod yX0_drift, Cond.selects RX0 yX0_drift yX0_drift, Cond.code yX0_drift cX0_drift 4 (some .int), Cond.methodLink RL 135 yX1_drift, Cond.instanceMethod yX1_drift, Cond.selects RX1 yX1_drift yX1_drift, Cond.code yX1_drift cX1_drift 4 (some .int), Cond.methodLink RL 136 yL_pick, Cond.static yL_pick, Cond.codeWith yL_pick cL_pick 5 (some .int) [(0, 10, 13, 13), (0, 10, 17, 15)], Cond.methodLink RL 58 yX0_pick, Cond.instanceMethod yX0_pick, Cond.selects RX0 yX0_pick yX0_pick, Cond.code yX0_pick cX0_pick 5 (some .int), Cond.methodLink RL 138 yX1_pick, Cond.instanceMethod yX1_pick, Cond.selects RX1 yX1_pick yX1_pick, Cond.code yX1_pick cX1_pick 5 (some .int), Cond.methodLink RL 139 yL_keep, Cond.static yL_keep, Cond.codeWith yL_keep cL_keep 5 (some .int) [(0, 10, 13, 13), (0, 10, 17, 15)], Cond.methodLink RL 61 yX0_keep]
def wsL_law0_r13 : List Cond := [Cond.instanceMethod yX0_keep, Cond.selects RX0 yX0_keep yX0_keep, Cond.code yX0_keep cX0_keep 5 (some .int), Cond.methodLink RX0 91 yJ6_bitCount_0f7a4, Cond.static yJ6_bitCount_0f7a4, Cond.initialized RJ6, Cond.code yJ6_bitCount_0f7a4 cJ6_bitCount_0f7a4 1 (some .int), Cond.constant RJ6 265 (1431655765), Cond.constant RJ6 266 (858993459), Cond.constant RJ6 267 (252645135), Cond.methodLink RL 141 yX1_keep, Cond.instanceMethod yX1_keep, Cond.selects RX1 yX1_keep yX1_keep, Cond.code yX1_keep cX1_keep 6 (some .int), Cond.methodLink RL 142 yL_notes, Cond.static yL_notes, Cond.codeWith yL_notes cL_notes 4 (some .int) [(0, 9, 12, 13)], Cond.methodLink RL 64 yX0_notes, Cond.instanceMethod yX0_notes, Cond.selects RX0 yX0_notes yX0_notes, Cond.code yX0_notes cX0_notes 2 (some .int), Cond.methodLink RL 144 yX1_notes, Cond.instanceMethod yX1_notes, Cond.selects RX1 yX1_notes yX1_notes]
def wsL_law0_r14 : List Cond := [Cond.code yX1_notes cX1_notes 2 (some .int), Cond.methodLink RL 145 yL_gaps, Cond.static yL_gaps, Cond.codeWith yL_gaps cL_gaps 4 (some .int) [(0, 9, 12, 13)], Cond.methodLink RL 68 yX0_gaps, Cond.instanceMethod yX0_gaps, Cond.selects RX0 yX0_gaps yX0_gaps, Cond.code yX0_gaps cX0_gaps 2 (some .int), Cond.methodLink RL 147 yX1_gaps, Cond.instanceMethod yX1_gaps, Cond.selects RX1 yX1_gaps yX1_gaps, Cond.code yX1_gaps cX1_gaps 4 (some .int), Cond.methodLink RL 148 yL_settle, Cond.static yL_settle, Cond.codeWith yL_settle cL_settle 5 (some .int) [(0, 10, 13, 13), (0, 10, 17, 15)], Cond.methodLink RL 71 yX0_settle, Cond.instanceMethod yX0_settle, Cond.selects RX0 yX0_settle yX0_settle, Cond.code yX0_settle cX0_settle 5 (some .int), Cond.methodLink RX0 96 yX0_moveLeft, Cond.instanceMethod yX0_moveLeft, Cond.selects RX0 yX0_moveLeft yX0_moveLeft, Cond.code yX0_moveLeft cX0_moveLeft 6 (some .int), Cond.methodLink RL 150 yX1_settle]
def wsL_law0_r15 : List Cond := [Cond.instanceMethod yX1_settle, Cond.selects RX1 yX1_settle yX1_settle, Cond.code yX1_settle cX1_settle 7 (some .int), Cond.methodLink RL 151 yL_meet, Cond.static yL_meet, Cond.codeWith yL_meet cL_meet 6 (some .int) [(0, 12, 15, 13), (0, 12, 19, 15)], Cond.methodLink RL 74 yX0_meet, Cond.instanceMethod yX0_meet, Cond.selects RX0 yX0_meet yX0_meet, Cond.code yX0_meet cX0_meet 6 (some .int), Cond.methodLink RL 153 yX1_meet, Cond.instanceMethod yX1_meet, Cond.selects RX1 yX1_meet yX1_meet, Cond.code yX1_meet cX1_meet 6 (some .int), Cond.methodLink RL 154 yL_alike, Cond.static yL_alike, Cond.codeWith yL_alike cL_alike 5 (some .int) [(0, 17, 20, 13), (0, 17, 24, 15)], Cond.methodLink RL 77 yX0_alike, Cond.instanceMethod yX0_alike, Cond.selects RX0 yX0_alike yX0_alike, Cond.code yX0_alike cX0_alike 4 (some .boolean), Cond.methodLink RL 156 yX1_alike, Cond.instanceMethod yX1_alike, Cond.selects RX1 yX1_alike yX1_alike]
def wsL_law0_r16 : List Cond := [Cond.code yX1_alike cX1_alike 5 (some .boolean), Cond.methodLink RL 157 yL_merge, Cond.static yL_merge, Cond.codeWith yL_merge cL_merge 7 (some .int) [(0, 14, 17, 13), (0, 14, 21, 15)], Cond.methodLink RL 81 yX0_merge, Cond.instanceMethod yX0_merge, Cond.selects RX0 yX0_merge yX0_merge, Cond.code yX0_merge cX0_merge 10 (some .int), Cond.methodLink RX0 100 yX0_needApart, Cond.static yX0_needApart, Cond.code yX0_needApart cX0_needApart 2 none, Cond.methodLink RL 159 yX1_merge, Cond.instanceMethod yX1_merge, Cond.selects RX1 yX1_merge yX1_merge, Cond.code yX1_merge cX1_merge 10 (some .int)]
def wsL_law0 : List Cond := (wsL_law0_r1 ++ (wsL_law0_r2 ++ (wsL_law0_r3 ++ (wsL_law0_r4 ++ (wsL_law0_r5 ++ (wsL_law0_r6 ++ (wsL_law0_r7 ++ (wsL_law0_r8 ++ (wsL_law0_r9 ++ (wsL_law0_r10 ++ (wsL_law0_r11 ++ (wsL_law0_r12 ++ (wsL_law0_r13 ++ (wsL_law0_r14 ++ (wsL_law0_r15 ++ wsL_law0_r16))))))))))))))) ++ wsX00 ++ wsX10 ++ ([] : List Cond)
def wsL_law : List Cond := wsL_law0 ++ (vx_atS RX0 111 "java/lang/IndexOutOfBoundsException" ["java/lang/RuntimeException", "java/lang/Exception"]).filter goodWord ++ (vx_atS RX0 120 "java/lang/IllegalArgumentException" ["java/lang/RuntimeException", "java/lang/Exception"]).filter goodWord ++ (vx_atS RX0 77 "java/lang/IllegalStateException" ["java/lang/RuntimeException", "java/lang/Exception"]).filter goodWord
set_option maxRecDepth 20000 in
theorem wsL_law_in0 : ∀ w ∈ wsL_law0, w ∈ lw_tbl := fun w h => (goodIn_p wsL_law0 [25, 28, 32, 367, 56, 59, 130, 134, 155, 158, 393, 396, 399, 402, 408, 412, 389, 165, 416, 172, 175, 179, 420, 423, 186, 189, 192, 197, 200, 427, 430, 207, 210, 215, 434, 437, 441, 444, 222, 448, 229, 452, 237, 456, 260, 263, 460, 270, 464, 277, 281, 285, 468, 472, 292, 476, 299, 480, 306, 309, 484, 319, 488, 326, 492, 333, 337, 496, 344, 500, 351, 504, 358, 361, 508] (by decide +kernel) (by decide +kernel) w h).1
theorem wsL_law_x0 : ∀ w ∈ (vx_atS RX0 111 "java/lang/IndexOutOfBoundsException" ["java/lang/RuntimeException", "java/lang/Exception"]).filter goodWord, w ∈ lw_tbl := by decide +kernel
theorem wsL_law_x1 : ∀ w ∈ (vx_atS RX0 120 "java/lang/IllegalArgumentException" ["java/lang/RuntimeException", "java/lang/Exception"]).filter goodWord, w ∈ lw_tbl := by decide +kernel
theorem wsL_law_x2 : ∀ w ∈ (vx_atS RX0 77 "java/lang/IllegalStateException" ["java/lang/RuntimeException", "java/lang/Exception"]).filter goodWord, w ∈ lw_tbl := by decide +kernel
theorem wsL_law_in : ∀ w ∈ wsL_law, w ∈ lw_tbl := fun w h => (List.mem_append.mp h).elim (fun h => (List.mem_append.mp h).elim (fun h => (List.mem_append.mp h).elim (fun h => wsL_law_in0 w h) (fun h => wsL_law_x0 w h)) (fun h => wsL_law_x1 w h)) (fun h => wsL_law_x2 w h)
theorem inlX0 : ∀ w ∈ wsX00, w ∈ wsL_law := fun _ h => List.mem_append_left _ (List.mem_append_left _ (List.mem_append_left _ (List.mem_append_left _ (List.mem_append_left _ (List.mem_append_right _ h)))))
theorem inX0 : ∀ w ∈ wsX00, w ∈ lw_tbl := fun w h => wsL_law_in w (inlX0 w h)
theorem inlX1 : ∀ w ∈ wsX10, w ∈ wsL_law := fun _ h => List.mem_append_left _ (List.mem_append_left _ (List.mem_append_left _ (List.mem_append_left _ (List.mem_append_right _ h))))
theorem inX1 : ∀ w ∈ wsX10, w ∈ lw_tbl := fun w h => wsL_law_in w (inlX1 w h)
theorem inJ6 : ∀ w ∈ wsJ60, w ∈ lw_tbl := by decide +kernel
theorem inJ0 : ∀ w ∈ wsJ00, w ∈ lw_tbl := by decide +kernel
theorem inJ7 : ∀ w ∈ wsJ70, w ∈ lw_tbl := by decide +kernel
end
section
set_option maxRecDepth 20000 in
theorem ggX0_init_J7_fill_53178 : GoodIn wsX0_init wsJ7_fill_53178 := goodIn_r _ [14] (by decide +kernel) (by decide +kernel)
set_option maxRecDepth 20000 in
theorem gX0_init_J7_fill_53178 : GoodIn wsX0_init (va_wsS RX0 24 yJ7_fill_53178 wsJ7_fill_53178) := goodIn_app (goodIn_of _ (by decide +kernel)) ggX0_init_J7_fill_53178
theorem dX0_init_0 : decode cX0_init 0 = .ok (.aload_n 0, 1) := by decide +kernel
theorem dX0_init_1 : decode cX0_init 1 = .ok (.invokespecial 1, 3) := by decide +kernel
theorem dX0_init_4 : decode cX0_init 4 = .ok (.aload_n 0, 1) := by decide +kernel
theorem dX0_init_5 : decode cX0_init 5 = .ok (.bipush 96, 2) := by decide +kernel
theorem dX0_init_7 : decode cX0_init 7 = .ok (.newarray .int, 2) := by decide +kernel
theorem dX0_init_9 : decode cX0_init 9 = .ok (.putfield 9, 3) := by decide +kernel
theorem dX0_init_12 : decode cX0_init 12 = .ok (.aload_n 0, 1) := by decide +kernel
theorem dX0_init_13 : decode cX0_init 13 = .ok (.bipush 8, 2) := by decide +kernel
theorem dX0_init_15 : decode cX0_init 15 = .ok (.newarray .int, 2) := by decide +kernel
theorem dX0_init_17 : decode cX0_init 17 = .ok (.putfield 13, 3) := by decide +kernel
theorem dX0_init_20 : decode cX0_init 20 = .ok (.aload_n 0, 1) := by decide +kernel
theorem dX0_init_21 : decode cX0_init 21 = .ok (.iconst 4, 1) := by decide +kernel
theorem dX0_init_22 : decode cX0_init 22 = .ok (.newarray .boolean, 2) := by decide +kernel
theorem dX0_init_24 : decode cX0_init 24 = .ok (.putfield 16, 3) := by decide +kernel
theorem dX0_init_27 : decode cX0_init 27 = .ok (.aload_n 0, 1) := by decide +kernel
theorem dX0_init_28 : decode cX0_init 28 = .ok (.bipush 8, 2) := by decide +kernel
theorem dX0_init_30 : decode cX0_init 30 = .ok (.newarray .int, 2) := by decide +kernel
theorem dX0_init_32 : decode cX0_init 32 = .ok (.putfield 20, 3) := by decide +kernel
theorem dX0_init_35 : decode cX0_init 35 = .ok (.aload_n 0, 1) := by decide +kernel
theorem dX0_init_36 : decode cX0_init 36 = .ok (.getfield 9, 3) := by decide +kernel
theorem dX0_init_39 : decode cX0_init 39 = .ok (.ldc 23, 2) := by decide +kernel
theorem dX0_init_41 : decode cX0_init 41 = .ok (.invokestatic 24, 3) := by decide +kernel
theorem dX0_init_44 : decode cX0_init 44 = .ok (.aload_n 0, 1) := by decide +kernel
theorem dX0_init_45 : decode cX0_init 45 = .ok (.getfield 13, 3) := by decide +kernel
theorem dX0_init_48 : decode cX0_init 48 = .ok (.ldc 23, 2) := by decide +kernel
theorem dX0_init_50 : decode cX0_init 50 = .ok (.invokestatic 24, 3) := by decide +kernel
theorem dX0_init_53 : decode cX0_init 53 = .ok (.return_, 1) := by decide +kernel
set_option maxRecDepth 20000 in
theorem ggX0_put_X0_needRow : GoodIn wsX0_put wsX0_needRow := goodIn_ca (goodIn_r _ [5, 6, 7] (by decide +kernel) (by decide +kernel)) (goodIn_sub (fun _ h => List.mem_cons_of_mem _ (List.mem_append_left _ (List.mem_append_right _ h))) (by decide +kernel))
set_option maxRecDepth 20000 in
theorem gX0_put_X0_needRow : GoodIn wsX0_put (va_wsS RX0 30 yX0_needRow wsX0_needRow) := goodIn_app (goodIn_of _ (by decide +kernel)) ggX0_put_X0_needRow
set_option maxRecDepth 20000 in
theorem ggX0_put_X0_needPlace : GoodIn wsX0_put wsX0_needPlace := goodIn_ca (goodIn_r _ [10, 6, 7] (by decide +kernel) (by decide +kernel)) (goodIn_sub (fun _ h => List.mem_cons_of_mem _ (List.mem_append_left _ (List.mem_append_right _ h))) (by decide +kernel))
set_option maxRecDepth 20000 in
theorem gX0_put_X0_needPlace : GoodIn wsX0_put (va_wsS RX0 34 yX0_needPlace wsX0_needPlace) := goodIn_app (goodIn_of _ (by decide +kernel)) ggX0_put_X0_needPlace
set_option maxRecDepth 20000 in
theorem ggX0_put_X0_needNumber : GoodIn wsX0_put wsX0_needNumber := goodIn_ca (goodIn_r _ [13, 14, 15, 16, 17, 18] (by decide +kernel) (by decide +kernel)) (goodIn_sub (fun _ h => List.mem_cons_of_mem _ (List.mem_append_right _ h)) (by decide +kernel))
set_option maxRecDepth 20000 in
theorem gX0_put_X0_needNumber : GoodIn wsX0_put (va_wsS RX0 37 yX0_needNumber wsX0_needNumber) := goodIn_app (goodIn_of _ (by decide +kernel)) ggX0_put_X0_needNumber
set_option maxRecDepth 20000 in
theorem ggX0_put_X0_spot : GoodIn wsX0_put wsX0_spot := goodIn_r _ [21] (by decide +kernel) (by decide +kernel)
set_option maxRecDepth 20000 in
theorem gX0_put_X0_spot : GoodIn wsX0_put (va_wsS RX0 40 yX0_spot wsX0_spot) := goodIn_app (goodIn_of _ (by decide +kernel)) ggX0_put_X0_spot
set_option maxRecDepth 20000 in
theorem ggX0_put_X0_store : GoodIn wsX0_put wsX0_store := goodIn_r _ [24] (by decide +kernel) (by decide +kernel)
set_option maxRecDepth 20000 in
theorem gX0_put_X0_store : GoodIn wsX0_put (va_wsS RX0 44 yX0_store wsX0_store) := goodIn_app (goodIn_of _ (by decide +kernel)) ggX0_put_X0_store
theorem dX0_put_0 : decode cX0_put 0 = .ok (.iload_n 1, 1) := by decide +kernel
theorem dX0_put_1 : decode cX0_put 1 = .ok (.invokestatic 30, 3) := by decide +kernel
theorem dX0_put_4 : decode cX0_put 4 = .ok (.iload_n 2, 1) := by decide +kernel
theorem dX0_put_5 : decode cX0_put 5 = .ok (.invokestatic 34, 3) := by decide +kernel
theorem dX0_put_8 : decode cX0_put 8 = .ok (.iload_n 3, 1) := by decide +kernel
theorem dX0_put_9 : decode cX0_put 9 = .ok (.invokestatic 37, 3) := by decide +kernel
theorem dX0_put_12 : decode cX0_put 12 = .ok (.aload_n 0, 1) := by decide +kernel
theorem dX0_put_13 : decode cX0_put 13 = .ok (.getfield 9, 3) := by decide +kernel
theorem dX0_put_16 : decode cX0_put 16 = .ok (.iload_n 1, 1) := by decide +kernel
theorem dX0_put_17 : decode cX0_put 17 = .ok (.iload_n 2, 1) := by decide +kernel
theorem dX0_put_18 : decode cX0_put 18 = .ok (.invokestatic 40, 3) := by decide +kernel
theorem dX0_put_21 : decode cX0_put 21 = .ok (.iload_n 3, 1) := by decide +kernel
theorem dX0_put_22 : decode cX0_put 22 = .ok (.invokestatic 44, 3) := by decide +kernel
theorem dX0_put_25 : decode cX0_put 25 = .ok (.ireturn, 1) := by decide +kernel
set_option maxRecDepth 20000 in
theorem ggX0_reading_X0_needRow : GoodIn wsX0_reading wsX0_needRow := goodIn_ca (goodIn_r _ [5, 6, 7] (by decide +kernel) (by decide +kernel)) (goodIn_sub (fun _ h => List.mem_cons_of_mem _ (List.mem_append_right _ h)) (by decide +kernel))
set_option maxRecDepth 20000 in
theorem gX0_reading_X0_needRow : GoodIn wsX0_reading (va_wsS RX0 30 yX0_needRow wsX0_needRow) := goodIn_app (goodIn_of _ (by decide +kernel)) ggX0_reading_X0_needRow
set_option maxRecDepth 20000 in
theorem ggX0_reading_X0_needPlace : GoodIn wsX0_reading wsX0_needPlace := goodIn_ca (goodIn_r _ [10, 6, 7] (by decide +kernel) (by decide +kernel)) (goodIn_sub (fun _ h => List.mem_cons_of_mem _ (List.mem_append_right _ h)) (by decide +kernel))
set_option maxRecDepth 20000 in
theorem gX0_reading_X0_needPlace : GoodIn wsX0_reading (va_wsS RX0 34 yX0_needPlace wsX0_needPlace) := goodIn_app (goodIn_of _ (by decide +kernel)) ggX0_reading_X0_needPlace
set_option maxRecDepth 20000 in
theorem ggX0_reading_X0_spot : GoodIn wsX0_reading wsX0_spot := goodIn_r _ [13] (by decide +kernel) (by decide +kernel)
set_option maxRecDepth 20000 in
theorem gX0_reading_X0_spot : GoodIn wsX0_reading (va_wsS RX0 40 yX0_spot wsX0_spot) := goodIn_app (goodIn_of _ (by decide +kernel)) ggX0_reading_X0_spot
theorem dX0_reading_0 : decode cX0_reading 0 = .ok (.iload_n 1, 1) := by decide +kernel
theorem dX0_reading_1 : decode cX0_reading 1 = .ok (.invokestatic 30, 3) := by decide +kernel
theorem dX0_reading_4 : decode cX0_reading 4 = .ok (.iload_n 2, 1) := by decide +kernel
theorem dX0_reading_5 : decode cX0_reading 5 = .ok (.invokestatic 34, 3) := by decide +kernel
theorem dX0_reading_8 : decode cX0_reading 8 = .ok (.aload_n 0, 1) := by decide +kernel
theorem dX0_reading_9 : decode cX0_reading 9 = .ok (.getfield 9, 3) := by decide +kernel
theorem dX0_reading_12 : decode cX0_reading 12 = .ok (.iload_n 1, 1) := by decide +kernel
theorem dX0_reading_13 : decode cX0_reading 13 = .ok (.iload_n 2, 1) := by decide +kernel
theorem dX0_reading_14 : decode cX0_reading 14 = .ok (.invokestatic 40, 3) := by decide +kernel
theorem dX0_reading_17 : decode cX0_reading 17 = .ok (.iaload, 1) := by decide +kernel
theorem dX0_reading_18 : decode cX0_reading 18 = .ok (.ireturn, 1) := by decide +kernel
set_option maxRecDepth 20000 in
theorem ggX0_level_X0_needGate : GoodIn wsX0_level wsX0_needGate := goodIn_ca (goodIn_r _ [5, 6, 7] (by decide +kernel) (by decide +kernel)) (goodIn_sub (fun _ h => List.mem_cons_of_mem _ (List.mem_append_left _ (List.mem_append_right _ h))) (by decide +kernel))
set_option maxRecDepth 20000 in
theorem gX0_level_X0_needGate : GoodIn wsX0_level (va_wsS RX0 48 yX0_needGate wsX0_needGate) := goodIn_app (goodIn_of _ (by decide +kernel)) ggX0_level_X0_needGate
set_option maxRecDepth 20000 in
theorem ggX0_level_X0_needNumber : GoodIn wsX0_level wsX0_needNumber := goodIn_ca (goodIn_r _ [10, 11, 12, 13, 14, 15] (by decide +kernel) (by decide +kernel)) (goodIn_sub (fun _ h => List.mem_cons_of_mem _ (List.mem_append_right _ h)) (by decide +kernel))
set_option maxRecDepth 20000 in
theorem gX0_level_X0_needNumber : GoodIn wsX0_level (va_wsS RX0 37 yX0_needNumber wsX0_needNumber) := goodIn_app (goodIn_of _ (by decide +kernel)) ggX0_level_X0_needNumber
set_option maxRecDepth 20000 in
theorem ggX0_level_X0_levelSpot : GoodIn wsX0_level wsX0_levelSpot := goodIn_r _ [18] (by decide +kernel) (by decide +kernel)
set_option maxRecDepth 20000 in
theorem gX0_level_X0_levelSpot : GoodIn wsX0_level (va_wsS RX0 51 yX0_levelSpot wsX0_levelSpot) := goodIn_app (goodIn_of _ (by decide +kernel)) ggX0_level_X0_levelSpot
set_option maxRecDepth 20000 in
theorem ggX0_level_X0_store : GoodIn wsX0_level wsX0_store := goodIn_r _ [21] (by decide +kernel) (by decide +kernel)
set_option maxRecDepth 20000 in
theorem gX0_level_X0_store : GoodIn wsX0_level (va_wsS RX0 44 yX0_store wsX0_store) := goodIn_app (goodIn_of _ (by decide +kernel)) ggX0_level_X0_store
theorem dX0_level_0 : decode cX0_level 0 = .ok (.iload_n 1, 1) := by decide +kernel
theorem dX0_level_1 : decode cX0_level 1 = .ok (.invokestatic 48, 3) := by decide +kernel
theorem dX0_level_4 : decode cX0_level 4 = .ok (.iload_n 3, 1) := by decide +kernel
theorem dX0_level_5 : decode cX0_level 5 = .ok (.invokestatic 37, 3) := by decide +kernel
theorem dX0_level_8 : decode cX0_level 8 = .ok (.aload_n 0, 1) := by decide +kernel
theorem dX0_level_9 : decode cX0_level 9 = .ok (.getfield 13, 3) := by decide +kernel
theorem dX0_level_12 : decode cX0_level 12 = .ok (.iload_n 1, 1) := by decide +kernel
theorem dX0_level_13 : decode cX0_level 13 = .ok (.iload_n 2, 1) := by decide +kernel
theorem dX0_level_14 : decode cX0_level 14 = .ok (.invokestatic 51, 3) := by decide +kernel
theorem dX0_level_17 : decode cX0_level 17 = .ok (.iload_n 3, 1) := by decide +kernel
theorem dX0_level_18 : decode cX0_level 18 = .ok (.invokestatic 44, 3) := by decide +kernel
theorem dX0_level_21 : decode cX0_level 21 = .ok (.ireturn, 1) := by decide +kernel
set_option maxRecDepth 20000 in
theorem ggX0_copy_X0_needRow : GoodIn wsX0_copy wsX0_needRow := goodIn_ca (goodIn_r _ [5, 6, 7] (by decide +kernel) (by decide +kernel)) (goodIn_sub (fun _ h => List.mem_cons_of_mem _ (List.mem_append_left _ (List.mem_append_right _ h))) (by decide +kernel))
set_option maxRecDepth 20000 in
theorem gX0_copy_X0_needRow : GoodIn wsX0_copy (va_wsS RX0 30 yX0_needRow wsX0_needRow) := goodIn_app (goodIn_of _ (by decide +kernel)) ggX0_copy_X0_needRow
set_option maxRecDepth 20000 in
theorem ggX0_copy_X0_needOneSort : GoodIn wsX0_copy wsX0_needOneSort := goodIn_ca (goodIn_r _ [10, 11, 12, 13, 14, 4, 15] (by decide +kernel) (by decide +kernel)) (goodIn_sub (fun _ h => List.mem_cons_of_mem _ (List.mem_append_right _ h)) (by decide +kernel))
set_option maxRecDepth 20000 in
theorem gX0_copy_X0_needOneSort : GoodIn wsX0_copy (va_wsS RX0 55 yX0_needOneSort wsX0_needOneSort) := goodIn_app (goodIn_of _ (by decide +kernel)) ggX0_copy_X0_needOneSort
set_option maxRecDepth 20000 in
theorem ggX0_copy_X0_spot : GoodIn wsX0_copy wsX0_spot := goodIn_r _ [18] (by decide +kernel) (by decide +kernel)
set_option maxRecDepth 20000 in
theorem gX0_copy_X0_spot : GoodIn wsX0_copy (va_wsS RX0 40 yX0_spot wsX0_spot) := goodIn_app (goodIn_of _ (by decide +kernel)) ggX0_copy_X0_spot
set_option maxRecDepth 20000 in
theorem ggX0_copy_X0_countMissing : GoodIn wsX0_copy wsX0_countMissing := goodIn_r _ [22, 1, 16, 17, 4, 18, 23, 24, 25, 26, 27, 28, 29, 30] (by decide +kernel) (by decide +kernel)
set_option maxRecDepth 20000 in
theorem gX0_copy_X0_countMissing : GoodIn wsX0_copy (wsV RX0 59 RX0 yX0_countMissing wsX0_countMissing) := goodIn_app (goodIn_of _ (by decide +kernel)) ggX0_copy_X0_countMissing
theorem dX0_copy_0 : decode cX0_copy 0 = .ok (.iload_n 1, 1) := by decide +kernel
theorem dX0_copy_1 : decode cX0_copy 1 = .ok (.invokestatic 30, 3) := by decide +kernel
theorem dX0_copy_4 : decode cX0_copy 4 = .ok (.iload_n 2, 1) := by decide +kernel
theorem dX0_copy_5 : decode cX0_copy 5 = .ok (.invokestatic 30, 3) := by decide +kernel
theorem dX0_copy_8 : decode cX0_copy 8 = .ok (.iload_n 1, 1) := by decide +kernel
theorem dX0_copy_9 : decode cX0_copy 9 = .ok (.iload_n 2, 1) := by decide +kernel
theorem dX0_copy_10 : decode cX0_copy 10 = .ok (.invokestatic 55, 3) := by decide +kernel
theorem dX0_copy_13 : decode cX0_copy 13 = .ok (.iconst 0, 1) := by decide +kernel
theorem dX0_copy_14 : decode cX0_copy 14 = .ok (.istore_n 3, 1) := by decide +kernel
theorem dX0_copy_15 : decode cX0_copy 15 = .ok (.iload_n 3, 1) := by decide +kernel
theorem dX0_copy_16 : decode cX0_copy 16 = .ok (.bipush 12, 2) := by decide +kernel
theorem dX0_copy_18 : decode cX0_copy 18 = .ok (.if_icmp .ge 29, 3) := by decide +kernel
theorem dX0_copy_21 : decode cX0_copy 21 = .ok (.aload_n 0, 1) := by decide +kernel
theorem dX0_copy_22 : decode cX0_copy 22 = .ok (.getfield 9, 3) := by decide +kernel
theorem dX0_copy_25 : decode cX0_copy 25 = .ok (.iload_n 2, 1) := by decide +kernel
theorem dX0_copy_26 : decode cX0_copy 26 = .ok (.iload_n 3, 1) := by decide +kernel
theorem dX0_copy_27 : decode cX0_copy 27 = .ok (.invokestatic 40, 3) := by decide +kernel
theorem dX0_copy_30 : decode cX0_copy 30 = .ok (.aload_n 0, 1) := by decide +kernel
theorem dX0_copy_31 : decode cX0_copy 31 = .ok (.getfield 9, 3) := by decide +kernel
theorem dX0_copy_34 : decode cX0_copy 34 = .ok (.iload_n 1, 1) := by decide +kernel
theorem dX0_copy_35 : decode cX0_copy 35 = .ok (.iload_n 3, 1) := by decide +kernel
theorem dX0_copy_36 : decode cX0_copy 36 = .ok (.invokestatic 40, 3) := by decide +kernel
theorem dX0_copy_39 : decode cX0_copy 39 = .ok (.iaload, 1) := by decide +kernel
theorem dX0_copy_40 : decode cX0_copy 40 = .ok (.iastore, 1) := by decide +kernel
theorem dX0_copy_41 : decode cX0_copy 41 = .ok (.iinc 3 1, 3) := by decide +kernel
theorem dX0_copy_44 : decode cX0_copy 44 = .ok (.goto (-29), 3) := by decide +kernel
theorem dX0_copy_47 : decode cX0_copy 47 = .ok (.aload_n 0, 1) := by decide +kernel
theorem dX0_copy_48 : decode cX0_copy 48 = .ok (.iload_n 2, 1) := by decide +kernel
theorem dX0_copy_49 : decode cX0_copy 49 = .ok (.invokevirtual 59, 3) := by decide +kernel
theorem dX0_copy_52 : decode cX0_copy 52 = .ok (.ireturn, 1) := by decide +kernel
set_option maxRecDepth 20000 in
theorem ggX0_straight_X0_needRow : GoodIn wsX0_straight wsX0_needRow := goodIn_ca (goodIn_r _ [5, 6, 7] (by decide +kernel) (by decide +kernel)) (goodIn_sub (fun _ h => List.mem_cons_of_mem _ (List.mem_append_left _ (List.mem_append_right _ h))) (by decide +kernel))
set_option maxRecDepth 20000 in
theorem gX0_straight_X0_needRow : GoodIn wsX0_straight (va_wsS RX0 30 yX0_needRow wsX0_needRow) := goodIn_app (goodIn_of _ (by decide +kernel)) ggX0_straight_X0_needRow
set_option maxRecDepth 20000 in
theorem ggX0_straight_X0_needGate : GoodIn wsX0_straight wsX0_needGate := goodIn_ca (goodIn_r _ [10, 6, 7] (by decide +kernel) (by decide +kernel)) (goodIn_sub (fun _ h => List.mem_cons_of_mem _ (List.mem_append_left _ (List.mem_append_right _ h))) (by decide +kernel))
set_option maxRecDepth 20000 in
theorem gX0_straight_X0_needGate : GoodIn wsX0_straight (va_wsS RX0 48 yX0_needGate wsX0_needGate) := goodIn_app (goodIn_of _ (by decide +kernel)) ggX0_straight_X0_needGate
set_option maxRecDepth 20000 in
theorem ggX0_straight_X0_needSign : GoodIn wsX0_straight wsX0_needSign := goodIn_ca (goodIn_r _ [13, 14, 15] (by decide +kernel) (by decide +kernel)) (goodIn_sub (fun _ h => List.mem_cons_of_mem _ (List.mem_append_right _ h)) (by decide +kernel))
set_option maxRecDepth 20000 in
theorem gX0_straight_X0_needSign : GoodIn wsX0_straight (va_wsS RX0 63 yX0_needSign wsX0_needSign) := goodIn_app (goodIn_of _ (by decide +kernel)) ggX0_straight_X0_needSign
set_option maxRecDepth 20000 in
theorem ggX0_straight_X0_levelFor : GoodIn wsX0_straight wsX0_levelFor := goodIn_r _ [19, 20, 21, 22, 4, 23, 24, 25, 26, 34, 35, 36, 37] (by decide +kernel) (by decide +kernel)
set_option maxRecDepth 20000 in
theorem gX0_straight_X0_levelFor : GoodIn wsX0_straight (wsV RX0 66 RX0 yX0_levelFor wsX0_levelFor) := goodIn_app (goodIn_of _ (by decide +kernel)) ggX0_straight_X0_levelFor
set_option maxRecDepth 20000 in
theorem ggX0_straight_X0_spot : GoodIn wsX0_straight wsX0_spot := goodIn_r _ [29] (by decide +kernel) (by decide +kernel)
set_option maxRecDepth 20000 in
theorem gX0_straight_X0_spot : GoodIn wsX0_straight (va_wsS RX0 40 yX0_spot wsX0_spot) := goodIn_app (goodIn_of _ (by decide +kernel)) ggX0_straight_X0_spot
set_option maxRecDepth 20000 in
theorem ggX0_straight_X0_isTrue : GoodIn wsX0_straight wsX0_isTrue := goodIn_r _ [32, 33] (by decide +kernel) (by decide +kernel)
set_option maxRecDepth 20000 in
theorem gX0_straight_X0_isTrue : GoodIn wsX0_straight (va_wsS RX0 69 yX0_isTrue wsX0_isTrue) := goodIn_app (goodIn_of _ (by decide +kernel)) ggX0_straight_X0_isTrue
theorem dX0_straight_0 : decode cX0_straight 0 = .ok (.iload_n 1, 1) := by decide +kernel
theorem dX0_straight_1 : decode cX0_straight 1 = .ok (.invokestatic 30, 3) := by decide +kernel
theorem dX0_straight_4 : decode cX0_straight 4 = .ok (.iload_n 3, 1) := by decide +kernel
theorem dX0_straight_5 : decode cX0_straight 5 = .ok (.invokestatic 48, 3) := by decide +kernel
theorem dX0_straight_8 : decode cX0_straight 8 = .ok (.iload_n 2, 1) := by decide +kernel
theorem dX0_straight_9 : decode cX0_straight 9 = .ok (.invokestatic 63, 3) := by decide +kernel
theorem dX0_straight_12 : decode cX0_straight 12 = .ok (.aload_n 0, 1) := by decide +kernel
theorem dX0_straight_13 : decode cX0_straight 13 = .ok (.iload_n 3, 1) := by decide +kernel
theorem dX0_straight_14 : decode cX0_straight 14 = .ok (.iload_n 1, 1) := by decide +kernel
theorem dX0_straight_15 : decode cX0_straight 15 = .ok (.invokevirtual 66, 3) := by decide +kernel
theorem dX0_straight_18 : decode cX0_straight 18 = .ok (.istore 4, 2) := by decide +kernel
theorem dX0_straight_20 : decode cX0_straight 20 = .ok (.iconst 0, 1) := by decide +kernel
theorem dX0_straight_21 : decode cX0_straight 21 = .ok (.istore 5, 2) := by decide +kernel
theorem dX0_straight_23 : decode cX0_straight 23 = .ok (.iconst 0, 1) := by decide +kernel
theorem dX0_straight_24 : decode cX0_straight 24 = .ok (.istore 6, 2) := by decide +kernel
theorem dX0_straight_26 : decode cX0_straight 26 = .ok (.iload 6, 2) := by decide +kernel
theorem dX0_straight_28 : decode cX0_straight 28 = .ok (.bipush 12, 2) := by decide +kernel
theorem dX0_straight_30 : decode cX0_straight 30 = .ok (.if_icmp .ge 32, 3) := by decide +kernel
theorem dX0_straight_33 : decode cX0_straight 33 = .ok (.iload_n 2, 1) := by decide +kernel
theorem dX0_straight_34 : decode cX0_straight 34 = .ok (.aload_n 0, 1) := by decide +kernel
theorem dX0_straight_35 : decode cX0_straight 35 = .ok (.getfield 9, 3) := by decide +kernel
theorem dX0_straight_38 : decode cX0_straight 38 = .ok (.iload_n 1, 1) := by decide +kernel
theorem dX0_straight_39 : decode cX0_straight 39 = .ok (.iload 6, 2) := by decide +kernel
theorem dX0_straight_41 : decode cX0_straight 41 = .ok (.invokestatic 40, 3) := by decide +kernel
theorem dX0_straight_44 : decode cX0_straight 44 = .ok (.iaload, 1) := by decide +kernel
theorem dX0_straight_45 : decode cX0_straight 45 = .ok (.iload 4, 2) := by decide +kernel
theorem dX0_straight_47 : decode cX0_straight 47 = .ok (.invokestatic 69, 3) := by decide +kernel
theorem dX0_straight_50 : decode cX0_straight 50 = .ok (.ifCond .eq 6, 3) := by decide +kernel
theorem dX0_straight_53 : decode cX0_straight 53 = .ok (.iinc 5 1, 3) := by decide +kernel
theorem dX0_straight_56 : decode cX0_straight 56 = .ok (.iinc 6 1, 3) := by decide +kernel
theorem dX0_straight_59 : decode cX0_straight 59 = .ok (.goto (-33), 3) := by decide +kernel
theorem dX0_straight_62 : decode cX0_straight 62 = .ok (.iload 5, 2) := by decide +kernel
theorem dX0_straight_64 : decode cX0_straight 64 = .ok (.ireturn, 1) := by decide +kernel
set_option maxRecDepth 20000 in
theorem ggX0_turned_X0_needRow : GoodIn wsX0_turned wsX0_needRow := goodIn_ca (goodIn_r _ [5, 6, 7] (by decide +kernel) (by decide +kernel)) (goodIn_sub (fun _ h => List.mem_cons_of_mem _ (List.mem_append_left _ (List.mem_append_right _ h))) (by decide +kernel))
set_option maxRecDepth 20000 in
theorem gX0_turned_X0_needRow : GoodIn wsX0_turned (va_wsS RX0 30 yX0_needRow wsX0_needRow) := goodIn_app (goodIn_of _ (by decide +kernel)) ggX0_turned_X0_needRow
set_option maxRecDepth 20000 in
theorem ggX0_turned_X0_needGate : GoodIn wsX0_turned wsX0_needGate := goodIn_ca (goodIn_r _ [10, 6, 7] (by decide +kernel) (by decide +kernel)) (goodIn_sub (fun _ h => List.mem_cons_of_mem _ (List.mem_append_left _ (List.mem_append_right _ h))) (by decide +kernel))
set_option maxRecDepth 20000 in
theorem gX0_turned_X0_needGate : GoodIn wsX0_turned (va_wsS RX0 48 yX0_needGate wsX0_needGate) := goodIn_app (goodIn_of _ (by decide +kernel)) ggX0_turned_X0_needGate
set_option maxRecDepth 20000 in
theorem ggX0_turned_X0_needSign : GoodIn wsX0_turned wsX0_needSign := goodIn_ca (goodIn_r _ [13, 14, 15] (by decide +kernel) (by decide +kernel)) (goodIn_sub (fun _ h => List.mem_cons_of_mem _ (List.mem_append_right _ h)) (by decide +kernel))
set_option maxRecDepth 20000 in
theorem gX0_turned_X0_needSign : GoodIn wsX0_turned (va_wsS RX0 63 yX0_needSign wsX0_needSign) := goodIn_app (goodIn_of _ (by decide +kernel)) ggX0_turned_X0_needSign
set_option maxRecDepth 20000 in
theorem ggX0_turned_X0_levelFor : GoodIn wsX0_turned wsX0_levelFor := goodIn_r _ [19, 20, 21, 22, 4, 23, 24, 25, 26, 34, 35, 36, 37] (by decide +kernel) (by decide +kernel)
set_option maxRecDepth 20000 in
theorem gX0_turned_X0_levelFor : GoodIn wsX0_turned (wsV RX0 66 RX0 yX0_levelFor wsX0_levelFor) := goodIn_app (goodIn_of _ (by decide +kernel)) ggX0_turned_X0_levelFor
set_option maxRecDepth 20000 in
theorem ggX0_turned_X0_spot : GoodIn wsX0_turned wsX0_spot := goodIn_r _ [29] (by decide +kernel) (by decide +kernel)
set_option maxRecDepth 20000 in
theorem gX0_turned_X0_spot : GoodIn wsX0_turned (va_wsS RX0 40 yX0_spot wsX0_spot) := goodIn_app (goodIn_of _ (by decide +kernel)) ggX0_turned_X0_spot
set_option maxRecDepth 20000 in
theorem ggX0_turned_X0_isTrue : GoodIn wsX0_turned wsX0_isTrue := goodIn_r _ [32, 33] (by decide +kernel) (by decide +kernel)
set_option maxRecDepth 20000 in
theorem gX0_turned_X0_isTrue : GoodIn wsX0_turned (va_wsS RX0 69 yX0_isTrue wsX0_isTrue) := goodIn_app (goodIn_of _ (by decide +kernel)) ggX0_turned_X0_isTrue
theorem dX0_turned_0 : decode cX0_turned 0 = .ok (.iload_n 1, 1) := by decide +kernel
theorem dX0_turned_1 : decode cX0_turned 1 = .ok (.invokestatic 30, 3) := by decide +kernel
theorem dX0_turned_4 : decode cX0_turned 4 = .ok (.iload_n 3, 1) := by decide +kernel
theorem dX0_turned_5 : decode cX0_turned 5 = .ok (.invokestatic 48, 3) := by decide +kernel
theorem dX0_turned_8 : decode cX0_turned 8 = .ok (.iload_n 2, 1) := by decide +kernel
theorem dX0_turned_9 : decode cX0_turned 9 = .ok (.invokestatic 63, 3) := by decide +kernel
theorem dX0_turned_12 : decode cX0_turned 12 = .ok (.aload_n 0, 1) := by decide +kernel
theorem dX0_turned_13 : decode cX0_turned 13 = .ok (.iload_n 3, 1) := by decide +kernel
theorem dX0_turned_14 : decode cX0_turned 14 = .ok (.iload_n 1, 1) := by decide +kernel
theorem dX0_turned_15 : decode cX0_turned 15 = .ok (.invokevirtual 66, 3) := by decide +kernel
theorem dX0_turned_18 : decode cX0_turned 18 = .ok (.istore 4, 2) := by decide +kernel
theorem dX0_turned_20 : decode cX0_turned 20 = .ok (.iconst 0, 1) := by decide +kernel
theorem dX0_turned_21 : decode cX0_turned 21 = .ok (.istore 5, 2) := by decide +kernel
theorem dX0_turned_23 : decode cX0_turned 23 = .ok (.iconst 0, 1) := by decide +kernel
theorem dX0_turned_24 : decode cX0_turned 24 = .ok (.istore 6, 2) := by decide +kernel
theorem dX0_turned_26 : decode cX0_turned 26 = .ok (.iload 6, 2) := by decide +kernel
theorem dX0_turned_28 : decode cX0_turned 28 = .ok (.bipush 12, 2) := by decide +kernel
theorem dX0_turned_30 : decode cX0_turned 30 = .ok (.if_icmp .ge 32, 3) := by decide +kernel
theorem dX0_turned_33 : decode cX0_turned 33 = .ok (.iload_n 2, 1) := by decide +kernel
theorem dX0_turned_34 : decode cX0_turned 34 = .ok (.iload 4, 2) := by decide +kernel
theorem dX0_turned_36 : decode cX0_turned 36 = .ok (.aload_n 0, 1) := by decide +kernel
theorem dX0_turned_37 : decode cX0_turned 37 = .ok (.getfield 9, 3) := by decide +kernel
theorem dX0_turned_40 : decode cX0_turned 40 = .ok (.iload_n 1, 1) := by decide +kernel
theorem dX0_turned_41 : decode cX0_turned 41 = .ok (.iload 6, 2) := by decide +kernel
theorem dX0_turned_43 : decode cX0_turned 43 = .ok (.invokestatic 40, 3) := by decide +kernel
theorem dX0_turned_46 : decode cX0_turned 46 = .ok (.iaload, 1) := by decide +kernel
theorem dX0_turned_47 : decode cX0_turned 47 = .ok (.invokestatic 69, 3) := by decide +kernel
theorem dX0_turned_50 : decode cX0_turned 50 = .ok (.ifCond .ne 6, 3) := by decide +kernel
theorem dX0_turned_53 : decode cX0_turned 53 = .ok (.iinc 5 1, 3) := by decide +kernel
theorem dX0_turned_56 : decode cX0_turned 56 = .ok (.iinc 6 1, 3) := by decide +kernel
theorem dX0_turned_59 : decode cX0_turned 59 = .ok (.goto (-33), 3) := by decide +kernel
theorem dX0_turned_62 : decode cX0_turned 62 = .ok (.iload 5, 2) := by decide +kernel
theorem dX0_turned_64 : decode cX0_turned 64 = .ok (.ireturn, 1) := by decide +kernel
set_option maxRecDepth 20000 in
theorem ggX0_between_X0_needRow : GoodIn wsX0_between wsX0_needRow := goodIn_ca (goodIn_r _ [5, 6, 7] (by decide +kernel) (by decide +kernel)) (goodIn_sub (fun _ h => List.mem_cons_of_mem _ (List.mem_append_right _ h)) (by decide +kernel))
set_option maxRecDepth 20000 in
theorem gX0_between_X0_needRow : GoodIn wsX0_between (va_wsS RX0 30 yX0_needRow wsX0_needRow) := goodIn_app (goodIn_of _ (by decide +kernel)) ggX0_between_X0_needRow
set_option maxRecDepth 20000 in
theorem ggX0_between_X0_needGate : GoodIn wsX0_between wsX0_needGate := goodIn_ca (goodIn_r _ [10, 6, 7] (by decide +kernel) (by decide +kernel)) (goodIn_sub (fun _ h => List.mem_cons_of_mem _ (List.mem_append_right _ h)) (by decide +kernel))
set_option maxRecDepth 20000 in
theorem gX0_between_X0_needGate : GoodIn wsX0_between (va_wsS RX0 48 yX0_needGate wsX0_needGate) := goodIn_app (goodIn_of _ (by decide +kernel)) ggX0_between_X0_needGate
set_option maxRecDepth 20000 in
theorem ggX0_between_X0_levelFor : GoodIn wsX0_between wsX0_levelFor := goodIn_r _ [14, 15, 16, 17, 4, 18, 19, 20, 21, 29, 30, 31, 32] (by decide +kernel) (by decide +kernel)
set_option maxRecDepth 20000 in
theorem gX0_between_X0_levelFor : GoodIn wsX0_between (wsV RX0 66 RX0 yX0_levelFor wsX0_levelFor) := goodIn_app (goodIn_of _ (by decide +kernel)) ggX0_between_X0_levelFor
set_option maxRecDepth 20000 in
theorem ggX0_between_X0_spot : GoodIn wsX0_between wsX0_spot := goodIn_r _ [24] (by decide +kernel) (by decide +kernel)
set_option maxRecDepth 20000 in
theorem gX0_between_X0_spot : GoodIn wsX0_between (va_wsS RX0 40 yX0_spot wsX0_spot) := goodIn_app (goodIn_of _ (by decide +kernel)) ggX0_between_X0_spot
set_option maxRecDepth 20000 in
theorem ggX0_between_X0_isTrue : GoodIn wsX0_between wsX0_isTrue := goodIn_r _ [27, 28] (by decide +kernel) (by decide +kernel)
set_option maxRecDepth 20000 in
theorem gX0_between_X0_isTrue : GoodIn wsX0_between (va_wsS RX0 69 yX0_isTrue wsX0_isTrue) := goodIn_app (goodIn_of _ (by decide +kernel)) ggX0_between_X0_isTrue
theorem dX0_between_0 : decode cX0_between 0 = .ok (.iload_n 1, 1) := by decide +kernel
theorem dX0_between_1 : decode cX0_between 1 = .ok (.invokestatic 30, 3) := by decide +kernel
theorem dX0_between_4 : decode cX0_between 4 = .ok (.iload_n 2, 1) := by decide +kernel
theorem dX0_between_5 : decode cX0_between 5 = .ok (.invokestatic 48, 3) := by decide +kernel
theorem dX0_between_8 : decode cX0_between 8 = .ok (.iload_n 3, 1) := by decide +kernel
theorem dX0_between_9 : decode cX0_between 9 = .ok (.invokestatic 48, 3) := by decide +kernel
theorem dX0_between_12 : decode cX0_between 12 = .ok (.aload_n 0, 1) := by decide +kernel
theorem dX0_between_13 : decode cX0_between 13 = .ok (.iload_n 2, 1) := by decide +kernel
theorem dX0_between_14 : decode cX0_between 14 = .ok (.iload_n 1, 1) := by decide +kernel
theorem dX0_between_15 : decode cX0_between 15 = .ok (.invokevirtual 66, 3) := by decide +kernel
theorem dX0_between_18 : decode cX0_between 18 = .ok (.istore 4, 2) := by decide +kernel
theorem dX0_between_20 : decode cX0_between 20 = .ok (.aload_n 0, 1) := by decide +kernel
theorem dX0_between_21 : decode cX0_between 21 = .ok (.iload_n 3, 1) := by decide +kernel
theorem dX0_between_22 : decode cX0_between 22 = .ok (.iload_n 1, 1) := by decide +kernel
theorem dX0_between_23 : decode cX0_between 23 = .ok (.invokevirtual 66, 3) := by decide +kernel
theorem dX0_between_26 : decode cX0_between 26 = .ok (.istore 5, 2) := by decide +kernel
theorem dX0_between_28 : decode cX0_between 28 = .ok (.iconst 0, 1) := by decide +kernel
theorem dX0_between_29 : decode cX0_between 29 = .ok (.istore 6, 2) := by decide +kernel
theorem dX0_between_31 : decode cX0_between 31 = .ok (.iconst 0, 1) := by decide +kernel
theorem dX0_between_32 : decode cX0_between 32 = .ok (.istore 7, 2) := by decide +kernel
theorem dX0_between_34 : decode cX0_between 34 = .ok (.iconst 0, 1) := by decide +kernel
theorem dX0_between_35 : decode cX0_between 35 = .ok (.istore 8, 2) := by decide +kernel
theorem dX0_between_37 : decode cX0_between 37 = .ok (.iload 8, 2) := by decide +kernel
theorem dX0_between_39 : decode cX0_between 39 = .ok (.bipush 12, 2) := by decide +kernel
theorem dX0_between_41 : decode cX0_between 41 = .ok (.if_icmp .ge 72, 3) := by decide +kernel
theorem dX0_between_44 : decode cX0_between 44 = .ok (.aload_n 0, 1) := by decide +kernel
theorem dX0_between_45 : decode cX0_between 45 = .ok (.getfield 9, 3) := by decide +kernel
theorem dX0_between_48 : decode cX0_between 48 = .ok (.iload_n 1, 1) := by decide +kernel
theorem dX0_between_49 : decode cX0_between 49 = .ok (.iload 8, 2) := by decide +kernel
theorem dX0_between_51 : decode cX0_between 51 = .ok (.invokestatic 40, 3) := by decide +kernel
theorem dX0_between_54 : decode cX0_between 54 = .ok (.iaload, 1) := by decide +kernel
theorem dX0_between_55 : decode cX0_between 55 = .ok (.istore 9, 2) := by decide +kernel
theorem dX0_between_57 : decode cX0_between 57 = .ok (.iconst 3, 1) := by decide +kernel
theorem dX0_between_58 : decode cX0_between 58 = .ok (.iload 9, 2) := by decide +kernel
theorem dX0_between_60 : decode cX0_between 60 = .ok (.iload 4, 2) := by decide +kernel
theorem dX0_between_62 : decode cX0_between 62 = .ok (.invokestatic 69, 3) := by decide +kernel
theorem dX0_between_65 : decode cX0_between 65 = .ok (.ifCond .eq 17, 3) := by decide +kernel
theorem dX0_between_68 : decode cX0_between 68 = .ok (.iconst 1, 1) := by decide +kernel
theorem dX0_between_69 : decode cX0_between 69 = .ok (.iload 9, 2) := by decide +kernel
theorem dX0_between_71 : decode cX0_between 71 = .ok (.iload 5, 2) := by decide +kernel
theorem dX0_between_73 : decode cX0_between 73 = .ok (.invokestatic 69, 3) := by decide +kernel
theorem dX0_between_76 : decode cX0_between 76 = .ok (.ifCond .eq 6, 3) := by decide +kernel
theorem dX0_between_79 : decode cX0_between 79 = .ok (.iinc 6 1, 3) := by decide +kernel
theorem dX0_between_82 : decode cX0_between 82 = .ok (.iconst 0, 1) := by decide +kernel
theorem dX0_between_83 : decode cX0_between 83 = .ok (.iload 9, 2) := by decide +kernel
theorem dX0_between_85 : decode cX0_between 85 = .ok (.iload 4, 2) := by decide +kernel
theorem dX0_between_87 : decode cX0_between 87 = .ok (.invokestatic 69, 3) := by decide +kernel
theorem dX0_between_90 : decode cX0_between 90 = .ok (.ifCond .ne 14, 3) := by decide +kernel
theorem dX0_between_93 : decode cX0_between 93 = .ok (.iconst 2, 1) := by decide +kernel
theorem dX0_between_94 : decode cX0_between 94 = .ok (.iload 9, 2) := by decide +kernel
theorem dX0_between_96 : decode cX0_between 96 = .ok (.iload 5, 2) := by decide +kernel
theorem dX0_between_98 : decode cX0_between 98 = .ok (.invokestatic 69, 3) := by decide +kernel
theorem dX0_between_101 : decode cX0_between 101 = .ok (.ifCond .eq 6, 3) := by decide +kernel
theorem dX0_between_104 : decode cX0_between 104 = .ok (.iinc 7 1, 3) := by decide +kernel
theorem dX0_between_107 : decode cX0_between 107 = .ok (.iinc 8 1, 3) := by decide +kernel
theorem dX0_between_110 : decode cX0_between 110 = .ok (.goto (-73), 3) := by decide +kernel
theorem dX0_between_113 : decode cX0_between 113 = .ok (.bipush 16, 2) := by decide +kernel
theorem dX0_between_115 : decode cX0_between 115 = .ok (.iload 6, 2) := by decide +kernel
theorem dX0_between_117 : decode cX0_between 117 = .ok (.imul, 1) := by decide +kernel
theorem dX0_between_118 : decode cX0_between 118 = .ok (.iload 7, 2) := by decide +kernel
theorem dX0_between_120 : decode cX0_between 120 = .ok (.iadd, 1) := by decide +kernel
theorem dX0_between_121 : decode cX0_between 121 = .ok (.ireturn, 1) := by decide +kernel
set_option maxRecDepth 20000 in
theorem ggX0_must_X0_needRow : GoodIn wsX0_must wsX0_needRow := goodIn_ca (goodIn_r _ [7, 8, 9] (by decide +kernel) (by decide +kernel)) (goodIn_sub (fun _ h => List.mem_cons_of_mem _ (List.mem_append_left _ (List.mem_append_right _ h))) (by decide +kernel))
set_option maxRecDepth 20000 in
theorem gX0_must_X0_needRow : GoodIn wsX0_must (va_wsS RX0 30 yX0_needRow wsX0_needRow) := goodIn_app (goodIn_of _ (by decide +kernel)) ggX0_must_X0_needRow
set_option maxRecDepth 20000 in
theorem ggX0_must_X0_needPlace : GoodIn wsX0_must wsX0_needPlace := goodIn_ca (goodIn_r _ [12, 8, 9] (by decide +kernel) (by decide +kernel)) (goodIn_sub (fun _ h => List.mem_cons_of_mem _ (List.mem_append_left _ (List.mem_append_right _ h))) (by decide +kernel))
set_option maxRecDepth 20000 in
theorem gX0_must_X0_needPlace : GoodIn wsX0_must (va_wsS RX0 34 yX0_needPlace wsX0_needPlace) := goodIn_app (goodIn_of _ (by decide +kernel)) ggX0_must_X0_needPlace
set_option maxRecDepth 20000 in
theorem ggX0_must_X0_needGate : GoodIn wsX0_must wsX0_needGate := goodIn_ca (goodIn_r _ [15, 8, 9] (by decide +kernel) (by decide +kernel)) (goodIn_sub (fun _ h => List.mem_cons_of_mem _ (List.mem_append_left _ (List.mem_append_right _ h))) (by decide +kernel))
set_option maxRecDepth 20000 in
theorem gX0_must_X0_needGate : GoodIn wsX0_must (va_wsS RX0 48 yX0_needGate wsX0_needGate) := goodIn_app (goodIn_of _ (by decide +kernel)) ggX0_must_X0_needGate
set_option maxRecDepth 20000 in
theorem ggX0_must_X0_needSign : GoodIn wsX0_must wsX0_needSign := goodIn_ca (goodIn_r _ [18, 19, 20] (by decide +kernel) (by decide +kernel)) (goodIn_sub (fun _ h => List.mem_cons_of_mem _ (List.mem_append_right _ h)) (by decide +kernel))
set_option maxRecDepth 20000 in
theorem gX0_must_X0_needSign : GoodIn wsX0_must (va_wsS RX0 63 yX0_needSign wsX0_needSign) := goodIn_app (goodIn_of _ (by decide +kernel)) ggX0_must_X0_needSign
set_option maxRecDepth 20000 in
theorem ggX0_must_X0_spot : GoodIn wsX0_must wsX0_spot := goodIn_r _ [23] (by decide +kernel) (by decide +kernel)
set_option maxRecDepth 20000 in
theorem gX0_must_X0_spot : GoodIn wsX0_must (va_wsS RX0 40 yX0_spot wsX0_spot) := goodIn_app (goodIn_of _ (by decide +kernel)) ggX0_must_X0_spot
set_option maxRecDepth 20000 in
theorem ggX0_must_X0_levelFor : GoodIn wsX0_must wsX0_levelFor := goodIn_r _ [27, 28, 29, 30, 6, 31, 32, 33, 34, 39, 40, 41, 42] (by decide +kernel) (by decide +kernel)
set_option maxRecDepth 20000 in
theorem gX0_must_X0_levelFor : GoodIn wsX0_must (wsV RX0 66 RX0 yX0_levelFor wsX0_levelFor) := goodIn_app (goodIn_of _ (by decide +kernel)) ggX0_must_X0_levelFor
set_option maxRecDepth 20000 in
theorem ggX0_must_X0_isTrue : GoodIn wsX0_must wsX0_isTrue := goodIn_r _ [37, 38] (by decide +kernel) (by decide +kernel)
set_option maxRecDepth 20000 in
theorem gX0_must_X0_isTrue : GoodIn wsX0_must (va_wsS RX0 69 yX0_isTrue wsX0_isTrue) := goodIn_app (goodIn_of _ (by decide +kernel)) ggX0_must_X0_isTrue
theorem dX0_must_0 : decode cX0_must 0 = .ok (.iload_n 1, 1) := by decide +kernel
theorem dX0_must_1 : decode cX0_must 1 = .ok (.invokestatic 30, 3) := by decide +kernel
theorem dX0_must_4 : decode cX0_must 4 = .ok (.iload_n 2, 1) := by decide +kernel
theorem dX0_must_5 : decode cX0_must 5 = .ok (.invokestatic 34, 3) := by decide +kernel
theorem dX0_must_8 : decode cX0_must 8 = .ok (.iload 4, 2) := by decide +kernel
theorem dX0_must_10 : decode cX0_must 10 = .ok (.invokestatic 48, 3) := by decide +kernel
theorem dX0_must_13 : decode cX0_must 13 = .ok (.iload_n 3, 1) := by decide +kernel
theorem dX0_must_14 : decode cX0_must 14 = .ok (.invokestatic 63, 3) := by decide +kernel
theorem dX0_must_17 : decode cX0_must 17 = .ok (.aload_n 0, 1) := by decide +kernel
theorem dX0_must_18 : decode cX0_must 18 = .ok (.getfield 9, 3) := by decide +kernel
theorem dX0_must_21 : decode cX0_must 21 = .ok (.iload_n 1, 1) := by decide +kernel
theorem dX0_must_22 : decode cX0_must 22 = .ok (.iload_n 2, 1) := by decide +kernel
theorem dX0_must_23 : decode cX0_must 23 = .ok (.invokestatic 40, 3) := by decide +kernel
theorem dX0_must_26 : decode cX0_must 26 = .ok (.iaload, 1) := by decide +kernel
theorem dX0_must_27 : decode cX0_must 27 = .ok (.istore 5, 2) := by decide +kernel
theorem dX0_must_29 : decode cX0_must 29 = .ok (.iload_n 3, 1) := by decide +kernel
theorem dX0_must_30 : decode cX0_must 30 = .ok (.iload 5, 2) := by decide +kernel
theorem dX0_must_32 : decode cX0_must 32 = .ok (.aload_n 0, 1) := by decide +kernel
theorem dX0_must_33 : decode cX0_must 33 = .ok (.iload 4, 2) := by decide +kernel
theorem dX0_must_35 : decode cX0_must 35 = .ok (.iload_n 1, 1) := by decide +kernel
theorem dX0_must_36 : decode cX0_must 36 = .ok (.invokevirtual 66, 3) := by decide +kernel
theorem dX0_must_39 : decode cX0_must 39 = .ok (.invokestatic 69, 3) := by decide +kernel
theorem dX0_must_42 : decode cX0_must 42 = .ok (.ifCond .ne 13, 3) := by decide +kernel
theorem dX0_must_45 : decode cX0_must 45 = .ok (.new 73, 3) := by decide +kernel
theorem dX0_must_48 : decode cX0_must 48 = .ok (.dup, 1) := by decide +kernel
theorem dX0_must_49 : decode cX0_must 49 = .ok (.ldc 75, 2) := by decide +kernel
theorem dX0_must_51 : decode cX0_must 51 = .ok (.invokespecial 77, 3) := by decide +kernel
theorem dX0_must_54 : decode cX0_must 54 = .ok (.athrow, 1) := by decide +kernel
theorem dX0_must_55 : decode cX0_must 55 = .ok (.iload 5, 2) := by decide +kernel
theorem dX0_must_57 : decode cX0_must 57 = .ok (.ireturn, 1) := by decide +kernel
set_option maxRecDepth 20000 in
theorem ggX0_watch_X0_needGate : GoodIn wsX0_watch wsX0_needGate := goodIn_ca (goodIn_r _ [6, 7, 8] (by decide +kernel) (by decide +kernel)) (goodIn_sub (fun _ h => List.mem_cons_of_mem _ (List.mem_append_right _ h)) (by decide +kernel))
set_option maxRecDepth 20000 in
theorem gX0_watch_X0_needGate : GoodIn wsX0_watch (va_wsS RX0 48 yX0_needGate wsX0_needGate) := goodIn_app (goodIn_of _ (by decide +kernel)) ggX0_watch_X0_needGate
set_option maxRecDepth 20000 in
theorem ggX0_watch_X0_needRow : GoodIn wsX0_watch wsX0_needRow := goodIn_ca (goodIn_r _ [11, 7, 8] (by decide +kernel) (by decide +kernel)) (goodIn_sub (fun _ h => List.mem_cons_of_mem _ (List.mem_append_right _ h)) (by decide +kernel))
set_option maxRecDepth 20000 in
theorem gX0_watch_X0_needRow : GoodIn wsX0_watch (va_wsS RX0 30 yX0_needRow wsX0_needRow) := goodIn_app (goodIn_of _ (by decide +kernel)) ggX0_watch_X0_needRow
set_option maxRecDepth 20000 in
theorem ggX0_watch_X0_levelFor : GoodIn wsX0_watch wsX0_levelFor := goodIn_r _ [15, 16, 17, 18, 5, 19, 20, 21, 22, 33, 34, 35, 36] (by decide +kernel) (by decide +kernel)
set_option maxRecDepth 20000 in
theorem gX0_watch_X0_levelFor : GoodIn wsX0_watch (wsV RX0 66 RX0 yX0_levelFor wsX0_levelFor) := goodIn_app (goodIn_of _ (by decide +kernel)) ggX0_watch_X0_levelFor
set_option maxRecDepth 20000 in
theorem ggX0_watch_X0_spot : GoodIn wsX0_watch wsX0_spot := goodIn_r _ [25] (by decide +kernel) (by decide +kernel)
set_option maxRecDepth 20000 in
theorem gX0_watch_X0_spot : GoodIn wsX0_watch (va_wsS RX0 40 yX0_spot wsX0_spot) := goodIn_app (goodIn_of _ (by decide +kernel)) ggX0_watch_X0_spot
set_option maxRecDepth 20000 in
theorem ggX0_watch_X0_opens : GoodIn wsX0_watch wsX0_opens := goodIn_r _ [28, 29, 30, 5, 31, 32] (by decide +kernel) (by decide +kernel)
set_option maxRecDepth 20000 in
theorem gX0_watch_X0_opens : GoodIn wsX0_watch (va_wsS RX0 80 yX0_opens wsX0_opens) := goodIn_app (goodIn_of _ (by decide +kernel)) ggX0_watch_X0_opens
theorem dX0_watch_0 : decode cX0_watch 0 = .ok (.iload_n 1, 1) := by decide +kernel
theorem dX0_watch_1 : decode cX0_watch 1 = .ok (.invokestatic 48, 3) := by decide +kernel
theorem dX0_watch_4 : decode cX0_watch 4 = .ok (.iload_n 2, 1) := by decide +kernel
theorem dX0_watch_5 : decode cX0_watch 5 = .ok (.invokestatic 30, 3) := by decide +kernel
theorem dX0_watch_8 : decode cX0_watch 8 = .ok (.aload_n 0, 1) := by decide +kernel
theorem dX0_watch_9 : decode cX0_watch 9 = .ok (.iload_n 1, 1) := by decide +kernel
theorem dX0_watch_10 : decode cX0_watch 10 = .ok (.iload_n 2, 1) := by decide +kernel
theorem dX0_watch_11 : decode cX0_watch 11 = .ok (.invokevirtual 66, 3) := by decide +kernel
theorem dX0_watch_14 : decode cX0_watch 14 = .ok (.istore 4, 2) := by decide +kernel
theorem dX0_watch_16 : decode cX0_watch 16 = .ok (.iconst 0, 1) := by decide +kernel
theorem dX0_watch_17 : decode cX0_watch 17 = .ok (.istore 5, 2) := by decide +kernel
theorem dX0_watch_19 : decode cX0_watch 19 = .ok (.iconst 0, 1) := by decide +kernel
theorem dX0_watch_20 : decode cX0_watch 20 = .ok (.istore 6, 2) := by decide +kernel
theorem dX0_watch_22 : decode cX0_watch 22 = .ok (.iload 6, 2) := by decide +kernel
theorem dX0_watch_24 : decode cX0_watch 24 = .ok (.bipush 12, 2) := by decide +kernel
theorem dX0_watch_26 : decode cX0_watch 26 = .ok (.if_icmp .ge 50, 3) := by decide +kernel
theorem dX0_watch_29 : decode cX0_watch 29 = .ok (.aload_n 0, 1) := by decide +kernel
theorem dX0_watch_30 : decode cX0_watch 30 = .ok (.getfield 9, 3) := by decide +kernel
theorem dX0_watch_33 : decode cX0_watch 33 = .ok (.iload_n 2, 1) := by decide +kernel
theorem dX0_watch_34 : decode cX0_watch 34 = .ok (.iload 6, 2) := by decide +kernel
theorem dX0_watch_36 : decode cX0_watch 36 = .ok (.invokestatic 40, 3) := by decide +kernel
theorem dX0_watch_39 : decode cX0_watch 39 = .ok (.iaload, 1) := by decide +kernel
theorem dX0_watch_40 : decode cX0_watch 40 = .ok (.iload 4, 2) := by decide +kernel
theorem dX0_watch_42 : decode cX0_watch 42 = .ok (.iload_n 3, 1) := by decide +kernel
theorem dX0_watch_43 : decode cX0_watch 43 = .ok (.invokestatic 80, 3) := by decide +kernel
theorem dX0_watch_46 : decode cX0_watch 46 = .ok (.istore 7, 2) := by decide +kernel
theorem dX0_watch_48 : decode cX0_watch 48 = .ok (.iload 7, 2) := by decide +kernel
theorem dX0_watch_50 : decode cX0_watch 50 = .ok (.aload_n 0, 1) := by decide +kernel
theorem dX0_watch_51 : decode cX0_watch 51 = .ok (.getfield 16, 3) := by decide +kernel
theorem dX0_watch_54 : decode cX0_watch 54 = .ok (.iload_n 1, 1) := by decide +kernel
theorem dX0_watch_55 : decode cX0_watch 55 = .ok (.baload, 1) := by decide +kernel
theorem dX0_watch_56 : decode cX0_watch 56 = .ok (.if_icmp .eq 14, 3) := by decide +kernel
theorem dX0_watch_59 : decode cX0_watch 59 = .ok (.aload_n 0, 1) := by decide +kernel
theorem dX0_watch_60 : decode cX0_watch 60 = .ok (.getfield 16, 3) := by decide +kernel
theorem dX0_watch_63 : decode cX0_watch 63 = .ok (.iload_n 1, 1) := by decide +kernel
theorem dX0_watch_64 : decode cX0_watch 64 = .ok (.iload 7, 2) := by decide +kernel
theorem dX0_watch_66 : decode cX0_watch 66 = .ok (.bastore, 1) := by decide +kernel
theorem dX0_watch_67 : decode cX0_watch 67 = .ok (.iinc 5 1, 3) := by decide +kernel
theorem dX0_watch_70 : decode cX0_watch 70 = .ok (.iinc 6 1, 3) := by decide +kernel
theorem dX0_watch_73 : decode cX0_watch 73 = .ok (.goto (-51), 3) := by decide +kernel
theorem dX0_watch_76 : decode cX0_watch 76 = .ok (.iload 5, 2) := by decide +kernel
theorem dX0_watch_78 : decode cX0_watch 78 = .ok (.ireturn, 1) := by decide +kernel
set_option maxRecDepth 20000 in
theorem ggX0_isOpen_X0_needGate : GoodIn wsX0_isOpen wsX0_needGate := goodIn_ca (goodIn_r _ [5, 6, 7] (by decide +kernel) (by decide +kernel)) (goodIn_sub (fun _ h => List.mem_cons_of_mem _ (List.mem_append_right _ h)) (by decide +kernel))
set_option maxRecDepth 20000 in
theorem gX0_isOpen_X0_needGate : GoodIn wsX0_isOpen (va_wsS RX0 48 yX0_needGate wsX0_needGate) := goodIn_app (goodIn_of _ (by decide +kernel)) ggX0_isOpen_X0_needGate
theorem dX0_isOpen_0 : decode cX0_isOpen 0 = .ok (.iload_n 1, 1) := by decide +kernel
theorem dX0_isOpen_1 : decode cX0_isOpen 1 = .ok (.invokestatic 48, 3) := by decide +kernel
theorem dX0_isOpen_4 : decode cX0_isOpen 4 = .ok (.aload_n 0, 1) := by decide +kernel
theorem dX0_isOpen_5 : decode cX0_isOpen 5 = .ok (.getfield 16, 3) := by decide +kernel
theorem dX0_isOpen_8 : decode cX0_isOpen 8 = .ok (.iload_n 1, 1) := by decide +kernel
theorem dX0_isOpen_9 : decode cX0_isOpen 9 = .ok (.baload, 1) := by decide +kernel
theorem dX0_isOpen_10 : decode cX0_isOpen 10 = .ok (.ireturn, 1) := by decide +kernel
set_option maxRecDepth 20000 in
theorem ggX0_climb_X0_needRow : GoodIn wsX0_climb wsX0_needRow := goodIn_ca (goodIn_r _ [4, 5, 6] (by decide +kernel) (by decide +kernel)) (goodIn_sub (fun _ h => List.mem_cons_of_mem _ (List.mem_append_left _ (List.mem_append_right _ h))) (by decide +kernel))
set_option maxRecDepth 20000 in
theorem gX0_climb_X0_needRow : GoodIn wsX0_climb (va_wsS RX0 30 yX0_needRow wsX0_needRow) := goodIn_app (goodIn_of _ (by decide +kernel)) ggX0_climb_X0_needRow
set_option maxRecDepth 20000 in
theorem ggX0_climb_X0_needPlace : GoodIn wsX0_climb wsX0_needPlace := goodIn_ca (goodIn_r _ [9, 5, 6] (by decide +kernel) (by decide +kernel)) (goodIn_sub (fun _ h => List.mem_cons_of_mem _ (List.mem_append_left _ (List.mem_append_right _ h))) (by decide +kernel))
set_option maxRecDepth 20000 in
theorem gX0_climb_X0_needPlace : GoodIn wsX0_climb (va_wsS RX0 34 yX0_needPlace wsX0_needPlace) := goodIn_app (goodIn_of _ (by decide +kernel)) ggX0_climb_X0_needPlace
set_option maxRecDepth 20000 in
theorem ggX0_climb_X0_needSign : GoodIn wsX0_climb wsX0_needSign := goodIn_ca (goodIn_r _ [12, 13, 14] (by decide +kernel) (by decide +kernel)) (goodIn_sub (fun _ h => List.mem_cons_of_mem _ (List.mem_append_right _ h)) (by decide +kernel))
set_option maxRecDepth 20000 in
theorem gX0_climb_X0_needSign : GoodIn wsX0_climb (va_wsS RX0 63 yX0_needSign wsX0_needSign) := goodIn_app (goodIn_of _ (by decide +kernel)) ggX0_climb_X0_needSign
set_option maxRecDepth 20000 in
theorem ggX0_climb_X0_walk : GoodIn wsX0_climb wsX0_walk := goodIn_r _ [18, 19, 20, 21, 3, 22, 23, 24, 25, 26, 27, 28, 29, 30, 31, 32, 33, 34] (by decide +kernel) (by decide +kernel)
set_option maxRecDepth 20000 in
theorem gX0_climb_X0_walk : GoodIn wsX0_climb (wsV RX0 84 RX0 yX0_walk wsX0_walk) := goodIn_app (goodIn_of _ (by decide +kernel)) ggX0_climb_X0_walk
theorem dX0_climb_0 : decode cX0_climb 0 = .ok (.iload_n 1, 1) := by decide +kernel
theorem dX0_climb_1 : decode cX0_climb 1 = .ok (.invokestatic 30, 3) := by decide +kernel
theorem dX0_climb_4 : decode cX0_climb 4 = .ok (.iload_n 2, 1) := by decide +kernel
theorem dX0_climb_5 : decode cX0_climb 5 = .ok (.invokestatic 34, 3) := by decide +kernel
theorem dX0_climb_8 : decode cX0_climb 8 = .ok (.iload_n 3, 1) := by decide +kernel
theorem dX0_climb_9 : decode cX0_climb 9 = .ok (.invokestatic 63, 3) := by decide +kernel
theorem dX0_climb_12 : decode cX0_climb 12 = .ok (.aload_n 0, 1) := by decide +kernel
theorem dX0_climb_13 : decode cX0_climb 13 = .ok (.iload_n 1, 1) := by decide +kernel
theorem dX0_climb_14 : decode cX0_climb 14 = .ok (.iload_n 2, 1) := by decide +kernel
theorem dX0_climb_15 : decode cX0_climb 15 = .ok (.iload_n 3, 1) := by decide +kernel
theorem dX0_climb_16 : decode cX0_climb 16 = .ok (.iconst 1, 1) := by decide +kernel
theorem dX0_climb_17 : decode cX0_climb 17 = .ok (.invokevirtual 84, 3) := by decide +kernel
theorem dX0_climb_20 : decode cX0_climb 20 = .ok (.ireturn, 1) := by decide +kernel
set_option maxRecDepth 20000 in
theorem ggX0_drift_X0_needRow : GoodIn wsX0_drift wsX0_needRow := goodIn_ca (goodIn_r _ [4, 5, 6] (by decide +kernel) (by decide +kernel)) (goodIn_sub (fun _ h => List.mem_cons_of_mem _ (List.mem_append_left _ (List.mem_append_right _ h))) (by decide +kernel))
set_option maxRecDepth 20000 in
theorem gX0_drift_X0_needRow : GoodIn wsX0_drift (va_wsS RX0 30 yX0_needRow wsX0_needRow) := goodIn_app (goodIn_of _ (by decide +kernel)) ggX0_drift_X0_needRow
set_option maxRecDepth 20000 in
theorem ggX0_drift_X0_needPlace : GoodIn wsX0_drift wsX0_needPlace := goodIn_ca (goodIn_r _ [9, 5, 6] (by decide +kernel) (by decide +kernel)) (goodIn_sub (fun _ h => List.mem_cons_of_mem _ (List.mem_append_left _ (List.mem_append_right _ h))) (by decide +kernel))
set_option maxRecDepth 20000 in
theorem gX0_drift_X0_needPlace : GoodIn wsX0_drift (va_wsS RX0 34 yX0_needPlace wsX0_needPlace) := goodIn_app (goodIn_of _ (by decide +kernel)) ggX0_drift_X0_needPlace
set_option maxRecDepth 20000 in
theorem ggX0_drift_X0_needSign : GoodIn wsX0_drift wsX0_needSign := goodIn_ca (goodIn_r _ [12, 13, 14] (by decide +kernel) (by decide +kernel)) (goodIn_sub (fun _ h => List.mem_cons_of_mem _ (List.mem_append_right _ h)) (by decide +kernel))
set_option maxRecDepth 20000 in
theorem gX0_drift_X0_needSign : GoodIn wsX0_drift (va_wsS RX0 63 yX0_needSign wsX0_needSign) := goodIn_app (goodIn_of _ (by decide +kernel)) ggX0_drift_X0_needSign
set_option maxRecDepth 20000 in
theorem ggX0_drift_X0_walk : GoodIn wsX0_drift wsX0_walk := goodIn_r _ [18, 19, 20, 21, 3, 22, 23, 24, 25, 26, 27, 28, 29, 30, 31, 32, 33, 34] (by decide +kernel) (by decide +kernel)
set_option maxRecDepth 20000 in
theorem gX0_drift_X0_walk : GoodIn wsX0_drift (wsV RX0 84 RX0 yX0_walk wsX0_walk) := goodIn_app (goodIn_of _ (by decide +kernel)) ggX0_drift_X0_walk
theorem dX0_drift_0 : decode cX0_drift 0 = .ok (.iload_n 1, 1) := by decide +kernel
theorem dX0_drift_1 : decode cX0_drift 1 = .ok (.invokestatic 30, 3) := by decide +kernel
theorem dX0_drift_4 : decode cX0_drift 4 = .ok (.iload_n 2, 1) := by decide +kernel
theorem dX0_drift_5 : decode cX0_drift 5 = .ok (.invokestatic 34, 3) := by decide +kernel
theorem dX0_drift_8 : decode cX0_drift 8 = .ok (.iload_n 3, 1) := by decide +kernel
theorem dX0_drift_9 : decode cX0_drift 9 = .ok (.invokestatic 63, 3) := by decide +kernel
theorem dX0_drift_12 : decode cX0_drift 12 = .ok (.aload_n 0, 1) := by decide +kernel
theorem dX0_drift_13 : decode cX0_drift 13 = .ok (.iload_n 1, 1) := by decide +kernel
theorem dX0_drift_14 : decode cX0_drift 14 = .ok (.iload_n 2, 1) := by decide +kernel
theorem dX0_drift_15 : decode cX0_drift 15 = .ok (.iload_n 3, 1) := by decide +kernel
theorem dX0_drift_16 : decode cX0_drift 16 = .ok (.iconst 0, 1) := by decide +kernel
theorem dX0_drift_17 : decode cX0_drift 17 = .ok (.invokevirtual 84, 3) := by decide +kernel
theorem dX0_drift_20 : decode cX0_drift 20 = .ok (.ireturn, 1) := by decide +kernel
set_option maxRecDepth 20000 in
theorem ggX0_pick_X0_needRow : GoodIn wsX0_pick wsX0_needRow := goodIn_ca (goodIn_r _ [5, 6, 7] (by decide +kernel) (by decide +kernel)) (goodIn_sub (fun _ h => List.mem_cons_of_mem _ (List.mem_append_left _ (List.mem_append_right _ h))) (by decide +kernel))
set_option maxRecDepth 20000 in
theorem gX0_pick_X0_needRow : GoodIn wsX0_pick (va_wsS RX0 30 yX0_needRow wsX0_needRow) := goodIn_app (goodIn_of _ (by decide +kernel)) ggX0_pick_X0_needRow
set_option maxRecDepth 20000 in
theorem ggX0_pick_X0_needSign : GoodIn wsX0_pick wsX0_needSign := goodIn_ca (goodIn_r _ [10, 11, 12] (by decide +kernel) (by decide +kernel)) (goodIn_sub (fun _ h => List.mem_cons_of_mem _ (List.mem_append_right _ h)) (by decide +kernel))
set_option maxRecDepth 20000 in
theorem gX0_pick_X0_needSign : GoodIn wsX0_pick (va_wsS RX0 63 yX0_needSign wsX0_needSign) := goodIn_app (goodIn_of _ (by decide +kernel)) ggX0_pick_X0_needSign
set_option maxRecDepth 20000 in
theorem ggX0_pick_X0_spot : GoodIn wsX0_pick wsX0_spot := goodIn_r _ [15] (by decide +kernel) (by decide +kernel)
set_option maxRecDepth 20000 in
theorem gX0_pick_X0_spot : GoodIn wsX0_pick (va_wsS RX0 40 yX0_spot wsX0_spot) := goodIn_app (goodIn_of _ (by decide +kernel)) ggX0_pick_X0_spot
set_option maxRecDepth 20000 in
theorem ggX0_pick_X0_isTrue : GoodIn wsX0_pick wsX0_isTrue := goodIn_r _ [18, 19] (by decide +kernel) (by decide +kernel)
set_option maxRecDepth 20000 in
theorem gX0_pick_X0_isTrue : GoodIn wsX0_pick (va_wsS RX0 69 yX0_isTrue wsX0_isTrue) := goodIn_app (goodIn_of _ (by decide +kernel)) ggX0_pick_X0_isTrue
theorem dX0_pick_0 : decode cX0_pick 0 = .ok (.iload_n 1, 1) := by decide +kernel
theorem dX0_pick_1 : decode cX0_pick 1 = .ok (.invokestatic 30, 3) := by decide +kernel
theorem dX0_pick_4 : decode cX0_pick 4 = .ok (.iload_n 2, 1) := by decide +kernel
theorem dX0_pick_5 : decode cX0_pick 5 = .ok (.invokestatic 63, 3) := by decide +kernel
theorem dX0_pick_8 : decode cX0_pick 8 = .ok (.iconst 0, 1) := by decide +kernel
theorem dX0_pick_9 : decode cX0_pick 9 = .ok (.istore_n 3, 1) := by decide +kernel
theorem dX0_pick_10 : decode cX0_pick 10 = .ok (.iconst 1, 1) := by decide +kernel
theorem dX0_pick_11 : decode cX0_pick 11 = .ok (.istore 4, 2) := by decide +kernel
theorem dX0_pick_13 : decode cX0_pick 13 = .ok (.iload 4, 2) := by decide +kernel
theorem dX0_pick_15 : decode cX0_pick 15 = .ok (.bipush 12, 2) := by decide +kernel
theorem dX0_pick_17 : decode cX0_pick 17 = .ok (.if_icmp .ge 40, 3) := by decide +kernel
theorem dX0_pick_20 : decode cX0_pick 20 = .ok (.iload_n 2, 1) := by decide +kernel
theorem dX0_pick_21 : decode cX0_pick 21 = .ok (.aload_n 0, 1) := by decide +kernel
theorem dX0_pick_22 : decode cX0_pick 22 = .ok (.getfield 9, 3) := by decide +kernel
theorem dX0_pick_25 : decode cX0_pick 25 = .ok (.iload_n 1, 1) := by decide +kernel
theorem dX0_pick_26 : decode cX0_pick 26 = .ok (.iload 4, 2) := by decide +kernel
theorem dX0_pick_28 : decode cX0_pick 28 = .ok (.invokestatic 40, 3) := by decide +kernel
theorem dX0_pick_31 : decode cX0_pick 31 = .ok (.iaload, 1) := by decide +kernel
theorem dX0_pick_32 : decode cX0_pick 32 = .ok (.aload_n 0, 1) := by decide +kernel
theorem dX0_pick_33 : decode cX0_pick 33 = .ok (.getfield 9, 3) := by decide +kernel
theorem dX0_pick_36 : decode cX0_pick 36 = .ok (.iload_n 1, 1) := by decide +kernel
theorem dX0_pick_37 : decode cX0_pick 37 = .ok (.iload_n 3, 1) := by decide +kernel
theorem dX0_pick_38 : decode cX0_pick 38 = .ok (.invokestatic 40, 3) := by decide +kernel
theorem dX0_pick_41 : decode cX0_pick 41 = .ok (.iaload, 1) := by decide +kernel
theorem dX0_pick_42 : decode cX0_pick 42 = .ok (.invokestatic 69, 3) := by decide +kernel
theorem dX0_pick_45 : decode cX0_pick 45 = .ok (.ifCond .eq 6, 3) := by decide +kernel
theorem dX0_pick_48 : decode cX0_pick 48 = .ok (.iload 4, 2) := by decide +kernel
theorem dX0_pick_50 : decode cX0_pick 50 = .ok (.istore_n 3, 1) := by decide +kernel
theorem dX0_pick_51 : decode cX0_pick 51 = .ok (.iinc 4 1, 3) := by decide +kernel
theorem dX0_pick_54 : decode cX0_pick 54 = .ok (.goto (-41), 3) := by decide +kernel
theorem dX0_pick_57 : decode cX0_pick 57 = .ok (.iload_n 3, 1) := by decide +kernel
theorem dX0_pick_58 : decode cX0_pick 58 = .ok (.ireturn, 1) := by decide +kernel
set_option maxRecDepth 20000 in
theorem ggX0_keep_X0_needRow : GoodIn wsX0_keep wsX0_needRow := goodIn_ca (goodIn_r _ [5, 6, 7] (by decide +kernel) (by decide +kernel)) (goodIn_sub (fun _ h => List.mem_cons_of_mem _ (List.mem_append_left _ (List.mem_append_right _ h))) (by decide +kernel))
set_option maxRecDepth 20000 in
theorem gX0_keep_X0_needRow : GoodIn wsX0_keep (va_wsS RX0 30 yX0_needRow wsX0_needRow) := goodIn_app (goodIn_of _ (by decide +kernel)) ggX0_keep_X0_needRow
set_option maxRecDepth 20000 in
theorem ggX0_keep_X0_needSign : GoodIn wsX0_keep wsX0_needSign := goodIn_ca (goodIn_r _ [10, 11, 12] (by decide +kernel) (by decide +kernel)) (goodIn_sub (fun _ h => List.mem_cons_of_mem _ (List.mem_append_right _ h)) (by decide +kernel))
set_option maxRecDepth 20000 in
theorem gX0_keep_X0_needSign : GoodIn wsX0_keep (va_wsS RX0 63 yX0_needSign wsX0_needSign) := goodIn_app (goodIn_of _ (by decide +kernel)) ggX0_keep_X0_needSign
set_option maxRecDepth 20000 in
theorem ggX0_keep_X0_isTrueOfNext : GoodIn wsX0_keep wsX0_isTrueOfNext := goodIn_r _ [16, 17, 18, 19, 4, 20, 21, 22, 23, 24, 32, 33, 34, 35] (by decide +kernel) (by decide +kernel)
set_option maxRecDepth 20000 in
theorem gX0_keep_X0_isTrueOfNext : GoodIn wsX0_keep (wsV RX0 88 RX0 yX0_isTrueOfNext wsX0_isTrueOfNext) := goodIn_app (goodIn_of _ (by decide +kernel)) ggX0_keep_X0_isTrueOfNext
set_option maxRecDepth 20000 in
theorem ggX0_keep_J6_bitCount_0f7a4 : GoodIn wsX0_keep wsJ6_bitCount_0f7a4 := goodIn_r _ [28, 29, 30, 31] (by decide +kernel) (by decide +kernel)
set_option maxRecDepth 20000 in
theorem gX0_keep_J6_bitCount_0f7a4 : GoodIn wsX0_keep (va_wsS RX0 91 yJ6_bitCount_0f7a4 wsJ6_bitCount_0f7a4) := goodIn_app (goodIn_of _ (by decide +kernel)) ggX0_keep_J6_bitCount_0f7a4
theorem dX0_keep_0 : decode cX0_keep 0 = .ok (.iload_n 1, 1) := by decide +kernel
theorem dX0_keep_1 : decode cX0_keep 1 = .ok (.invokestatic 30, 3) := by decide +kernel
theorem dX0_keep_4 : decode cX0_keep 4 = .ok (.iload_n 2, 1) := by decide +kernel
theorem dX0_keep_5 : decode cX0_keep 5 = .ok (.invokestatic 63, 3) := by decide +kernel
theorem dX0_keep_8 : decode cX0_keep 8 = .ok (.iconst 0, 1) := by decide +kernel
theorem dX0_keep_9 : decode cX0_keep 9 = .ok (.istore_n 3, 1) := by decide +kernel
theorem dX0_keep_10 : decode cX0_keep 10 = .ok (.iconst 0, 1) := by decide +kernel
theorem dX0_keep_11 : decode cX0_keep 11 = .ok (.istore 4, 2) := by decide +kernel
theorem dX0_keep_13 : decode cX0_keep 13 = .ok (.iload 4, 2) := by decide +kernel
theorem dX0_keep_15 : decode cX0_keep 15 = .ok (.bipush 11, 2) := by decide +kernel
theorem dX0_keep_17 : decode cX0_keep 17 = .ok (.if_icmp .ge 27, 3) := by decide +kernel
theorem dX0_keep_20 : decode cX0_keep 20 = .ok (.aload_n 0, 1) := by decide +kernel
theorem dX0_keep_21 : decode cX0_keep 21 = .ok (.iload_n 1, 1) := by decide +kernel
theorem dX0_keep_22 : decode cX0_keep 22 = .ok (.iload 4, 2) := by decide +kernel
theorem dX0_keep_24 : decode cX0_keep 24 = .ok (.iload_n 2, 1) := by decide +kernel
theorem dX0_keep_25 : decode cX0_keep 25 = .ok (.invokevirtual 88, 3) := by decide +kernel
theorem dX0_keep_28 : decode cX0_keep 28 = .ok (.ifCond .eq 10, 3) := by decide +kernel
theorem dX0_keep_31 : decode cX0_keep 31 = .ok (.iload_n 3, 1) := by decide +kernel
theorem dX0_keep_32 : decode cX0_keep 32 = .ok (.iconst 1, 1) := by decide +kernel
theorem dX0_keep_33 : decode cX0_keep 33 = .ok (.iload 4, 2) := by decide +kernel
theorem dX0_keep_35 : decode cX0_keep 35 = .ok (.ishl, 1) := by decide +kernel
theorem dX0_keep_36 : decode cX0_keep 36 = .ok (.ior, 1) := by decide +kernel
theorem dX0_keep_37 : decode cX0_keep 37 = .ok (.istore_n 3, 1) := by decide +kernel
theorem dX0_keep_38 : decode cX0_keep 38 = .ok (.iinc 4 1, 3) := by decide +kernel
theorem dX0_keep_41 : decode cX0_keep 41 = .ok (.goto (-28), 3) := by decide +kernel
theorem dX0_keep_44 : decode cX0_keep 44 = .ok (.aload_n 0, 1) := by decide +kernel
theorem dX0_keep_45 : decode cX0_keep 45 = .ok (.getfield 20, 3) := by decide +kernel
theorem dX0_keep_48 : decode cX0_keep 48 = .ok (.iload_n 1, 1) := by decide +kernel
theorem dX0_keep_49 : decode cX0_keep 49 = .ok (.iload_n 3, 1) := by decide +kernel
theorem dX0_keep_50 : decode cX0_keep 50 = .ok (.iastore, 1) := by decide +kernel
theorem dX0_keep_51 : decode cX0_keep 51 = .ok (.iload_n 3, 1) := by decide +kernel
theorem dX0_keep_52 : decode cX0_keep 52 = .ok (.invokestatic 91, 3) := by decide +kernel
theorem dX0_keep_55 : decode cX0_keep 55 = .ok (.ireturn, 1) := by decide +kernel
set_option maxRecDepth 20000 in
theorem ggX0_notes_X0_needRow : GoodIn wsX0_notes wsX0_needRow := goodIn_ca (goodIn_r _ [5, 6, 7] (by decide +kernel) (by decide +kernel)) (goodIn_sub (fun _ h => List.mem_cons_of_mem _ (List.mem_append_right _ h)) (by decide +kernel))
set_option maxRecDepth 20000 in
theorem gX0_notes_X0_needRow : GoodIn wsX0_notes (va_wsS RX0 30 yX0_needRow wsX0_needRow) := goodIn_app (goodIn_of _ (by decide +kernel)) ggX0_notes_X0_needRow
theorem dX0_notes_0 : decode cX0_notes 0 = .ok (.iload_n 1, 1) := by decide +kernel
theorem dX0_notes_1 : decode cX0_notes 1 = .ok (.invokestatic 30, 3) := by decide +kernel
theorem dX0_notes_4 : decode cX0_notes 4 = .ok (.aload_n 0, 1) := by decide +kernel
theorem dX0_notes_5 : decode cX0_notes 5 = .ok (.getfield 20, 3) := by decide +kernel
theorem dX0_notes_8 : decode cX0_notes 8 = .ok (.iload_n 1, 1) := by decide +kernel
theorem dX0_notes_9 : decode cX0_notes 9 = .ok (.iaload, 1) := by decide +kernel
theorem dX0_notes_10 : decode cX0_notes 10 = .ok (.ireturn, 1) := by decide +kernel
set_option maxRecDepth 20000 in
theorem ggX0_gaps_X0_needRow : GoodIn wsX0_gaps wsX0_needRow := goodIn_ca (goodIn_r _ [4, 5, 6] (by decide +kernel) (by decide +kernel)) (goodIn_sub (fun _ h => List.mem_cons_of_mem _ (List.mem_append_right _ h)) (by decide +kernel))
set_option maxRecDepth 20000 in
theorem gX0_gaps_X0_needRow : GoodIn wsX0_gaps (va_wsS RX0 30 yX0_needRow wsX0_needRow) := goodIn_app (goodIn_of _ (by decide +kernel)) ggX0_gaps_X0_needRow
set_option maxRecDepth 20000 in
theorem ggX0_gaps_X0_countMissing : GoodIn wsX0_gaps wsX0_countMissing := goodIn_r _ [10, 11, 12, 13, 3, 14, 15, 16, 17, 18, 19, 20, 21, 22] (by decide +kernel) (by decide +kernel)
set_option maxRecDepth 20000 in
theorem gX0_gaps_X0_countMissing : GoodIn wsX0_gaps (wsV RX0 59 RX0 yX0_countMissing wsX0_countMissing) := goodIn_app (goodIn_of _ (by decide +kernel)) ggX0_gaps_X0_countMissing
theorem dX0_gaps_0 : decode cX0_gaps 0 = .ok (.iload_n 1, 1) := by decide +kernel
theorem dX0_gaps_1 : decode cX0_gaps 1 = .ok (.invokestatic 30, 3) := by decide +kernel
theorem dX0_gaps_4 : decode cX0_gaps 4 = .ok (.aload_n 0, 1) := by decide +kernel
theorem dX0_gaps_5 : decode cX0_gaps 5 = .ok (.iload_n 1, 1) := by decide +kernel
theorem dX0_gaps_6 : decode cX0_gaps 6 = .ok (.invokevirtual 59, 3) := by decide +kernel
theorem dX0_gaps_9 : decode cX0_gaps 9 = .ok (.ireturn, 1) := by decide +kernel
set_option maxRecDepth 20000 in
theorem ggX0_settle_X0_needRow : GoodIn wsX0_settle wsX0_needRow := goodIn_ca (goodIn_r _ [4, 5, 6] (by decide +kernel) (by decide +kernel)) (goodIn_sub (fun _ h => List.mem_cons_of_mem _ (List.mem_append_left _ (List.mem_append_right _ h))) (by decide +kernel))
set_option maxRecDepth 20000 in
theorem gX0_settle_X0_needRow : GoodIn wsX0_settle (va_wsS RX0 30 yX0_needRow wsX0_needRow) := goodIn_app (goodIn_of _ (by decide +kernel)) ggX0_settle_X0_needRow
set_option maxRecDepth 20000 in
theorem ggX0_settle_X0_needSign : GoodIn wsX0_settle wsX0_needSign := goodIn_ca (goodIn_r _ [9, 10, 11] (by decide +kernel) (by decide +kernel)) (goodIn_sub (fun _ h => List.mem_cons_of_mem _ (List.mem_append_right _ h)) (by decide +kernel))
set_option maxRecDepth 20000 in
theorem gX0_settle_X0_needSign : GoodIn wsX0_settle (va_wsS RX0 63 yX0_needSign wsX0_needSign) := goodIn_app (goodIn_of _ (by decide +kernel)) ggX0_settle_X0_needSign
set_option maxRecDepth 20000 in
theorem ggX0_settle_X0_moveLeft : GoodIn wsX0_settle wsX0_moveLeft := goodIn_r _ [15, 16, 17, 18, 3, 19, 20, 21, 22, 23, 24, 25, 26, 27] (by decide +kernel) (by decide +kernel)
set_option maxRecDepth 20000 in
theorem gX0_settle_X0_moveLeft : GoodIn wsX0_settle (wsV RX0 96 RX0 yX0_moveLeft wsX0_moveLeft) := goodIn_app (goodIn_of _ (by decide +kernel)) ggX0_settle_X0_moveLeft
theorem dX0_settle_0 : decode cX0_settle 0 = .ok (.iload_n 1, 1) := by decide +kernel
theorem dX0_settle_1 : decode cX0_settle 1 = .ok (.invokestatic 30, 3) := by decide +kernel
theorem dX0_settle_4 : decode cX0_settle 4 = .ok (.iload_n 2, 1) := by decide +kernel
theorem dX0_settle_5 : decode cX0_settle 5 = .ok (.invokestatic 63, 3) := by decide +kernel
theorem dX0_settle_8 : decode cX0_settle 8 = .ok (.iconst 0, 1) := by decide +kernel
theorem dX0_settle_9 : decode cX0_settle 9 = .ok (.istore_n 3, 1) := by decide +kernel
theorem dX0_settle_10 : decode cX0_settle 10 = .ok (.iconst 1, 1) := by decide +kernel
theorem dX0_settle_11 : decode cX0_settle 11 = .ok (.istore 4, 2) := by decide +kernel
theorem dX0_settle_13 : decode cX0_settle 13 = .ok (.iload 4, 2) := by decide +kernel
theorem dX0_settle_15 : decode cX0_settle 15 = .ok (.bipush 12, 2) := by decide +kernel
theorem dX0_settle_17 : decode cX0_settle 17 = .ok (.if_icmp .ge 20, 3) := by decide +kernel
theorem dX0_settle_20 : decode cX0_settle 20 = .ok (.iload_n 3, 1) := by decide +kernel
theorem dX0_settle_21 : decode cX0_settle 21 = .ok (.aload_n 0, 1) := by decide +kernel
theorem dX0_settle_22 : decode cX0_settle 22 = .ok (.iload_n 1, 1) := by decide +kernel
theorem dX0_settle_23 : decode cX0_settle 23 = .ok (.iload 4, 2) := by decide +kernel
theorem dX0_settle_25 : decode cX0_settle 25 = .ok (.iload_n 2, 1) := by decide +kernel
theorem dX0_settle_26 : decode cX0_settle 26 = .ok (.invokevirtual 96, 3) := by decide +kernel
theorem dX0_settle_29 : decode cX0_settle 29 = .ok (.iadd, 1) := by decide +kernel
theorem dX0_settle_30 : decode cX0_settle 30 = .ok (.istore_n 3, 1) := by decide +kernel
theorem dX0_settle_31 : decode cX0_settle 31 = .ok (.iinc 4 1, 3) := by decide +kernel
theorem dX0_settle_34 : decode cX0_settle 34 = .ok (.goto (-21), 3) := by decide +kernel
theorem dX0_settle_37 : decode cX0_settle 37 = .ok (.iload_n 3, 1) := by decide +kernel
theorem dX0_settle_38 : decode cX0_settle 38 = .ok (.ireturn, 1) := by decide +kernel
set_option maxRecDepth 20000 in
theorem ggX0_meet_X0_needRow : GoodIn wsX0_meet wsX0_needRow := goodIn_ca (goodIn_r _ [5, 6, 7] (by decide +kernel) (by decide +kernel)) (goodIn_sub (fun _ h => List.mem_cons_of_mem _ (List.mem_append_left _ (List.mem_append_right _ h))) (by decide +kernel))
set_option maxRecDepth 20000 in
theorem gX0_meet_X0_needRow : GoodIn wsX0_meet (va_wsS RX0 30 yX0_needRow wsX0_needRow) := goodIn_app (goodIn_of _ (by decide +kernel)) ggX0_meet_X0_needRow
set_option maxRecDepth 20000 in
theorem ggX0_meet_X0_needSign : GoodIn wsX0_meet wsX0_needSign := goodIn_ca (goodIn_r _ [10, 11, 12] (by decide +kernel) (by decide +kernel)) (goodIn_sub (fun _ h => List.mem_cons_of_mem _ (List.mem_append_right _ h)) (by decide +kernel))
set_option maxRecDepth 20000 in
theorem gX0_meet_X0_needSign : GoodIn wsX0_meet (va_wsS RX0 63 yX0_needSign wsX0_needSign) := goodIn_app (goodIn_of _ (by decide +kernel)) ggX0_meet_X0_needSign
set_option maxRecDepth 20000 in
theorem ggX0_meet_X0_needOneSort : GoodIn wsX0_meet wsX0_needOneSort := goodIn_ca (goodIn_r _ [15, 11, 12, 16, 17, 4, 18] (by decide +kernel) (by decide +kernel)) (goodIn_sub (fun _ h => List.mem_cons_of_mem _ (List.mem_append_right _ h)) (by decide +kernel))
set_option maxRecDepth 20000 in
theorem gX0_meet_X0_needOneSort : GoodIn wsX0_meet (va_wsS RX0 55 yX0_needOneSort wsX0_needOneSort) := goodIn_app (goodIn_of _ (by decide +kernel)) ggX0_meet_X0_needOneSort
set_option maxRecDepth 20000 in
theorem ggX0_meet_X0_spot : GoodIn wsX0_meet wsX0_spot := goodIn_r _ [21] (by decide +kernel) (by decide +kernel)
set_option maxRecDepth 20000 in
theorem gX0_meet_X0_spot : GoodIn wsX0_meet (va_wsS RX0 40 yX0_spot wsX0_spot) := goodIn_app (goodIn_of _ (by decide +kernel)) ggX0_meet_X0_spot
set_option maxRecDepth 20000 in
theorem ggX0_meet_X0_isTrue : GoodIn wsX0_meet wsX0_isTrue := goodIn_r _ [24, 25] (by decide +kernel) (by decide +kernel)
set_option maxRecDepth 20000 in
theorem gX0_meet_X0_isTrue : GoodIn wsX0_meet (va_wsS RX0 69 yX0_isTrue wsX0_isTrue) := goodIn_app (goodIn_of _ (by decide +kernel)) ggX0_meet_X0_isTrue
theorem dX0_meet_0 : decode cX0_meet 0 = .ok (.iload_n 1, 1) := by decide +kernel
theorem dX0_meet_1 : decode cX0_meet 1 = .ok (.invokestatic 30, 3) := by decide +kernel
theorem dX0_meet_4 : decode cX0_meet 4 = .ok (.iload_n 2, 1) := by decide +kernel
theorem dX0_meet_5 : decode cX0_meet 5 = .ok (.invokestatic 30, 3) := by decide +kernel
theorem dX0_meet_8 : decode cX0_meet 8 = .ok (.iload_n 3, 1) := by decide +kernel
theorem dX0_meet_9 : decode cX0_meet 9 = .ok (.invokestatic 63, 3) := by decide +kernel
theorem dX0_meet_12 : decode cX0_meet 12 = .ok (.iload_n 1, 1) := by decide +kernel
theorem dX0_meet_13 : decode cX0_meet 13 = .ok (.iload_n 2, 1) := by decide +kernel
theorem dX0_meet_14 : decode cX0_meet 14 = .ok (.invokestatic 55, 3) := by decide +kernel
theorem dX0_meet_17 : decode cX0_meet 17 = .ok (.iconst 0, 1) := by decide +kernel
theorem dX0_meet_18 : decode cX0_meet 18 = .ok (.istore 4, 2) := by decide +kernel
theorem dX0_meet_20 : decode cX0_meet 20 = .ok (.iconst 0, 1) := by decide +kernel
theorem dX0_meet_21 : decode cX0_meet 21 = .ok (.istore 5, 2) := by decide +kernel
theorem dX0_meet_23 : decode cX0_meet 23 = .ok (.iload 5, 2) := by decide +kernel
theorem dX0_meet_25 : decode cX0_meet 25 = .ok (.bipush 12, 2) := by decide +kernel
theorem dX0_meet_27 : decode cX0_meet 27 = .ok (.if_icmp .ge 41, 3) := by decide +kernel
theorem dX0_meet_30 : decode cX0_meet 30 = .ok (.iload_n 3, 1) := by decide +kernel
theorem dX0_meet_31 : decode cX0_meet 31 = .ok (.aload_n 0, 1) := by decide +kernel
theorem dX0_meet_32 : decode cX0_meet 32 = .ok (.getfield 9, 3) := by decide +kernel
theorem dX0_meet_35 : decode cX0_meet 35 = .ok (.iload_n 1, 1) := by decide +kernel
theorem dX0_meet_36 : decode cX0_meet 36 = .ok (.iload 5, 2) := by decide +kernel
theorem dX0_meet_38 : decode cX0_meet 38 = .ok (.invokestatic 40, 3) := by decide +kernel
theorem dX0_meet_41 : decode cX0_meet 41 = .ok (.iaload, 1) := by decide +kernel
theorem dX0_meet_42 : decode cX0_meet 42 = .ok (.aload_n 0, 1) := by decide +kernel
theorem dX0_meet_43 : decode cX0_meet 43 = .ok (.getfield 9, 3) := by decide +kernel
theorem dX0_meet_46 : decode cX0_meet 46 = .ok (.iload_n 2, 1) := by decide +kernel
theorem dX0_meet_47 : decode cX0_meet 47 = .ok (.iload 5, 2) := by decide +kernel
theorem dX0_meet_49 : decode cX0_meet 49 = .ok (.invokestatic 40, 3) := by decide +kernel
theorem dX0_meet_52 : decode cX0_meet 52 = .ok (.iaload, 1) := by decide +kernel
theorem dX0_meet_53 : decode cX0_meet 53 = .ok (.invokestatic 69, 3) := by decide +kernel
theorem dX0_meet_56 : decode cX0_meet 56 = .ok (.ifCond .eq 6, 3) := by decide +kernel
theorem dX0_meet_59 : decode cX0_meet 59 = .ok (.iinc 4 1, 3) := by decide +kernel
theorem dX0_meet_62 : decode cX0_meet 62 = .ok (.iinc 5 1, 3) := by decide +kernel
theorem dX0_meet_65 : decode cX0_meet 65 = .ok (.goto (-42), 3) := by decide +kernel
theorem dX0_meet_68 : decode cX0_meet 68 = .ok (.iload 4, 2) := by decide +kernel
theorem dX0_meet_70 : decode cX0_meet 70 = .ok (.ireturn, 1) := by decide +kernel
set_option maxRecDepth 20000 in
theorem ggX0_alike_X0_needRow : GoodIn wsX0_alike wsX0_needRow := goodIn_ca (goodIn_r _ [5, 6, 7] (by decide +kernel) (by decide +kernel)) (goodIn_sub (fun _ h => List.mem_cons_of_mem _ (List.mem_append_left _ (List.mem_append_right _ h))) (by decide +kernel))
set_option maxRecDepth 20000 in
theorem gX0_alike_X0_needRow : GoodIn wsX0_alike (va_wsS RX0 30 yX0_needRow wsX0_needRow) := goodIn_app (goodIn_of _ (by decide +kernel)) ggX0_alike_X0_needRow
set_option maxRecDepth 20000 in
theorem ggX0_alike_X0_needOneSort : GoodIn wsX0_alike wsX0_needOneSort := goodIn_ca (goodIn_r _ [10, 11, 12, 13, 14, 4, 15] (by decide +kernel) (by decide +kernel)) (goodIn_sub (fun _ h => List.mem_cons_of_mem _ (List.mem_append_right _ h)) (by decide +kernel))
set_option maxRecDepth 20000 in
theorem gX0_alike_X0_needOneSort : GoodIn wsX0_alike (va_wsS RX0 55 yX0_needOneSort wsX0_needOneSort) := goodIn_app (goodIn_of _ (by decide +kernel)) ggX0_alike_X0_needOneSort
set_option maxRecDepth 20000 in
theorem ggX0_alike_X0_spot : GoodIn wsX0_alike wsX0_spot := goodIn_r _ [18] (by decide +kernel) (by decide +kernel)
set_option maxRecDepth 20000 in
theorem gX0_alike_X0_spot : GoodIn wsX0_alike (va_wsS RX0 40 yX0_spot wsX0_spot) := goodIn_app (goodIn_of _ (by decide +kernel)) ggX0_alike_X0_spot
theorem dX0_alike_0 : decode cX0_alike 0 = .ok (.iload_n 1, 1) := by decide +kernel
theorem dX0_alike_1 : decode cX0_alike 1 = .ok (.invokestatic 30, 3) := by decide +kernel
theorem dX0_alike_4 : decode cX0_alike 4 = .ok (.iload_n 2, 1) := by decide +kernel
theorem dX0_alike_5 : decode cX0_alike 5 = .ok (.invokestatic 30, 3) := by decide +kernel
theorem dX0_alike_8 : decode cX0_alike 8 = .ok (.iload_n 1, 1) := by decide +kernel
theorem dX0_alike_9 : decode cX0_alike 9 = .ok (.iload_n 2, 1) := by decide +kernel
theorem dX0_alike_10 : decode cX0_alike 10 = .ok (.invokestatic 55, 3) := by decide +kernel
theorem dX0_alike_13 : decode cX0_alike 13 = .ok (.iconst 0, 1) := by decide +kernel
theorem dX0_alike_14 : decode cX0_alike 14 = .ok (.istore_n 3, 1) := by decide +kernel
theorem dX0_alike_15 : decode cX0_alike 15 = .ok (.iload_n 3, 1) := by decide +kernel
theorem dX0_alike_16 : decode cX0_alike 16 = .ok (.bipush 12, 2) := by decide +kernel
theorem dX0_alike_18 : decode cX0_alike 18 = .ok (.if_icmp .ge 34, 3) := by decide +kernel
theorem dX0_alike_21 : decode cX0_alike 21 = .ok (.aload_n 0, 1) := by decide +kernel
theorem dX0_alike_22 : decode cX0_alike 22 = .ok (.getfield 9, 3) := by decide +kernel
theorem dX0_alike_25 : decode cX0_alike 25 = .ok (.iload_n 1, 1) := by decide +kernel
theorem dX0_alike_26 : decode cX0_alike 26 = .ok (.iload_n 3, 1) := by decide +kernel
theorem dX0_alike_27 : decode cX0_alike 27 = .ok (.invokestatic 40, 3) := by decide +kernel
theorem dX0_alike_30 : decode cX0_alike 30 = .ok (.iaload, 1) := by decide +kernel
theorem dX0_alike_31 : decode cX0_alike 31 = .ok (.aload_n 0, 1) := by decide +kernel
theorem dX0_alike_32 : decode cX0_alike 32 = .ok (.getfield 9, 3) := by decide +kernel
theorem dX0_alike_35 : decode cX0_alike 35 = .ok (.iload_n 2, 1) := by decide +kernel
theorem dX0_alike_36 : decode cX0_alike 36 = .ok (.iload_n 3, 1) := by decide +kernel
theorem dX0_alike_37 : decode cX0_alike 37 = .ok (.invokestatic 40, 3) := by decide +kernel
theorem dX0_alike_40 : decode cX0_alike 40 = .ok (.iaload, 1) := by decide +kernel
theorem dX0_alike_41 : decode cX0_alike 41 = .ok (.if_icmp .eq 5, 3) := by decide +kernel
theorem dX0_alike_44 : decode cX0_alike 44 = .ok (.iconst 0, 1) := by decide +kernel
theorem dX0_alike_45 : decode cX0_alike 45 = .ok (.ireturn, 1) := by decide +kernel
theorem dX0_alike_46 : decode cX0_alike 46 = .ok (.iinc 3 1, 3) := by decide +kernel
theorem dX0_alike_49 : decode cX0_alike 49 = .ok (.goto (-34), 3) := by decide +kernel
theorem dX0_alike_52 : decode cX0_alike 52 = .ok (.iconst 1, 1) := by decide +kernel
theorem dX0_alike_53 : decode cX0_alike 53 = .ok (.ireturn, 1) := by decide +kernel
set_option maxRecDepth 20000 in
theorem ggX0_merge_X0_needRow : GoodIn wsX0_merge wsX0_needRow := goodIn_ca (goodIn_r _ [5, 6, 7] (by decide +kernel) (by decide +kernel)) (goodIn_sub (fun _ h => List.mem_cons_of_mem _ (List.mem_append_left _ (List.mem_append_right _ h))) (by decide +kernel))
set_option maxRecDepth 20000 in
theorem gX0_merge_X0_needRow : GoodIn wsX0_merge (va_wsS RX0 30 yX0_needRow wsX0_needRow) := goodIn_app (goodIn_of _ (by decide +kernel)) ggX0_merge_X0_needRow
set_option maxRecDepth 20000 in
theorem ggX0_merge_X0_needSign : GoodIn wsX0_merge wsX0_needSign := goodIn_ca (goodIn_r _ [10, 11, 12] (by decide +kernel) (by decide +kernel)) (goodIn_sub (fun _ h => List.mem_cons_of_mem _ (List.mem_append_right _ h)) (by decide +kernel))
set_option maxRecDepth 20000 in
theorem gX0_merge_X0_needSign : GoodIn wsX0_merge (va_wsS RX0 63 yX0_needSign wsX0_needSign) := goodIn_app (goodIn_of _ (by decide +kernel)) ggX0_merge_X0_needSign
set_option maxRecDepth 20000 in
theorem ggX0_merge_X0_needOneSort : GoodIn wsX0_merge wsX0_needOneSort := goodIn_ca (goodIn_r _ [15, 11, 12, 16, 17, 4, 18] (by decide +kernel) (by decide +kernel)) (goodIn_sub (fun _ h => List.mem_cons_of_mem _ (List.mem_append_right _ h)) (by decide +kernel))
set_option maxRecDepth 20000 in
theorem gX0_merge_X0_needOneSort : GoodIn wsX0_merge (va_wsS RX0 55 yX0_needOneSort wsX0_needOneSort) := goodIn_app (goodIn_of _ (by decide +kernel)) ggX0_merge_X0_needOneSort
set_option maxRecDepth 20000 in
theorem ggX0_merge_X0_needApart : GoodIn wsX0_merge wsX0_needApart := goodIn_ca (goodIn_r _ [21, 11, 12] (by decide +kernel) (by decide +kernel)) (goodIn_sub (fun _ h => List.mem_cons_of_mem _ (List.mem_append_right _ h)) (by decide +kernel))
set_option maxRecDepth 20000 in
theorem gX0_merge_X0_needApart : GoodIn wsX0_merge (va_wsS RX0 100 yX0_needApart wsX0_needApart) := goodIn_app (goodIn_of _ (by decide +kernel)) ggX0_merge_X0_needApart
set_option maxRecDepth 20000 in
theorem ggX0_merge_X0_spot : GoodIn wsX0_merge wsX0_spot := goodIn_r _ [24] (by decide +kernel) (by decide +kernel)
set_option maxRecDepth 20000 in
theorem gX0_merge_X0_spot : GoodIn wsX0_merge (va_wsS RX0 40 yX0_spot wsX0_spot) := goodIn_app (goodIn_of _ (by decide +kernel)) ggX0_merge_X0_spot
set_option maxRecDepth 20000 in
theorem ggX0_merge_X0_isTrue : GoodIn wsX0_merge wsX0_isTrue := goodIn_r _ [27, 28] (by decide +kernel) (by decide +kernel)
set_option maxRecDepth 20000 in
theorem gX0_merge_X0_isTrue : GoodIn wsX0_merge (va_wsS RX0 69 yX0_isTrue wsX0_isTrue) := goodIn_app (goodIn_of _ (by decide +kernel)) ggX0_merge_X0_isTrue
theorem dX0_merge_0 : decode cX0_merge 0 = .ok (.iload_n 1, 1) := by decide +kernel
theorem dX0_merge_1 : decode cX0_merge 1 = .ok (.invokestatic 30, 3) := by decide +kernel
theorem dX0_merge_4 : decode cX0_merge 4 = .ok (.iload_n 2, 1) := by decide +kernel
theorem dX0_merge_5 : decode cX0_merge 5 = .ok (.invokestatic 30, 3) := by decide +kernel
theorem dX0_merge_8 : decode cX0_merge 8 = .ok (.iload_n 3, 1) := by decide +kernel
theorem dX0_merge_9 : decode cX0_merge 9 = .ok (.invokestatic 30, 3) := by decide +kernel
theorem dX0_merge_12 : decode cX0_merge 12 = .ok (.iload 4, 2) := by decide +kernel
theorem dX0_merge_14 : decode cX0_merge 14 = .ok (.invokestatic 63, 3) := by decide +kernel
theorem dX0_merge_17 : decode cX0_merge 17 = .ok (.iload_n 1, 1) := by decide +kernel
theorem dX0_merge_18 : decode cX0_merge 18 = .ok (.iload_n 2, 1) := by decide +kernel
theorem dX0_merge_19 : decode cX0_merge 19 = .ok (.invokestatic 55, 3) := by decide +kernel
theorem dX0_merge_22 : decode cX0_merge 22 = .ok (.iload_n 1, 1) := by decide +kernel
theorem dX0_merge_23 : decode cX0_merge 23 = .ok (.iload_n 3, 1) := by decide +kernel
theorem dX0_merge_24 : decode cX0_merge 24 = .ok (.invokestatic 55, 3) := by decide +kernel
theorem dX0_merge_27 : decode cX0_merge 27 = .ok (.iload_n 3, 1) := by decide +kernel
theorem dX0_merge_28 : decode cX0_merge 28 = .ok (.iload_n 1, 1) := by decide +kernel
theorem dX0_merge_29 : decode cX0_merge 29 = .ok (.invokestatic 100, 3) := by decide +kernel
theorem dX0_merge_32 : decode cX0_merge 32 = .ok (.iload_n 3, 1) := by decide +kernel
theorem dX0_merge_33 : decode cX0_merge 33 = .ok (.iload_n 2, 1) := by decide +kernel
theorem dX0_merge_34 : decode cX0_merge 34 = .ok (.invokestatic 100, 3) := by decide +kernel
theorem dX0_merge_37 : decode cX0_merge 37 = .ok (.iconst 0, 1) := by decide +kernel
theorem dX0_merge_38 : decode cX0_merge 38 = .ok (.istore 5, 2) := by decide +kernel
theorem dX0_merge_40 : decode cX0_merge 40 = .ok (.iconst 0, 1) := by decide +kernel
theorem dX0_merge_41 : decode cX0_merge 41 = .ok (.istore 6, 2) := by decide +kernel
theorem dX0_merge_43 : decode cX0_merge 43 = .ok (.iload 6, 2) := by decide +kernel
theorem dX0_merge_45 : decode cX0_merge 45 = .ok (.bipush 12, 2) := by decide +kernel
theorem dX0_merge_47 : decode cX0_merge 47 = .ok (.if_icmp .ge 80, 3) := by decide +kernel
theorem dX0_merge_50 : decode cX0_merge 50 = .ok (.aload_n 0, 1) := by decide +kernel
theorem dX0_merge_51 : decode cX0_merge 51 = .ok (.getfield 9, 3) := by decide +kernel
theorem dX0_merge_54 : decode cX0_merge 54 = .ok (.iload_n 1, 1) := by decide +kernel
theorem dX0_merge_55 : decode cX0_merge 55 = .ok (.iload 5, 2) := by decide +kernel
theorem dX0_merge_57 : decode cX0_merge 57 = .ok (.invokestatic 40, 3) := by decide +kernel
theorem dX0_merge_60 : decode cX0_merge 60 = .ok (.iaload, 1) := by decide +kernel
theorem dX0_merge_61 : decode cX0_merge 61 = .ok (.istore 7, 2) := by decide +kernel
theorem dX0_merge_63 : decode cX0_merge 63 = .ok (.aload_n 0, 1) := by decide +kernel
theorem dX0_merge_64 : decode cX0_merge 64 = .ok (.getfield 9, 3) := by decide +kernel
theorem dX0_merge_67 : decode cX0_merge 67 = .ok (.iload_n 2, 1) := by decide +kernel
theorem dX0_merge_68 : decode cX0_merge 68 = .ok (.iload 6, 2) := by decide +kernel
theorem dX0_merge_70 : decode cX0_merge 70 = .ok (.iload 5, 2) := by decide +kernel
theorem dX0_merge_72 : decode cX0_merge 72 = .ok (.isub, 1) := by decide +kernel
theorem dX0_merge_73 : decode cX0_merge 73 = .ok (.invokestatic 40, 3) := by decide +kernel
theorem dX0_merge_76 : decode cX0_merge 76 = .ok (.iaload, 1) := by decide +kernel
theorem dX0_merge_77 : decode cX0_merge 77 = .ok (.istore 8, 2) := by decide +kernel
theorem dX0_merge_79 : decode cX0_merge 79 = .ok (.iload 4, 2) := by decide +kernel
theorem dX0_merge_81 : decode cX0_merge 81 = .ok (.iload 7, 2) := by decide +kernel
theorem dX0_merge_83 : decode cX0_merge 83 = .ok (.iload 8, 2) := by decide +kernel
theorem dX0_merge_85 : decode cX0_merge 85 = .ok (.invokestatic 69, 3) := by decide +kernel
theorem dX0_merge_88 : decode cX0_merge 88 = .ok (.istore 9, 2) := by decide +kernel
theorem dX0_merge_90 : decode cX0_merge 90 = .ok (.aload_n 0, 1) := by decide +kernel
theorem dX0_merge_91 : decode cX0_merge 91 = .ok (.getfield 9, 3) := by decide +kernel
theorem dX0_merge_94 : decode cX0_merge 94 = .ok (.iload_n 3, 1) := by decide +kernel
theorem dX0_merge_95 : decode cX0_merge 95 = .ok (.iload 6, 2) := by decide +kernel
theorem dX0_merge_97 : decode cX0_merge 97 = .ok (.invokestatic 40, 3) := by decide +kernel
theorem dX0_merge_100 : decode cX0_merge 100 = .ok (.iload 9, 2) := by decide +kernel
theorem dX0_merge_102 : decode cX0_merge 102 = .ok (.ifCond .eq 8, 3) := by decide +kernel
theorem dX0_merge_105 : decode cX0_merge 105 = .ok (.iload 7, 2) := by decide +kernel
theorem dX0_merge_107 : decode cX0_merge 107 = .ok (.goto 5, 3) := by decide +kernel
theorem dX0_merge_110 : decode cX0_merge 110 = .ok (.iload 8, 2) := by decide +kernel
theorem dX0_merge_112 : decode cX0_merge 112 = .ok (.iastore, 1) := by decide +kernel
theorem dX0_merge_113 : decode cX0_merge 113 = .ok (.iload 9, 2) := by decide +kernel
theorem dX0_merge_115 : decode cX0_merge 115 = .ok (.ifCond .eq 6, 3) := by decide +kernel
theorem dX0_merge_118 : decode cX0_merge 118 = .ok (.iinc 5 1, 3) := by decide +kernel
theorem dX0_merge_121 : decode cX0_merge 121 = .ok (.iinc 6 1, 3) := by decide +kernel
theorem dX0_merge_124 : decode cX0_merge 124 = .ok (.goto (-81), 3) := by decide +kernel
theorem dX0_merge_127 : decode cX0_merge 127 = .ok (.iload 5, 2) := by decide +kernel
theorem dX0_merge_129 : decode cX0_merge 129 = .ok (.ireturn, 1) := by decide +kernel
theorem dX0_isTrue_0 : decode cX0_isTrue 0 = .ok (.iload_n 1, 1) := by decide +kernel
theorem dX0_isTrue_1 : decode cX0_isTrue 1 = .ok (.ldc 23, 2) := by decide +kernel
theorem dX0_isTrue_3 : decode cX0_isTrue 3 = .ok (.if_icmp .eq 9, 3) := by decide +kernel
theorem dX0_isTrue_6 : decode cX0_isTrue 6 = .ok (.iload_n 2, 1) := by decide +kernel
theorem dX0_isTrue_7 : decode cX0_isTrue 7 = .ok (.ldc 23, 2) := by decide +kernel
theorem dX0_isTrue_9 : decode cX0_isTrue 9 = .ok (.if_icmp .ne 14, 3) := by decide +kernel
theorem dX0_isTrue_12 : decode cX0_isTrue 12 = .ok (.iload_n 0, 1) := by decide +kernel
theorem dX0_isTrue_13 : decode cX0_isTrue 13 = .ok (.iconst 5, 1) := by decide +kernel
theorem dX0_isTrue_14 : decode cX0_isTrue 14 = .ok (.if_icmp .ne 7, 3) := by decide +kernel
theorem dX0_isTrue_17 : decode cX0_isTrue 17 = .ok (.iconst 1, 1) := by decide +kernel
theorem dX0_isTrue_18 : decode cX0_isTrue 18 = .ok (.goto 4, 3) := by decide +kernel
theorem dX0_isTrue_21 : decode cX0_isTrue 21 = .ok (.iconst 0, 1) := by decide +kernel
theorem dX0_isTrue_22 : decode cX0_isTrue 22 = .ok (.ireturn, 1) := by decide +kernel
theorem dX0_isTrue_23 : decode cX0_isTrue 23 = .ok (.iload_n 0, 1) := by decide +kernel
theorem dX0_isTrue_24 : decode cX0_isTrue 24 = .ok (.tableswitch 91 0 4 #[36, 47, 58, 69, 80], 36) := by decide +kernel
theorem dX0_isTrue_60 : decode cX0_isTrue 60 = .ok (.iload_n 1, 1) := by decide +kernel
theorem dX0_isTrue_61 : decode cX0_isTrue 61 = .ok (.iload_n 2, 1) := by decide +kernel
theorem dX0_isTrue_62 : decode cX0_isTrue 62 = .ok (.if_icmp .ge 7, 3) := by decide +kernel
theorem dX0_isTrue_65 : decode cX0_isTrue 65 = .ok (.iconst 1, 1) := by decide +kernel
theorem dX0_isTrue_66 : decode cX0_isTrue 66 = .ok (.goto 4, 3) := by decide +kernel
theorem dX0_isTrue_69 : decode cX0_isTrue 69 = .ok (.iconst 0, 1) := by decide +kernel
theorem dX0_isTrue_70 : decode cX0_isTrue 70 = .ok (.ireturn, 1) := by decide +kernel
theorem dX0_isTrue_71 : decode cX0_isTrue 71 = .ok (.iload_n 1, 1) := by decide +kernel
theorem dX0_isTrue_72 : decode cX0_isTrue 72 = .ok (.iload_n 2, 1) := by decide +kernel
theorem dX0_isTrue_73 : decode cX0_isTrue 73 = .ok (.if_icmp .gt 7, 3) := by decide +kernel
theorem dX0_isTrue_76 : decode cX0_isTrue 76 = .ok (.iconst 1, 1) := by decide +kernel
theorem dX0_isTrue_77 : decode cX0_isTrue 77 = .ok (.goto 4, 3) := by decide +kernel
theorem dX0_isTrue_80 : decode cX0_isTrue 80 = .ok (.iconst 0, 1) := by decide +kernel
theorem dX0_isTrue_81 : decode cX0_isTrue 81 = .ok (.ireturn, 1) := by decide +kernel
theorem dX0_isTrue_82 : decode cX0_isTrue 82 = .ok (.iload_n 1, 1) := by decide +kernel
theorem dX0_isTrue_83 : decode cX0_isTrue 83 = .ok (.iload_n 2, 1) := by decide +kernel
theorem dX0_isTrue_84 : decode cX0_isTrue 84 = .ok (.if_icmp .le 7, 3) := by decide +kernel
theorem dX0_isTrue_87 : decode cX0_isTrue 87 = .ok (.iconst 1, 1) := by decide +kernel
theorem dX0_isTrue_88 : decode cX0_isTrue 88 = .ok (.goto 4, 3) := by decide +kernel
theorem dX0_isTrue_91 : decode cX0_isTrue 91 = .ok (.iconst 0, 1) := by decide +kernel
theorem dX0_isTrue_92 : decode cX0_isTrue 92 = .ok (.ireturn, 1) := by decide +kernel
theorem dX0_isTrue_93 : decode cX0_isTrue 93 = .ok (.iload_n 1, 1) := by decide +kernel
theorem dX0_isTrue_94 : decode cX0_isTrue 94 = .ok (.iload_n 2, 1) := by decide +kernel
theorem dX0_isTrue_95 : decode cX0_isTrue 95 = .ok (.if_icmp .lt 7, 3) := by decide +kernel
theorem dX0_isTrue_98 : decode cX0_isTrue 98 = .ok (.iconst 1, 1) := by decide +kernel
theorem dX0_isTrue_99 : decode cX0_isTrue 99 = .ok (.goto 4, 3) := by decide +kernel
theorem dX0_isTrue_102 : decode cX0_isTrue 102 = .ok (.iconst 0, 1) := by decide +kernel
theorem dX0_isTrue_103 : decode cX0_isTrue 103 = .ok (.ireturn, 1) := by decide +kernel
theorem dX0_isTrue_104 : decode cX0_isTrue 104 = .ok (.iload_n 1, 1) := by decide +kernel
theorem dX0_isTrue_105 : decode cX0_isTrue 105 = .ok (.iload_n 2, 1) := by decide +kernel
theorem dX0_isTrue_106 : decode cX0_isTrue 106 = .ok (.if_icmp .ne 7, 3) := by decide +kernel
theorem dX0_isTrue_109 : decode cX0_isTrue 109 = .ok (.iconst 1, 1) := by decide +kernel
theorem dX0_isTrue_110 : decode cX0_isTrue 110 = .ok (.goto 4, 3) := by decide +kernel
theorem dX0_isTrue_113 : decode cX0_isTrue 113 = .ok (.iconst 0, 1) := by decide +kernel
theorem dX0_isTrue_114 : decode cX0_isTrue 114 = .ok (.ireturn, 1) := by decide +kernel
theorem dX0_isTrue_115 : decode cX0_isTrue 115 = .ok (.iload_n 1, 1) := by decide +kernel
theorem dX0_isTrue_116 : decode cX0_isTrue 116 = .ok (.iload_n 2, 1) := by decide +kernel
theorem dX0_isTrue_117 : decode cX0_isTrue 117 = .ok (.if_icmp .eq 7, 3) := by decide +kernel
theorem dX0_isTrue_120 : decode cX0_isTrue 120 = .ok (.iconst 1, 1) := by decide +kernel
theorem dX0_isTrue_121 : decode cX0_isTrue 121 = .ok (.goto 4, 3) := by decide +kernel
theorem dX0_isTrue_124 : decode cX0_isTrue 124 = .ok (.iconst 0, 1) := by decide +kernel
theorem dX0_isTrue_125 : decode cX0_isTrue 125 = .ok (.ireturn, 1) := by decide +kernel
set_option maxRecDepth 20000 in
theorem ggX0_isTrueOfNext_X0_spot : GoodIn wsX0_isTrueOfNext wsX0_spot := goodIn_r _ [5] (by decide +kernel) (by decide +kernel)
set_option maxRecDepth 20000 in
theorem gX0_isTrueOfNext_X0_spot : GoodIn wsX0_isTrueOfNext (va_wsS RX0 40 yX0_spot wsX0_spot) := goodIn_app (goodIn_of _ (by decide +kernel)) ggX0_isTrueOfNext_X0_spot
set_option maxRecDepth 20000 in
theorem ggX0_isTrueOfNext_X0_isTrue : GoodIn wsX0_isTrueOfNext wsX0_isTrue := goodIn_r _ [8, 9] (by decide +kernel) (by decide +kernel)
set_option maxRecDepth 20000 in
theorem gX0_isTrueOfNext_X0_isTrue : GoodIn wsX0_isTrueOfNext (va_wsS RX0 69 yX0_isTrue wsX0_isTrue) := goodIn_app (goodIn_of _ (by decide +kernel)) ggX0_isTrueOfNext_X0_isTrue
theorem dX0_isTrueOfNext_0 : decode cX0_isTrueOfNext 0 = .ok (.iload_n 3, 1) := by decide +kernel
theorem dX0_isTrueOfNext_1 : decode cX0_isTrueOfNext 1 = .ok (.aload_n 0, 1) := by decide +kernel
theorem dX0_isTrueOfNext_2 : decode cX0_isTrueOfNext 2 = .ok (.getfield 9, 3) := by decide +kernel
theorem dX0_isTrueOfNext_5 : decode cX0_isTrueOfNext 5 = .ok (.iload_n 1, 1) := by decide +kernel
theorem dX0_isTrueOfNext_6 : decode cX0_isTrueOfNext 6 = .ok (.iload_n 2, 1) := by decide +kernel
theorem dX0_isTrueOfNext_7 : decode cX0_isTrueOfNext 7 = .ok (.invokestatic 40, 3) := by decide +kernel
theorem dX0_isTrueOfNext_10 : decode cX0_isTrueOfNext 10 = .ok (.iaload, 1) := by decide +kernel
theorem dX0_isTrueOfNext_11 : decode cX0_isTrueOfNext 11 = .ok (.aload_n 0, 1) := by decide +kernel
theorem dX0_isTrueOfNext_12 : decode cX0_isTrueOfNext 12 = .ok (.getfield 9, 3) := by decide +kernel
theorem dX0_isTrueOfNext_15 : decode cX0_isTrueOfNext 15 = .ok (.iload_n 1, 1) := by decide +kernel
theorem dX0_isTrueOfNext_16 : decode cX0_isTrueOfNext 16 = .ok (.iload_n 2, 1) := by decide +kernel
theorem dX0_isTrueOfNext_17 : decode cX0_isTrueOfNext 17 = .ok (.iconst 1, 1) := by decide +kernel
theorem dX0_isTrueOfNext_18 : decode cX0_isTrueOfNext 18 = .ok (.iadd, 1) := by decide +kernel
theorem dX0_isTrueOfNext_19 : decode cX0_isTrueOfNext 19 = .ok (.invokestatic 40, 3) := by decide +kernel
theorem dX0_isTrueOfNext_22 : decode cX0_isTrueOfNext 22 = .ok (.iaload, 1) := by decide +kernel
theorem dX0_isTrueOfNext_23 : decode cX0_isTrueOfNext 23 = .ok (.invokestatic 69, 3) := by decide +kernel
theorem dX0_isTrueOfNext_26 : decode cX0_isTrueOfNext 26 = .ok (.ireturn, 1) := by decide +kernel
set_option maxRecDepth 20000 in
theorem ggX0_walk_X0_isTrueOfNext : GoodIn wsX0_walk wsX0_isTrueOfNext := goodIn_r _ [5, 6, 7, 8, 4, 9, 10, 11, 12, 13, 14, 15, 16, 17] (by decide +kernel) (by decide +kernel)
set_option maxRecDepth 20000 in
theorem gX0_walk_X0_isTrueOfNext : GoodIn wsX0_walk (wsV RX0 88 RX0 yX0_isTrueOfNext wsX0_isTrueOfNext) := goodIn_app (goodIn_of _ (by decide +kernel)) ggX0_walk_X0_isTrueOfNext
theorem dX0_walk_0 : decode cX0_walk 0 = .ok (.iload_n 2, 1) := by decide +kernel
theorem dX0_walk_1 : decode cX0_walk 1 = .ok (.istore 5, 2) := by decide +kernel
theorem dX0_walk_3 : decode cX0_walk 3 = .ok (.iload 5, 2) := by decide +kernel
theorem dX0_walk_5 : decode cX0_walk 5 = .ok (.bipush 11, 2) := by decide +kernel
theorem dX0_walk_7 : decode cX0_walk 7 = .ok (.if_icmp .ge 22, 3) := by decide +kernel
theorem dX0_walk_10 : decode cX0_walk 10 = .ok (.aload_n 0, 1) := by decide +kernel
theorem dX0_walk_11 : decode cX0_walk 11 = .ok (.iload_n 1, 1) := by decide +kernel
theorem dX0_walk_12 : decode cX0_walk 12 = .ok (.iload 5, 2) := by decide +kernel
theorem dX0_walk_14 : decode cX0_walk 14 = .ok (.iload_n 3, 1) := by decide +kernel
theorem dX0_walk_15 : decode cX0_walk 15 = .ok (.invokevirtual 88, 3) := by decide +kernel
theorem dX0_walk_18 : decode cX0_walk 18 = .ok (.iload 4, 2) := by decide +kernel
theorem dX0_walk_20 : decode cX0_walk 20 = .ok (.if_icmp .ne 9, 3) := by decide +kernel
theorem dX0_walk_23 : decode cX0_walk 23 = .ok (.iinc 5 1, 3) := by decide +kernel
theorem dX0_walk_26 : decode cX0_walk 26 = .ok (.goto (-23), 3) := by decide +kernel
theorem dX0_walk_29 : decode cX0_walk 29 = .ok (.iload 5, 2) := by decide +kernel
theorem dX0_walk_31 : decode cX0_walk 31 = .ok (.ireturn, 1) := by decide +kernel
set_option maxRecDepth 20000 in
theorem ggX0_moveLeft_X0_spot : GoodIn wsX0_moveLeft wsX0_spot := goodIn_r _ [5] (by decide +kernel) (by decide +kernel)
set_option maxRecDepth 20000 in
theorem gX0_moveLeft_X0_spot : GoodIn wsX0_moveLeft (va_wsS RX0 40 yX0_spot wsX0_spot) := goodIn_app (goodIn_of _ (by decide +kernel)) ggX0_moveLeft_X0_spot
set_option maxRecDepth 20000 in
theorem ggX0_moveLeft_X0_isTrue : GoodIn wsX0_moveLeft wsX0_isTrue := goodIn_r _ [8, 9] (by decide +kernel) (by decide +kernel)
set_option maxRecDepth 20000 in
theorem gX0_moveLeft_X0_isTrue : GoodIn wsX0_moveLeft (va_wsS RX0 69 yX0_isTrue wsX0_isTrue) := goodIn_app (goodIn_of _ (by decide +kernel)) ggX0_moveLeft_X0_isTrue
theorem dX0_moveLeft_0 : decode cX0_moveLeft 0 = .ok (.iload_n 2, 1) := by decide +kernel
theorem dX0_moveLeft_1 : decode cX0_moveLeft 1 = .ok (.istore 4, 2) := by decide +kernel
theorem dX0_moveLeft_3 : decode cX0_moveLeft 3 = .ok (.iload 4, 2) := by decide +kernel
theorem dX0_moveLeft_5 : decode cX0_moveLeft 5 = .ok (.ifCond .le 92, 3) := by decide +kernel
theorem dX0_moveLeft_8 : decode cX0_moveLeft 8 = .ok (.iload_n 3, 1) := by decide +kernel
theorem dX0_moveLeft_9 : decode cX0_moveLeft 9 = .ok (.aload_n 0, 1) := by decide +kernel
theorem dX0_moveLeft_10 : decode cX0_moveLeft 10 = .ok (.getfield 9, 3) := by decide +kernel
theorem dX0_moveLeft_13 : decode cX0_moveLeft 13 = .ok (.iload_n 1, 1) := by decide +kernel
theorem dX0_moveLeft_14 : decode cX0_moveLeft 14 = .ok (.iload 4, 2) := by decide +kernel
theorem dX0_moveLeft_16 : decode cX0_moveLeft 16 = .ok (.invokestatic 40, 3) := by decide +kernel
theorem dX0_moveLeft_19 : decode cX0_moveLeft 19 = .ok (.iaload, 1) := by decide +kernel
theorem dX0_moveLeft_20 : decode cX0_moveLeft 20 = .ok (.aload_n 0, 1) := by decide +kernel
theorem dX0_moveLeft_21 : decode cX0_moveLeft 21 = .ok (.getfield 9, 3) := by decide +kernel
theorem dX0_moveLeft_24 : decode cX0_moveLeft 24 = .ok (.iload_n 1, 1) := by decide +kernel
theorem dX0_moveLeft_25 : decode cX0_moveLeft 25 = .ok (.iload 4, 2) := by decide +kernel
theorem dX0_moveLeft_27 : decode cX0_moveLeft 27 = .ok (.iconst 1, 1) := by decide +kernel
theorem dX0_moveLeft_28 : decode cX0_moveLeft 28 = .ok (.isub, 1) := by decide +kernel
theorem dX0_moveLeft_29 : decode cX0_moveLeft 29 = .ok (.invokestatic 40, 3) := by decide +kernel
theorem dX0_moveLeft_32 : decode cX0_moveLeft 32 = .ok (.iaload, 1) := by decide +kernel
theorem dX0_moveLeft_33 : decode cX0_moveLeft 33 = .ok (.invokestatic 69, 3) := by decide +kernel
theorem dX0_moveLeft_36 : decode cX0_moveLeft 36 = .ok (.ifCond .eq 61, 3) := by decide +kernel
theorem dX0_moveLeft_39 : decode cX0_moveLeft 39 = .ok (.aload_n 0, 1) := by decide +kernel
theorem dX0_moveLeft_40 : decode cX0_moveLeft 40 = .ok (.getfield 9, 3) := by decide +kernel
theorem dX0_moveLeft_43 : decode cX0_moveLeft 43 = .ok (.iload_n 1, 1) := by decide +kernel
theorem dX0_moveLeft_44 : decode cX0_moveLeft 44 = .ok (.iload 4, 2) := by decide +kernel
theorem dX0_moveLeft_46 : decode cX0_moveLeft 46 = .ok (.invokestatic 40, 3) := by decide +kernel
theorem dX0_moveLeft_49 : decode cX0_moveLeft 49 = .ok (.iaload, 1) := by decide +kernel
theorem dX0_moveLeft_50 : decode cX0_moveLeft 50 = .ok (.istore 5, 2) := by decide +kernel
theorem dX0_moveLeft_52 : decode cX0_moveLeft 52 = .ok (.aload_n 0, 1) := by decide +kernel
theorem dX0_moveLeft_53 : decode cX0_moveLeft 53 = .ok (.getfield 9, 3) := by decide +kernel
theorem dX0_moveLeft_56 : decode cX0_moveLeft 56 = .ok (.iload_n 1, 1) := by decide +kernel
theorem dX0_moveLeft_57 : decode cX0_moveLeft 57 = .ok (.iload 4, 2) := by decide +kernel
theorem dX0_moveLeft_59 : decode cX0_moveLeft 59 = .ok (.invokestatic 40, 3) := by decide +kernel
theorem dX0_moveLeft_62 : decode cX0_moveLeft 62 = .ok (.aload_n 0, 1) := by decide +kernel
theorem dX0_moveLeft_63 : decode cX0_moveLeft 63 = .ok (.getfield 9, 3) := by decide +kernel
theorem dX0_moveLeft_66 : decode cX0_moveLeft 66 = .ok (.iload_n 1, 1) := by decide +kernel
theorem dX0_moveLeft_67 : decode cX0_moveLeft 67 = .ok (.iload 4, 2) := by decide +kernel
theorem dX0_moveLeft_69 : decode cX0_moveLeft 69 = .ok (.iconst 1, 1) := by decide +kernel
theorem dX0_moveLeft_70 : decode cX0_moveLeft 70 = .ok (.isub, 1) := by decide +kernel
theorem dX0_moveLeft_71 : decode cX0_moveLeft 71 = .ok (.invokestatic 40, 3) := by decide +kernel
theorem dX0_moveLeft_74 : decode cX0_moveLeft 74 = .ok (.iaload, 1) := by decide +kernel
theorem dX0_moveLeft_75 : decode cX0_moveLeft 75 = .ok (.iastore, 1) := by decide +kernel
theorem dX0_moveLeft_76 : decode cX0_moveLeft 76 = .ok (.aload_n 0, 1) := by decide +kernel
theorem dX0_moveLeft_77 : decode cX0_moveLeft 77 = .ok (.getfield 9, 3) := by decide +kernel
theorem dX0_moveLeft_80 : decode cX0_moveLeft 80 = .ok (.iload_n 1, 1) := by decide +kernel
theorem dX0_moveLeft_81 : decode cX0_moveLeft 81 = .ok (.iload 4, 2) := by decide +kernel
theorem dX0_moveLeft_83 : decode cX0_moveLeft 83 = .ok (.iconst 1, 1) := by decide +kernel
theorem dX0_moveLeft_84 : decode cX0_moveLeft 84 = .ok (.isub, 1) := by decide +kernel
theorem dX0_moveLeft_85 : decode cX0_moveLeft 85 = .ok (.invokestatic 40, 3) := by decide +kernel
theorem dX0_moveLeft_88 : decode cX0_moveLeft 88 = .ok (.iload 5, 2) := by decide +kernel
theorem dX0_moveLeft_90 : decode cX0_moveLeft 90 = .ok (.iastore, 1) := by decide +kernel
theorem dX0_moveLeft_91 : decode cX0_moveLeft 91 = .ok (.iinc 4 (-1), 3) := by decide +kernel
theorem dX0_moveLeft_94 : decode cX0_moveLeft 94 = .ok (.goto (-91), 3) := by decide +kernel
theorem dX0_moveLeft_97 : decode cX0_moveLeft 97 = .ok (.iload_n 2, 1) := by decide +kernel
theorem dX0_moveLeft_98 : decode cX0_moveLeft 98 = .ok (.iload 4, 2) := by decide +kernel
theorem dX0_moveLeft_100 : decode cX0_moveLeft 100 = .ok (.isub, 1) := by decide +kernel
theorem dX0_moveLeft_101 : decode cX0_moveLeft 101 = .ok (.ireturn, 1) := by decide +kernel
set_option maxRecDepth 20000 in
theorem ggX0_countMissing_X0_spot : GoodIn wsX0_countMissing wsX0_spot := goodIn_r _ [5] (by decide +kernel) (by decide +kernel)
set_option maxRecDepth 20000 in
theorem gX0_countMissing_X0_spot : GoodIn wsX0_countMissing (va_wsS RX0 40 yX0_spot wsX0_spot) := goodIn_app (goodIn_of _ (by decide +kernel)) ggX0_countMissing_X0_spot
set_option maxRecDepth 20000 in
theorem ggX0_countMissing_X0_isTrue : GoodIn wsX0_countMissing wsX0_isTrue := goodIn_r _ [8, 9] (by decide +kernel) (by decide +kernel)
set_option maxRecDepth 20000 in
theorem gX0_countMissing_X0_isTrue : GoodIn wsX0_countMissing (va_wsS RX0 69 yX0_isTrue wsX0_isTrue) := goodIn_app (goodIn_of _ (by decide +kernel)) ggX0_countMissing_X0_isTrue
theorem dX0_countMissing_0 : decode cX0_countMissing 0 = .ok (.iconst 0, 1) := by decide +kernel
theorem dX0_countMissing_1 : decode cX0_countMissing 1 = .ok (.istore_n 2, 1) := by decide +kernel
theorem dX0_countMissing_2 : decode cX0_countMissing 2 = .ok (.iconst 0, 1) := by decide +kernel
theorem dX0_countMissing_3 : decode cX0_countMissing 3 = .ok (.istore_n 3, 1) := by decide +kernel
theorem dX0_countMissing_4 : decode cX0_countMissing 4 = .ok (.iload_n 3, 1) := by decide +kernel
theorem dX0_countMissing_5 : decode cX0_countMissing 5 = .ok (.bipush 12, 2) := by decide +kernel
theorem dX0_countMissing_7 : decode cX0_countMissing 7 = .ok (.if_icmp .ge 35, 3) := by decide +kernel
theorem dX0_countMissing_10 : decode cX0_countMissing 10 = .ok (.aload_n 0, 1) := by decide +kernel
theorem dX0_countMissing_11 : decode cX0_countMissing 11 = .ok (.getfield 9, 3) := by decide +kernel
theorem dX0_countMissing_14 : decode cX0_countMissing 14 = .ok (.iload_n 1, 1) := by decide +kernel
theorem dX0_countMissing_15 : decode cX0_countMissing 15 = .ok (.iload_n 3, 1) := by decide +kernel
theorem dX0_countMissing_16 : decode cX0_countMissing 16 = .ok (.invokestatic 40, 3) := by decide +kernel
theorem dX0_countMissing_19 : decode cX0_countMissing 19 = .ok (.iaload, 1) := by decide +kernel
theorem dX0_countMissing_20 : decode cX0_countMissing 20 = .ok (.istore 4, 2) := by decide +kernel
theorem dX0_countMissing_22 : decode cX0_countMissing 22 = .ok (.iconst 5, 1) := by decide +kernel
theorem dX0_countMissing_23 : decode cX0_countMissing 23 = .ok (.iload 4, 2) := by decide +kernel
theorem dX0_countMissing_25 : decode cX0_countMissing 25 = .ok (.iload 4, 2) := by decide +kernel
theorem dX0_countMissing_27 : decode cX0_countMissing 27 = .ok (.invokestatic 69, 3) := by decide +kernel
theorem dX0_countMissing_30 : decode cX0_countMissing 30 = .ok (.ifCond .eq 6, 3) := by decide +kernel
theorem dX0_countMissing_33 : decode cX0_countMissing 33 = .ok (.iinc 2 1, 3) := by decide +kernel
theorem dX0_countMissing_36 : decode cX0_countMissing 36 = .ok (.iinc 3 1, 3) := by decide +kernel
theorem dX0_countMissing_39 : decode cX0_countMissing 39 = .ok (.goto (-35), 3) := by decide +kernel
theorem dX0_countMissing_42 : decode cX0_countMissing 42 = .ok (.iload_n 2, 1) := by decide +kernel
theorem dX0_countMissing_43 : decode cX0_countMissing 43 = .ok (.ireturn, 1) := by decide +kernel
set_option maxRecDepth 20000 in
theorem ggX0_opens_X0_isTrue : GoodIn wsX0_opens wsX0_isTrue := goodIn_r _ [4, 5] (by decide +kernel) (by decide +kernel)
set_option maxRecDepth 20000 in
theorem gX0_opens_X0_isTrue : GoodIn wsX0_opens (va_wsS RX0 69 yX0_isTrue wsX0_isTrue) := goodIn_app (goodIn_of _ (by decide +kernel)) ggX0_opens_X0_isTrue
theorem dX0_opens_0 : decode cX0_opens 0 = .ok (.iload_n 2, 1) := by decide +kernel
theorem dX0_opens_1 : decode cX0_opens 1 = .ok (.ifCond .eq 20, 3) := by decide +kernel
theorem dX0_opens_4 : decode cX0_opens 4 = .ok (.iconst 0, 1) := by decide +kernel
theorem dX0_opens_5 : decode cX0_opens 5 = .ok (.iload_n 0, 1) := by decide +kernel
theorem dX0_opens_6 : decode cX0_opens 6 = .ok (.iload_n 1, 1) := by decide +kernel
theorem dX0_opens_7 : decode cX0_opens 7 = .ok (.invokestatic 69, 3) := by decide +kernel
theorem dX0_opens_10 : decode cX0_opens 10 = .ok (.ifCond .ne 7, 3) := by decide +kernel
theorem dX0_opens_13 : decode cX0_opens 13 = .ok (.iconst 1, 1) := by decide +kernel
theorem dX0_opens_14 : decode cX0_opens 14 = .ok (.goto 13, 3) := by decide +kernel
theorem dX0_opens_17 : decode cX0_opens 17 = .ok (.iconst 0, 1) := by decide +kernel
theorem dX0_opens_18 : decode cX0_opens 18 = .ok (.goto 9, 3) := by decide +kernel
theorem dX0_opens_21 : decode cX0_opens 21 = .ok (.iconst 3, 1) := by decide +kernel
theorem dX0_opens_22 : decode cX0_opens 22 = .ok (.iload_n 0, 1) := by decide +kernel
theorem dX0_opens_23 : decode cX0_opens 23 = .ok (.iload_n 1, 1) := by decide +kernel
theorem dX0_opens_24 : decode cX0_opens 24 = .ok (.invokestatic 69, 3) := by decide +kernel
theorem dX0_opens_27 : decode cX0_opens 27 = .ok (.ireturn, 1) := by decide +kernel
theorem dX0_store_0 : decode cX0_store 0 = .ok (.aload_n 0, 1) := by decide +kernel
theorem dX0_store_1 : decode cX0_store 1 = .ok (.iload_n 1, 1) := by decide +kernel
theorem dX0_store_2 : decode cX0_store 2 = .ok (.iaload, 1) := by decide +kernel
theorem dX0_store_3 : decode cX0_store 3 = .ok (.iload_n 2, 1) := by decide +kernel
theorem dX0_store_4 : decode cX0_store 4 = .ok (.if_icmp .eq 7, 3) := by decide +kernel
theorem dX0_store_7 : decode cX0_store 7 = .ok (.iconst 1, 1) := by decide +kernel
theorem dX0_store_8 : decode cX0_store 8 = .ok (.goto 4, 3) := by decide +kernel
theorem dX0_store_11 : decode cX0_store 11 = .ok (.iconst 0, 1) := by decide +kernel
theorem dX0_store_12 : decode cX0_store 12 = .ok (.istore_n 3, 1) := by decide +kernel
theorem dX0_store_13 : decode cX0_store 13 = .ok (.aload_n 0, 1) := by decide +kernel
theorem dX0_store_14 : decode cX0_store 14 = .ok (.iload_n 1, 1) := by decide +kernel
theorem dX0_store_15 : decode cX0_store 15 = .ok (.iload_n 2, 1) := by decide +kernel
theorem dX0_store_16 : decode cX0_store 16 = .ok (.iastore, 1) := by decide +kernel
theorem dX0_store_17 : decode cX0_store 17 = .ok (.iload_n 3, 1) := by decide +kernel
theorem dX0_store_18 : decode cX0_store 18 = .ok (.ireturn, 1) := by decide +kernel
theorem dX0_spot_0 : decode cX0_spot 0 = .ok (.iload_n 0, 1) := by decide +kernel
theorem dX0_spot_1 : decode cX0_spot 1 = .ok (.bipush 12, 2) := by decide +kernel
theorem dX0_spot_3 : decode cX0_spot 3 = .ok (.imul, 1) := by decide +kernel
theorem dX0_spot_4 : decode cX0_spot 4 = .ok (.iload_n 1, 1) := by decide +kernel
theorem dX0_spot_5 : decode cX0_spot 5 = .ok (.iadd, 1) := by decide +kernel
theorem dX0_spot_6 : decode cX0_spot 6 = .ok (.ireturn, 1) := by decide +kernel
theorem dX0_levelSpot_0 : decode cX0_levelSpot 0 = .ok (.iload_n 0, 1) := by decide +kernel
theorem dX0_levelSpot_1 : decode cX0_levelSpot 1 = .ok (.iconst 2, 1) := by decide +kernel
theorem dX0_levelSpot_2 : decode cX0_levelSpot 2 = .ok (.imul, 1) := by decide +kernel
theorem dX0_levelSpot_3 : decode cX0_levelSpot 3 = .ok (.iload_n 1, 1) := by decide +kernel
theorem dX0_levelSpot_4 : decode cX0_levelSpot 4 = .ok (.ifCond .eq 7, 3) := by decide +kernel
theorem dX0_levelSpot_7 : decode cX0_levelSpot 7 = .ok (.iconst 1, 1) := by decide +kernel
theorem dX0_levelSpot_8 : decode cX0_levelSpot 8 = .ok (.goto 4, 3) := by decide +kernel
theorem dX0_levelSpot_11 : decode cX0_levelSpot 11 = .ok (.iconst 0, 1) := by decide +kernel
theorem dX0_levelSpot_12 : decode cX0_levelSpot 12 = .ok (.iadd, 1) := by decide +kernel
theorem dX0_levelSpot_13 : decode cX0_levelSpot 13 = .ok (.ireturn, 1) := by decide +kernel
theorem dX0_isRough_0 : decode cX0_isRough 0 = .ok (.iload_n 0, 1) := by decide +kernel
theorem dX0_isRough_1 : decode cX0_isRough 1 = .ok (.iconst 4, 1) := by decide +kernel
theorem dX0_isRough_2 : decode cX0_isRough 2 = .ok (.if_icmp .lt 7, 3) := by decide +kernel
theorem dX0_isRough_5 : decode cX0_isRough 5 = .ok (.iconst 1, 1) := by decide +kernel
theorem dX0_isRough_6 : decode cX0_isRough 6 = .ok (.goto 4, 3) := by decide +kernel
theorem dX0_isRough_9 : decode cX0_isRough 9 = .ok (.iconst 0, 1) := by decide +kernel
theorem dX0_isRough_10 : decode cX0_isRough 10 = .ok (.ireturn, 1) := by decide +kernel
set_option maxRecDepth 20000 in
theorem ggX0_levelFor_X0_isRough : GoodIn wsX0_levelFor wsX0_isRough := goodIn_r _ [5] (by decide +kernel) (by decide +kernel)
set_option maxRecDepth 20000 in
theorem gX0_levelFor_X0_isRough : GoodIn wsX0_levelFor (va_wsS RX0 103 yX0_isRough wsX0_isRough) := goodIn_app (goodIn_of _ (by decide +kernel)) ggX0_levelFor_X0_isRough
set_option maxRecDepth 20000 in
theorem ggX0_levelFor_X0_levelSpot : GoodIn wsX0_levelFor wsX0_levelSpot := goodIn_r _ [8] (by decide +kernel) (by decide +kernel)
set_option maxRecDepth 20000 in
theorem gX0_levelFor_X0_levelSpot : GoodIn wsX0_levelFor (va_wsS RX0 51 yX0_levelSpot wsX0_levelSpot) := goodIn_app (goodIn_of _ (by decide +kernel)) ggX0_levelFor_X0_levelSpot
theorem dX0_levelFor_0 : decode cX0_levelFor 0 = .ok (.aload_n 0, 1) := by decide +kernel
theorem dX0_levelFor_1 : decode cX0_levelFor 1 = .ok (.getfield 13, 3) := by decide +kernel
theorem dX0_levelFor_4 : decode cX0_levelFor 4 = .ok (.iload_n 1, 1) := by decide +kernel
theorem dX0_levelFor_5 : decode cX0_levelFor 5 = .ok (.iload_n 2, 1) := by decide +kernel
theorem dX0_levelFor_6 : decode cX0_levelFor 6 = .ok (.invokestatic 103, 3) := by decide +kernel
theorem dX0_levelFor_9 : decode cX0_levelFor 9 = .ok (.invokestatic 51, 3) := by decide +kernel
theorem dX0_levelFor_12 : decode cX0_levelFor 12 = .ok (.iaload, 1) := by decide +kernel
theorem dX0_levelFor_13 : decode cX0_levelFor 13 = .ok (.ireturn, 1) := by decide +kernel
theorem dX0_needRow_0 : decode cX0_needRow 0 = .ok (.iload_n 0, 1) := by decide +kernel
theorem dX0_needRow_1 : decode cX0_needRow 1 = .ok (.ifCond .lt 9, 3) := by decide +kernel
theorem dX0_needRow_4 : decode cX0_needRow 4 = .ok (.iload_n 0, 1) := by decide +kernel
theorem dX0_needRow_5 : decode cX0_needRow 5 = .ok (.bipush 8, 2) := by decide +kernel
theorem dX0_needRow_7 : decode cX0_needRow 7 = .ok (.if_icmp .lt 13, 3) := by decide +kernel
theorem dX0_needRow_10 : decode cX0_needRow 10 = .ok (.new 107, 3) := by decide +kernel
theorem dX0_needRow_13 : decode cX0_needRow 13 = .ok (.dup, 1) := by decide +kernel
theorem dX0_needRow_14 : decode cX0_needRow 14 = .ok (.ldc 109, 2) := by decide +kernel
theorem dX0_needRow_16 : decode cX0_needRow 16 = .ok (.invokespecial 111, 3) := by decide +kernel
theorem dX0_needRow_19 : decode cX0_needRow 19 = .ok (.athrow, 1) := by decide +kernel
theorem dX0_needRow_20 : decode cX0_needRow 20 = .ok (.return_, 1) := by decide +kernel
theorem dX0_needPlace_0 : decode cX0_needPlace 0 = .ok (.iload_n 0, 1) := by decide +kernel
theorem dX0_needPlace_1 : decode cX0_needPlace 1 = .ok (.ifCond .lt 9, 3) := by decide +kernel
theorem dX0_needPlace_4 : decode cX0_needPlace 4 = .ok (.iload_n 0, 1) := by decide +kernel
theorem dX0_needPlace_5 : decode cX0_needPlace 5 = .ok (.bipush 12, 2) := by decide +kernel
theorem dX0_needPlace_7 : decode cX0_needPlace 7 = .ok (.if_icmp .lt 13, 3) := by decide +kernel
theorem dX0_needPlace_10 : decode cX0_needPlace 10 = .ok (.new 107, 3) := by decide +kernel
theorem dX0_needPlace_13 : decode cX0_needPlace 13 = .ok (.dup, 1) := by decide +kernel
theorem dX0_needPlace_14 : decode cX0_needPlace 14 = .ok (.ldc 112, 2) := by decide +kernel
theorem dX0_needPlace_16 : decode cX0_needPlace 16 = .ok (.invokespecial 111, 3) := by decide +kernel
theorem dX0_needPlace_19 : decode cX0_needPlace 19 = .ok (.athrow, 1) := by decide +kernel
theorem dX0_needPlace_20 : decode cX0_needPlace 20 = .ok (.return_, 1) := by decide +kernel
theorem dX0_needGate_0 : decode cX0_needGate 0 = .ok (.iload_n 0, 1) := by decide +kernel
theorem dX0_needGate_1 : decode cX0_needGate 1 = .ok (.ifCond .lt 8, 3) := by decide +kernel
theorem dX0_needGate_4 : decode cX0_needGate 4 = .ok (.iload_n 0, 1) := by decide +kernel
theorem dX0_needGate_5 : decode cX0_needGate 5 = .ok (.iconst 4, 1) := by decide +kernel
theorem dX0_needGate_6 : decode cX0_needGate 6 = .ok (.if_icmp .lt 13, 3) := by decide +kernel
theorem dX0_needGate_9 : decode cX0_needGate 9 = .ok (.new 107, 3) := by decide +kernel
theorem dX0_needGate_12 : decode cX0_needGate 12 = .ok (.dup, 1) := by decide +kernel
theorem dX0_needGate_13 : decode cX0_needGate 13 = .ok (.ldc 114, 2) := by decide +kernel
theorem dX0_needGate_15 : decode cX0_needGate 15 = .ok (.invokespecial 111, 3) := by decide +kernel
theorem dX0_needGate_18 : decode cX0_needGate 18 = .ok (.athrow, 1) := by decide +kernel
theorem dX0_needGate_19 : decode cX0_needGate 19 = .ok (.return_, 1) := by decide +kernel
theorem dX0_needSign_0 : decode cX0_needSign 0 = .ok (.iload_n 0, 1) := by decide +kernel
theorem dX0_needSign_1 : decode cX0_needSign 1 = .ok (.ifCond .lt 8, 3) := by decide +kernel
theorem dX0_needSign_4 : decode cX0_needSign 4 = .ok (.iload_n 0, 1) := by decide +kernel
theorem dX0_needSign_5 : decode cX0_needSign 5 = .ok (.iconst 5, 1) := by decide +kernel
theorem dX0_needSign_6 : decode cX0_needSign 6 = .ok (.if_icmp .le 13, 3) := by decide +kernel
theorem dX0_needSign_9 : decode cX0_needSign 9 = .ok (.new 116, 3) := by decide +kernel
theorem dX0_needSign_12 : decode cX0_needSign 12 = .ok (.dup, 1) := by decide +kernel
theorem dX0_needSign_13 : decode cX0_needSign 13 = .ok (.ldc 118, 2) := by decide +kernel
theorem dX0_needSign_15 : decode cX0_needSign 15 = .ok (.invokespecial 120, 3) := by decide +kernel
theorem dX0_needSign_18 : decode cX0_needSign 18 = .ok (.athrow, 1) := by decide +kernel
theorem dX0_needSign_19 : decode cX0_needSign 19 = .ok (.return_, 1) := by decide +kernel
theorem dX0_needNumber_0 : decode cX0_needNumber 0 = .ok (.iload_n 0, 1) := by decide +kernel
theorem dX0_needNumber_1 : decode cX0_needNumber 1 = .ok (.ldc 23, 2) := by decide +kernel
theorem dX0_needNumber_3 : decode cX0_needNumber 3 = .ok (.if_icmp .eq 25, 3) := by decide +kernel
theorem dX0_needNumber_6 : decode cX0_needNumber 6 = .ok (.iload_n 0, 1) := by decide +kernel
theorem dX0_needNumber_7 : decode cX0_needNumber 7 = .ok (.ldc 121, 2) := by decide +kernel
theorem dX0_needNumber_9 : decode cX0_needNumber 9 = .ok (.if_icmp .lt 9, 3) := by decide +kernel
theorem dX0_needNumber_12 : decode cX0_needNumber 12 = .ok (.iload_n 0, 1) := by decide +kernel
theorem dX0_needNumber_13 : decode cX0_needNumber 13 = .ok (.ldc 122, 2) := by decide +kernel
theorem dX0_needNumber_15 : decode cX0_needNumber 15 = .ok (.if_icmp .le 13, 3) := by decide +kernel
theorem dX0_needNumber_18 : decode cX0_needNumber 18 = .ok (.new 116, 3) := by decide +kernel
theorem dX0_needNumber_21 : decode cX0_needNumber 21 = .ok (.dup, 1) := by decide +kernel
theorem dX0_needNumber_22 : decode cX0_needNumber 22 = .ok (.ldc 123, 2) := by decide +kernel
theorem dX0_needNumber_24 : decode cX0_needNumber 24 = .ok (.invokespecial 120, 3) := by decide +kernel
theorem dX0_needNumber_27 : decode cX0_needNumber 27 = .ok (.athrow, 1) := by decide +kernel
theorem dX0_needNumber_28 : decode cX0_needNumber 28 = .ok (.return_, 1) := by decide +kernel
set_option maxRecDepth 20000 in
theorem ggX0_needOneSort_X0_isRough : GoodIn wsX0_needOneSort wsX0_isRough := goodIn_r _ [6] (by decide +kernel) (by decide +kernel)
set_option maxRecDepth 20000 in
theorem gX0_needOneSort_X0_isRough : GoodIn wsX0_needOneSort (va_wsS RX0 103 yX0_isRough wsX0_isRough) := goodIn_app (goodIn_of _ (by decide +kernel)) ggX0_needOneSort_X0_isRough
theorem dX0_needOneSort_0 : decode cX0_needOneSort 0 = .ok (.iload_n 0, 1) := by decide +kernel
theorem dX0_needOneSort_1 : decode cX0_needOneSort 1 = .ok (.invokestatic 103, 3) := by decide +kernel
theorem dX0_needOneSort_4 : decode cX0_needOneSort 4 = .ok (.iload_n 1, 1) := by decide +kernel
theorem dX0_needOneSort_5 : decode cX0_needOneSort 5 = .ok (.invokestatic 103, 3) := by decide +kernel
theorem dX0_needOneSort_8 : decode cX0_needOneSort 8 = .ok (.if_icmp .eq 13, 3) := by decide +kernel
theorem dX0_needOneSort_11 : decode cX0_needOneSort 11 = .ok (.new 116, 3) := by decide +kernel
theorem dX0_needOneSort_14 : decode cX0_needOneSort 14 = .ok (.dup, 1) := by decide +kernel
theorem dX0_needOneSort_15 : decode cX0_needOneSort 15 = .ok (.ldc 125, 2) := by decide +kernel
theorem dX0_needOneSort_17 : decode cX0_needOneSort 17 = .ok (.invokespecial 120, 3) := by decide +kernel
theorem dX0_needOneSort_20 : decode cX0_needOneSort 20 = .ok (.athrow, 1) := by decide +kernel
theorem dX0_needOneSort_21 : decode cX0_needOneSort 21 = .ok (.return_, 1) := by decide +kernel
theorem dX0_needApart_0 : decode cX0_needApart 0 = .ok (.iload_n 0, 1) := by decide +kernel
theorem dX0_needApart_1 : decode cX0_needApart 1 = .ok (.iload_n 1, 1) := by decide +kernel
theorem dX0_needApart_2 : decode cX0_needApart 2 = .ok (.if_icmp .ne 13, 3) := by decide +kernel
theorem dX0_needApart_5 : decode cX0_needApart 5 = .ok (.new 116, 3) := by decide +kernel
theorem dX0_needApart_8 : decode cX0_needApart 8 = .ok (.dup, 1) := by decide +kernel
theorem dX0_needApart_9 : decode cX0_needApart 9 = .ok (.ldc 127, 2) := by decide +kernel
theorem dX0_needApart_11 : decode cX0_needApart 11 = .ok (.invokespecial 120, 3) := by decide +kernel
theorem dX0_needApart_14 : decode cX0_needApart 14 = .ok (.athrow, 1) := by decide +kernel
theorem dX0_needApart_15 : decode cX0_needApart 15 = .ok (.return_, 1) := by decide +kernel
end
section
theorem dX1_init_0 : decode cX1_init 0 = .ok (.aload_n 0, 1) := by decide +kernel
theorem dX1_init_1 : decode cX1_init 1 = .ok (.invokespecial 1, 3) := by decide +kernel
theorem dX1_init_4 : decode cX1_init 4 = .ok (.aload_n 0, 1) := by decide +kernel
theorem dX1_init_5 : decode cX1_init 5 = .ok (.bipush 96, 2) := by decide +kernel
theorem dX1_init_7 : decode cX1_init 7 = .ok (.newarray .int, 2) := by decide +kernel
theorem dX1_init_9 : decode cX1_init 9 = .ok (.putfield 7, 3) := by decide +kernel
theorem dX1_init_12 : decode cX1_init 12 = .ok (.aload_n 0, 1) := by decide +kernel
theorem dX1_init_13 : decode cX1_init 13 = .ok (.bipush 8, 2) := by decide +kernel
theorem dX1_init_15 : decode cX1_init 15 = .ok (.newarray .int, 2) := by decide +kernel
theorem dX1_init_17 : decode cX1_init 17 = .ok (.putfield 13, 3) := by decide +kernel
theorem dX1_init_20 : decode cX1_init 20 = .ok (.aload_n 0, 1) := by decide +kernel
theorem dX1_init_21 : decode cX1_init 21 = .ok (.iconst 4, 1) := by decide +kernel
theorem dX1_init_22 : decode cX1_init 22 = .ok (.newarray .boolean, 2) := by decide +kernel
theorem dX1_init_24 : decode cX1_init 24 = .ok (.putfield 16, 3) := by decide +kernel
theorem dX1_init_27 : decode cX1_init 27 = .ok (.aload_n 0, 1) := by decide +kernel
theorem dX1_init_28 : decode cX1_init 28 = .ok (.bipush 8, 2) := by decide +kernel
theorem dX1_init_30 : decode cX1_init 30 = .ok (.newarray .int, 2) := by decide +kernel
theorem dX1_init_32 : decode cX1_init 32 = .ok (.putfield 20, 3) := by decide +kernel
theorem dX1_init_35 : decode cX1_init 35 = .ok (.iconst 0, 1) := by decide +kernel
theorem dX1_init_36 : decode cX1_init 36 = .ok (.istore_n 1, 1) := by decide +kernel
theorem dX1_init_37 : decode cX1_init 37 = .ok (.iload_n 1, 1) := by decide +kernel
theorem dX1_init_38 : decode cX1_init 38 = .ok (.bipush 96, 2) := by decide +kernel
theorem dX1_init_40 : decode cX1_init 40 = .ok (.if_icmp .ge 17, 3) := by decide +kernel
theorem dX1_init_43 : decode cX1_init 43 = .ok (.aload_n 0, 1) := by decide +kernel
theorem dX1_init_44 : decode cX1_init 44 = .ok (.getfield 7, 3) := by decide +kernel
theorem dX1_init_47 : decode cX1_init 47 = .ok (.iload_n 1, 1) := by decide +kernel
theorem dX1_init_48 : decode cX1_init 48 = .ok (.ldc 23, 2) := by decide +kernel
theorem dX1_init_50 : decode cX1_init 50 = .ok (.iastore, 1) := by decide +kernel
theorem dX1_init_51 : decode cX1_init 51 = .ok (.iinc 1 1, 3) := by decide +kernel
theorem dX1_init_54 : decode cX1_init 54 = .ok (.goto (-17), 3) := by decide +kernel
theorem dX1_init_57 : decode cX1_init 57 = .ok (.iconst 0, 1) := by decide +kernel
theorem dX1_init_58 : decode cX1_init 58 = .ok (.istore_n 1, 1) := by decide +kernel
theorem dX1_init_59 : decode cX1_init 59 = .ok (.iload_n 1, 1) := by decide +kernel
theorem dX1_init_60 : decode cX1_init 60 = .ok (.bipush 8, 2) := by decide +kernel
theorem dX1_init_62 : decode cX1_init 62 = .ok (.if_icmp .ge 17, 3) := by decide +kernel
theorem dX1_init_65 : decode cX1_init 65 = .ok (.aload_n 0, 1) := by decide +kernel
theorem dX1_init_66 : decode cX1_init 66 = .ok (.getfield 13, 3) := by decide +kernel
theorem dX1_init_69 : decode cX1_init 69 = .ok (.iload_n 1, 1) := by decide +kernel
theorem dX1_init_70 : decode cX1_init 70 = .ok (.ldc 23, 2) := by decide +kernel
theorem dX1_init_72 : decode cX1_init 72 = .ok (.iastore, 1) := by decide +kernel
theorem dX1_init_73 : decode cX1_init 73 = .ok (.iinc 1 1, 3) := by decide +kernel
theorem dX1_init_76 : decode cX1_init 76 = .ok (.goto (-17), 3) := by decide +kernel
theorem dX1_init_79 : decode cX1_init 79 = .ok (.return_, 1) := by decide +kernel
theorem dX1_isTrue_0 : decode cX1_isTrue 0 = .ok (.iload_n 1, 1) := by decide +kernel
theorem dX1_isTrue_1 : decode cX1_isTrue 1 = .ok (.ldc 23, 2) := by decide +kernel
theorem dX1_isTrue_3 : decode cX1_isTrue 3 = .ok (.if_icmp .eq 9, 3) := by decide +kernel
theorem dX1_isTrue_6 : decode cX1_isTrue 6 = .ok (.iload_n 2, 1) := by decide +kernel
theorem dX1_isTrue_7 : decode cX1_isTrue 7 = .ok (.ldc 23, 2) := by decide +kernel
theorem dX1_isTrue_9 : decode cX1_isTrue 9 = .ok (.if_icmp .ne 14, 3) := by decide +kernel
theorem dX1_isTrue_12 : decode cX1_isTrue 12 = .ok (.iload_n 0, 1) := by decide +kernel
theorem dX1_isTrue_13 : decode cX1_isTrue 13 = .ok (.iconst 5, 1) := by decide +kernel
theorem dX1_isTrue_14 : decode cX1_isTrue 14 = .ok (.if_icmp .ne 7, 3) := by decide +kernel
theorem dX1_isTrue_17 : decode cX1_isTrue 17 = .ok (.iconst 1, 1) := by decide +kernel
theorem dX1_isTrue_18 : decode cX1_isTrue 18 = .ok (.goto 4, 3) := by decide +kernel
theorem dX1_isTrue_21 : decode cX1_isTrue 21 = .ok (.iconst 0, 1) := by decide +kernel
theorem dX1_isTrue_22 : decode cX1_isTrue 22 = .ok (.ireturn, 1) := by decide +kernel
theorem dX1_isTrue_23 : decode cX1_isTrue 23 = .ok (.iload_n 0, 1) := by decide +kernel
theorem dX1_isTrue_24 : decode cX1_isTrue 24 = .ok (.tableswitch 91 0 4 #[36, 47, 58, 69, 80], 36) := by decide +kernel
theorem dX1_isTrue_60 : decode cX1_isTrue 60 = .ok (.iload_n 1, 1) := by decide +kernel
theorem dX1_isTrue_61 : decode cX1_isTrue 61 = .ok (.iload_n 2, 1) := by decide +kernel
theorem dX1_isTrue_62 : decode cX1_isTrue 62 = .ok (.if_icmp .ge 7, 3) := by decide +kernel
theorem dX1_isTrue_65 : decode cX1_isTrue 65 = .ok (.iconst 1, 1) := by decide +kernel
theorem dX1_isTrue_66 : decode cX1_isTrue 66 = .ok (.goto 4, 3) := by decide +kernel
theorem dX1_isTrue_69 : decode cX1_isTrue 69 = .ok (.iconst 0, 1) := by decide +kernel
theorem dX1_isTrue_70 : decode cX1_isTrue 70 = .ok (.ireturn, 1) := by decide +kernel
theorem dX1_isTrue_71 : decode cX1_isTrue 71 = .ok (.iload_n 1, 1) := by decide +kernel
theorem dX1_isTrue_72 : decode cX1_isTrue 72 = .ok (.iload_n 2, 1) := by decide +kernel
theorem dX1_isTrue_73 : decode cX1_isTrue 73 = .ok (.if_icmp .gt 7, 3) := by decide +kernel
theorem dX1_isTrue_76 : decode cX1_isTrue 76 = .ok (.iconst 1, 1) := by decide +kernel
theorem dX1_isTrue_77 : decode cX1_isTrue 77 = .ok (.goto 4, 3) := by decide +kernel
theorem dX1_isTrue_80 : decode cX1_isTrue 80 = .ok (.iconst 0, 1) := by decide +kernel
theorem dX1_isTrue_81 : decode cX1_isTrue 81 = .ok (.ireturn, 1) := by decide +kernel
theorem dX1_isTrue_82 : decode cX1_isTrue 82 = .ok (.iload_n 1, 1) := by decide +kernel
theorem dX1_isTrue_83 : decode cX1_isTrue 83 = .ok (.iload_n 2, 1) := by decide +kernel
theorem dX1_isTrue_84 : decode cX1_isTrue 84 = .ok (.if_icmp .le 7, 3) := by decide +kernel
theorem dX1_isTrue_87 : decode cX1_isTrue 87 = .ok (.iconst 1, 1) := by decide +kernel
theorem dX1_isTrue_88 : decode cX1_isTrue 88 = .ok (.goto 4, 3) := by decide +kernel
theorem dX1_isTrue_91 : decode cX1_isTrue 91 = .ok (.iconst 0, 1) := by decide +kernel
theorem dX1_isTrue_92 : decode cX1_isTrue 92 = .ok (.ireturn, 1) := by decide +kernel
theorem dX1_isTrue_93 : decode cX1_isTrue 93 = .ok (.iload_n 1, 1) := by decide +kernel
theorem dX1_isTrue_94 : decode cX1_isTrue 94 = .ok (.iload_n 2, 1) := by decide +kernel
theorem dX1_isTrue_95 : decode cX1_isTrue 95 = .ok (.if_icmp .lt 7, 3) := by decide +kernel
theorem dX1_isTrue_98 : decode cX1_isTrue 98 = .ok (.iconst 1, 1) := by decide +kernel
theorem dX1_isTrue_99 : decode cX1_isTrue 99 = .ok (.goto 4, 3) := by decide +kernel
theorem dX1_isTrue_102 : decode cX1_isTrue 102 = .ok (.iconst 0, 1) := by decide +kernel
theorem dX1_isTrue_103 : decode cX1_isTrue 103 = .ok (.ireturn, 1) := by decide +kernel
theorem dX1_isTrue_104 : decode cX1_isTrue 104 = .ok (.iload_n 1, 1) := by decide +kernel
theorem dX1_isTrue_105 : decode cX1_isTrue 105 = .ok (.iload_n 2, 1) := by decide +kernel
theorem dX1_isTrue_106 : decode cX1_isTrue 106 = .ok (.if_icmp .ne 7, 3) := by decide +kernel
theorem dX1_isTrue_109 : decode cX1_isTrue 109 = .ok (.iconst 1, 1) := by decide +kernel
theorem dX1_isTrue_110 : decode cX1_isTrue 110 = .ok (.goto 4, 3) := by decide +kernel
theorem dX1_isTrue_113 : decode cX1_isTrue 113 = .ok (.iconst 0, 1) := by decide +kernel
theorem dX1_isTrue_114 : decode cX1_isTrue 114 = .ok (.ireturn, 1) := by decide +kernel
theorem dX1_isTrue_115 : decode cX1_isTrue 115 = .ok (.iload_n 1, 1) := by decide +kernel
theorem dX1_isTrue_116 : decode cX1_isTrue 116 = .ok (.iload_n 2, 1) := by decide +kernel
theorem dX1_isTrue_117 : decode cX1_isTrue 117 = .ok (.if_icmp .eq 7, 3) := by decide +kernel
theorem dX1_isTrue_120 : decode cX1_isTrue 120 = .ok (.iconst 1, 1) := by decide +kernel
theorem dX1_isTrue_121 : decode cX1_isTrue 121 = .ok (.goto 4, 3) := by decide +kernel
theorem dX1_isTrue_124 : decode cX1_isTrue 124 = .ok (.iconst 0, 1) := by decide +kernel
theorem dX1_isTrue_125 : decode cX1_isTrue 125 = .ok (.ireturn, 1) := by decide +kernel
theorem dX1_isRow_0 : decode cX1_isRow 0 = .ok (.iload_n 0, 1) := by decide +kernel
theorem dX1_isRow_1 : decode cX1_isRow 1 = .ok (.ifCond .lt 13, 3) := by decide +kernel
theorem dX1_isRow_4 : decode cX1_isRow 4 = .ok (.iload_n 0, 1) := by decide +kernel
theorem dX1_isRow_5 : decode cX1_isRow 5 = .ok (.bipush 8, 2) := by decide +kernel
theorem dX1_isRow_7 : decode cX1_isRow 7 = .ok (.if_icmp .ge 7, 3) := by decide +kernel
theorem dX1_isRow_10 : decode cX1_isRow 10 = .ok (.iconst 1, 1) := by decide +kernel
theorem dX1_isRow_11 : decode cX1_isRow 11 = .ok (.goto 4, 3) := by decide +kernel
theorem dX1_isRow_14 : decode cX1_isRow 14 = .ok (.iconst 0, 1) := by decide +kernel
theorem dX1_isRow_15 : decode cX1_isRow 15 = .ok (.ireturn, 1) := by decide +kernel
theorem dX1_isPlace_0 : decode cX1_isPlace 0 = .ok (.iload_n 0, 1) := by decide +kernel
theorem dX1_isPlace_1 : decode cX1_isPlace 1 = .ok (.ifCond .lt 13, 3) := by decide +kernel
theorem dX1_isPlace_4 : decode cX1_isPlace 4 = .ok (.iload_n 0, 1) := by decide +kernel
theorem dX1_isPlace_5 : decode cX1_isPlace 5 = .ok (.bipush 12, 2) := by decide +kernel
theorem dX1_isPlace_7 : decode cX1_isPlace 7 = .ok (.if_icmp .ge 7, 3) := by decide +kernel
theorem dX1_isPlace_10 : decode cX1_isPlace 10 = .ok (.iconst 1, 1) := by decide +kernel
theorem dX1_isPlace_11 : decode cX1_isPlace 11 = .ok (.goto 4, 3) := by decide +kernel
theorem dX1_isPlace_14 : decode cX1_isPlace 14 = .ok (.iconst 0, 1) := by decide +kernel
theorem dX1_isPlace_15 : decode cX1_isPlace 15 = .ok (.ireturn, 1) := by decide +kernel
theorem dX1_isGate_0 : decode cX1_isGate 0 = .ok (.iload_n 0, 1) := by decide +kernel
theorem dX1_isGate_1 : decode cX1_isGate 1 = .ok (.ifCond .lt 12, 3) := by decide +kernel
theorem dX1_isGate_4 : decode cX1_isGate 4 = .ok (.iload_n 0, 1) := by decide +kernel
theorem dX1_isGate_5 : decode cX1_isGate 5 = .ok (.iconst 4, 1) := by decide +kernel
theorem dX1_isGate_6 : decode cX1_isGate 6 = .ok (.if_icmp .ge 7, 3) := by decide +kernel
theorem dX1_isGate_9 : decode cX1_isGate 9 = .ok (.iconst 1, 1) := by decide +kernel
theorem dX1_isGate_10 : decode cX1_isGate 10 = .ok (.goto 4, 3) := by decide +kernel
theorem dX1_isGate_13 : decode cX1_isGate 13 = .ok (.iconst 0, 1) := by decide +kernel
theorem dX1_isGate_14 : decode cX1_isGate 14 = .ok (.ireturn, 1) := by decide +kernel
theorem dX1_isNumber_0 : decode cX1_isNumber 0 = .ok (.iload_n 0, 1) := by decide +kernel
theorem dX1_isNumber_1 : decode cX1_isNumber 1 = .ok (.ldc 23, 2) := by decide +kernel
theorem dX1_isNumber_3 : decode cX1_isNumber 3 = .ok (.if_icmp .eq 15, 3) := by decide +kernel
theorem dX1_isNumber_6 : decode cX1_isNumber 6 = .ok (.iload_n 0, 1) := by decide +kernel
theorem dX1_isNumber_7 : decode cX1_isNumber 7 = .ok (.ldc 24, 2) := by decide +kernel
theorem dX1_isNumber_9 : decode cX1_isNumber 9 = .ok (.if_icmp .lt 13, 3) := by decide +kernel
theorem dX1_isNumber_12 : decode cX1_isNumber 12 = .ok (.iload_n 0, 1) := by decide +kernel
theorem dX1_isNumber_13 : decode cX1_isNumber 13 = .ok (.ldc 25, 2) := by decide +kernel
theorem dX1_isNumber_15 : decode cX1_isNumber 15 = .ok (.if_icmp .gt 7, 3) := by decide +kernel
theorem dX1_isNumber_18 : decode cX1_isNumber 18 = .ok (.iconst 1, 1) := by decide +kernel
theorem dX1_isNumber_19 : decode cX1_isNumber 19 = .ok (.goto 4, 3) := by decide +kernel
theorem dX1_isNumber_22 : decode cX1_isNumber 22 = .ok (.iconst 0, 1) := by decide +kernel
theorem dX1_isNumber_23 : decode cX1_isNumber 23 = .ok (.ireturn, 1) := by decide +kernel
theorem dX1_isSign_0 : decode cX1_isSign 0 = .ok (.iload_n 0, 1) := by decide +kernel
theorem dX1_isSign_1 : decode cX1_isSign 1 = .ok (.ifCond .lt 12, 3) := by decide +kernel
theorem dX1_isSign_4 : decode cX1_isSign 4 = .ok (.iload_n 0, 1) := by decide +kernel
theorem dX1_isSign_5 : decode cX1_isSign 5 = .ok (.iconst 5, 1) := by decide +kernel
theorem dX1_isSign_6 : decode cX1_isSign 6 = .ok (.if_icmp .gt 7, 3) := by decide +kernel
theorem dX1_isSign_9 : decode cX1_isSign 9 = .ok (.iconst 1, 1) := by decide +kernel
theorem dX1_isSign_10 : decode cX1_isSign 10 = .ok (.goto 4, 3) := by decide +kernel
theorem dX1_isSign_13 : decode cX1_isSign 13 = .ok (.iconst 0, 1) := by decide +kernel
theorem dX1_isSign_14 : decode cX1_isSign 14 = .ok (.ireturn, 1) := by decide +kernel
theorem dX1_areOneSort_0 : decode cX1_areOneSort 0 = .ok (.iload_n 0, 1) := by decide +kernel
theorem dX1_areOneSort_1 : decode cX1_areOneSort 1 = .ok (.iconst 4, 1) := by decide +kernel
theorem dX1_areOneSort_2 : decode cX1_areOneSort 2 = .ok (.idiv, 1) := by decide +kernel
theorem dX1_areOneSort_3 : decode cX1_areOneSort 3 = .ok (.iload_n 1, 1) := by decide +kernel
theorem dX1_areOneSort_4 : decode cX1_areOneSort 4 = .ok (.iconst 4, 1) := by decide +kernel
theorem dX1_areOneSort_5 : decode cX1_areOneSort 5 = .ok (.idiv, 1) := by decide +kernel
theorem dX1_areOneSort_6 : decode cX1_areOneSort 6 = .ok (.if_icmp .ne 7, 3) := by decide +kernel
theorem dX1_areOneSort_9 : decode cX1_areOneSort 9 = .ok (.iconst 1, 1) := by decide +kernel
theorem dX1_areOneSort_10 : decode cX1_areOneSort 10 = .ok (.goto 4, 3) := by decide +kernel
theorem dX1_areOneSort_13 : decode cX1_areOneSort 13 = .ok (.iconst 0, 1) := by decide +kernel
theorem dX1_areOneSort_14 : decode cX1_areOneSort 14 = .ok (.ireturn, 1) := by decide +kernel
theorem dX1_may_0 : decode cX1_may 0 = .ok (.aload_n 0, 1) := by decide +kernel
theorem dX1_may_1 : decode cX1_may 1 = .ok (.iload_n 1, 1) := by decide +kernel
theorem dX1_may_2 : decode cX1_may 2 = .ok (.ifCond .eq 15, 3) := by decide +kernel
theorem dX1_may_5 : decode cX1_may 5 = .ok (.iload_n 2, 1) := by decide +kernel
theorem dX1_may_6 : decode cX1_may 6 = .ok (.ifCond .eq 7, 3) := by decide +kernel
theorem dX1_may_9 : decode cX1_may 9 = .ok (.iconst 0, 1) := by decide +kernel
theorem dX1_may_10 : decode cX1_may 10 = .ok (.goto 8, 3) := by decide +kernel
theorem dX1_may_13 : decode cX1_may 13 = .ok (.iconst 2, 1) := by decide +kernel
theorem dX1_may_14 : decode cX1_may 14 = .ok (.goto 4, 3) := by decide +kernel
theorem dX1_may_17 : decode cX1_may 17 = .ok (.iconst 1, 1) := by decide +kernel
theorem dX1_may_18 : decode cX1_may 18 = .ok (.putfield 26, 3) := by decide +kernel
theorem dX1_may_21 : decode cX1_may 21 = .ok (.aload_n 0, 1) := by decide +kernel
theorem dX1_may_22 : decode cX1_may 22 = .ok (.getfield 26, 3) := by decide +kernel
theorem dX1_may_25 : decode cX1_may 25 = .ok (.ifCond .ne 7, 3) := by decide +kernel
theorem dX1_may_28 : decode cX1_may 28 = .ok (.iconst 1, 1) := by decide +kernel
theorem dX1_may_29 : decode cX1_may 29 = .ok (.goto 4, 3) := by decide +kernel
theorem dX1_may_32 : decode cX1_may 32 = .ok (.iconst 0, 1) := by decide +kernel
theorem dX1_may_33 : decode cX1_may 33 = .ok (.ireturn, 1) := by decide +kernel
theorem dX1_thrown_0 : decode cX1_thrown 0 = .ok (.aload_n 0, 1) := by decide +kernel
theorem dX1_thrown_1 : decode cX1_thrown 1 = .ok (.getfield 26, 3) := by decide +kernel
theorem dX1_thrown_4 : decode cX1_thrown 4 = .ok (.ireturn, 1) := by decide +kernel
theorem dX1_at_0 : decode cX1_at 0 = .ok (.aload_n 0, 1) := by decide +kernel
theorem dX1_at_1 : decode cX1_at 1 = .ok (.getfield 7, 3) := by decide +kernel
theorem dX1_at_4 : decode cX1_at 4 = .ok (.bipush 12, 2) := by decide +kernel
theorem dX1_at_6 : decode cX1_at 6 = .ok (.iload_n 1, 1) := by decide +kernel
theorem dX1_at_7 : decode cX1_at 7 = .ok (.imul, 1) := by decide +kernel
theorem dX1_at_8 : decode cX1_at 8 = .ok (.iload_n 2, 1) := by decide +kernel
theorem dX1_at_9 : decode cX1_at 9 = .ok (.iadd, 1) := by decide +kernel
theorem dX1_at_10 : decode cX1_at 10 = .ok (.iaload, 1) := by decide +kernel
theorem dX1_at_11 : decode cX1_at 11 = .ok (.ireturn, 1) := by decide +kernel
theorem dX1_levelFor_0 : decode cX1_levelFor 0 = .ok (.aload_n 0, 1) := by decide +kernel
theorem dX1_levelFor_1 : decode cX1_levelFor 1 = .ok (.getfield 13, 3) := by decide +kernel
theorem dX1_levelFor_4 : decode cX1_levelFor 4 = .ok (.iconst 2, 1) := by decide +kernel
theorem dX1_levelFor_5 : decode cX1_levelFor 5 = .ok (.iload_n 1, 1) := by decide +kernel
theorem dX1_levelFor_6 : decode cX1_levelFor 6 = .ok (.imul, 1) := by decide +kernel
theorem dX1_levelFor_7 : decode cX1_levelFor 7 = .ok (.iload_n 2, 1) := by decide +kernel
theorem dX1_levelFor_8 : decode cX1_levelFor 8 = .ok (.iconst 4, 1) := by decide +kernel
theorem dX1_levelFor_9 : decode cX1_levelFor 9 = .ok (.idiv, 1) := by decide +kernel
theorem dX1_levelFor_10 : decode cX1_levelFor 10 = .ok (.iadd, 1) := by decide +kernel
theorem dX1_levelFor_11 : decode cX1_levelFor 11 = .ok (.iaload, 1) := by decide +kernel
theorem dX1_levelFor_12 : decode cX1_levelFor 12 = .ok (.ireturn, 1) := by decide +kernel
set_option maxRecDepth 20000 in
theorem ggX1_put_X1_isRow : GoodIn wsX1_put wsX1_isRow := goodIn_r _ [5] (by decide +kernel) (by decide +kernel)
set_option maxRecDepth 20000 in
theorem gX1_put_X1_isRow : GoodIn wsX1_put (va_wsS RX1 30 yX1_isRow wsX1_isRow) := goodIn_app (goodIn_of _ (by decide +kernel)) ggX1_put_X1_isRow
set_option maxRecDepth 20000 in
theorem ggX1_put_X1_isPlace : GoodIn wsX1_put wsX1_isPlace := goodIn_r _ [8] (by decide +kernel) (by decide +kernel)
set_option maxRecDepth 20000 in
theorem gX1_put_X1_isPlace : GoodIn wsX1_put (va_wsS RX1 34 yX1_isPlace wsX1_isPlace) := goodIn_app (goodIn_of _ (by decide +kernel)) ggX1_put_X1_isPlace
set_option maxRecDepth 20000 in
theorem ggX1_put_X1_isNumber : GoodIn wsX1_put wsX1_isNumber := goodIn_r _ [11, 12, 13, 14] (by decide +kernel) (by decide +kernel)
set_option maxRecDepth 20000 in
theorem gX1_put_X1_isNumber : GoodIn wsX1_put (va_wsS RX1 37 yX1_isNumber wsX1_isNumber) := goodIn_app (goodIn_of _ (by decide +kernel)) ggX1_put_X1_isNumber
set_option maxRecDepth 20000 in
theorem ggX1_put_X1_may : GoodIn wsX1_put wsX1_may := goodIn_r _ [18, 19, 24, 25, 26, 27, 28] (by decide +kernel) (by decide +kernel)
set_option maxRecDepth 20000 in
theorem gX1_put_X1_may : GoodIn wsX1_put (wsV RX1 40 RX1 yX1_may wsX1_may) := goodIn_app (goodIn_of _ (by decide +kernel)) ggX1_put_X1_may
set_option maxRecDepth 20000 in
theorem ggX1_put_X1_at : GoodIn wsX1_put wsX1_at := goodIn_r _ [23, 1, 24, 25, 26, 27, 28] (by decide +kernel) (by decide +kernel)
set_option maxRecDepth 20000 in
theorem gX1_put_X1_at : GoodIn wsX1_put (wsV RX1 44 RX1 yX1_at wsX1_at) := goodIn_app (goodIn_of _ (by decide +kernel)) ggX1_put_X1_at
theorem dX1_put_0 : decode cX1_put 0 = .ok (.aload_n 0, 1) := by decide +kernel
theorem dX1_put_1 : decode cX1_put 1 = .ok (.iload_n 1, 1) := by decide +kernel
theorem dX1_put_2 : decode cX1_put 2 = .ok (.invokestatic 30, 3) := by decide +kernel
theorem dX1_put_5 : decode cX1_put 5 = .ok (.ifCond .eq 14, 3) := by decide +kernel
theorem dX1_put_8 : decode cX1_put 8 = .ok (.iload_n 2, 1) := by decide +kernel
theorem dX1_put_9 : decode cX1_put 9 = .ok (.invokestatic 34, 3) := by decide +kernel
theorem dX1_put_12 : decode cX1_put 12 = .ok (.ifCond .eq 7, 3) := by decide +kernel
theorem dX1_put_15 : decode cX1_put 15 = .ok (.iconst 1, 1) := by decide +kernel
theorem dX1_put_16 : decode cX1_put 16 = .ok (.goto 4, 3) := by decide +kernel
theorem dX1_put_19 : decode cX1_put 19 = .ok (.iconst 0, 1) := by decide +kernel
theorem dX1_put_20 : decode cX1_put 20 = .ok (.iload_n 3, 1) := by decide +kernel
theorem dX1_put_21 : decode cX1_put 21 = .ok (.invokestatic 37, 3) := by decide +kernel
theorem dX1_put_24 : decode cX1_put 24 = .ok (.invokevirtual 40, 3) := by decide +kernel
theorem dX1_put_27 : decode cX1_put 27 = .ok (.ifCond .ne 5, 3) := by decide +kernel
theorem dX1_put_30 : decode cX1_put 30 = .ok (.iconst 0, 1) := by decide +kernel
theorem dX1_put_31 : decode cX1_put 31 = .ok (.ireturn, 1) := by decide +kernel
theorem dX1_put_32 : decode cX1_put 32 = .ok (.aload_n 0, 1) := by decide +kernel
theorem dX1_put_33 : decode cX1_put 33 = .ok (.iload_n 1, 1) := by decide +kernel
theorem dX1_put_34 : decode cX1_put 34 = .ok (.iload_n 2, 1) := by decide +kernel
theorem dX1_put_35 : decode cX1_put 35 = .ok (.invokevirtual 44, 3) := by decide +kernel
theorem dX1_put_38 : decode cX1_put 38 = .ok (.iload_n 3, 1) := by decide +kernel
theorem dX1_put_39 : decode cX1_put 39 = .ok (.if_icmp .eq 7, 3) := by decide +kernel
theorem dX1_put_42 : decode cX1_put 42 = .ok (.iconst 1, 1) := by decide +kernel
theorem dX1_put_43 : decode cX1_put 43 = .ok (.goto 4, 3) := by decide +kernel
theorem dX1_put_46 : decode cX1_put 46 = .ok (.iconst 0, 1) := by decide +kernel
theorem dX1_put_47 : decode cX1_put 47 = .ok (.istore 4, 2) := by decide +kernel
theorem dX1_put_49 : decode cX1_put 49 = .ok (.aload_n 0, 1) := by decide +kernel
theorem dX1_put_50 : decode cX1_put 50 = .ok (.getfield 7, 3) := by decide +kernel
theorem dX1_put_53 : decode cX1_put 53 = .ok (.bipush 12, 2) := by decide +kernel
theorem dX1_put_55 : decode cX1_put 55 = .ok (.iload_n 1, 1) := by decide +kernel
theorem dX1_put_56 : decode cX1_put 56 = .ok (.imul, 1) := by decide +kernel
theorem dX1_put_57 : decode cX1_put 57 = .ok (.iload_n 2, 1) := by decide +kernel
theorem dX1_put_58 : decode cX1_put 58 = .ok (.iadd, 1) := by decide +kernel
theorem dX1_put_59 : decode cX1_put 59 = .ok (.iload_n 3, 1) := by decide +kernel
theorem dX1_put_60 : decode cX1_put 60 = .ok (.iastore, 1) := by decide +kernel
theorem dX1_put_61 : decode cX1_put 61 = .ok (.iload 4, 2) := by decide +kernel
theorem dX1_put_63 : decode cX1_put 63 = .ok (.ireturn, 1) := by decide +kernel
set_option maxRecDepth 20000 in
theorem ggX1_reading_X1_isRow : GoodIn wsX1_reading wsX1_isRow := goodIn_r _ [4] (by decide +kernel) (by decide +kernel)
set_option maxRecDepth 20000 in
theorem gX1_reading_X1_isRow : GoodIn wsX1_reading (va_wsS RX1 30 yX1_isRow wsX1_isRow) := goodIn_app (goodIn_of _ (by decide +kernel)) ggX1_reading_X1_isRow
set_option maxRecDepth 20000 in
theorem ggX1_reading_X1_isPlace : GoodIn wsX1_reading wsX1_isPlace := goodIn_r _ [7] (by decide +kernel) (by decide +kernel)
set_option maxRecDepth 20000 in
theorem gX1_reading_X1_isPlace : GoodIn wsX1_reading (va_wsS RX1 34 yX1_isPlace wsX1_isPlace) := goodIn_app (goodIn_of _ (by decide +kernel)) ggX1_reading_X1_isPlace
set_option maxRecDepth 20000 in
theorem ggX1_reading_X1_may : GoodIn wsX1_reading wsX1_may := goodIn_r _ [11, 12, 18, 19, 20, 21, 22] (by decide +kernel) (by decide +kernel)
set_option maxRecDepth 20000 in
theorem gX1_reading_X1_may : GoodIn wsX1_reading (wsV RX1 40 RX1 yX1_may wsX1_may) := goodIn_app (goodIn_of _ (by decide +kernel)) ggX1_reading_X1_may
set_option maxRecDepth 20000 in
theorem ggX1_reading_X1_at : GoodIn wsX1_reading wsX1_at := goodIn_r _ [16, 17, 18, 19, 20, 21, 22] (by decide +kernel) (by decide +kernel)
set_option maxRecDepth 20000 in
theorem gX1_reading_X1_at : GoodIn wsX1_reading (wsV RX1 44 RX1 yX1_at wsX1_at) := goodIn_app (goodIn_of _ (by decide +kernel)) ggX1_reading_X1_at
theorem dX1_reading_0 : decode cX1_reading 0 = .ok (.aload_n 0, 1) := by decide +kernel
theorem dX1_reading_1 : decode cX1_reading 1 = .ok (.iload_n 1, 1) := by decide +kernel
theorem dX1_reading_2 : decode cX1_reading 2 = .ok (.invokestatic 30, 3) := by decide +kernel
theorem dX1_reading_5 : decode cX1_reading 5 = .ok (.ifCond .eq 14, 3) := by decide +kernel
theorem dX1_reading_8 : decode cX1_reading 8 = .ok (.iload_n 2, 1) := by decide +kernel
theorem dX1_reading_9 : decode cX1_reading 9 = .ok (.invokestatic 34, 3) := by decide +kernel
theorem dX1_reading_12 : decode cX1_reading 12 = .ok (.ifCond .eq 7, 3) := by decide +kernel
theorem dX1_reading_15 : decode cX1_reading 15 = .ok (.iconst 1, 1) := by decide +kernel
theorem dX1_reading_16 : decode cX1_reading 16 = .ok (.goto 4, 3) := by decide +kernel
theorem dX1_reading_19 : decode cX1_reading 19 = .ok (.iconst 0, 1) := by decide +kernel
theorem dX1_reading_20 : decode cX1_reading 20 = .ok (.iconst 1, 1) := by decide +kernel
theorem dX1_reading_21 : decode cX1_reading 21 = .ok (.invokevirtual 40, 3) := by decide +kernel
theorem dX1_reading_24 : decode cX1_reading 24 = .ok (.ifCond .ne 5, 3) := by decide +kernel
theorem dX1_reading_27 : decode cX1_reading 27 = .ok (.iconst 0, 1) := by decide +kernel
theorem dX1_reading_28 : decode cX1_reading 28 = .ok (.ireturn, 1) := by decide +kernel
theorem dX1_reading_29 : decode cX1_reading 29 = .ok (.aload_n 0, 1) := by decide +kernel
theorem dX1_reading_30 : decode cX1_reading 30 = .ok (.iload_n 1, 1) := by decide +kernel
theorem dX1_reading_31 : decode cX1_reading 31 = .ok (.iload_n 2, 1) := by decide +kernel
theorem dX1_reading_32 : decode cX1_reading 32 = .ok (.invokevirtual 44, 3) := by decide +kernel
theorem dX1_reading_35 : decode cX1_reading 35 = .ok (.ireturn, 1) := by decide +kernel
set_option maxRecDepth 20000 in
theorem ggX1_level_X1_isGate : GoodIn wsX1_level wsX1_isGate := goodIn_r _ [5] (by decide +kernel) (by decide +kernel)
set_option maxRecDepth 20000 in
theorem gX1_level_X1_isGate : GoodIn wsX1_level (va_wsS RX1 48 yX1_isGate wsX1_isGate) := goodIn_app (goodIn_of _ (by decide +kernel)) ggX1_level_X1_isGate
set_option maxRecDepth 20000 in
theorem ggX1_level_X1_isNumber : GoodIn wsX1_level wsX1_isNumber := goodIn_r _ [8, 9, 10, 11] (by decide +kernel) (by decide +kernel)
set_option maxRecDepth 20000 in
theorem gX1_level_X1_isNumber : GoodIn wsX1_level (va_wsS RX1 37 yX1_isNumber wsX1_isNumber) := goodIn_app (goodIn_of _ (by decide +kernel)) ggX1_level_X1_isNumber
set_option maxRecDepth 20000 in
theorem ggX1_level_X1_may : GoodIn wsX1_level wsX1_may := goodIn_r _ [15, 16, 17, 18, 19, 20, 21] (by decide +kernel) (by decide +kernel)
set_option maxRecDepth 20000 in
theorem gX1_level_X1_may : GoodIn wsX1_level (wsV RX1 40 RX1 yX1_may wsX1_may) := goodIn_app (goodIn_of _ (by decide +kernel)) ggX1_level_X1_may
theorem dX1_level_0 : decode cX1_level 0 = .ok (.aload_n 0, 1) := by decide +kernel
theorem dX1_level_1 : decode cX1_level 1 = .ok (.iload_n 1, 1) := by decide +kernel
theorem dX1_level_2 : decode cX1_level 2 = .ok (.invokestatic 48, 3) := by decide +kernel
theorem dX1_level_5 : decode cX1_level 5 = .ok (.iload_n 3, 1) := by decide +kernel
theorem dX1_level_6 : decode cX1_level 6 = .ok (.invokestatic 37, 3) := by decide +kernel
theorem dX1_level_9 : decode cX1_level 9 = .ok (.invokevirtual 40, 3) := by decide +kernel
theorem dX1_level_12 : decode cX1_level 12 = .ok (.ifCond .ne 5, 3) := by decide +kernel
theorem dX1_level_15 : decode cX1_level 15 = .ok (.iconst 0, 1) := by decide +kernel
theorem dX1_level_16 : decode cX1_level 16 = .ok (.ireturn, 1) := by decide +kernel
theorem dX1_level_17 : decode cX1_level 17 = .ok (.iload_n 2, 1) := by decide +kernel
theorem dX1_level_18 : decode cX1_level 18 = .ok (.ifCond .eq 11, 3) := by decide +kernel
theorem dX1_level_21 : decode cX1_level 21 = .ok (.iconst 2, 1) := by decide +kernel
theorem dX1_level_22 : decode cX1_level 22 = .ok (.iload_n 1, 1) := by decide +kernel
theorem dX1_level_23 : decode cX1_level 23 = .ok (.imul, 1) := by decide +kernel
theorem dX1_level_24 : decode cX1_level 24 = .ok (.iconst 1, 1) := by decide +kernel
theorem dX1_level_25 : decode cX1_level 25 = .ok (.iadd, 1) := by decide +kernel
theorem dX1_level_26 : decode cX1_level 26 = .ok (.goto 6, 3) := by decide +kernel
theorem dX1_level_29 : decode cX1_level 29 = .ok (.iconst 2, 1) := by decide +kernel
theorem dX1_level_30 : decode cX1_level 30 = .ok (.iload_n 1, 1) := by decide +kernel
theorem dX1_level_31 : decode cX1_level 31 = .ok (.imul, 1) := by decide +kernel
theorem dX1_level_32 : decode cX1_level 32 = .ok (.istore 4, 2) := by decide +kernel
theorem dX1_level_34 : decode cX1_level 34 = .ok (.aload_n 0, 1) := by decide +kernel
theorem dX1_level_35 : decode cX1_level 35 = .ok (.getfield 13, 3) := by decide +kernel
theorem dX1_level_38 : decode cX1_level 38 = .ok (.iload 4, 2) := by decide +kernel
theorem dX1_level_40 : decode cX1_level 40 = .ok (.iaload, 1) := by decide +kernel
theorem dX1_level_41 : decode cX1_level 41 = .ok (.iload_n 3, 1) := by decide +kernel
theorem dX1_level_42 : decode cX1_level 42 = .ok (.if_icmp .eq 7, 3) := by decide +kernel
theorem dX1_level_45 : decode cX1_level 45 = .ok (.iconst 1, 1) := by decide +kernel
theorem dX1_level_46 : decode cX1_level 46 = .ok (.goto 4, 3) := by decide +kernel
theorem dX1_level_49 : decode cX1_level 49 = .ok (.iconst 0, 1) := by decide +kernel
theorem dX1_level_50 : decode cX1_level 50 = .ok (.istore 5, 2) := by decide +kernel
theorem dX1_level_52 : decode cX1_level 52 = .ok (.aload_n 0, 1) := by decide +kernel
theorem dX1_level_53 : decode cX1_level 53 = .ok (.getfield 13, 3) := by decide +kernel
theorem dX1_level_56 : decode cX1_level 56 = .ok (.iload 4, 2) := by decide +kernel
theorem dX1_level_58 : decode cX1_level 58 = .ok (.iload_n 3, 1) := by decide +kernel
theorem dX1_level_59 : decode cX1_level 59 = .ok (.iastore, 1) := by decide +kernel
theorem dX1_level_60 : decode cX1_level 60 = .ok (.iload 5, 2) := by decide +kernel
theorem dX1_level_62 : decode cX1_level 62 = .ok (.ireturn, 1) := by decide +kernel
set_option maxRecDepth 20000 in
theorem ggX1_copy_X1_isRow : GoodIn wsX1_copy wsX1_isRow := goodIn_r _ [6] (by decide +kernel) (by decide +kernel)
set_option maxRecDepth 20000 in
theorem gX1_copy_X1_isRow : GoodIn wsX1_copy (va_wsS RX1 30 yX1_isRow wsX1_isRow) := goodIn_app (goodIn_of _ (by decide +kernel)) ggX1_copy_X1_isRow
set_option maxRecDepth 20000 in
theorem ggX1_copy_X1_areOneSort : GoodIn wsX1_copy wsX1_areOneSort := goodIn_r _ [9] (by decide +kernel) (by decide +kernel)
set_option maxRecDepth 20000 in
theorem gX1_copy_X1_areOneSort : GoodIn wsX1_copy (va_wsS RX1 51 yX1_areOneSort wsX1_areOneSort) := goodIn_app (goodIn_of _ (by decide +kernel)) ggX1_copy_X1_areOneSort
set_option maxRecDepth 20000 in
theorem ggX1_copy_X1_may : GoodIn wsX1_copy wsX1_may := goodIn_r _ [13, 14, 19, 20, 21, 22, 23] (by decide +kernel) (by decide +kernel)
set_option maxRecDepth 20000 in
theorem gX1_copy_X1_may : GoodIn wsX1_copy (wsV RX1 40 RX1 yX1_may wsX1_may) := goodIn_app (goodIn_of _ (by decide +kernel)) ggX1_copy_X1_may
set_option maxRecDepth 20000 in
theorem ggX1_copy_X1_at : GoodIn wsX1_copy wsX1_at := goodIn_r _ [18, 1, 19, 20, 21, 22, 23] (by decide +kernel) (by decide +kernel)
set_option maxRecDepth 20000 in
theorem gX1_copy_X1_at : GoodIn wsX1_copy (wsV RX1 44 RX1 yX1_at wsX1_at) := goodIn_app (goodIn_of _ (by decide +kernel)) ggX1_copy_X1_at
theorem dX1_copy_0 : decode cX1_copy 0 = .ok (.aload_n 0, 1) := by decide +kernel
theorem dX1_copy_1 : decode cX1_copy 1 = .ok (.iload_n 1, 1) := by decide +kernel
theorem dX1_copy_2 : decode cX1_copy 2 = .ok (.invokestatic 30, 3) := by decide +kernel
theorem dX1_copy_5 : decode cX1_copy 5 = .ok (.ifCond .eq 14, 3) := by decide +kernel
theorem dX1_copy_8 : decode cX1_copy 8 = .ok (.iload_n 2, 1) := by decide +kernel
theorem dX1_copy_9 : decode cX1_copy 9 = .ok (.invokestatic 30, 3) := by decide +kernel
theorem dX1_copy_12 : decode cX1_copy 12 = .ok (.ifCond .eq 7, 3) := by decide +kernel
theorem dX1_copy_15 : decode cX1_copy 15 = .ok (.iconst 1, 1) := by decide +kernel
theorem dX1_copy_16 : decode cX1_copy 16 = .ok (.goto 4, 3) := by decide +kernel
theorem dX1_copy_19 : decode cX1_copy 19 = .ok (.iconst 0, 1) := by decide +kernel
theorem dX1_copy_20 : decode cX1_copy 20 = .ok (.iload_n 1, 1) := by decide +kernel
theorem dX1_copy_21 : decode cX1_copy 21 = .ok (.iload_n 2, 1) := by decide +kernel
theorem dX1_copy_22 : decode cX1_copy 22 = .ok (.invokestatic 51, 3) := by decide +kernel
theorem dX1_copy_25 : decode cX1_copy 25 = .ok (.invokevirtual 40, 3) := by decide +kernel
theorem dX1_copy_28 : decode cX1_copy 28 = .ok (.ifCond .ne 5, 3) := by decide +kernel
theorem dX1_copy_31 : decode cX1_copy 31 = .ok (.iconst 0, 1) := by decide +kernel
theorem dX1_copy_32 : decode cX1_copy 32 = .ok (.ireturn, 1) := by decide +kernel
theorem dX1_copy_33 : decode cX1_copy 33 = .ok (.iconst 0, 1) := by decide +kernel
theorem dX1_copy_34 : decode cX1_copy 34 = .ok (.istore_n 3, 1) := by decide +kernel
theorem dX1_copy_35 : decode cX1_copy 35 = .ok (.iconst 0, 1) := by decide +kernel
theorem dX1_copy_36 : decode cX1_copy 36 = .ok (.istore 4, 2) := by decide +kernel
theorem dX1_copy_38 : decode cX1_copy 38 = .ok (.iload 4, 2) := by decide +kernel
theorem dX1_copy_40 : decode cX1_copy 40 = .ok (.bipush 12, 2) := by decide +kernel
theorem dX1_copy_42 : decode cX1_copy 42 = .ok (.if_icmp .ge 47, 3) := by decide +kernel
theorem dX1_copy_45 : decode cX1_copy 45 = .ok (.aload_n 0, 1) := by decide +kernel
theorem dX1_copy_46 : decode cX1_copy 46 = .ok (.iload_n 1, 1) := by decide +kernel
theorem dX1_copy_47 : decode cX1_copy 47 = .ok (.iload 4, 2) := by decide +kernel
theorem dX1_copy_49 : decode cX1_copy 49 = .ok (.invokevirtual 44, 3) := by decide +kernel
theorem dX1_copy_52 : decode cX1_copy 52 = .ok (.istore 5, 2) := by decide +kernel
theorem dX1_copy_54 : decode cX1_copy 54 = .ok (.aload_n 0, 1) := by decide +kernel
theorem dX1_copy_55 : decode cX1_copy 55 = .ok (.getfield 7, 3) := by decide +kernel
theorem dX1_copy_58 : decode cX1_copy 58 = .ok (.bipush 12, 2) := by decide +kernel
theorem dX1_copy_60 : decode cX1_copy 60 = .ok (.iload_n 2, 1) := by decide +kernel
theorem dX1_copy_61 : decode cX1_copy 61 = .ok (.imul, 1) := by decide +kernel
theorem dX1_copy_62 : decode cX1_copy 62 = .ok (.iload 4, 2) := by decide +kernel
theorem dX1_copy_64 : decode cX1_copy 64 = .ok (.iadd, 1) := by decide +kernel
theorem dX1_copy_65 : decode cX1_copy 65 = .ok (.iload 5, 2) := by decide +kernel
theorem dX1_copy_67 : decode cX1_copy 67 = .ok (.iastore, 1) := by decide +kernel
theorem dX1_copy_68 : decode cX1_copy 68 = .ok (.iload_n 3, 1) := by decide +kernel
theorem dX1_copy_69 : decode cX1_copy 69 = .ok (.iload 5, 2) := by decide +kernel
theorem dX1_copy_71 : decode cX1_copy 71 = .ok (.ldc 23, 2) := by decide +kernel
theorem dX1_copy_73 : decode cX1_copy 73 = .ok (.if_icmp .ne 7, 3) := by decide +kernel
theorem dX1_copy_76 : decode cX1_copy 76 = .ok (.iconst 1, 1) := by decide +kernel
theorem dX1_copy_77 : decode cX1_copy 77 = .ok (.goto 4, 3) := by decide +kernel
theorem dX1_copy_80 : decode cX1_copy 80 = .ok (.iconst 0, 1) := by decide +kernel
theorem dX1_copy_81 : decode cX1_copy 81 = .ok (.iadd, 1) := by decide +kernel
theorem dX1_copy_82 : decode cX1_copy 82 = .ok (.istore_n 3, 1) := by decide +kernel
theorem dX1_copy_83 : decode cX1_copy 83 = .ok (.iinc 4 1, 3) := by decide +kernel
theorem dX1_copy_86 : decode cX1_copy 86 = .ok (.goto (-48), 3) := by decide +kernel
theorem dX1_copy_89 : decode cX1_copy 89 = .ok (.iload_n 3, 1) := by decide +kernel
theorem dX1_copy_90 : decode cX1_copy 90 = .ok (.ireturn, 1) := by decide +kernel
set_option maxRecDepth 20000 in
theorem ggX1_straight_X1_isRow : GoodIn wsX1_straight wsX1_isRow := goodIn_r _ [4] (by decide +kernel) (by decide +kernel)
set_option maxRecDepth 20000 in
theorem gX1_straight_X1_isRow : GoodIn wsX1_straight (va_wsS RX1 30 yX1_isRow wsX1_isRow) := goodIn_app (goodIn_of _ (by decide +kernel)) ggX1_straight_X1_isRow
set_option maxRecDepth 20000 in
theorem ggX1_straight_X1_isGate : GoodIn wsX1_straight wsX1_isGate := goodIn_r _ [7] (by decide +kernel) (by decide +kernel)
set_option maxRecDepth 20000 in
theorem gX1_straight_X1_isGate : GoodIn wsX1_straight (va_wsS RX1 48 yX1_isGate wsX1_isGate) := goodIn_app (goodIn_of _ (by decide +kernel)) ggX1_straight_X1_isGate
set_option maxRecDepth 20000 in
theorem ggX1_straight_X1_isSign : GoodIn wsX1_straight wsX1_isSign := goodIn_r _ [10] (by decide +kernel) (by decide +kernel)
set_option maxRecDepth 20000 in
theorem gX1_straight_X1_isSign : GoodIn wsX1_straight (va_wsS RX1 55 yX1_isSign wsX1_isSign) := goodIn_app (goodIn_of _ (by decide +kernel)) ggX1_straight_X1_isSign
set_option maxRecDepth 20000 in
theorem ggX1_straight_X1_may : GoodIn wsX1_straight wsX1_may := goodIn_r _ [14, 15, 30, 31, 32, 33, 34] (by decide +kernel) (by decide +kernel)
set_option maxRecDepth 20000 in
theorem gX1_straight_X1_may : GoodIn wsX1_straight (wsV RX1 40 RX1 yX1_may wsX1_may) := goodIn_app (goodIn_of _ (by decide +kernel)) ggX1_straight_X1_may
set_option maxRecDepth 20000 in
theorem ggX1_straight_X1_at : GoodIn wsX1_straight wsX1_at := goodIn_r _ [19, 20, 30, 31, 32, 33, 34] (by decide +kernel) (by decide +kernel)
set_option maxRecDepth 20000 in
theorem gX1_straight_X1_at : GoodIn wsX1_straight (wsV RX1 44 RX1 yX1_at wsX1_at) := goodIn_app (goodIn_of _ (by decide +kernel)) ggX1_straight_X1_at
set_option maxRecDepth 20000 in
theorem ggX1_straight_X1_levelFor : GoodIn wsX1_straight wsX1_levelFor := goodIn_r _ [24, 25, 30, 31, 32, 33, 34] (by decide +kernel) (by decide +kernel)
set_option maxRecDepth 20000 in
theorem gX1_straight_X1_levelFor : GoodIn wsX1_straight (wsV RX1 58 RX1 yX1_levelFor wsX1_levelFor) := goodIn_app (goodIn_of _ (by decide +kernel)) ggX1_straight_X1_levelFor
set_option maxRecDepth 20000 in
theorem ggX1_straight_X1_isTrue : GoodIn wsX1_straight wsX1_isTrue := goodIn_r _ [28, 29] (by decide +kernel) (by decide +kernel)
set_option maxRecDepth 20000 in
theorem gX1_straight_X1_isTrue : GoodIn wsX1_straight (va_wsS RX1 61 yX1_isTrue wsX1_isTrue) := goodIn_app (goodIn_of _ (by decide +kernel)) ggX1_straight_X1_isTrue
theorem dX1_straight_0 : decode cX1_straight 0 = .ok (.aload_n 0, 1) := by decide +kernel
theorem dX1_straight_1 : decode cX1_straight 1 = .ok (.iload_n 1, 1) := by decide +kernel
theorem dX1_straight_2 : decode cX1_straight 2 = .ok (.invokestatic 30, 3) := by decide +kernel
theorem dX1_straight_5 : decode cX1_straight 5 = .ok (.ifCond .eq 14, 3) := by decide +kernel
theorem dX1_straight_8 : decode cX1_straight 8 = .ok (.iload_n 3, 1) := by decide +kernel
theorem dX1_straight_9 : decode cX1_straight 9 = .ok (.invokestatic 48, 3) := by decide +kernel
theorem dX1_straight_12 : decode cX1_straight 12 = .ok (.ifCond .eq 7, 3) := by decide +kernel
theorem dX1_straight_15 : decode cX1_straight 15 = .ok (.iconst 1, 1) := by decide +kernel
theorem dX1_straight_16 : decode cX1_straight 16 = .ok (.goto 4, 3) := by decide +kernel
theorem dX1_straight_19 : decode cX1_straight 19 = .ok (.iconst 0, 1) := by decide +kernel
theorem dX1_straight_20 : decode cX1_straight 20 = .ok (.iload_n 2, 1) := by decide +kernel
theorem dX1_straight_21 : decode cX1_straight 21 = .ok (.invokestatic 55, 3) := by decide +kernel
theorem dX1_straight_24 : decode cX1_straight 24 = .ok (.invokevirtual 40, 3) := by decide +kernel
theorem dX1_straight_27 : decode cX1_straight 27 = .ok (.ifCond .ne 5, 3) := by decide +kernel
theorem dX1_straight_30 : decode cX1_straight 30 = .ok (.iconst 0, 1) := by decide +kernel
theorem dX1_straight_31 : decode cX1_straight 31 = .ok (.ireturn, 1) := by decide +kernel
theorem dX1_straight_32 : decode cX1_straight 32 = .ok (.iconst 0, 1) := by decide +kernel
theorem dX1_straight_33 : decode cX1_straight 33 = .ok (.istore 4, 2) := by decide +kernel
theorem dX1_straight_35 : decode cX1_straight 35 = .ok (.iconst 0, 1) := by decide +kernel
theorem dX1_straight_36 : decode cX1_straight 36 = .ok (.istore 5, 2) := by decide +kernel
theorem dX1_straight_38 : decode cX1_straight 38 = .ok (.iload 5, 2) := by decide +kernel
theorem dX1_straight_40 : decode cX1_straight 40 = .ok (.bipush 12, 2) := by decide +kernel
theorem dX1_straight_42 : decode cX1_straight 42 = .ok (.if_icmp .ge 39, 3) := by decide +kernel
theorem dX1_straight_45 : decode cX1_straight 45 = .ok (.iload 4, 2) := by decide +kernel
theorem dX1_straight_47 : decode cX1_straight 47 = .ok (.iload_n 2, 1) := by decide +kernel
theorem dX1_straight_48 : decode cX1_straight 48 = .ok (.aload_n 0, 1) := by decide +kernel
theorem dX1_straight_49 : decode cX1_straight 49 = .ok (.iload_n 1, 1) := by decide +kernel
theorem dX1_straight_50 : decode cX1_straight 50 = .ok (.iload 5, 2) := by decide +kernel
theorem dX1_straight_52 : decode cX1_straight 52 = .ok (.invokevirtual 44, 3) := by decide +kernel
theorem dX1_straight_55 : decode cX1_straight 55 = .ok (.aload_n 0, 1) := by decide +kernel
theorem dX1_straight_56 : decode cX1_straight 56 = .ok (.iload_n 3, 1) := by decide +kernel
theorem dX1_straight_57 : decode cX1_straight 57 = .ok (.iload_n 1, 1) := by decide +kernel
theorem dX1_straight_58 : decode cX1_straight 58 = .ok (.invokevirtual 58, 3) := by decide +kernel
theorem dX1_straight_61 : decode cX1_straight 61 = .ok (.invokestatic 61, 3) := by decide +kernel
theorem dX1_straight_64 : decode cX1_straight 64 = .ok (.ifCond .eq 7, 3) := by decide +kernel
theorem dX1_straight_67 : decode cX1_straight 67 = .ok (.iconst 1, 1) := by decide +kernel
theorem dX1_straight_68 : decode cX1_straight 68 = .ok (.goto 4, 3) := by decide +kernel
theorem dX1_straight_71 : decode cX1_straight 71 = .ok (.iconst 0, 1) := by decide +kernel
theorem dX1_straight_72 : decode cX1_straight 72 = .ok (.iadd, 1) := by decide +kernel
theorem dX1_straight_73 : decode cX1_straight 73 = .ok (.istore 4, 2) := by decide +kernel
theorem dX1_straight_75 : decode cX1_straight 75 = .ok (.iinc 5 1, 3) := by decide +kernel
theorem dX1_straight_78 : decode cX1_straight 78 = .ok (.goto (-40), 3) := by decide +kernel
theorem dX1_straight_81 : decode cX1_straight 81 = .ok (.iload 4, 2) := by decide +kernel
theorem dX1_straight_83 : decode cX1_straight 83 = .ok (.ireturn, 1) := by decide +kernel
set_option maxRecDepth 20000 in
theorem ggX1_turned_X1_isRow : GoodIn wsX1_turned wsX1_isRow := goodIn_r _ [4] (by decide +kernel) (by decide +kernel)
set_option maxRecDepth 20000 in
theorem gX1_turned_X1_isRow : GoodIn wsX1_turned (va_wsS RX1 30 yX1_isRow wsX1_isRow) := goodIn_app (goodIn_of _ (by decide +kernel)) ggX1_turned_X1_isRow
set_option maxRecDepth 20000 in
theorem ggX1_turned_X1_isGate : GoodIn wsX1_turned wsX1_isGate := goodIn_r _ [7] (by decide +kernel) (by decide +kernel)
set_option maxRecDepth 20000 in
theorem gX1_turned_X1_isGate : GoodIn wsX1_turned (va_wsS RX1 48 yX1_isGate wsX1_isGate) := goodIn_app (goodIn_of _ (by decide +kernel)) ggX1_turned_X1_isGate
set_option maxRecDepth 20000 in
theorem ggX1_turned_X1_isSign : GoodIn wsX1_turned wsX1_isSign := goodIn_r _ [10] (by decide +kernel) (by decide +kernel)
set_option maxRecDepth 20000 in
theorem gX1_turned_X1_isSign : GoodIn wsX1_turned (va_wsS RX1 55 yX1_isSign wsX1_isSign) := goodIn_app (goodIn_of _ (by decide +kernel)) ggX1_turned_X1_isSign
set_option maxRecDepth 20000 in
theorem ggX1_turned_X1_may : GoodIn wsX1_turned wsX1_may := goodIn_r _ [14, 15, 30, 31, 32, 33, 34] (by decide +kernel) (by decide +kernel)
set_option maxRecDepth 20000 in
theorem gX1_turned_X1_may : GoodIn wsX1_turned (wsV RX1 40 RX1 yX1_may wsX1_may) := goodIn_app (goodIn_of _ (by decide +kernel)) ggX1_turned_X1_may
set_option maxRecDepth 20000 in
theorem ggX1_turned_X1_levelFor : GoodIn wsX1_turned wsX1_levelFor := goodIn_r _ [19, 20, 30, 31, 32, 33, 34] (by decide +kernel) (by decide +kernel)
set_option maxRecDepth 20000 in
theorem gX1_turned_X1_levelFor : GoodIn wsX1_turned (wsV RX1 58 RX1 yX1_levelFor wsX1_levelFor) := goodIn_app (goodIn_of _ (by decide +kernel)) ggX1_turned_X1_levelFor
set_option maxRecDepth 20000 in
theorem ggX1_turned_X1_at : GoodIn wsX1_turned wsX1_at := goodIn_r _ [24, 25, 30, 31, 32, 33, 34] (by decide +kernel) (by decide +kernel)
set_option maxRecDepth 20000 in
theorem gX1_turned_X1_at : GoodIn wsX1_turned (wsV RX1 44 RX1 yX1_at wsX1_at) := goodIn_app (goodIn_of _ (by decide +kernel)) ggX1_turned_X1_at
set_option maxRecDepth 20000 in
theorem ggX1_turned_X1_isTrue : GoodIn wsX1_turned wsX1_isTrue := goodIn_r _ [28, 29] (by decide +kernel) (by decide +kernel)
set_option maxRecDepth 20000 in
theorem gX1_turned_X1_isTrue : GoodIn wsX1_turned (va_wsS RX1 61 yX1_isTrue wsX1_isTrue) := goodIn_app (goodIn_of _ (by decide +kernel)) ggX1_turned_X1_isTrue
theorem dX1_turned_0 : decode cX1_turned 0 = .ok (.aload_n 0, 1) := by decide +kernel
theorem dX1_turned_1 : decode cX1_turned 1 = .ok (.iload_n 1, 1) := by decide +kernel
theorem dX1_turned_2 : decode cX1_turned 2 = .ok (.invokestatic 30, 3) := by decide +kernel
theorem dX1_turned_5 : decode cX1_turned 5 = .ok (.ifCond .eq 14, 3) := by decide +kernel
theorem dX1_turned_8 : decode cX1_turned 8 = .ok (.iload_n 3, 1) := by decide +kernel
theorem dX1_turned_9 : decode cX1_turned 9 = .ok (.invokestatic 48, 3) := by decide +kernel
theorem dX1_turned_12 : decode cX1_turned 12 = .ok (.ifCond .eq 7, 3) := by decide +kernel
theorem dX1_turned_15 : decode cX1_turned 15 = .ok (.iconst 1, 1) := by decide +kernel
theorem dX1_turned_16 : decode cX1_turned 16 = .ok (.goto 4, 3) := by decide +kernel
theorem dX1_turned_19 : decode cX1_turned 19 = .ok (.iconst 0, 1) := by decide +kernel
theorem dX1_turned_20 : decode cX1_turned 20 = .ok (.iload_n 2, 1) := by decide +kernel
theorem dX1_turned_21 : decode cX1_turned 21 = .ok (.invokestatic 55, 3) := by decide +kernel
theorem dX1_turned_24 : decode cX1_turned 24 = .ok (.invokevirtual 40, 3) := by decide +kernel
theorem dX1_turned_27 : decode cX1_turned 27 = .ok (.ifCond .ne 5, 3) := by decide +kernel
theorem dX1_turned_30 : decode cX1_turned 30 = .ok (.iconst 0, 1) := by decide +kernel
theorem dX1_turned_31 : decode cX1_turned 31 = .ok (.ireturn, 1) := by decide +kernel
theorem dX1_turned_32 : decode cX1_turned 32 = .ok (.iconst 0, 1) := by decide +kernel
theorem dX1_turned_33 : decode cX1_turned 33 = .ok (.istore 4, 2) := by decide +kernel
theorem dX1_turned_35 : decode cX1_turned 35 = .ok (.iconst 0, 1) := by decide +kernel
theorem dX1_turned_36 : decode cX1_turned 36 = .ok (.istore 5, 2) := by decide +kernel
theorem dX1_turned_38 : decode cX1_turned 38 = .ok (.iload 5, 2) := by decide +kernel
theorem dX1_turned_40 : decode cX1_turned 40 = .ok (.bipush 12, 2) := by decide +kernel
theorem dX1_turned_42 : decode cX1_turned 42 = .ok (.if_icmp .ge 39, 3) := by decide +kernel
theorem dX1_turned_45 : decode cX1_turned 45 = .ok (.iload 4, 2) := by decide +kernel
theorem dX1_turned_47 : decode cX1_turned 47 = .ok (.iload_n 2, 1) := by decide +kernel
theorem dX1_turned_48 : decode cX1_turned 48 = .ok (.aload_n 0, 1) := by decide +kernel
theorem dX1_turned_49 : decode cX1_turned 49 = .ok (.iload_n 3, 1) := by decide +kernel
theorem dX1_turned_50 : decode cX1_turned 50 = .ok (.iload_n 1, 1) := by decide +kernel
theorem dX1_turned_51 : decode cX1_turned 51 = .ok (.invokevirtual 58, 3) := by decide +kernel
theorem dX1_turned_54 : decode cX1_turned 54 = .ok (.aload_n 0, 1) := by decide +kernel
theorem dX1_turned_55 : decode cX1_turned 55 = .ok (.iload_n 1, 1) := by decide +kernel
theorem dX1_turned_56 : decode cX1_turned 56 = .ok (.iload 5, 2) := by decide +kernel
theorem dX1_turned_58 : decode cX1_turned 58 = .ok (.invokevirtual 44, 3) := by decide +kernel
theorem dX1_turned_61 : decode cX1_turned 61 = .ok (.invokestatic 61, 3) := by decide +kernel
theorem dX1_turned_64 : decode cX1_turned 64 = .ok (.ifCond .eq 7, 3) := by decide +kernel
theorem dX1_turned_67 : decode cX1_turned 67 = .ok (.iconst 0, 1) := by decide +kernel
theorem dX1_turned_68 : decode cX1_turned 68 = .ok (.goto 4, 3) := by decide +kernel
theorem dX1_turned_71 : decode cX1_turned 71 = .ok (.iconst 1, 1) := by decide +kernel
theorem dX1_turned_72 : decode cX1_turned 72 = .ok (.iadd, 1) := by decide +kernel
theorem dX1_turned_73 : decode cX1_turned 73 = .ok (.istore 4, 2) := by decide +kernel
theorem dX1_turned_75 : decode cX1_turned 75 = .ok (.iinc 5 1, 3) := by decide +kernel
theorem dX1_turned_78 : decode cX1_turned 78 = .ok (.goto (-40), 3) := by decide +kernel
theorem dX1_turned_81 : decode cX1_turned 81 = .ok (.iload 4, 2) := by decide +kernel
theorem dX1_turned_83 : decode cX1_turned 83 = .ok (.ireturn, 1) := by decide +kernel
set_option maxRecDepth 20000 in
theorem ggX1_between_X1_isRow : GoodIn wsX1_between wsX1_isRow := goodIn_r _ [4] (by decide +kernel) (by decide +kernel)
set_option maxRecDepth 20000 in
theorem gX1_between_X1_isRow : GoodIn wsX1_between (va_wsS RX1 30 yX1_isRow wsX1_isRow) := goodIn_app (goodIn_of _ (by decide +kernel)) ggX1_between_X1_isRow
set_option maxRecDepth 20000 in
theorem ggX1_between_X1_isGate : GoodIn wsX1_between wsX1_isGate := goodIn_r _ [7] (by decide +kernel) (by decide +kernel)
set_option maxRecDepth 20000 in
theorem gX1_between_X1_isGate : GoodIn wsX1_between (va_wsS RX1 48 yX1_isGate wsX1_isGate) := goodIn_app (goodIn_of _ (by decide +kernel)) ggX1_between_X1_isGate
set_option maxRecDepth 20000 in
theorem ggX1_between_X1_may : GoodIn wsX1_between wsX1_may := goodIn_r _ [11, 12, 27, 28, 29, 30, 31] (by decide +kernel) (by decide +kernel)
set_option maxRecDepth 20000 in
theorem gX1_between_X1_may : GoodIn wsX1_between (wsV RX1 40 RX1 yX1_may wsX1_may) := goodIn_app (goodIn_of _ (by decide +kernel)) ggX1_between_X1_may
set_option maxRecDepth 20000 in
theorem ggX1_between_X1_levelFor : GoodIn wsX1_between wsX1_levelFor := goodIn_r _ [16, 17, 27, 28, 29, 30, 31] (by decide +kernel) (by decide +kernel)
set_option maxRecDepth 20000 in
theorem gX1_between_X1_levelFor : GoodIn wsX1_between (wsV RX1 58 RX1 yX1_levelFor wsX1_levelFor) := goodIn_app (goodIn_of _ (by decide +kernel)) ggX1_between_X1_levelFor
set_option maxRecDepth 20000 in
theorem ggX1_between_X1_at : GoodIn wsX1_between wsX1_at := goodIn_r _ [21, 22, 27, 28, 29, 30, 31] (by decide +kernel) (by decide +kernel)
set_option maxRecDepth 20000 in
theorem gX1_between_X1_at : GoodIn wsX1_between (wsV RX1 44 RX1 yX1_at wsX1_at) := goodIn_app (goodIn_of _ (by decide +kernel)) ggX1_between_X1_at
set_option maxRecDepth 20000 in
theorem ggX1_between_X1_isTrue : GoodIn wsX1_between wsX1_isTrue := goodIn_r _ [25, 26] (by decide +kernel) (by decide +kernel)
set_option maxRecDepth 20000 in
theorem gX1_between_X1_isTrue : GoodIn wsX1_between (va_wsS RX1 61 yX1_isTrue wsX1_isTrue) := goodIn_app (goodIn_of _ (by decide +kernel)) ggX1_between_X1_isTrue
theorem dX1_between_0 : decode cX1_between 0 = .ok (.aload_n 0, 1) := by decide +kernel
theorem dX1_between_1 : decode cX1_between 1 = .ok (.iload_n 1, 1) := by decide +kernel
theorem dX1_between_2 : decode cX1_between 2 = .ok (.invokestatic 30, 3) := by decide +kernel
theorem dX1_between_5 : decode cX1_between 5 = .ok (.ifCond .eq 21, 3) := by decide +kernel
theorem dX1_between_8 : decode cX1_between 8 = .ok (.iload_n 2, 1) := by decide +kernel
theorem dX1_between_9 : decode cX1_between 9 = .ok (.invokestatic 48, 3) := by decide +kernel
theorem dX1_between_12 : decode cX1_between 12 = .ok (.ifCond .eq 14, 3) := by decide +kernel
theorem dX1_between_15 : decode cX1_between 15 = .ok (.iload_n 3, 1) := by decide +kernel
theorem dX1_between_16 : decode cX1_between 16 = .ok (.invokestatic 48, 3) := by decide +kernel
theorem dX1_between_19 : decode cX1_between 19 = .ok (.ifCond .eq 7, 3) := by decide +kernel
theorem dX1_between_22 : decode cX1_between 22 = .ok (.iconst 1, 1) := by decide +kernel
theorem dX1_between_23 : decode cX1_between 23 = .ok (.goto 4, 3) := by decide +kernel
theorem dX1_between_26 : decode cX1_between 26 = .ok (.iconst 0, 1) := by decide +kernel
theorem dX1_between_27 : decode cX1_between 27 = .ok (.iconst 1, 1) := by decide +kernel
theorem dX1_between_28 : decode cX1_between 28 = .ok (.invokevirtual 40, 3) := by decide +kernel
theorem dX1_between_31 : decode cX1_between 31 = .ok (.ifCond .ne 5, 3) := by decide +kernel
theorem dX1_between_34 : decode cX1_between 34 = .ok (.iconst 0, 1) := by decide +kernel
theorem dX1_between_35 : decode cX1_between 35 = .ok (.ireturn, 1) := by decide +kernel
theorem dX1_between_36 : decode cX1_between 36 = .ok (.aload_n 0, 1) := by decide +kernel
theorem dX1_between_37 : decode cX1_between 37 = .ok (.iload_n 2, 1) := by decide +kernel
theorem dX1_between_38 : decode cX1_between 38 = .ok (.iload_n 1, 1) := by decide +kernel
theorem dX1_between_39 : decode cX1_between 39 = .ok (.invokevirtual 58, 3) := by decide +kernel
theorem dX1_between_42 : decode cX1_between 42 = .ok (.istore 4, 2) := by decide +kernel
theorem dX1_between_44 : decode cX1_between 44 = .ok (.aload_n 0, 1) := by decide +kernel
theorem dX1_between_45 : decode cX1_between 45 = .ok (.iload_n 3, 1) := by decide +kernel
theorem dX1_between_46 : decode cX1_between 46 = .ok (.iload_n 1, 1) := by decide +kernel
theorem dX1_between_47 : decode cX1_between 47 = .ok (.invokevirtual 58, 3) := by decide +kernel
theorem dX1_between_50 : decode cX1_between 50 = .ok (.istore 5, 2) := by decide +kernel
theorem dX1_between_52 : decode cX1_between 52 = .ok (.iconst 0, 1) := by decide +kernel
theorem dX1_between_53 : decode cX1_between 53 = .ok (.istore 6, 2) := by decide +kernel
theorem dX1_between_55 : decode cX1_between 55 = .ok (.iconst 0, 1) := by decide +kernel
theorem dX1_between_56 : decode cX1_between 56 = .ok (.istore 7, 2) := by decide +kernel
theorem dX1_between_58 : decode cX1_between 58 = .ok (.iconst 0, 1) := by decide +kernel
theorem dX1_between_59 : decode cX1_between 59 = .ok (.istore 8, 2) := by decide +kernel
theorem dX1_between_61 : decode cX1_between 61 = .ok (.iload 8, 2) := by decide +kernel
theorem dX1_between_63 : decode cX1_between 63 = .ok (.bipush 12, 2) := by decide +kernel
theorem dX1_between_65 : decode cX1_between 65 = .ok (.if_icmp .ge 82, 3) := by decide +kernel
theorem dX1_between_68 : decode cX1_between 68 = .ok (.aload_n 0, 1) := by decide +kernel
theorem dX1_between_69 : decode cX1_between 69 = .ok (.iload_n 1, 1) := by decide +kernel
theorem dX1_between_70 : decode cX1_between 70 = .ok (.iload 8, 2) := by decide +kernel
theorem dX1_between_72 : decode cX1_between 72 = .ok (.invokevirtual 44, 3) := by decide +kernel
theorem dX1_between_75 : decode cX1_between 75 = .ok (.istore 9, 2) := by decide +kernel
theorem dX1_between_77 : decode cX1_between 77 = .ok (.iload 6, 2) := by decide +kernel
theorem dX1_between_79 : decode cX1_between 79 = .ok (.iconst 3, 1) := by decide +kernel
theorem dX1_between_80 : decode cX1_between 80 = .ok (.iload 9, 2) := by decide +kernel
theorem dX1_between_82 : decode cX1_between 82 = .ok (.iload 4, 2) := by decide +kernel
theorem dX1_between_84 : decode cX1_between 84 = .ok (.invokestatic 61, 3) := by decide +kernel
theorem dX1_between_87 : decode cX1_between 87 = .ok (.ifCond .eq 18, 3) := by decide +kernel
theorem dX1_between_90 : decode cX1_between 90 = .ok (.iconst 1, 1) := by decide +kernel
theorem dX1_between_91 : decode cX1_between 91 = .ok (.iload 9, 2) := by decide +kernel
theorem dX1_between_93 : decode cX1_between 93 = .ok (.iload 5, 2) := by decide +kernel
theorem dX1_between_95 : decode cX1_between 95 = .ok (.invokestatic 61, 3) := by decide +kernel
theorem dX1_between_98 : decode cX1_between 98 = .ok (.ifCond .eq 7, 3) := by decide +kernel
theorem dX1_between_101 : decode cX1_between 101 = .ok (.iconst 1, 1) := by decide +kernel
theorem dX1_between_102 : decode cX1_between 102 = .ok (.goto 4, 3) := by decide +kernel
theorem dX1_between_105 : decode cX1_between 105 = .ok (.iconst 0, 1) := by decide +kernel
theorem dX1_between_106 : decode cX1_between 106 = .ok (.iadd, 1) := by decide +kernel
theorem dX1_between_107 : decode cX1_between 107 = .ok (.istore 6, 2) := by decide +kernel
theorem dX1_between_109 : decode cX1_between 109 = .ok (.iload 7, 2) := by decide +kernel
theorem dX1_between_111 : decode cX1_between 111 = .ok (.iconst 0, 1) := by decide +kernel
theorem dX1_between_112 : decode cX1_between 112 = .ok (.iload 9, 2) := by decide +kernel
theorem dX1_between_114 : decode cX1_between 114 = .ok (.iload 4, 2) := by decide +kernel
theorem dX1_between_116 : decode cX1_between 116 = .ok (.invokestatic 61, 3) := by decide +kernel
theorem dX1_between_119 : decode cX1_between 119 = .ok (.ifCond .ne 14, 3) := by decide +kernel
theorem dX1_between_122 : decode cX1_between 122 = .ok (.iconst 2, 1) := by decide +kernel
theorem dX1_between_123 : decode cX1_between 123 = .ok (.iload 9, 2) := by decide +kernel
theorem dX1_between_125 : decode cX1_between 125 = .ok (.iload 5, 2) := by decide +kernel
theorem dX1_between_127 : decode cX1_between 127 = .ok (.invokestatic 61, 3) := by decide +kernel
theorem dX1_between_130 : decode cX1_between 130 = .ok (.ifCond .eq 7, 3) := by decide +kernel
theorem dX1_between_133 : decode cX1_between 133 = .ok (.iconst 1, 1) := by decide +kernel
theorem dX1_between_134 : decode cX1_between 134 = .ok (.goto 4, 3) := by decide +kernel
theorem dX1_between_137 : decode cX1_between 137 = .ok (.iconst 0, 1) := by decide +kernel
theorem dX1_between_138 : decode cX1_between 138 = .ok (.iadd, 1) := by decide +kernel
theorem dX1_between_139 : decode cX1_between 139 = .ok (.istore 7, 2) := by decide +kernel
theorem dX1_between_141 : decode cX1_between 141 = .ok (.iinc 8 1, 3) := by decide +kernel
theorem dX1_between_144 : decode cX1_between 144 = .ok (.goto (-83), 3) := by decide +kernel
theorem dX1_between_147 : decode cX1_between 147 = .ok (.bipush 16, 2) := by decide +kernel
theorem dX1_between_149 : decode cX1_between 149 = .ok (.iload 6, 2) := by decide +kernel
theorem dX1_between_151 : decode cX1_between 151 = .ok (.imul, 1) := by decide +kernel
theorem dX1_between_152 : decode cX1_between 152 = .ok (.iload 7, 2) := by decide +kernel
theorem dX1_between_154 : decode cX1_between 154 = .ok (.iadd, 1) := by decide +kernel
theorem dX1_between_155 : decode cX1_between 155 = .ok (.ireturn, 1) := by decide +kernel
set_option maxRecDepth 20000 in
theorem ggX1_must_X1_isRow : GoodIn wsX1_must wsX1_isRow := goodIn_r _ [5] (by decide +kernel) (by decide +kernel)
set_option maxRecDepth 20000 in
theorem gX1_must_X1_isRow : GoodIn wsX1_must (va_wsS RX1 30 yX1_isRow wsX1_isRow) := goodIn_app (goodIn_of _ (by decide +kernel)) ggX1_must_X1_isRow
set_option maxRecDepth 20000 in
theorem ggX1_must_X1_isPlace : GoodIn wsX1_must wsX1_isPlace := goodIn_r _ [8] (by decide +kernel) (by decide +kernel)
set_option maxRecDepth 20000 in
theorem gX1_must_X1_isPlace : GoodIn wsX1_must (va_wsS RX1 34 yX1_isPlace wsX1_isPlace) := goodIn_app (goodIn_of _ (by decide +kernel)) ggX1_must_X1_isPlace
set_option maxRecDepth 20000 in
theorem ggX1_must_X1_isGate : GoodIn wsX1_must wsX1_isGate := goodIn_r _ [11] (by decide +kernel) (by decide +kernel)
set_option maxRecDepth 20000 in
theorem gX1_must_X1_isGate : GoodIn wsX1_must (va_wsS RX1 48 yX1_isGate wsX1_isGate) := goodIn_app (goodIn_of _ (by decide +kernel)) ggX1_must_X1_isGate
set_option maxRecDepth 20000 in
theorem ggX1_must_X1_isSign : GoodIn wsX1_must wsX1_isSign := goodIn_r _ [14] (by decide +kernel) (by decide +kernel)
set_option maxRecDepth 20000 in
theorem gX1_must_X1_isSign : GoodIn wsX1_must (va_wsS RX1 55 yX1_isSign wsX1_isSign) := goodIn_app (goodIn_of _ (by decide +kernel)) ggX1_must_X1_isSign
set_option maxRecDepth 20000 in
theorem ggX1_must_X1_may : GoodIn wsX1_must wsX1_may := goodIn_r _ [18, 1, 33, 34, 35, 36, 37] (by decide +kernel) (by decide +kernel)
set_option maxRecDepth 20000 in
theorem gX1_must_X1_may : GoodIn wsX1_must (wsV RX1 40 RX1 yX1_may wsX1_may) := goodIn_app (goodIn_of _ (by decide +kernel)) ggX1_must_X1_may
set_option maxRecDepth 20000 in
theorem ggX1_must_X1_at : GoodIn wsX1_must wsX1_at := goodIn_r _ [22, 23, 33, 34, 35, 36, 37] (by decide +kernel) (by decide +kernel)
set_option maxRecDepth 20000 in
theorem gX1_must_X1_at : GoodIn wsX1_must (wsV RX1 44 RX1 yX1_at wsX1_at) := goodIn_app (goodIn_of _ (by decide +kernel)) ggX1_must_X1_at
set_option maxRecDepth 20000 in
theorem ggX1_must_X1_levelFor : GoodIn wsX1_must wsX1_levelFor := goodIn_r _ [27, 28, 33, 34, 35, 36, 37] (by decide +kernel) (by decide +kernel)
set_option maxRecDepth 20000 in
theorem gX1_must_X1_levelFor : GoodIn wsX1_must (wsV RX1 58 RX1 yX1_levelFor wsX1_levelFor) := goodIn_app (goodIn_of _ (by decide +kernel)) ggX1_must_X1_levelFor
set_option maxRecDepth 20000 in
theorem ggX1_must_X1_isTrue : GoodIn wsX1_must wsX1_isTrue := goodIn_r _ [31, 32] (by decide +kernel) (by decide +kernel)
set_option maxRecDepth 20000 in
theorem gX1_must_X1_isTrue : GoodIn wsX1_must (va_wsS RX1 61 yX1_isTrue wsX1_isTrue) := goodIn_app (goodIn_of _ (by decide +kernel)) ggX1_must_X1_isTrue
theorem dX1_must_0 : decode cX1_must 0 = .ok (.aload_n 0, 1) := by decide +kernel
theorem dX1_must_1 : decode cX1_must 1 = .ok (.iload_n 1, 1) := by decide +kernel
theorem dX1_must_2 : decode cX1_must 2 = .ok (.invokestatic 30, 3) := by decide +kernel
theorem dX1_must_5 : decode cX1_must 5 = .ok (.ifCond .eq 22, 3) := by decide +kernel
theorem dX1_must_8 : decode cX1_must 8 = .ok (.iload_n 2, 1) := by decide +kernel
theorem dX1_must_9 : decode cX1_must 9 = .ok (.invokestatic 34, 3) := by decide +kernel
theorem dX1_must_12 : decode cX1_must 12 = .ok (.ifCond .eq 15, 3) := by decide +kernel
theorem dX1_must_15 : decode cX1_must 15 = .ok (.iload 4, 2) := by decide +kernel
theorem dX1_must_17 : decode cX1_must 17 = .ok (.invokestatic 48, 3) := by decide +kernel
theorem dX1_must_20 : decode cX1_must 20 = .ok (.ifCond .eq 7, 3) := by decide +kernel
theorem dX1_must_23 : decode cX1_must 23 = .ok (.iconst 1, 1) := by decide +kernel
theorem dX1_must_24 : decode cX1_must 24 = .ok (.goto 4, 3) := by decide +kernel
theorem dX1_must_27 : decode cX1_must 27 = .ok (.iconst 0, 1) := by decide +kernel
theorem dX1_must_28 : decode cX1_must 28 = .ok (.iload_n 3, 1) := by decide +kernel
theorem dX1_must_29 : decode cX1_must 29 = .ok (.invokestatic 55, 3) := by decide +kernel
theorem dX1_must_32 : decode cX1_must 32 = .ok (.invokevirtual 40, 3) := by decide +kernel
theorem dX1_must_35 : decode cX1_must 35 = .ok (.ifCond .ne 5, 3) := by decide +kernel
theorem dX1_must_38 : decode cX1_must 38 = .ok (.iconst 0, 1) := by decide +kernel
theorem dX1_must_39 : decode cX1_must 39 = .ok (.ireturn, 1) := by decide +kernel
theorem dX1_must_40 : decode cX1_must 40 = .ok (.iload_n 3, 1) := by decide +kernel
theorem dX1_must_41 : decode cX1_must 41 = .ok (.aload_n 0, 1) := by decide +kernel
theorem dX1_must_42 : decode cX1_must 42 = .ok (.iload_n 1, 1) := by decide +kernel
theorem dX1_must_43 : decode cX1_must 43 = .ok (.iload_n 2, 1) := by decide +kernel
theorem dX1_must_44 : decode cX1_must 44 = .ok (.invokevirtual 44, 3) := by decide +kernel
theorem dX1_must_47 : decode cX1_must 47 = .ok (.aload_n 0, 1) := by decide +kernel
theorem dX1_must_48 : decode cX1_must 48 = .ok (.iload 4, 2) := by decide +kernel
theorem dX1_must_50 : decode cX1_must 50 = .ok (.iload_n 1, 1) := by decide +kernel
theorem dX1_must_51 : decode cX1_must 51 = .ok (.invokevirtual 58, 3) := by decide +kernel
theorem dX1_must_54 : decode cX1_must 54 = .ok (.invokestatic 61, 3) := by decide +kernel
theorem dX1_must_57 : decode cX1_must 57 = .ok (.ifCond .ne 10, 3) := by decide +kernel
theorem dX1_must_60 : decode cX1_must 60 = .ok (.aload_n 0, 1) := by decide +kernel
theorem dX1_must_61 : decode cX1_must 61 = .ok (.iconst 3, 1) := by decide +kernel
theorem dX1_must_62 : decode cX1_must 62 = .ok (.putfield 26, 3) := by decide +kernel
theorem dX1_must_65 : decode cX1_must 65 = .ok (.iconst 0, 1) := by decide +kernel
theorem dX1_must_66 : decode cX1_must 66 = .ok (.ireturn, 1) := by decide +kernel
theorem dX1_must_67 : decode cX1_must 67 = .ok (.aload_n 0, 1) := by decide +kernel
theorem dX1_must_68 : decode cX1_must 68 = .ok (.iload_n 1, 1) := by decide +kernel
theorem dX1_must_69 : decode cX1_must 69 = .ok (.iload_n 2, 1) := by decide +kernel
theorem dX1_must_70 : decode cX1_must 70 = .ok (.invokevirtual 44, 3) := by decide +kernel
theorem dX1_must_73 : decode cX1_must 73 = .ok (.ireturn, 1) := by decide +kernel
set_option maxRecDepth 20000 in
theorem ggX1_watch_X1_isGate : GoodIn wsX1_watch wsX1_isGate := goodIn_r _ [5] (by decide +kernel) (by decide +kernel)
set_option maxRecDepth 20000 in
theorem gX1_watch_X1_isGate : GoodIn wsX1_watch (va_wsS RX1 48 yX1_isGate wsX1_isGate) := goodIn_app (goodIn_of _ (by decide +kernel)) ggX1_watch_X1_isGate
set_option maxRecDepth 20000 in
theorem ggX1_watch_X1_isRow : GoodIn wsX1_watch wsX1_isRow := goodIn_r _ [8] (by decide +kernel) (by decide +kernel)
set_option maxRecDepth 20000 in
theorem gX1_watch_X1_isRow : GoodIn wsX1_watch (va_wsS RX1 30 yX1_isRow wsX1_isRow) := goodIn_app (goodIn_of _ (by decide +kernel)) ggX1_watch_X1_isRow
set_option maxRecDepth 20000 in
theorem ggX1_watch_X1_may : GoodIn wsX1_watch wsX1_may := goodIn_r _ [12, 13, 28, 29, 30, 31, 32] (by decide +kernel) (by decide +kernel)
set_option maxRecDepth 20000 in
theorem gX1_watch_X1_may : GoodIn wsX1_watch (wsV RX1 40 RX1 yX1_may wsX1_may) := goodIn_app (goodIn_of _ (by decide +kernel)) ggX1_watch_X1_may
set_option maxRecDepth 20000 in
theorem ggX1_watch_X1_at : GoodIn wsX1_watch wsX1_at := goodIn_r _ [17, 18, 28, 29, 30, 31, 32] (by decide +kernel) (by decide +kernel)
set_option maxRecDepth 20000 in
theorem gX1_watch_X1_at : GoodIn wsX1_watch (wsV RX1 44 RX1 yX1_at wsX1_at) := goodIn_app (goodIn_of _ (by decide +kernel)) ggX1_watch_X1_at
set_option maxRecDepth 20000 in
theorem ggX1_watch_X1_levelFor : GoodIn wsX1_watch wsX1_levelFor := goodIn_r _ [22, 23, 28, 29, 30, 31, 32] (by decide +kernel) (by decide +kernel)
set_option maxRecDepth 20000 in
theorem gX1_watch_X1_levelFor : GoodIn wsX1_watch (wsV RX1 58 RX1 yX1_levelFor wsX1_levelFor) := goodIn_app (goodIn_of _ (by decide +kernel)) ggX1_watch_X1_levelFor
set_option maxRecDepth 20000 in
theorem ggX1_watch_X1_isTrue : GoodIn wsX1_watch wsX1_isTrue := goodIn_r _ [26, 27] (by decide +kernel) (by decide +kernel)
set_option maxRecDepth 20000 in
theorem gX1_watch_X1_isTrue : GoodIn wsX1_watch (va_wsS RX1 61 yX1_isTrue wsX1_isTrue) := goodIn_app (goodIn_of _ (by decide +kernel)) ggX1_watch_X1_isTrue
theorem dX1_watch_0 : decode cX1_watch 0 = .ok (.aload_n 0, 1) := by decide +kernel
theorem dX1_watch_1 : decode cX1_watch 1 = .ok (.iload_n 1, 1) := by decide +kernel
theorem dX1_watch_2 : decode cX1_watch 2 = .ok (.invokestatic 48, 3) := by decide +kernel
theorem dX1_watch_5 : decode cX1_watch 5 = .ok (.ifCond .eq 14, 3) := by decide +kernel
theorem dX1_watch_8 : decode cX1_watch 8 = .ok (.iload_n 2, 1) := by decide +kernel
theorem dX1_watch_9 : decode cX1_watch 9 = .ok (.invokestatic 30, 3) := by decide +kernel
theorem dX1_watch_12 : decode cX1_watch 12 = .ok (.ifCond .eq 7, 3) := by decide +kernel
theorem dX1_watch_15 : decode cX1_watch 15 = .ok (.iconst 1, 1) := by decide +kernel
theorem dX1_watch_16 : decode cX1_watch 16 = .ok (.goto 4, 3) := by decide +kernel
theorem dX1_watch_19 : decode cX1_watch 19 = .ok (.iconst 0, 1) := by decide +kernel
theorem dX1_watch_20 : decode cX1_watch 20 = .ok (.iconst 1, 1) := by decide +kernel
theorem dX1_watch_21 : decode cX1_watch 21 = .ok (.invokevirtual 40, 3) := by decide +kernel
theorem dX1_watch_24 : decode cX1_watch 24 = .ok (.ifCond .ne 5, 3) := by decide +kernel
theorem dX1_watch_27 : decode cX1_watch 27 = .ok (.iconst 0, 1) := by decide +kernel
theorem dX1_watch_28 : decode cX1_watch 28 = .ok (.ireturn, 1) := by decide +kernel
theorem dX1_watch_29 : decode cX1_watch 29 = .ok (.iconst 0, 1) := by decide +kernel
theorem dX1_watch_30 : decode cX1_watch 30 = .ok (.istore 4, 2) := by decide +kernel
theorem dX1_watch_32 : decode cX1_watch 32 = .ok (.iconst 0, 1) := by decide +kernel
theorem dX1_watch_33 : decode cX1_watch 33 = .ok (.istore 5, 2) := by decide +kernel
theorem dX1_watch_35 : decode cX1_watch 35 = .ok (.iload 5, 2) := by decide +kernel
theorem dX1_watch_37 : decode cX1_watch 37 = .ok (.bipush 12, 2) := by decide +kernel
theorem dX1_watch_39 : decode cX1_watch 39 = .ok (.if_icmp .ge 88, 3) := by decide +kernel
theorem dX1_watch_42 : decode cX1_watch 42 = .ok (.aload_n 0, 1) := by decide +kernel
theorem dX1_watch_43 : decode cX1_watch 43 = .ok (.iload_n 2, 1) := by decide +kernel
theorem dX1_watch_44 : decode cX1_watch 44 = .ok (.iload 5, 2) := by decide +kernel
theorem dX1_watch_46 : decode cX1_watch 46 = .ok (.invokevirtual 44, 3) := by decide +kernel
theorem dX1_watch_49 : decode cX1_watch 49 = .ok (.istore 6, 2) := by decide +kernel
theorem dX1_watch_51 : decode cX1_watch 51 = .ok (.aload_n 0, 1) := by decide +kernel
theorem dX1_watch_52 : decode cX1_watch 52 = .ok (.iload_n 1, 1) := by decide +kernel
theorem dX1_watch_53 : decode cX1_watch 53 = .ok (.iload_n 2, 1) := by decide +kernel
theorem dX1_watch_54 : decode cX1_watch 54 = .ok (.invokevirtual 58, 3) := by decide +kernel
theorem dX1_watch_57 : decode cX1_watch 57 = .ok (.istore 7, 2) := by decide +kernel
theorem dX1_watch_59 : decode cX1_watch 59 = .ok (.iload_n 3, 1) := by decide +kernel
theorem dX1_watch_60 : decode cX1_watch 60 = .ok (.ifCond .eq 22, 3) := by decide +kernel
theorem dX1_watch_63 : decode cX1_watch 63 = .ok (.iconst 0, 1) := by decide +kernel
theorem dX1_watch_64 : decode cX1_watch 64 = .ok (.iload 6, 2) := by decide +kernel
theorem dX1_watch_66 : decode cX1_watch 66 = .ok (.iload 7, 2) := by decide +kernel
theorem dX1_watch_68 : decode cX1_watch 68 = .ok (.invokestatic 61, 3) := by decide +kernel
theorem dX1_watch_71 : decode cX1_watch 71 = .ok (.ifCond .ne 7, 3) := by decide +kernel
theorem dX1_watch_74 : decode cX1_watch 74 = .ok (.iconst 1, 1) := by decide +kernel
theorem dX1_watch_75 : decode cX1_watch 75 = .ok (.goto 15, 3) := by decide +kernel
theorem dX1_watch_78 : decode cX1_watch 78 = .ok (.iconst 0, 1) := by decide +kernel
theorem dX1_watch_79 : decode cX1_watch 79 = .ok (.goto 11, 3) := by decide +kernel
theorem dX1_watch_82 : decode cX1_watch 82 = .ok (.iconst 3, 1) := by decide +kernel
theorem dX1_watch_83 : decode cX1_watch 83 = .ok (.iload 6, 2) := by decide +kernel
theorem dX1_watch_85 : decode cX1_watch 85 = .ok (.iload 7, 2) := by decide +kernel
theorem dX1_watch_87 : decode cX1_watch 87 = .ok (.invokestatic 61, 3) := by decide +kernel
theorem dX1_watch_90 : decode cX1_watch 90 = .ok (.istore 8, 2) := by decide +kernel
theorem dX1_watch_92 : decode cX1_watch 92 = .ok (.iload 4, 2) := by decide +kernel
theorem dX1_watch_94 : decode cX1_watch 94 = .ok (.iload 8, 2) := by decide +kernel
theorem dX1_watch_96 : decode cX1_watch 96 = .ok (.aload_n 0, 1) := by decide +kernel
theorem dX1_watch_97 : decode cX1_watch 97 = .ok (.getfield 16, 3) := by decide +kernel
theorem dX1_watch_100 : decode cX1_watch 100 = .ok (.iload_n 1, 1) := by decide +kernel
theorem dX1_watch_101 : decode cX1_watch 101 = .ok (.baload, 1) := by decide +kernel
theorem dX1_watch_102 : decode cX1_watch 102 = .ok (.if_icmp .eq 7, 3) := by decide +kernel
theorem dX1_watch_105 : decode cX1_watch 105 = .ok (.iconst 1, 1) := by decide +kernel
theorem dX1_watch_106 : decode cX1_watch 106 = .ok (.goto 4, 3) := by decide +kernel
theorem dX1_watch_109 : decode cX1_watch 109 = .ok (.iconst 0, 1) := by decide +kernel
theorem dX1_watch_110 : decode cX1_watch 110 = .ok (.iadd, 1) := by decide +kernel
theorem dX1_watch_111 : decode cX1_watch 111 = .ok (.istore 4, 2) := by decide +kernel
theorem dX1_watch_113 : decode cX1_watch 113 = .ok (.aload_n 0, 1) := by decide +kernel
theorem dX1_watch_114 : decode cX1_watch 114 = .ok (.getfield 16, 3) := by decide +kernel
theorem dX1_watch_117 : decode cX1_watch 117 = .ok (.iload_n 1, 1) := by decide +kernel
theorem dX1_watch_118 : decode cX1_watch 118 = .ok (.iload 8, 2) := by decide +kernel
theorem dX1_watch_120 : decode cX1_watch 120 = .ok (.bastore, 1) := by decide +kernel
theorem dX1_watch_121 : decode cX1_watch 121 = .ok (.iinc 5 1, 3) := by decide +kernel
theorem dX1_watch_124 : decode cX1_watch 124 = .ok (.goto (-89), 3) := by decide +kernel
theorem dX1_watch_127 : decode cX1_watch 127 = .ok (.iload 4, 2) := by decide +kernel
theorem dX1_watch_129 : decode cX1_watch 129 = .ok (.ireturn, 1) := by decide +kernel
set_option maxRecDepth 20000 in
theorem ggX1_isOpen_X1_isGate : GoodIn wsX1_isOpen wsX1_isGate := goodIn_r _ [5] (by decide +kernel) (by decide +kernel)
set_option maxRecDepth 20000 in
theorem gX1_isOpen_X1_isGate : GoodIn wsX1_isOpen (va_wsS RX1 48 yX1_isGate wsX1_isGate) := goodIn_app (goodIn_of _ (by decide +kernel)) ggX1_isOpen_X1_isGate
set_option maxRecDepth 20000 in
theorem ggX1_isOpen_X1_may : GoodIn wsX1_isOpen wsX1_may := goodIn_r _ [9, 10, 11, 12, 13, 14, 15] (by decide +kernel) (by decide +kernel)
set_option maxRecDepth 20000 in
theorem gX1_isOpen_X1_may : GoodIn wsX1_isOpen (wsV RX1 40 RX1 yX1_may wsX1_may) := goodIn_app (goodIn_of _ (by decide +kernel)) ggX1_isOpen_X1_may
theorem dX1_isOpen_0 : decode cX1_isOpen 0 = .ok (.aload_n 0, 1) := by decide +kernel
theorem dX1_isOpen_1 : decode cX1_isOpen 1 = .ok (.iload_n 1, 1) := by decide +kernel
theorem dX1_isOpen_2 : decode cX1_isOpen 2 = .ok (.invokestatic 48, 3) := by decide +kernel
theorem dX1_isOpen_5 : decode cX1_isOpen 5 = .ok (.iconst 1, 1) := by decide +kernel
theorem dX1_isOpen_6 : decode cX1_isOpen 6 = .ok (.invokevirtual 40, 3) := by decide +kernel
theorem dX1_isOpen_9 : decode cX1_isOpen 9 = .ok (.ifCond .ne 5, 3) := by decide +kernel
theorem dX1_isOpen_12 : decode cX1_isOpen 12 = .ok (.iconst 0, 1) := by decide +kernel
theorem dX1_isOpen_13 : decode cX1_isOpen 13 = .ok (.ireturn, 1) := by decide +kernel
theorem dX1_isOpen_14 : decode cX1_isOpen 14 = .ok (.aload_n 0, 1) := by decide +kernel
theorem dX1_isOpen_15 : decode cX1_isOpen 15 = .ok (.getfield 16, 3) := by decide +kernel
theorem dX1_isOpen_18 : decode cX1_isOpen 18 = .ok (.iload_n 1, 1) := by decide +kernel
theorem dX1_isOpen_19 : decode cX1_isOpen 19 = .ok (.baload, 1) := by decide +kernel
theorem dX1_isOpen_20 : decode cX1_isOpen 20 = .ok (.ireturn, 1) := by decide +kernel
set_option maxRecDepth 20000 in
theorem ggX1_goOn_X1_isRow : GoodIn wsX1_goOn wsX1_isRow := goodIn_r _ [4] (by decide +kernel) (by decide +kernel)
set_option maxRecDepth 20000 in
theorem gX1_goOn_X1_isRow : GoodIn wsX1_goOn (va_wsS RX1 30 yX1_isRow wsX1_isRow) := goodIn_app (goodIn_of _ (by decide +kernel)) ggX1_goOn_X1_isRow
set_option maxRecDepth 20000 in
theorem ggX1_goOn_X1_isPlace : GoodIn wsX1_goOn wsX1_isPlace := goodIn_r _ [7] (by decide +kernel) (by decide +kernel)
set_option maxRecDepth 20000 in
theorem gX1_goOn_X1_isPlace : GoodIn wsX1_goOn (va_wsS RX1 34 yX1_isPlace wsX1_isPlace) := goodIn_app (goodIn_of _ (by decide +kernel)) ggX1_goOn_X1_isPlace
set_option maxRecDepth 20000 in
theorem ggX1_goOn_X1_isSign : GoodIn wsX1_goOn wsX1_isSign := goodIn_r _ [10] (by decide +kernel) (by decide +kernel)
set_option maxRecDepth 20000 in
theorem gX1_goOn_X1_isSign : GoodIn wsX1_goOn (va_wsS RX1 55 yX1_isSign wsX1_isSign) := goodIn_app (goodIn_of _ (by decide +kernel)) ggX1_goOn_X1_isSign
set_option maxRecDepth 20000 in
theorem ggX1_goOn_X1_may : GoodIn wsX1_goOn wsX1_may := goodIn_r _ [14, 15, 25, 26, 27, 28, 29] (by decide +kernel) (by decide +kernel)
set_option maxRecDepth 20000 in
theorem gX1_goOn_X1_may : GoodIn wsX1_goOn (wsV RX1 40 RX1 yX1_may wsX1_may) := goodIn_app (goodIn_of _ (by decide +kernel)) ggX1_goOn_X1_may
set_option maxRecDepth 20000 in
theorem ggX1_goOn_X1_at : GoodIn wsX1_goOn wsX1_at := goodIn_r _ [19, 20, 25, 26, 27, 28, 29] (by decide +kernel) (by decide +kernel)
set_option maxRecDepth 20000 in
theorem gX1_goOn_X1_at : GoodIn wsX1_goOn (wsV RX1 44 RX1 yX1_at wsX1_at) := goodIn_app (goodIn_of _ (by decide +kernel)) ggX1_goOn_X1_at
set_option maxRecDepth 20000 in
theorem ggX1_goOn_X1_isTrue : GoodIn wsX1_goOn wsX1_isTrue := goodIn_r _ [23, 24] (by decide +kernel) (by decide +kernel)
set_option maxRecDepth 20000 in
theorem gX1_goOn_X1_isTrue : GoodIn wsX1_goOn (va_wsS RX1 61 yX1_isTrue wsX1_isTrue) := goodIn_app (goodIn_of _ (by decide +kernel)) ggX1_goOn_X1_isTrue
theorem dX1_goOn_0 : decode cX1_goOn 0 = .ok (.aload_n 0, 1) := by decide +kernel
theorem dX1_goOn_1 : decode cX1_goOn 1 = .ok (.iload_n 1, 1) := by decide +kernel
theorem dX1_goOn_2 : decode cX1_goOn 2 = .ok (.invokestatic 30, 3) := by decide +kernel
theorem dX1_goOn_5 : decode cX1_goOn 5 = .ok (.ifCond .eq 14, 3) := by decide +kernel
theorem dX1_goOn_8 : decode cX1_goOn 8 = .ok (.iload_n 2, 1) := by decide +kernel
theorem dX1_goOn_9 : decode cX1_goOn 9 = .ok (.invokestatic 34, 3) := by decide +kernel
theorem dX1_goOn_12 : decode cX1_goOn 12 = .ok (.ifCond .eq 7, 3) := by decide +kernel
theorem dX1_goOn_15 : decode cX1_goOn 15 = .ok (.iconst 1, 1) := by decide +kernel
theorem dX1_goOn_16 : decode cX1_goOn 16 = .ok (.goto 4, 3) := by decide +kernel
theorem dX1_goOn_19 : decode cX1_goOn 19 = .ok (.iconst 0, 1) := by decide +kernel
theorem dX1_goOn_20 : decode cX1_goOn 20 = .ok (.iload_n 3, 1) := by decide +kernel
theorem dX1_goOn_21 : decode cX1_goOn 21 = .ok (.invokestatic 55, 3) := by decide +kernel
theorem dX1_goOn_24 : decode cX1_goOn 24 = .ok (.invokevirtual 40, 3) := by decide +kernel
theorem dX1_goOn_27 : decode cX1_goOn 27 = .ok (.ifCond .ne 5, 3) := by decide +kernel
theorem dX1_goOn_30 : decode cX1_goOn 30 = .ok (.iconst 0, 1) := by decide +kernel
theorem dX1_goOn_31 : decode cX1_goOn 31 = .ok (.ireturn, 1) := by decide +kernel
theorem dX1_goOn_32 : decode cX1_goOn 32 = .ok (.iload_n 2, 1) := by decide +kernel
theorem dX1_goOn_33 : decode cX1_goOn 33 = .ok (.istore 5, 2) := by decide +kernel
theorem dX1_goOn_35 : decode cX1_goOn 35 = .ok (.iload 5, 2) := by decide +kernel
theorem dX1_goOn_37 : decode cX1_goOn 37 = .ok (.iconst 1, 1) := by decide +kernel
theorem dX1_goOn_38 : decode cX1_goOn 38 = .ok (.iadd, 1) := by decide +kernel
theorem dX1_goOn_39 : decode cX1_goOn 39 = .ok (.bipush 12, 2) := by decide +kernel
theorem dX1_goOn_41 : decode cX1_goOn 41 = .ok (.if_icmp .ge 34, 3) := by decide +kernel
theorem dX1_goOn_44 : decode cX1_goOn 44 = .ok (.iload_n 3, 1) := by decide +kernel
theorem dX1_goOn_45 : decode cX1_goOn 45 = .ok (.aload_n 0, 1) := by decide +kernel
theorem dX1_goOn_46 : decode cX1_goOn 46 = .ok (.iload_n 1, 1) := by decide +kernel
theorem dX1_goOn_47 : decode cX1_goOn 47 = .ok (.iload 5, 2) := by decide +kernel
theorem dX1_goOn_49 : decode cX1_goOn 49 = .ok (.invokevirtual 44, 3) := by decide +kernel
theorem dX1_goOn_52 : decode cX1_goOn 52 = .ok (.aload_n 0, 1) := by decide +kernel
theorem dX1_goOn_53 : decode cX1_goOn 53 = .ok (.iload_n 1, 1) := by decide +kernel
theorem dX1_goOn_54 : decode cX1_goOn 54 = .ok (.iload 5, 2) := by decide +kernel
theorem dX1_goOn_56 : decode cX1_goOn 56 = .ok (.iconst 1, 1) := by decide +kernel
theorem dX1_goOn_57 : decode cX1_goOn 57 = .ok (.iadd, 1) := by decide +kernel
theorem dX1_goOn_58 : decode cX1_goOn 58 = .ok (.invokevirtual 44, 3) := by decide +kernel
theorem dX1_goOn_61 : decode cX1_goOn 61 = .ok (.invokestatic 61, 3) := by decide +kernel
theorem dX1_goOn_64 : decode cX1_goOn 64 = .ok (.iload 4, 2) := by decide +kernel
theorem dX1_goOn_66 : decode cX1_goOn 66 = .ok (.if_icmp .ne 9, 3) := by decide +kernel
theorem dX1_goOn_69 : decode cX1_goOn 69 = .ok (.iinc 5 1, 3) := by decide +kernel
theorem dX1_goOn_72 : decode cX1_goOn 72 = .ok (.goto (-37), 3) := by decide +kernel
theorem dX1_goOn_75 : decode cX1_goOn 75 = .ok (.iload 5, 2) := by decide +kernel
theorem dX1_goOn_77 : decode cX1_goOn 77 = .ok (.ireturn, 1) := by decide +kernel
set_option maxRecDepth 20000 in
theorem ggX1_climb_X1_goOn : GoodIn wsX1_climb wsX1_goOn := goodIn_r _ [5, 6, 7, 4, 8, 9, 10, 11, 12, 13, 14, 15, 16, 17, 18, 19, 20, 21, 22, 23, 24, 25, 26, 27, 28, 29, 30, 31, 32, 33] (by decide +kernel) (by decide +kernel)
set_option maxRecDepth 20000 in
theorem gX1_climb_X1_goOn : GoodIn wsX1_climb (wsV RX1 65 RX1 yX1_goOn wsX1_goOn) := goodIn_app (goodIn_of _ (by decide +kernel)) ggX1_climb_X1_goOn
theorem dX1_climb_0 : decode cX1_climb 0 = .ok (.aload_n 0, 1) := by decide +kernel
theorem dX1_climb_1 : decode cX1_climb 1 = .ok (.iload_n 1, 1) := by decide +kernel
theorem dX1_climb_2 : decode cX1_climb 2 = .ok (.iload_n 2, 1) := by decide +kernel
theorem dX1_climb_3 : decode cX1_climb 3 = .ok (.iload_n 3, 1) := by decide +kernel
theorem dX1_climb_4 : decode cX1_climb 4 = .ok (.iconst 1, 1) := by decide +kernel
theorem dX1_climb_5 : decode cX1_climb 5 = .ok (.invokevirtual 65, 3) := by decide +kernel
theorem dX1_climb_8 : decode cX1_climb 8 = .ok (.ireturn, 1) := by decide +kernel
set_option maxRecDepth 20000 in
theorem ggX1_drift_X1_goOn : GoodIn wsX1_drift wsX1_goOn := goodIn_r _ [5, 6, 7, 4, 8, 9, 10, 11, 12, 13, 14, 15, 16, 17, 18, 19, 20, 21, 22, 23, 24, 25, 26, 27, 28, 29, 30, 31, 32, 33] (by decide +kernel) (by decide +kernel)
set_option maxRecDepth 20000 in
theorem gX1_drift_X1_goOn : GoodIn wsX1_drift (wsV RX1 65 RX1 yX1_goOn wsX1_goOn) := goodIn_app (goodIn_of _ (by decide +kernel)) ggX1_drift_X1_goOn
theorem dX1_drift_0 : decode cX1_drift 0 = .ok (.aload_n 0, 1) := by decide +kernel
theorem dX1_drift_1 : decode cX1_drift 1 = .ok (.iload_n 1, 1) := by decide +kernel
theorem dX1_drift_2 : decode cX1_drift 2 = .ok (.iload_n 2, 1) := by decide +kernel
theorem dX1_drift_3 : decode cX1_drift 3 = .ok (.iload_n 3, 1) := by decide +kernel
theorem dX1_drift_4 : decode cX1_drift 4 = .ok (.iconst 0, 1) := by decide +kernel
theorem dX1_drift_5 : decode cX1_drift 5 = .ok (.invokevirtual 65, 3) := by decide +kernel
theorem dX1_drift_8 : decode cX1_drift 8 = .ok (.ireturn, 1) := by decide +kernel
set_option maxRecDepth 20000 in
theorem ggX1_pick_X1_isRow : GoodIn wsX1_pick wsX1_isRow := goodIn_r _ [4] (by decide +kernel) (by decide +kernel)
set_option maxRecDepth 20000 in
theorem gX1_pick_X1_isRow : GoodIn wsX1_pick (va_wsS RX1 30 yX1_isRow wsX1_isRow) := goodIn_app (goodIn_of _ (by decide +kernel)) ggX1_pick_X1_isRow
set_option maxRecDepth 20000 in
theorem ggX1_pick_X1_isSign : GoodIn wsX1_pick wsX1_isSign := goodIn_r _ [7] (by decide +kernel) (by decide +kernel)
set_option maxRecDepth 20000 in
theorem gX1_pick_X1_isSign : GoodIn wsX1_pick (va_wsS RX1 55 yX1_isSign wsX1_isSign) := goodIn_app (goodIn_of _ (by decide +kernel)) ggX1_pick_X1_isSign
set_option maxRecDepth 20000 in
theorem ggX1_pick_X1_may : GoodIn wsX1_pick wsX1_may := goodIn_r _ [11, 12, 22, 23, 24, 25, 26] (by decide +kernel) (by decide +kernel)
set_option maxRecDepth 20000 in
theorem gX1_pick_X1_may : GoodIn wsX1_pick (wsV RX1 40 RX1 yX1_may wsX1_may) := goodIn_app (goodIn_of _ (by decide +kernel)) ggX1_pick_X1_may
set_option maxRecDepth 20000 in
theorem ggX1_pick_X1_at : GoodIn wsX1_pick wsX1_at := goodIn_r _ [16, 17, 22, 23, 24, 25, 26] (by decide +kernel) (by decide +kernel)
set_option maxRecDepth 20000 in
theorem gX1_pick_X1_at : GoodIn wsX1_pick (wsV RX1 44 RX1 yX1_at wsX1_at) := goodIn_app (goodIn_of _ (by decide +kernel)) ggX1_pick_X1_at
set_option maxRecDepth 20000 in
theorem ggX1_pick_X1_isTrue : GoodIn wsX1_pick wsX1_isTrue := goodIn_r _ [20, 21] (by decide +kernel) (by decide +kernel)
set_option maxRecDepth 20000 in
theorem gX1_pick_X1_isTrue : GoodIn wsX1_pick (va_wsS RX1 61 yX1_isTrue wsX1_isTrue) := goodIn_app (goodIn_of _ (by decide +kernel)) ggX1_pick_X1_isTrue
theorem dX1_pick_0 : decode cX1_pick 0 = .ok (.aload_n 0, 1) := by decide +kernel
theorem dX1_pick_1 : decode cX1_pick 1 = .ok (.iload_n 1, 1) := by decide +kernel
theorem dX1_pick_2 : decode cX1_pick 2 = .ok (.invokestatic 30, 3) := by decide +kernel
theorem dX1_pick_5 : decode cX1_pick 5 = .ok (.iload_n 2, 1) := by decide +kernel
theorem dX1_pick_6 : decode cX1_pick 6 = .ok (.invokestatic 55, 3) := by decide +kernel
theorem dX1_pick_9 : decode cX1_pick 9 = .ok (.invokevirtual 40, 3) := by decide +kernel
theorem dX1_pick_12 : decode cX1_pick 12 = .ok (.ifCond .ne 5, 3) := by decide +kernel
theorem dX1_pick_15 : decode cX1_pick 15 = .ok (.iconst 0, 1) := by decide +kernel
theorem dX1_pick_16 : decode cX1_pick 16 = .ok (.ireturn, 1) := by decide +kernel
theorem dX1_pick_17 : decode cX1_pick 17 = .ok (.iconst 0, 1) := by decide +kernel
theorem dX1_pick_18 : decode cX1_pick 18 = .ok (.istore_n 3, 1) := by decide +kernel
theorem dX1_pick_19 : decode cX1_pick 19 = .ok (.iconst 1, 1) := by decide +kernel
theorem dX1_pick_20 : decode cX1_pick 20 = .ok (.istore 4, 2) := by decide +kernel
theorem dX1_pick_22 : decode cX1_pick 22 = .ok (.iload 4, 2) := by decide +kernel
theorem dX1_pick_24 : decode cX1_pick 24 = .ok (.bipush 12, 2) := by decide +kernel
theorem dX1_pick_26 : decode cX1_pick 26 = .ok (.if_icmp .ge 36, 3) := by decide +kernel
theorem dX1_pick_29 : decode cX1_pick 29 = .ok (.iload_n 2, 1) := by decide +kernel
theorem dX1_pick_30 : decode cX1_pick 30 = .ok (.aload_n 0, 1) := by decide +kernel
theorem dX1_pick_31 : decode cX1_pick 31 = .ok (.iload_n 1, 1) := by decide +kernel
theorem dX1_pick_32 : decode cX1_pick 32 = .ok (.iload 4, 2) := by decide +kernel
theorem dX1_pick_34 : decode cX1_pick 34 = .ok (.invokevirtual 44, 3) := by decide +kernel
theorem dX1_pick_37 : decode cX1_pick 37 = .ok (.aload_n 0, 1) := by decide +kernel
theorem dX1_pick_38 : decode cX1_pick 38 = .ok (.iload_n 1, 1) := by decide +kernel
theorem dX1_pick_39 : decode cX1_pick 39 = .ok (.iload_n 3, 1) := by decide +kernel
theorem dX1_pick_40 : decode cX1_pick 40 = .ok (.invokevirtual 44, 3) := by decide +kernel
theorem dX1_pick_43 : decode cX1_pick 43 = .ok (.invokestatic 61, 3) := by decide +kernel
theorem dX1_pick_46 : decode cX1_pick 46 = .ok (.ifCond .eq 8, 3) := by decide +kernel
theorem dX1_pick_49 : decode cX1_pick 49 = .ok (.iload 4, 2) := by decide +kernel
theorem dX1_pick_51 : decode cX1_pick 51 = .ok (.goto 4, 3) := by decide +kernel
theorem dX1_pick_54 : decode cX1_pick 54 = .ok (.iload_n 3, 1) := by decide +kernel
theorem dX1_pick_55 : decode cX1_pick 55 = .ok (.istore_n 3, 1) := by decide +kernel
theorem dX1_pick_56 : decode cX1_pick 56 = .ok (.iinc 4 1, 3) := by decide +kernel
theorem dX1_pick_59 : decode cX1_pick 59 = .ok (.goto (-37), 3) := by decide +kernel
theorem dX1_pick_62 : decode cX1_pick 62 = .ok (.iload_n 3, 1) := by decide +kernel
theorem dX1_pick_63 : decode cX1_pick 63 = .ok (.ireturn, 1) := by decide +kernel
set_option maxRecDepth 20000 in
theorem ggX1_keep_X1_isRow : GoodIn wsX1_keep wsX1_isRow := goodIn_r _ [5] (by decide +kernel) (by decide +kernel)
set_option maxRecDepth 20000 in
theorem gX1_keep_X1_isRow : GoodIn wsX1_keep (va_wsS RX1 30 yX1_isRow wsX1_isRow) := goodIn_app (goodIn_of _ (by decide +kernel)) ggX1_keep_X1_isRow
set_option maxRecDepth 20000 in
theorem ggX1_keep_X1_isSign : GoodIn wsX1_keep wsX1_isSign := goodIn_r _ [8] (by decide +kernel) (by decide +kernel)
set_option maxRecDepth 20000 in
theorem gX1_keep_X1_isSign : GoodIn wsX1_keep (va_wsS RX1 55 yX1_isSign wsX1_isSign) := goodIn_app (goodIn_of _ (by decide +kernel)) ggX1_keep_X1_isSign
set_option maxRecDepth 20000 in
theorem ggX1_keep_X1_may : GoodIn wsX1_keep wsX1_may := goodIn_r _ [12, 13, 23, 24, 25, 26, 27] (by decide +kernel) (by decide +kernel)
set_option maxRecDepth 20000 in
theorem gX1_keep_X1_may : GoodIn wsX1_keep (wsV RX1 40 RX1 yX1_may wsX1_may) := goodIn_app (goodIn_of _ (by decide +kernel)) ggX1_keep_X1_may
set_option maxRecDepth 20000 in
theorem ggX1_keep_X1_at : GoodIn wsX1_keep wsX1_at := goodIn_r _ [17, 18, 23, 24, 25, 26, 27] (by decide +kernel) (by decide +kernel)
set_option maxRecDepth 20000 in
theorem gX1_keep_X1_at : GoodIn wsX1_keep (wsV RX1 44 RX1 yX1_at wsX1_at) := goodIn_app (goodIn_of _ (by decide +kernel)) ggX1_keep_X1_at
set_option maxRecDepth 20000 in
theorem ggX1_keep_X1_isTrue : GoodIn wsX1_keep wsX1_isTrue := goodIn_r _ [21, 22] (by decide +kernel) (by decide +kernel)
set_option maxRecDepth 20000 in
theorem gX1_keep_X1_isTrue : GoodIn wsX1_keep (va_wsS RX1 61 yX1_isTrue wsX1_isTrue) := goodIn_app (goodIn_of _ (by decide +kernel)) ggX1_keep_X1_isTrue
theorem dX1_keep_0 : decode cX1_keep 0 = .ok (.aload_n 0, 1) := by decide +kernel
theorem dX1_keep_1 : decode cX1_keep 1 = .ok (.iload_n 1, 1) := by decide +kernel
theorem dX1_keep_2 : decode cX1_keep 2 = .ok (.invokestatic 30, 3) := by decide +kernel
theorem dX1_keep_5 : decode cX1_keep 5 = .ok (.iload_n 2, 1) := by decide +kernel
theorem dX1_keep_6 : decode cX1_keep 6 = .ok (.invokestatic 55, 3) := by decide +kernel
theorem dX1_keep_9 : decode cX1_keep 9 = .ok (.invokevirtual 40, 3) := by decide +kernel
theorem dX1_keep_12 : decode cX1_keep 12 = .ok (.ifCond .ne 5, 3) := by decide +kernel
theorem dX1_keep_15 : decode cX1_keep 15 = .ok (.iconst 0, 1) := by decide +kernel
theorem dX1_keep_16 : decode cX1_keep 16 = .ok (.ireturn, 1) := by decide +kernel
theorem dX1_keep_17 : decode cX1_keep 17 = .ok (.iconst 0, 1) := by decide +kernel
theorem dX1_keep_18 : decode cX1_keep 18 = .ok (.istore_n 3, 1) := by decide +kernel
theorem dX1_keep_19 : decode cX1_keep 19 = .ok (.iconst 0, 1) := by decide +kernel
theorem dX1_keep_20 : decode cX1_keep 20 = .ok (.istore 4, 2) := by decide +kernel
theorem dX1_keep_22 : decode cX1_keep 22 = .ok (.iconst 0, 1) := by decide +kernel
theorem dX1_keep_23 : decode cX1_keep 23 = .ok (.istore 5, 2) := by decide +kernel
theorem dX1_keep_25 : decode cX1_keep 25 = .ok (.iload 5, 2) := by decide +kernel
theorem dX1_keep_27 : decode cX1_keep 27 = .ok (.iconst 1, 1) := by decide +kernel
theorem dX1_keep_28 : decode cX1_keep 28 = .ok (.iadd, 1) := by decide +kernel
theorem dX1_keep_29 : decode cX1_keep 29 = .ok (.bipush 12, 2) := by decide +kernel
theorem dX1_keep_31 : decode cX1_keep 31 = .ok (.if_icmp .ge 42, 3) := by decide +kernel
theorem dX1_keep_34 : decode cX1_keep 34 = .ok (.iload_n 2, 1) := by decide +kernel
theorem dX1_keep_35 : decode cX1_keep 35 = .ok (.aload_n 0, 1) := by decide +kernel
theorem dX1_keep_36 : decode cX1_keep 36 = .ok (.iload_n 1, 1) := by decide +kernel
theorem dX1_keep_37 : decode cX1_keep 37 = .ok (.iload 5, 2) := by decide +kernel
theorem dX1_keep_39 : decode cX1_keep 39 = .ok (.invokevirtual 44, 3) := by decide +kernel
theorem dX1_keep_42 : decode cX1_keep 42 = .ok (.aload_n 0, 1) := by decide +kernel
theorem dX1_keep_43 : decode cX1_keep 43 = .ok (.iload_n 1, 1) := by decide +kernel
theorem dX1_keep_44 : decode cX1_keep 44 = .ok (.iload 5, 2) := by decide +kernel
theorem dX1_keep_46 : decode cX1_keep 46 = .ok (.iconst 1, 1) := by decide +kernel
theorem dX1_keep_47 : decode cX1_keep 47 = .ok (.iadd, 1) := by decide +kernel
theorem dX1_keep_48 : decode cX1_keep 48 = .ok (.invokevirtual 44, 3) := by decide +kernel
theorem dX1_keep_51 : decode cX1_keep 51 = .ok (.invokestatic 61, 3) := by decide +kernel
theorem dX1_keep_54 : decode cX1_keep 54 = .ok (.ifCond .eq 13, 3) := by decide +kernel
theorem dX1_keep_57 : decode cX1_keep 57 = .ok (.iload_n 3, 1) := by decide +kernel
theorem dX1_keep_58 : decode cX1_keep 58 = .ok (.iconst 1, 1) := by decide +kernel
theorem dX1_keep_59 : decode cX1_keep 59 = .ok (.iload 5, 2) := by decide +kernel
theorem dX1_keep_61 : decode cX1_keep 61 = .ok (.ishl, 1) := by decide +kernel
theorem dX1_keep_62 : decode cX1_keep 62 = .ok (.ior, 1) := by decide +kernel
theorem dX1_keep_63 : decode cX1_keep 63 = .ok (.istore_n 3, 1) := by decide +kernel
theorem dX1_keep_64 : decode cX1_keep 64 = .ok (.iinc 4 1, 3) := by decide +kernel
theorem dX1_keep_67 : decode cX1_keep 67 = .ok (.iinc 5 1, 3) := by decide +kernel
theorem dX1_keep_70 : decode cX1_keep 70 = .ok (.goto (-45), 3) := by decide +kernel
theorem dX1_keep_73 : decode cX1_keep 73 = .ok (.aload_n 0, 1) := by decide +kernel
theorem dX1_keep_74 : decode cX1_keep 74 = .ok (.getfield 20, 3) := by decide +kernel
theorem dX1_keep_77 : decode cX1_keep 77 = .ok (.iload_n 1, 1) := by decide +kernel
theorem dX1_keep_78 : decode cX1_keep 78 = .ok (.iload_n 3, 1) := by decide +kernel
theorem dX1_keep_79 : decode cX1_keep 79 = .ok (.iastore, 1) := by decide +kernel
theorem dX1_keep_80 : decode cX1_keep 80 = .ok (.iload 4, 2) := by decide +kernel
theorem dX1_keep_82 : decode cX1_keep 82 = .ok (.ireturn, 1) := by decide +kernel
set_option maxRecDepth 20000 in
theorem ggX1_notes_X1_isRow : GoodIn wsX1_notes wsX1_isRow := goodIn_r _ [5] (by decide +kernel) (by decide +kernel)
set_option maxRecDepth 20000 in
theorem gX1_notes_X1_isRow : GoodIn wsX1_notes (va_wsS RX1 30 yX1_isRow wsX1_isRow) := goodIn_app (goodIn_of _ (by decide +kernel)) ggX1_notes_X1_isRow
set_option maxRecDepth 20000 in
theorem ggX1_notes_X1_may : GoodIn wsX1_notes wsX1_may := goodIn_r _ [9, 10, 11, 12, 13, 14, 15] (by decide +kernel) (by decide +kernel)
set_option maxRecDepth 20000 in
theorem gX1_notes_X1_may : GoodIn wsX1_notes (wsV RX1 40 RX1 yX1_may wsX1_may) := goodIn_app (goodIn_of _ (by decide +kernel)) ggX1_notes_X1_may
theorem dX1_notes_0 : decode cX1_notes 0 = .ok (.aload_n 0, 1) := by decide +kernel
theorem dX1_notes_1 : decode cX1_notes 1 = .ok (.iload_n 1, 1) := by decide +kernel
theorem dX1_notes_2 : decode cX1_notes 2 = .ok (.invokestatic 30, 3) := by decide +kernel
theorem dX1_notes_5 : decode cX1_notes 5 = .ok (.iconst 1, 1) := by decide +kernel
theorem dX1_notes_6 : decode cX1_notes 6 = .ok (.invokevirtual 40, 3) := by decide +kernel
theorem dX1_notes_9 : decode cX1_notes 9 = .ok (.ifCond .ne 5, 3) := by decide +kernel
theorem dX1_notes_12 : decode cX1_notes 12 = .ok (.iconst 0, 1) := by decide +kernel
theorem dX1_notes_13 : decode cX1_notes 13 = .ok (.ireturn, 1) := by decide +kernel
theorem dX1_notes_14 : decode cX1_notes 14 = .ok (.aload_n 0, 1) := by decide +kernel
theorem dX1_notes_15 : decode cX1_notes 15 = .ok (.getfield 20, 3) := by decide +kernel
theorem dX1_notes_18 : decode cX1_notes 18 = .ok (.iload_n 1, 1) := by decide +kernel
theorem dX1_notes_19 : decode cX1_notes 19 = .ok (.iaload, 1) := by decide +kernel
theorem dX1_notes_20 : decode cX1_notes 20 = .ok (.ireturn, 1) := by decide +kernel
set_option maxRecDepth 20000 in
theorem ggX1_gaps_X1_isRow : GoodIn wsX1_gaps wsX1_isRow := goodIn_r _ [5] (by decide +kernel) (by decide +kernel)
set_option maxRecDepth 20000 in
theorem gX1_gaps_X1_isRow : GoodIn wsX1_gaps (va_wsS RX1 30 yX1_isRow wsX1_isRow) := goodIn_app (goodIn_of _ (by decide +kernel)) ggX1_gaps_X1_isRow
set_option maxRecDepth 20000 in
theorem ggX1_gaps_X1_may : GoodIn wsX1_gaps wsX1_may := goodIn_r _ [9, 10, 16, 17, 18, 19, 20] (by decide +kernel) (by decide +kernel)
set_option maxRecDepth 20000 in
theorem gX1_gaps_X1_may : GoodIn wsX1_gaps (wsV RX1 40 RX1 yX1_may wsX1_may) := goodIn_app (goodIn_of _ (by decide +kernel)) ggX1_gaps_X1_may
set_option maxRecDepth 20000 in
theorem ggX1_gaps_X1_at : GoodIn wsX1_gaps wsX1_at := goodIn_r _ [14, 15, 16, 17, 18, 19, 20] (by decide +kernel) (by decide +kernel)
set_option maxRecDepth 20000 in
theorem gX1_gaps_X1_at : GoodIn wsX1_gaps (wsV RX1 44 RX1 yX1_at wsX1_at) := goodIn_app (goodIn_of _ (by decide +kernel)) ggX1_gaps_X1_at
theorem dX1_gaps_0 : decode cX1_gaps 0 = .ok (.aload_n 0, 1) := by decide +kernel
theorem dX1_gaps_1 : decode cX1_gaps 1 = .ok (.iload_n 1, 1) := by decide +kernel
theorem dX1_gaps_2 : decode cX1_gaps 2 = .ok (.invokestatic 30, 3) := by decide +kernel
theorem dX1_gaps_5 : decode cX1_gaps 5 = .ok (.iconst 1, 1) := by decide +kernel
theorem dX1_gaps_6 : decode cX1_gaps 6 = .ok (.invokevirtual 40, 3) := by decide +kernel
theorem dX1_gaps_9 : decode cX1_gaps 9 = .ok (.ifCond .ne 5, 3) := by decide +kernel
theorem dX1_gaps_12 : decode cX1_gaps 12 = .ok (.iconst 0, 1) := by decide +kernel
theorem dX1_gaps_13 : decode cX1_gaps 13 = .ok (.ireturn, 1) := by decide +kernel
theorem dX1_gaps_14 : decode cX1_gaps 14 = .ok (.iconst 0, 1) := by decide +kernel
theorem dX1_gaps_15 : decode cX1_gaps 15 = .ok (.istore_n 2, 1) := by decide +kernel
theorem dX1_gaps_16 : decode cX1_gaps 16 = .ok (.iconst 0, 1) := by decide +kernel
theorem dX1_gaps_17 : decode cX1_gaps 17 = .ok (.istore_n 3, 1) := by decide +kernel
theorem dX1_gaps_18 : decode cX1_gaps 18 = .ok (.iload_n 3, 1) := by decide +kernel
theorem dX1_gaps_19 : decode cX1_gaps 19 = .ok (.bipush 12, 2) := by decide +kernel
theorem dX1_gaps_21 : decode cX1_gaps 21 = .ok (.if_icmp .ge 28, 3) := by decide +kernel
theorem dX1_gaps_24 : decode cX1_gaps 24 = .ok (.iload_n 2, 1) := by decide +kernel
theorem dX1_gaps_25 : decode cX1_gaps 25 = .ok (.aload_n 0, 1) := by decide +kernel
theorem dX1_gaps_26 : decode cX1_gaps 26 = .ok (.iload_n 1, 1) := by decide +kernel
theorem dX1_gaps_27 : decode cX1_gaps 27 = .ok (.iload_n 3, 1) := by decide +kernel
theorem dX1_gaps_28 : decode cX1_gaps 28 = .ok (.invokevirtual 44, 3) := by decide +kernel
theorem dX1_gaps_31 : decode cX1_gaps 31 = .ok (.ldc 23, 2) := by decide +kernel
theorem dX1_gaps_33 : decode cX1_gaps 33 = .ok (.if_icmp .ne 7, 3) := by decide +kernel
theorem dX1_gaps_36 : decode cX1_gaps 36 = .ok (.iconst 1, 1) := by decide +kernel
theorem dX1_gaps_37 : decode cX1_gaps 37 = .ok (.goto 4, 3) := by decide +kernel
theorem dX1_gaps_40 : decode cX1_gaps 40 = .ok (.iconst 0, 1) := by decide +kernel
theorem dX1_gaps_41 : decode cX1_gaps 41 = .ok (.iadd, 1) := by decide +kernel
theorem dX1_gaps_42 : decode cX1_gaps 42 = .ok (.istore_n 2, 1) := by decide +kernel
theorem dX1_gaps_43 : decode cX1_gaps 43 = .ok (.iinc 3 1, 3) := by decide +kernel
theorem dX1_gaps_46 : decode cX1_gaps 46 = .ok (.goto (-28), 3) := by decide +kernel
theorem dX1_gaps_49 : decode cX1_gaps 49 = .ok (.iload_n 2, 1) := by decide +kernel
theorem dX1_gaps_50 : decode cX1_gaps 50 = .ok (.ireturn, 1) := by decide +kernel
set_option maxRecDepth 20000 in
theorem ggX1_settle_X1_isRow : GoodIn wsX1_settle wsX1_isRow := goodIn_r _ [5] (by decide +kernel) (by decide +kernel)
set_option maxRecDepth 20000 in
theorem gX1_settle_X1_isRow : GoodIn wsX1_settle (va_wsS RX1 30 yX1_isRow wsX1_isRow) := goodIn_app (goodIn_of _ (by decide +kernel)) ggX1_settle_X1_isRow
set_option maxRecDepth 20000 in
theorem ggX1_settle_X1_isSign : GoodIn wsX1_settle wsX1_isSign := goodIn_r _ [8] (by decide +kernel) (by decide +kernel)
set_option maxRecDepth 20000 in
theorem gX1_settle_X1_isSign : GoodIn wsX1_settle (va_wsS RX1 55 yX1_isSign wsX1_isSign) := goodIn_app (goodIn_of _ (by decide +kernel)) ggX1_settle_X1_isSign
set_option maxRecDepth 20000 in
theorem ggX1_settle_X1_may : GoodIn wsX1_settle wsX1_may := goodIn_r _ [12, 13, 22, 23, 24, 25, 26] (by decide +kernel) (by decide +kernel)
set_option maxRecDepth 20000 in
theorem gX1_settle_X1_may : GoodIn wsX1_settle (wsV RX1 40 RX1 yX1_may wsX1_may) := goodIn_app (goodIn_of _ (by decide +kernel)) ggX1_settle_X1_may
set_option maxRecDepth 20000 in
theorem ggX1_settle_X1_at : GoodIn wsX1_settle wsX1_at := goodIn_r _ [17, 1, 22, 23, 24, 25, 26] (by decide +kernel) (by decide +kernel)
set_option maxRecDepth 20000 in
theorem gX1_settle_X1_at : GoodIn wsX1_settle (wsV RX1 44 RX1 yX1_at wsX1_at) := goodIn_app (goodIn_of _ (by decide +kernel)) ggX1_settle_X1_at
set_option maxRecDepth 20000 in
theorem ggX1_settle_X1_isTrue : GoodIn wsX1_settle wsX1_isTrue := goodIn_r _ [20, 21] (by decide +kernel) (by decide +kernel)
set_option maxRecDepth 20000 in
theorem gX1_settle_X1_isTrue : GoodIn wsX1_settle (va_wsS RX1 61 yX1_isTrue wsX1_isTrue) := goodIn_app (goodIn_of _ (by decide +kernel)) ggX1_settle_X1_isTrue
theorem dX1_settle_0 : decode cX1_settle 0 = .ok (.aload_n 0, 1) := by decide +kernel
theorem dX1_settle_1 : decode cX1_settle 1 = .ok (.iload_n 1, 1) := by decide +kernel
theorem dX1_settle_2 : decode cX1_settle 2 = .ok (.invokestatic 30, 3) := by decide +kernel
theorem dX1_settle_5 : decode cX1_settle 5 = .ok (.iload_n 2, 1) := by decide +kernel
theorem dX1_settle_6 : decode cX1_settle 6 = .ok (.invokestatic 55, 3) := by decide +kernel
theorem dX1_settle_9 : decode cX1_settle 9 = .ok (.invokevirtual 40, 3) := by decide +kernel
theorem dX1_settle_12 : decode cX1_settle 12 = .ok (.ifCond .ne 5, 3) := by decide +kernel
theorem dX1_settle_15 : decode cX1_settle 15 = .ok (.iconst 0, 1) := by decide +kernel
theorem dX1_settle_16 : decode cX1_settle 16 = .ok (.ireturn, 1) := by decide +kernel
theorem dX1_settle_17 : decode cX1_settle 17 = .ok (.iconst 0, 1) := by decide +kernel
theorem dX1_settle_18 : decode cX1_settle 18 = .ok (.istore_n 3, 1) := by decide +kernel
theorem dX1_settle_19 : decode cX1_settle 19 = .ok (.iconst 1, 1) := by decide +kernel
theorem dX1_settle_20 : decode cX1_settle 20 = .ok (.istore 4, 2) := by decide +kernel
theorem dX1_settle_22 : decode cX1_settle 22 = .ok (.iload 4, 2) := by decide +kernel
theorem dX1_settle_24 : decode cX1_settle 24 = .ok (.bipush 12, 2) := by decide +kernel
theorem dX1_settle_26 : decode cX1_settle 26 = .ok (.if_icmp .ge 96, 3) := by decide +kernel
theorem dX1_settle_29 : decode cX1_settle 29 = .ok (.iload 4, 2) := by decide +kernel
theorem dX1_settle_31 : decode cX1_settle 31 = .ok (.istore 5, 2) := by decide +kernel
theorem dX1_settle_33 : decode cX1_settle 33 = .ok (.iload 5, 2) := by decide +kernel
theorem dX1_settle_35 : decode cX1_settle 35 = .ok (.ifCond .le 81, 3) := by decide +kernel
theorem dX1_settle_38 : decode cX1_settle 38 = .ok (.iload_n 2, 1) := by decide +kernel
theorem dX1_settle_39 : decode cX1_settle 39 = .ok (.aload_n 0, 1) := by decide +kernel
theorem dX1_settle_40 : decode cX1_settle 40 = .ok (.iload_n 1, 1) := by decide +kernel
theorem dX1_settle_41 : decode cX1_settle 41 = .ok (.iload 5, 2) := by decide +kernel
theorem dX1_settle_43 : decode cX1_settle 43 = .ok (.invokevirtual 44, 3) := by decide +kernel
theorem dX1_settle_46 : decode cX1_settle 46 = .ok (.aload_n 0, 1) := by decide +kernel
theorem dX1_settle_47 : decode cX1_settle 47 = .ok (.iload_n 1, 1) := by decide +kernel
theorem dX1_settle_48 : decode cX1_settle 48 = .ok (.iload 5, 2) := by decide +kernel
theorem dX1_settle_50 : decode cX1_settle 50 = .ok (.iconst 1, 1) := by decide +kernel
theorem dX1_settle_51 : decode cX1_settle 51 = .ok (.isub, 1) := by decide +kernel
theorem dX1_settle_52 : decode cX1_settle 52 = .ok (.invokevirtual 44, 3) := by decide +kernel
theorem dX1_settle_55 : decode cX1_settle 55 = .ok (.invokestatic 61, 3) := by decide +kernel
theorem dX1_settle_58 : decode cX1_settle 58 = .ok (.ifCond .eq 58, 3) := by decide +kernel
theorem dX1_settle_61 : decode cX1_settle 61 = .ok (.aload_n 0, 1) := by decide +kernel
theorem dX1_settle_62 : decode cX1_settle 62 = .ok (.iload_n 1, 1) := by decide +kernel
theorem dX1_settle_63 : decode cX1_settle 63 = .ok (.iload 5, 2) := by decide +kernel
theorem dX1_settle_65 : decode cX1_settle 65 = .ok (.invokevirtual 44, 3) := by decide +kernel
theorem dX1_settle_68 : decode cX1_settle 68 = .ok (.istore 6, 2) := by decide +kernel
theorem dX1_settle_70 : decode cX1_settle 70 = .ok (.aload_n 0, 1) := by decide +kernel
theorem dX1_settle_71 : decode cX1_settle 71 = .ok (.getfield 7, 3) := by decide +kernel
theorem dX1_settle_74 : decode cX1_settle 74 = .ok (.bipush 12, 2) := by decide +kernel
theorem dX1_settle_76 : decode cX1_settle 76 = .ok (.iload_n 1, 1) := by decide +kernel
theorem dX1_settle_77 : decode cX1_settle 77 = .ok (.imul, 1) := by decide +kernel
theorem dX1_settle_78 : decode cX1_settle 78 = .ok (.iload 5, 2) := by decide +kernel
theorem dX1_settle_80 : decode cX1_settle 80 = .ok (.iadd, 1) := by decide +kernel
theorem dX1_settle_81 : decode cX1_settle 81 = .ok (.aload_n 0, 1) := by decide +kernel
theorem dX1_settle_82 : decode cX1_settle 82 = .ok (.iload_n 1, 1) := by decide +kernel
theorem dX1_settle_83 : decode cX1_settle 83 = .ok (.iload 5, 2) := by decide +kernel
theorem dX1_settle_85 : decode cX1_settle 85 = .ok (.iconst 1, 1) := by decide +kernel
theorem dX1_settle_86 : decode cX1_settle 86 = .ok (.isub, 1) := by decide +kernel
theorem dX1_settle_87 : decode cX1_settle 87 = .ok (.invokevirtual 44, 3) := by decide +kernel
theorem dX1_settle_90 : decode cX1_settle 90 = .ok (.iastore, 1) := by decide +kernel
theorem dX1_settle_91 : decode cX1_settle 91 = .ok (.aload_n 0, 1) := by decide +kernel
theorem dX1_settle_92 : decode cX1_settle 92 = .ok (.getfield 7, 3) := by decide +kernel
theorem dX1_settle_95 : decode cX1_settle 95 = .ok (.bipush 12, 2) := by decide +kernel
theorem dX1_settle_97 : decode cX1_settle 97 = .ok (.iload_n 1, 1) := by decide +kernel
theorem dX1_settle_98 : decode cX1_settle 98 = .ok (.imul, 1) := by decide +kernel
theorem dX1_settle_99 : decode cX1_settle 99 = .ok (.iload 5, 2) := by decide +kernel
theorem dX1_settle_101 : decode cX1_settle 101 = .ok (.iadd, 1) := by decide +kernel
theorem dX1_settle_102 : decode cX1_settle 102 = .ok (.iconst 1, 1) := by decide +kernel
theorem dX1_settle_103 : decode cX1_settle 103 = .ok (.isub, 1) := by decide +kernel
theorem dX1_settle_104 : decode cX1_settle 104 = .ok (.iload 6, 2) := by decide +kernel
theorem dX1_settle_106 : decode cX1_settle 106 = .ok (.iastore, 1) := by decide +kernel
theorem dX1_settle_107 : decode cX1_settle 107 = .ok (.iinc 5 (-1), 3) := by decide +kernel
theorem dX1_settle_110 : decode cX1_settle 110 = .ok (.iinc 3 1, 3) := by decide +kernel
theorem dX1_settle_113 : decode cX1_settle 113 = .ok (.goto (-80), 3) := by decide +kernel
theorem dX1_settle_116 : decode cX1_settle 116 = .ok (.iinc 4 1, 3) := by decide +kernel
theorem dX1_settle_119 : decode cX1_settle 119 = .ok (.goto (-97), 3) := by decide +kernel
theorem dX1_settle_122 : decode cX1_settle 122 = .ok (.iload_n 3, 1) := by decide +kernel
theorem dX1_settle_123 : decode cX1_settle 123 = .ok (.ireturn, 1) := by decide +kernel
set_option maxRecDepth 20000 in
theorem ggX1_meet_X1_isRow : GoodIn wsX1_meet wsX1_isRow := goodIn_r _ [4] (by decide +kernel) (by decide +kernel)
set_option maxRecDepth 20000 in
theorem gX1_meet_X1_isRow : GoodIn wsX1_meet (va_wsS RX1 30 yX1_isRow wsX1_isRow) := goodIn_app (goodIn_of _ (by decide +kernel)) ggX1_meet_X1_isRow
set_option maxRecDepth 20000 in
theorem ggX1_meet_X1_isSign : GoodIn wsX1_meet wsX1_isSign := goodIn_r _ [7] (by decide +kernel) (by decide +kernel)
set_option maxRecDepth 20000 in
theorem gX1_meet_X1_isSign : GoodIn wsX1_meet (va_wsS RX1 55 yX1_isSign wsX1_isSign) := goodIn_app (goodIn_of _ (by decide +kernel)) ggX1_meet_X1_isSign
set_option maxRecDepth 20000 in
theorem ggX1_meet_X1_areOneSort : GoodIn wsX1_meet wsX1_areOneSort := goodIn_r _ [10] (by decide +kernel) (by decide +kernel)
set_option maxRecDepth 20000 in
theorem gX1_meet_X1_areOneSort : GoodIn wsX1_meet (va_wsS RX1 51 yX1_areOneSort wsX1_areOneSort) := goodIn_app (goodIn_of _ (by decide +kernel)) ggX1_meet_X1_areOneSort
set_option maxRecDepth 20000 in
theorem ggX1_meet_X1_may : GoodIn wsX1_meet wsX1_may := goodIn_r _ [14, 15, 25, 26, 27, 28, 29] (by decide +kernel) (by decide +kernel)
set_option maxRecDepth 20000 in
theorem gX1_meet_X1_may : GoodIn wsX1_meet (wsV RX1 40 RX1 yX1_may wsX1_may) := goodIn_app (goodIn_of _ (by decide +kernel)) ggX1_meet_X1_may
set_option maxRecDepth 20000 in
theorem ggX1_meet_X1_at : GoodIn wsX1_meet wsX1_at := goodIn_r _ [19, 20, 25, 26, 27, 28, 29] (by decide +kernel) (by decide +kernel)
set_option maxRecDepth 20000 in
theorem gX1_meet_X1_at : GoodIn wsX1_meet (wsV RX1 44 RX1 yX1_at wsX1_at) := goodIn_app (goodIn_of _ (by decide +kernel)) ggX1_meet_X1_at
set_option maxRecDepth 20000 in
theorem ggX1_meet_X1_isTrue : GoodIn wsX1_meet wsX1_isTrue := goodIn_r _ [23, 24] (by decide +kernel) (by decide +kernel)
set_option maxRecDepth 20000 in
theorem gX1_meet_X1_isTrue : GoodIn wsX1_meet (va_wsS RX1 61 yX1_isTrue wsX1_isTrue) := goodIn_app (goodIn_of _ (by decide +kernel)) ggX1_meet_X1_isTrue
theorem dX1_meet_0 : decode cX1_meet 0 = .ok (.aload_n 0, 1) := by decide +kernel
theorem dX1_meet_1 : decode cX1_meet 1 = .ok (.iload_n 1, 1) := by decide +kernel
theorem dX1_meet_2 : decode cX1_meet 2 = .ok (.invokestatic 30, 3) := by decide +kernel
theorem dX1_meet_5 : decode cX1_meet 5 = .ok (.ifCond .eq 14, 3) := by decide +kernel
theorem dX1_meet_8 : decode cX1_meet 8 = .ok (.iload_n 2, 1) := by decide +kernel
theorem dX1_meet_9 : decode cX1_meet 9 = .ok (.invokestatic 30, 3) := by decide +kernel
theorem dX1_meet_12 : decode cX1_meet 12 = .ok (.ifCond .eq 7, 3) := by decide +kernel
theorem dX1_meet_15 : decode cX1_meet 15 = .ok (.iconst 1, 1) := by decide +kernel
theorem dX1_meet_16 : decode cX1_meet 16 = .ok (.goto 4, 3) := by decide +kernel
theorem dX1_meet_19 : decode cX1_meet 19 = .ok (.iconst 0, 1) := by decide +kernel
theorem dX1_meet_20 : decode cX1_meet 20 = .ok (.iload_n 3, 1) := by decide +kernel
theorem dX1_meet_21 : decode cX1_meet 21 = .ok (.invokestatic 55, 3) := by decide +kernel
theorem dX1_meet_24 : decode cX1_meet 24 = .ok (.ifCond .eq 15, 3) := by decide +kernel
theorem dX1_meet_27 : decode cX1_meet 27 = .ok (.iload_n 1, 1) := by decide +kernel
theorem dX1_meet_28 : decode cX1_meet 28 = .ok (.iload_n 2, 1) := by decide +kernel
theorem dX1_meet_29 : decode cX1_meet 29 = .ok (.invokestatic 51, 3) := by decide +kernel
theorem dX1_meet_32 : decode cX1_meet 32 = .ok (.ifCond .eq 7, 3) := by decide +kernel
theorem dX1_meet_35 : decode cX1_meet 35 = .ok (.iconst 1, 1) := by decide +kernel
theorem dX1_meet_36 : decode cX1_meet 36 = .ok (.goto 4, 3) := by decide +kernel
theorem dX1_meet_39 : decode cX1_meet 39 = .ok (.iconst 0, 1) := by decide +kernel
theorem dX1_meet_40 : decode cX1_meet 40 = .ok (.invokevirtual 40, 3) := by decide +kernel
theorem dX1_meet_43 : decode cX1_meet 43 = .ok (.ifCond .ne 5, 3) := by decide +kernel
theorem dX1_meet_46 : decode cX1_meet 46 = .ok (.iconst 0, 1) := by decide +kernel
theorem dX1_meet_47 : decode cX1_meet 47 = .ok (.ireturn, 1) := by decide +kernel
theorem dX1_meet_48 : decode cX1_meet 48 = .ok (.iconst 0, 1) := by decide +kernel
theorem dX1_meet_49 : decode cX1_meet 49 = .ok (.istore 4, 2) := by decide +kernel
theorem dX1_meet_51 : decode cX1_meet 51 = .ok (.iconst 0, 1) := by decide +kernel
theorem dX1_meet_52 : decode cX1_meet 52 = .ok (.istore 5, 2) := by decide +kernel
theorem dX1_meet_54 : decode cX1_meet 54 = .ok (.iload 5, 2) := by decide +kernel
theorem dX1_meet_56 : decode cX1_meet 56 = .ok (.bipush 12, 2) := by decide +kernel
theorem dX1_meet_58 : decode cX1_meet 58 = .ok (.if_icmp .ge 40, 3) := by decide +kernel
theorem dX1_meet_61 : decode cX1_meet 61 = .ok (.iload 4, 2) := by decide +kernel
theorem dX1_meet_63 : decode cX1_meet 63 = .ok (.iload_n 3, 1) := by decide +kernel
theorem dX1_meet_64 : decode cX1_meet 64 = .ok (.aload_n 0, 1) := by decide +kernel
theorem dX1_meet_65 : decode cX1_meet 65 = .ok (.iload_n 1, 1) := by decide +kernel
theorem dX1_meet_66 : decode cX1_meet 66 = .ok (.iload 5, 2) := by decide +kernel
theorem dX1_meet_68 : decode cX1_meet 68 = .ok (.invokevirtual 44, 3) := by decide +kernel
theorem dX1_meet_71 : decode cX1_meet 71 = .ok (.aload_n 0, 1) := by decide +kernel
theorem dX1_meet_72 : decode cX1_meet 72 = .ok (.iload_n 2, 1) := by decide +kernel
theorem dX1_meet_73 : decode cX1_meet 73 = .ok (.iload 5, 2) := by decide +kernel
theorem dX1_meet_75 : decode cX1_meet 75 = .ok (.invokevirtual 44, 3) := by decide +kernel
theorem dX1_meet_78 : decode cX1_meet 78 = .ok (.invokestatic 61, 3) := by decide +kernel
theorem dX1_meet_81 : decode cX1_meet 81 = .ok (.ifCond .eq 7, 3) := by decide +kernel
theorem dX1_meet_84 : decode cX1_meet 84 = .ok (.iconst 1, 1) := by decide +kernel
theorem dX1_meet_85 : decode cX1_meet 85 = .ok (.goto 4, 3) := by decide +kernel
theorem dX1_meet_88 : decode cX1_meet 88 = .ok (.iconst 0, 1) := by decide +kernel
theorem dX1_meet_89 : decode cX1_meet 89 = .ok (.iadd, 1) := by decide +kernel
theorem dX1_meet_90 : decode cX1_meet 90 = .ok (.istore 4, 2) := by decide +kernel
theorem dX1_meet_92 : decode cX1_meet 92 = .ok (.iinc 5 1, 3) := by decide +kernel
theorem dX1_meet_95 : decode cX1_meet 95 = .ok (.goto (-41), 3) := by decide +kernel
theorem dX1_meet_98 : decode cX1_meet 98 = .ok (.iload 4, 2) := by decide +kernel
theorem dX1_meet_100 : decode cX1_meet 100 = .ok (.ireturn, 1) := by decide +kernel
set_option maxRecDepth 20000 in
theorem ggX1_alike_X1_isRow : GoodIn wsX1_alike wsX1_isRow := goodIn_r _ [4] (by decide +kernel) (by decide +kernel)
set_option maxRecDepth 20000 in
theorem gX1_alike_X1_isRow : GoodIn wsX1_alike (va_wsS RX1 30 yX1_isRow wsX1_isRow) := goodIn_app (goodIn_of _ (by decide +kernel)) ggX1_alike_X1_isRow
set_option maxRecDepth 20000 in
theorem ggX1_alike_X1_areOneSort : GoodIn wsX1_alike wsX1_areOneSort := goodIn_r _ [7] (by decide +kernel) (by decide +kernel)
set_option maxRecDepth 20000 in
theorem gX1_alike_X1_areOneSort : GoodIn wsX1_alike (va_wsS RX1 51 yX1_areOneSort wsX1_areOneSort) := goodIn_app (goodIn_of _ (by decide +kernel)) ggX1_alike_X1_areOneSort
set_option maxRecDepth 20000 in
theorem ggX1_alike_X1_may : GoodIn wsX1_alike wsX1_may := goodIn_r _ [11, 12, 18, 19, 20, 21, 22] (by decide +kernel) (by decide +kernel)
set_option maxRecDepth 20000 in
theorem gX1_alike_X1_may : GoodIn wsX1_alike (wsV RX1 40 RX1 yX1_may wsX1_may) := goodIn_app (goodIn_of _ (by decide +kernel)) ggX1_alike_X1_may
set_option maxRecDepth 20000 in
theorem ggX1_alike_X1_at : GoodIn wsX1_alike wsX1_at := goodIn_r _ [16, 17, 18, 19, 20, 21, 22] (by decide +kernel) (by decide +kernel)
set_option maxRecDepth 20000 in
theorem gX1_alike_X1_at : GoodIn wsX1_alike (wsV RX1 44 RX1 yX1_at wsX1_at) := goodIn_app (goodIn_of _ (by decide +kernel)) ggX1_alike_X1_at
theorem dX1_alike_0 : decode cX1_alike 0 = .ok (.aload_n 0, 1) := by decide +kernel
theorem dX1_alike_1 : decode cX1_alike 1 = .ok (.iload_n 1, 1) := by decide +kernel
theorem dX1_alike_2 : decode cX1_alike 2 = .ok (.invokestatic 30, 3) := by decide +kernel
theorem dX1_alike_5 : decode cX1_alike 5 = .ok (.ifCond .eq 14, 3) := by decide +kernel
theorem dX1_alike_8 : decode cX1_alike 8 = .ok (.iload_n 2, 1) := by decide +kernel
theorem dX1_alike_9 : decode cX1_alike 9 = .ok (.invokestatic 30, 3) := by decide +kernel
theorem dX1_alike_12 : decode cX1_alike 12 = .ok (.ifCond .eq 7, 3) := by decide +kernel
theorem dX1_alike_15 : decode cX1_alike 15 = .ok (.iconst 1, 1) := by decide +kernel
theorem dX1_alike_16 : decode cX1_alike 16 = .ok (.goto 4, 3) := by decide +kernel
theorem dX1_alike_19 : decode cX1_alike 19 = .ok (.iconst 0, 1) := by decide +kernel
theorem dX1_alike_20 : decode cX1_alike 20 = .ok (.iload_n 1, 1) := by decide +kernel
theorem dX1_alike_21 : decode cX1_alike 21 = .ok (.iload_n 2, 1) := by decide +kernel
theorem dX1_alike_22 : decode cX1_alike 22 = .ok (.invokestatic 51, 3) := by decide +kernel
theorem dX1_alike_25 : decode cX1_alike 25 = .ok (.invokevirtual 40, 3) := by decide +kernel
theorem dX1_alike_28 : decode cX1_alike 28 = .ok (.ifCond .ne 5, 3) := by decide +kernel
theorem dX1_alike_31 : decode cX1_alike 31 = .ok (.iconst 0, 1) := by decide +kernel
theorem dX1_alike_32 : decode cX1_alike 32 = .ok (.ireturn, 1) := by decide +kernel
theorem dX1_alike_33 : decode cX1_alike 33 = .ok (.iconst 1, 1) := by decide +kernel
theorem dX1_alike_34 : decode cX1_alike 34 = .ok (.istore_n 3, 1) := by decide +kernel
theorem dX1_alike_35 : decode cX1_alike 35 = .ok (.iconst 0, 1) := by decide +kernel
theorem dX1_alike_36 : decode cX1_alike 36 = .ok (.istore 4, 2) := by decide +kernel
theorem dX1_alike_38 : decode cX1_alike 38 = .ok (.iload 4, 2) := by decide +kernel
theorem dX1_alike_40 : decode cX1_alike 40 = .ok (.bipush 12, 2) := by decide +kernel
theorem dX1_alike_42 : decode cX1_alike 42 = .ok (.if_icmp .ge 36, 3) := by decide +kernel
theorem dX1_alike_45 : decode cX1_alike 45 = .ok (.iload_n 3, 1) := by decide +kernel
theorem dX1_alike_46 : decode cX1_alike 46 = .ok (.ifCond .eq 24, 3) := by decide +kernel
theorem dX1_alike_49 : decode cX1_alike 49 = .ok (.aload_n 0, 1) := by decide +kernel
theorem dX1_alike_50 : decode cX1_alike 50 = .ok (.iload_n 1, 1) := by decide +kernel
theorem dX1_alike_51 : decode cX1_alike 51 = .ok (.iload 4, 2) := by decide +kernel
theorem dX1_alike_53 : decode cX1_alike 53 = .ok (.invokevirtual 44, 3) := by decide +kernel
theorem dX1_alike_56 : decode cX1_alike 56 = .ok (.aload_n 0, 1) := by decide +kernel
theorem dX1_alike_57 : decode cX1_alike 57 = .ok (.iload_n 2, 1) := by decide +kernel
theorem dX1_alike_58 : decode cX1_alike 58 = .ok (.iload 4, 2) := by decide +kernel
theorem dX1_alike_60 : decode cX1_alike 60 = .ok (.invokevirtual 44, 3) := by decide +kernel
theorem dX1_alike_63 : decode cX1_alike 63 = .ok (.if_icmp .ne 7, 3) := by decide +kernel
theorem dX1_alike_66 : decode cX1_alike 66 = .ok (.iconst 1, 1) := by decide +kernel
theorem dX1_alike_67 : decode cX1_alike 67 = .ok (.goto 4, 3) := by decide +kernel
theorem dX1_alike_70 : decode cX1_alike 70 = .ok (.iconst 0, 1) := by decide +kernel
theorem dX1_alike_71 : decode cX1_alike 71 = .ok (.istore_n 3, 1) := by decide +kernel
theorem dX1_alike_72 : decode cX1_alike 72 = .ok (.iinc 4 1, 3) := by decide +kernel
theorem dX1_alike_75 : decode cX1_alike 75 = .ok (.goto (-37), 3) := by decide +kernel
theorem dX1_alike_78 : decode cX1_alike 78 = .ok (.iload_n 3, 1) := by decide +kernel
theorem dX1_alike_79 : decode cX1_alike 79 = .ok (.ireturn, 1) := by decide +kernel
set_option maxRecDepth 20000 in
theorem ggX1_merge_X1_isRow : GoodIn wsX1_merge wsX1_isRow := goodIn_r _ [5] (by decide +kernel) (by decide +kernel)
set_option maxRecDepth 20000 in
theorem gX1_merge_X1_isRow : GoodIn wsX1_merge (va_wsS RX1 30 yX1_isRow wsX1_isRow) := goodIn_app (goodIn_of _ (by decide +kernel)) ggX1_merge_X1_isRow
set_option maxRecDepth 20000 in
theorem ggX1_merge_X1_isSign : GoodIn wsX1_merge wsX1_isSign := goodIn_r _ [8] (by decide +kernel) (by decide +kernel)
set_option maxRecDepth 20000 in
theorem gX1_merge_X1_isSign : GoodIn wsX1_merge (va_wsS RX1 55 yX1_isSign wsX1_isSign) := goodIn_app (goodIn_of _ (by decide +kernel)) ggX1_merge_X1_isSign
set_option maxRecDepth 20000 in
theorem ggX1_merge_X1_areOneSort : GoodIn wsX1_merge wsX1_areOneSort := goodIn_r _ [11] (by decide +kernel) (by decide +kernel)
set_option maxRecDepth 20000 in
theorem gX1_merge_X1_areOneSort : GoodIn wsX1_merge (va_wsS RX1 51 yX1_areOneSort wsX1_areOneSort) := goodIn_app (goodIn_of _ (by decide +kernel)) ggX1_merge_X1_areOneSort
set_option maxRecDepth 20000 in
theorem ggX1_merge_X1_may : GoodIn wsX1_merge wsX1_may := goodIn_r _ [15, 16, 25, 26, 27, 28, 29] (by decide +kernel) (by decide +kernel)
set_option maxRecDepth 20000 in
theorem gX1_merge_X1_may : GoodIn wsX1_merge (wsV RX1 40 RX1 yX1_may wsX1_may) := goodIn_app (goodIn_of _ (by decide +kernel)) ggX1_merge_X1_may
set_option maxRecDepth 20000 in
theorem ggX1_merge_X1_at : GoodIn wsX1_merge wsX1_at := goodIn_r _ [20, 1, 25, 26, 27, 28, 29] (by decide +kernel) (by decide +kernel)
set_option maxRecDepth 20000 in
theorem gX1_merge_X1_at : GoodIn wsX1_merge (wsV RX1 44 RX1 yX1_at wsX1_at) := goodIn_app (goodIn_of _ (by decide +kernel)) ggX1_merge_X1_at
set_option maxRecDepth 20000 in
theorem ggX1_merge_X1_isTrue : GoodIn wsX1_merge wsX1_isTrue := goodIn_r _ [23, 24] (by decide +kernel) (by decide +kernel)
set_option maxRecDepth 20000 in
theorem gX1_merge_X1_isTrue : GoodIn wsX1_merge (va_wsS RX1 61 yX1_isTrue wsX1_isTrue) := goodIn_app (goodIn_of _ (by decide +kernel)) ggX1_merge_X1_isTrue
theorem dX1_merge_0 : decode cX1_merge 0 = .ok (.aload_n 0, 1) := by decide +kernel
theorem dX1_merge_1 : decode cX1_merge 1 = .ok (.iload_n 1, 1) := by decide +kernel
theorem dX1_merge_2 : decode cX1_merge 2 = .ok (.invokestatic 30, 3) := by decide +kernel
theorem dX1_merge_5 : decode cX1_merge 5 = .ok (.ifCond .eq 21, 3) := by decide +kernel
theorem dX1_merge_8 : decode cX1_merge 8 = .ok (.iload_n 2, 1) := by decide +kernel
theorem dX1_merge_9 : decode cX1_merge 9 = .ok (.invokestatic 30, 3) := by decide +kernel
theorem dX1_merge_12 : decode cX1_merge 12 = .ok (.ifCond .eq 14, 3) := by decide +kernel
theorem dX1_merge_15 : decode cX1_merge 15 = .ok (.iload_n 3, 1) := by decide +kernel
theorem dX1_merge_16 : decode cX1_merge 16 = .ok (.invokestatic 30, 3) := by decide +kernel
theorem dX1_merge_19 : decode cX1_merge 19 = .ok (.ifCond .eq 7, 3) := by decide +kernel
theorem dX1_merge_22 : decode cX1_merge 22 = .ok (.iconst 1, 1) := by decide +kernel
theorem dX1_merge_23 : decode cX1_merge 23 = .ok (.goto 4, 3) := by decide +kernel
theorem dX1_merge_26 : decode cX1_merge 26 = .ok (.iconst 0, 1) := by decide +kernel
theorem dX1_merge_27 : decode cX1_merge 27 = .ok (.iload 4, 2) := by decide +kernel
theorem dX1_merge_29 : decode cX1_merge 29 = .ok (.invokestatic 55, 3) := by decide +kernel
theorem dX1_merge_32 : decode cX1_merge 32 = .ok (.ifCond .eq 33, 3) := by decide +kernel
theorem dX1_merge_35 : decode cX1_merge 35 = .ok (.iload_n 1, 1) := by decide +kernel
theorem dX1_merge_36 : decode cX1_merge 36 = .ok (.iload_n 2, 1) := by decide +kernel
theorem dX1_merge_37 : decode cX1_merge 37 = .ok (.invokestatic 51, 3) := by decide +kernel
theorem dX1_merge_40 : decode cX1_merge 40 = .ok (.ifCond .eq 25, 3) := by decide +kernel
theorem dX1_merge_43 : decode cX1_merge 43 = .ok (.iload_n 1, 1) := by decide +kernel
theorem dX1_merge_44 : decode cX1_merge 44 = .ok (.iload_n 3, 1) := by decide +kernel
theorem dX1_merge_45 : decode cX1_merge 45 = .ok (.invokestatic 51, 3) := by decide +kernel
theorem dX1_merge_48 : decode cX1_merge 48 = .ok (.ifCond .eq 17, 3) := by decide +kernel
theorem dX1_merge_51 : decode cX1_merge 51 = .ok (.iload_n 3, 1) := by decide +kernel
theorem dX1_merge_52 : decode cX1_merge 52 = .ok (.iload_n 1, 1) := by decide +kernel
theorem dX1_merge_53 : decode cX1_merge 53 = .ok (.if_icmp .eq 12, 3) := by decide +kernel
theorem dX1_merge_56 : decode cX1_merge 56 = .ok (.iload_n 3, 1) := by decide +kernel
theorem dX1_merge_57 : decode cX1_merge 57 = .ok (.iload_n 2, 1) := by decide +kernel
theorem dX1_merge_58 : decode cX1_merge 58 = .ok (.if_icmp .eq 7, 3) := by decide +kernel
theorem dX1_merge_61 : decode cX1_merge 61 = .ok (.iconst 1, 1) := by decide +kernel
theorem dX1_merge_62 : decode cX1_merge 62 = .ok (.goto 4, 3) := by decide +kernel
theorem dX1_merge_65 : decode cX1_merge 65 = .ok (.iconst 0, 1) := by decide +kernel
theorem dX1_merge_66 : decode cX1_merge 66 = .ok (.invokevirtual 40, 3) := by decide +kernel
theorem dX1_merge_69 : decode cX1_merge 69 = .ok (.ifCond .ne 5, 3) := by decide +kernel
theorem dX1_merge_72 : decode cX1_merge 72 = .ok (.iconst 0, 1) := by decide +kernel
theorem dX1_merge_73 : decode cX1_merge 73 = .ok (.ireturn, 1) := by decide +kernel
theorem dX1_merge_74 : decode cX1_merge 74 = .ok (.iconst 0, 1) := by decide +kernel
theorem dX1_merge_75 : decode cX1_merge 75 = .ok (.istore 5, 2) := by decide +kernel
theorem dX1_merge_77 : decode cX1_merge 77 = .ok (.iconst 0, 1) := by decide +kernel
theorem dX1_merge_78 : decode cX1_merge 78 = .ok (.istore 6, 2) := by decide +kernel
theorem dX1_merge_80 : decode cX1_merge 80 = .ok (.iload 6, 2) := by decide +kernel
theorem dX1_merge_82 : decode cX1_merge 82 = .ok (.bipush 12, 2) := by decide +kernel
theorem dX1_merge_84 : decode cX1_merge 84 = .ok (.if_icmp .ge 80, 3) := by decide +kernel
theorem dX1_merge_87 : decode cX1_merge 87 = .ok (.aload_n 0, 1) := by decide +kernel
theorem dX1_merge_88 : decode cX1_merge 88 = .ok (.iload_n 1, 1) := by decide +kernel
theorem dX1_merge_89 : decode cX1_merge 89 = .ok (.iload 5, 2) := by decide +kernel
theorem dX1_merge_91 : decode cX1_merge 91 = .ok (.invokevirtual 44, 3) := by decide +kernel
theorem dX1_merge_94 : decode cX1_merge 94 = .ok (.istore 7, 2) := by decide +kernel
theorem dX1_merge_96 : decode cX1_merge 96 = .ok (.aload_n 0, 1) := by decide +kernel
theorem dX1_merge_97 : decode cX1_merge 97 = .ok (.iload_n 2, 1) := by decide +kernel
theorem dX1_merge_98 : decode cX1_merge 98 = .ok (.iload 6, 2) := by decide +kernel
theorem dX1_merge_100 : decode cX1_merge 100 = .ok (.iload 5, 2) := by decide +kernel
theorem dX1_merge_102 : decode cX1_merge 102 = .ok (.isub, 1) := by decide +kernel
theorem dX1_merge_103 : decode cX1_merge 103 = .ok (.invokevirtual 44, 3) := by decide +kernel
theorem dX1_merge_106 : decode cX1_merge 106 = .ok (.istore 8, 2) := by decide +kernel
theorem dX1_merge_108 : decode cX1_merge 108 = .ok (.iload 4, 2) := by decide +kernel
theorem dX1_merge_110 : decode cX1_merge 110 = .ok (.iload 7, 2) := by decide +kernel
theorem dX1_merge_112 : decode cX1_merge 112 = .ok (.iload 8, 2) := by decide +kernel
theorem dX1_merge_114 : decode cX1_merge 114 = .ok (.invokestatic 61, 3) := by decide +kernel
theorem dX1_merge_117 : decode cX1_merge 117 = .ok (.istore 9, 2) := by decide +kernel
theorem dX1_merge_119 : decode cX1_merge 119 = .ok (.aload_n 0, 1) := by decide +kernel
theorem dX1_merge_120 : decode cX1_merge 120 = .ok (.getfield 7, 3) := by decide +kernel
theorem dX1_merge_123 : decode cX1_merge 123 = .ok (.bipush 12, 2) := by decide +kernel
theorem dX1_merge_125 : decode cX1_merge 125 = .ok (.iload_n 3, 1) := by decide +kernel
theorem dX1_merge_126 : decode cX1_merge 126 = .ok (.imul, 1) := by decide +kernel
theorem dX1_merge_127 : decode cX1_merge 127 = .ok (.iload 6, 2) := by decide +kernel
theorem dX1_merge_129 : decode cX1_merge 129 = .ok (.iadd, 1) := by decide +kernel
theorem dX1_merge_130 : decode cX1_merge 130 = .ok (.iload 9, 2) := by decide +kernel
theorem dX1_merge_132 : decode cX1_merge 132 = .ok (.ifCond .eq 8, 3) := by decide +kernel
theorem dX1_merge_135 : decode cX1_merge 135 = .ok (.iload 7, 2) := by decide +kernel
theorem dX1_merge_137 : decode cX1_merge 137 = .ok (.goto 5, 3) := by decide +kernel
theorem dX1_merge_140 : decode cX1_merge 140 = .ok (.iload 8, 2) := by decide +kernel
theorem dX1_merge_142 : decode cX1_merge 142 = .ok (.iastore, 1) := by decide +kernel
theorem dX1_merge_143 : decode cX1_merge 143 = .ok (.iload 5, 2) := by decide +kernel
theorem dX1_merge_145 : decode cX1_merge 145 = .ok (.iload 9, 2) := by decide +kernel
theorem dX1_merge_147 : decode cX1_merge 147 = .ok (.ifCond .eq 7, 3) := by decide +kernel
theorem dX1_merge_150 : decode cX1_merge 150 = .ok (.iconst 1, 1) := by decide +kernel
theorem dX1_merge_151 : decode cX1_merge 151 = .ok (.goto 4, 3) := by decide +kernel
theorem dX1_merge_154 : decode cX1_merge 154 = .ok (.iconst 0, 1) := by decide +kernel
theorem dX1_merge_155 : decode cX1_merge 155 = .ok (.iadd, 1) := by decide +kernel
theorem dX1_merge_156 : decode cX1_merge 156 = .ok (.istore 5, 2) := by decide +kernel
theorem dX1_merge_158 : decode cX1_merge 158 = .ok (.iinc 6 1, 3) := by decide +kernel
theorem dX1_merge_161 : decode cX1_merge 161 = .ok (.goto (-81), 3) := by decide +kernel
theorem dX1_merge_164 : decode cX1_merge 164 = .ok (.iload 5, 2) := by decide +kernel
theorem dX1_merge_166 : decode cX1_merge 166 = .ok (.ireturn, 1) := by decide +kernel
theorem dJ6_bitCount_0f7a4_0 : decode cJ6_bitCount_0f7a4 0 = .ok (.iload_n 0, 1) := by decide +kernel
theorem dJ6_bitCount_0f7a4_1 : decode cJ6_bitCount_0f7a4 1 = .ok (.iload_n 0, 1) := by decide +kernel
theorem dJ6_bitCount_0f7a4_2 : decode cJ6_bitCount_0f7a4 2 = .ok (.iconst 1, 1) := by decide +kernel
theorem dJ6_bitCount_0f7a4_3 : decode cJ6_bitCount_0f7a4 3 = .ok (.iushr, 1) := by decide +kernel
theorem dJ6_bitCount_0f7a4_4 : decode cJ6_bitCount_0f7a4 4 = .ok (.ldc_w 265, 3) := by decide +kernel
theorem dJ6_bitCount_0f7a4_7 : decode cJ6_bitCount_0f7a4 7 = .ok (.iand, 1) := by decide +kernel
theorem dJ6_bitCount_0f7a4_8 : decode cJ6_bitCount_0f7a4 8 = .ok (.isub, 1) := by decide +kernel
theorem dJ6_bitCount_0f7a4_9 : decode cJ6_bitCount_0f7a4 9 = .ok (.istore_n 0, 1) := by decide +kernel
theorem dJ6_bitCount_0f7a4_10 : decode cJ6_bitCount_0f7a4 10 = .ok (.iload_n 0, 1) := by decide +kernel
theorem dJ6_bitCount_0f7a4_11 : decode cJ6_bitCount_0f7a4 11 = .ok (.ldc_w 266, 3) := by decide +kernel
theorem dJ6_bitCount_0f7a4_14 : decode cJ6_bitCount_0f7a4 14 = .ok (.iand, 1) := by decide +kernel
theorem dJ6_bitCount_0f7a4_15 : decode cJ6_bitCount_0f7a4 15 = .ok (.iload_n 0, 1) := by decide +kernel
theorem dJ6_bitCount_0f7a4_16 : decode cJ6_bitCount_0f7a4 16 = .ok (.iconst 2, 1) := by decide +kernel
theorem dJ6_bitCount_0f7a4_17 : decode cJ6_bitCount_0f7a4 17 = .ok (.iushr, 1) := by decide +kernel
theorem dJ6_bitCount_0f7a4_18 : decode cJ6_bitCount_0f7a4 18 = .ok (.ldc_w 266, 3) := by decide +kernel
theorem dJ6_bitCount_0f7a4_21 : decode cJ6_bitCount_0f7a4 21 = .ok (.iand, 1) := by decide +kernel
theorem dJ6_bitCount_0f7a4_22 : decode cJ6_bitCount_0f7a4 22 = .ok (.iadd, 1) := by decide +kernel
theorem dJ6_bitCount_0f7a4_23 : decode cJ6_bitCount_0f7a4 23 = .ok (.istore_n 0, 1) := by decide +kernel
theorem dJ6_bitCount_0f7a4_24 : decode cJ6_bitCount_0f7a4 24 = .ok (.iload_n 0, 1) := by decide +kernel
theorem dJ6_bitCount_0f7a4_25 : decode cJ6_bitCount_0f7a4 25 = .ok (.iload_n 0, 1) := by decide +kernel
theorem dJ6_bitCount_0f7a4_26 : decode cJ6_bitCount_0f7a4 26 = .ok (.iconst 4, 1) := by decide +kernel
theorem dJ6_bitCount_0f7a4_27 : decode cJ6_bitCount_0f7a4 27 = .ok (.iushr, 1) := by decide +kernel
theorem dJ6_bitCount_0f7a4_28 : decode cJ6_bitCount_0f7a4 28 = .ok (.iadd, 1) := by decide +kernel
theorem dJ6_bitCount_0f7a4_29 : decode cJ6_bitCount_0f7a4 29 = .ok (.ldc_w 267, 3) := by decide +kernel
theorem dJ6_bitCount_0f7a4_32 : decode cJ6_bitCount_0f7a4 32 = .ok (.iand, 1) := by decide +kernel
theorem dJ6_bitCount_0f7a4_33 : decode cJ6_bitCount_0f7a4 33 = .ok (.istore_n 0, 1) := by decide +kernel
theorem dJ6_bitCount_0f7a4_34 : decode cJ6_bitCount_0f7a4 34 = .ok (.iload_n 0, 1) := by decide +kernel
theorem dJ6_bitCount_0f7a4_35 : decode cJ6_bitCount_0f7a4 35 = .ok (.iload_n 0, 1) := by decide +kernel
theorem dJ6_bitCount_0f7a4_36 : decode cJ6_bitCount_0f7a4 36 = .ok (.bipush 8, 2) := by decide +kernel
theorem dJ6_bitCount_0f7a4_38 : decode cJ6_bitCount_0f7a4 38 = .ok (.iushr, 1) := by decide +kernel
theorem dJ6_bitCount_0f7a4_39 : decode cJ6_bitCount_0f7a4 39 = .ok (.iadd, 1) := by decide +kernel
theorem dJ6_bitCount_0f7a4_40 : decode cJ6_bitCount_0f7a4 40 = .ok (.istore_n 0, 1) := by decide +kernel
theorem dJ6_bitCount_0f7a4_41 : decode cJ6_bitCount_0f7a4 41 = .ok (.iload_n 0, 1) := by decide +kernel
theorem dJ6_bitCount_0f7a4_42 : decode cJ6_bitCount_0f7a4 42 = .ok (.iload_n 0, 1) := by decide +kernel
theorem dJ6_bitCount_0f7a4_43 : decode cJ6_bitCount_0f7a4 43 = .ok (.bipush 16, 2) := by decide +kernel
theorem dJ6_bitCount_0f7a4_45 : decode cJ6_bitCount_0f7a4 45 = .ok (.iushr, 1) := by decide +kernel
theorem dJ6_bitCount_0f7a4_46 : decode cJ6_bitCount_0f7a4 46 = .ok (.iadd, 1) := by decide +kernel
theorem dJ6_bitCount_0f7a4_47 : decode cJ6_bitCount_0f7a4 47 = .ok (.istore_n 0, 1) := by decide +kernel
theorem dJ6_bitCount_0f7a4_48 : decode cJ6_bitCount_0f7a4 48 = .ok (.iload_n 0, 1) := by decide +kernel
theorem dJ6_bitCount_0f7a4_49 : decode cJ6_bitCount_0f7a4 49 = .ok (.bipush 63, 2) := by decide +kernel
theorem dJ6_bitCount_0f7a4_51 : decode cJ6_bitCount_0f7a4 51 = .ok (.iand, 1) := by decide +kernel
theorem dJ6_bitCount_0f7a4_52 : decode cJ6_bitCount_0f7a4 52 = .ok (.ireturn, 1) := by decide +kernel
theorem dJ7_fill_53178_0 : decode cJ7_fill_53178 0 = .ok (.iconst 0, 1) := by decide +kernel
theorem dJ7_fill_53178_1 : decode cJ7_fill_53178 1 = .ok (.istore_n 2, 1) := by decide +kernel
theorem dJ7_fill_53178_2 : decode cJ7_fill_53178 2 = .ok (.aload_n 0, 1) := by decide +kernel
theorem dJ7_fill_53178_3 : decode cJ7_fill_53178 3 = .ok (.arraylength, 1) := by decide +kernel
theorem dJ7_fill_53178_4 : decode cJ7_fill_53178 4 = .ok (.istore_n 3, 1) := by decide +kernel
theorem dJ7_fill_53178_5 : decode cJ7_fill_53178 5 = .ok (.iload_n 2, 1) := by decide +kernel
theorem dJ7_fill_53178_6 : decode cJ7_fill_53178 6 = .ok (.iload_n 3, 1) := by decide +kernel
theorem dJ7_fill_53178_7 : decode cJ7_fill_53178 7 = .ok (.if_icmp .ge 13, 3) := by decide +kernel
theorem dJ7_fill_53178_10 : decode cJ7_fill_53178 10 = .ok (.aload_n 0, 1) := by decide +kernel
theorem dJ7_fill_53178_11 : decode cJ7_fill_53178 11 = .ok (.iload_n 2, 1) := by decide +kernel
theorem dJ7_fill_53178_12 : decode cJ7_fill_53178 12 = .ok (.iload_n 1, 1) := by decide +kernel
theorem dJ7_fill_53178_13 : decode cJ7_fill_53178 13 = .ok (.iastore, 1) := by decide +kernel
theorem dJ7_fill_53178_14 : decode cJ7_fill_53178 14 = .ok (.iinc 2 1, 3) := by decide +kernel
theorem dJ7_fill_53178_17 : decode cJ7_fill_53178 17 = .ok (.goto (-12), 3) := by decide +kernel
theorem dJ7_fill_53178_20 : decode cJ7_fill_53178 20 = .ok (.return_, 1) := by decide +kernel
end
section
/-! THE STATE, AND WHAT EACH CALL ANSWERS: one mathematical value for the class and for the reference. A state: readings, levels, open, notes. An answer: (which exception, 0 for none; the number that is returned; the state behind it). -/
abbrev vwCl : List vw_C := [(RX0, TX0, 4), (RX1, TX1, 5)]
abbrev TS : Type := (Nat → Int32) × (Nat → Int32) × (Nat → Int32) × (Nat → Int32)
abbrev TV : Type := Int32 × Int32 × TS
/-- the question of x and y with a sign -/
def tq (sg x y : Int32) : Int32 := if x = -2147483648 then (if sg = 5 then 1 else 0) else if y = -2147483648 then (if sg = 5 then 1 else 0) else if sg = 0 then (if y ≤ x then 0 else 1) else if sg = 1 then (if y < x then 0 else 1) else if sg = 2 then (if x ≤ y then 0 else 1) else if sg = 3 then (if x < y then 0 else 1) else if sg = 4 then (if x = y then 1 else 0) else (if x = y then 0 else 1)
theorem tq01 (sg x y : Int32) : tq sg x y = 0 ∨ tq sg x y = 1 := by
  unfold tq
  repeat' split
  all_goals simp
theorem tq_self (x : Int32) : tq 5 x x = if x = -2147483648 then 1 else 0 := by
  unfold tq
  by_cases h : x = -2147483648
  · rw [if_pos h, if_pos h]; rfl
  · rw [if_neg h, if_neg h, if_neg h]; simp
def tv_in (n : Nat) (x : Int32) : Bool := !(decide (x < 0)) && decide (x < nI n)
def tv_num (x : Int32) : Bool := decide (x = -2147483648) || (!(decide (x < -8000000)) && decide (x ≤ 8000000))
def tv_sg (x : Int32) : Bool := !(decide (x < 0)) && decide (x ≤ 5)
theorem tv_in_of {n : Nat} {x : Int32} (hn : n < 2 ^ 31) (h : tv_in n x = true) : ∃ r : Nat, r < n ∧ x = nI r := by
  simp only [tv_in, Bool.and_eq_true, Bool.not_eq_true', decide_eq_false_iff_not, decide_eq_true_eq] at h
  obtain ⟨j, hj, rfl⟩ := nI_of h.1
  exact ⟨j, (nI_ltI hj hn).mp h.2, rfl⟩
theorem tv_in_nI {n r : Nat} (hn : n < 2 ^ 31) (h : r < n) : tv_in n (nI r) = true := by
  simp only [tv_in, Bool.and_eq_true, Bool.not_eq_true', decide_eq_false_iff_not, decide_eq_true_eq]
  exact ⟨nI_pos (by omega), nI_lt h hn⟩
def tv_b (b : Bool) : Int32 := if b = true then 1 else 0
theorem tv_b01 (b : Bool) : tv_b b = 0 ∨ tv_b b = 1 := by cases b <;> simp [tv_b]
/-- thrown is 0, 1 or 2 by what holds -/
def tv_cd (a b : Bool) : Int32 := if a = true then (if b = true then 0 else 2) else 1
def sp (a b : Bool) (f : TV) (σ : TS) : TV := if a = true then (if b = true then f else (2, 0, σ)) else (1, 0, σ)
theorem sp_tt {f : TV} {σ : TS} : sp true true f σ = f := rfl
theorem sp_tf {f : TV} {σ : TS} : sp true false f σ = (2, 0, σ) := rfl
theorem sp_f {b : Bool} {f : TV} {σ : TS} : sp false b f σ = (1, 0, σ) := rfl
/-- the exception's name -/
def tv_en (k : Int32) : String := if k = 1 then "java/lang/IndexOutOfBoundsException" else if k = 2 then "java/lang/IllegalArgumentException" else "java/lang/IllegalStateException"
abbrev tN (x : Int32) : Nat := x.toNatClampNeg
/-- sums of 0s and 1s -/
def cn (p : Nat → Int32) : Nat → Int32
  | 0 => 0
  | k + 1 => cn p k + p k
def tv_os (x y : Int32) : Bool := decide (x / 4 = y / 4)
/-- the readings of row x -/
abbrev rw12 (rd : Nat → Int32) (r : Nat) : Nat → Int32 := fun k => rd (12 * r + k)
/-- the level of gate g for row r -/
abbrev lvl (lv : Nat → Int32) (g r : Nat) : Int32 := lv (2 * g + r / 4)
def sp_put (x1 x2 x3 : Int32) (σ : TS) : TV := sp (tv_in 8 x1 && tv_in 12 x2) (tv_num x3) (0, (if σ.1 (12 * tN x1 + tN x2) = x3 then 0 else 1), (upd σ.1 (12 * tN x1 + tN x2) x3, σ.2)) σ
def sp_reading (x1 x2 : Int32) (σ : TS) : TV := sp (tv_in 8 x1 && tv_in 12 x2) true (0, σ.1 (12 * tN x1 + tN x2), σ) σ
def sp_level (x1 x2 x3 : Int32) (σ : TS) : TV := sp (tv_in 4 x1) (tv_num x3) (0, (if σ.2.1 (2 * tN x1 + (if x2 = 0 then 0 else 1)) = x3 then 0 else 1), (σ.1, upd σ.2.1 (2 * tN x1 + (if x2 = 0 then 0 else 1)) x3, σ.2.2)) σ
/-- k places copied from row f to row t -/
def cp (f t : Nat) (rd : Nat → Int32) : Nat → Nat → Int32
  | 0 => rd
  | k + 1 => upd (cp f t rd k) (12 * t + k) (cp f t rd k (12 * f + k))
def sp_copy (x1 x2 : Int32) (σ : TS) : TV := sp (tv_in 8 x1 && tv_in 8 x2) (tv_os x1 x2) (0, cn (fun k => if σ.1 (12 * tN x1 + k) = -2147483648 then 1 else 0) 12, (cp (tN x1) (tN x2) σ.1 12, σ.2)) σ
def sp_straight (x1 x2 x3 : Int32) (σ : TS) : TV := sp (tv_in 8 x1 && tv_in 4 x3) (tv_sg x2) (0, cn (fun k => tq x2 (rw12 σ.1 (tN x1) k) (lvl σ.2.1 (tN x3) (tN x1))) 12, σ) σ
def sp_turned (x1 x2 x3 : Int32) (σ : TS) : TV := sp (tv_in 8 x1 && tv_in 4 x3) (tv_sg x2) (0, cn (fun k => if tq x2 (lvl σ.2.1 (tN x3) (tN x1)) (rw12 σ.1 (tN x1) k) = 0 then 1 else 0) 12, σ) σ
def bt1 (x a b : Int32) : Int32 := if tq 3 x a = 0 then 0 else tq 1 x b
def bt2 (x a b : Int32) : Int32 := if tq 0 x a = 0 then tq 2 x b else 1
def sp_between (x1 x2 x3 : Int32) (σ : TS) : TV := sp (tv_in 8 x1 && tv_in 4 x2 && tv_in 4 x3) true (0, 16 * cn (fun k => bt1 (rw12 σ.1 (tN x1) k) (lvl σ.2.1 (tN x2) (tN x1)) (lvl σ.2.1 (tN x3) (tN x1))) 12 + cn (fun k => bt2 (rw12 σ.1 (tN x1) k) (lvl σ.2.1 (tN x2) (tN x1)) (lvl σ.2.1 (tN x3) (tN x1))) 12, σ) σ
def sp_must (x1 x2 x3 x4 : Int32) (σ : TS) : TV := sp (tv_in 8 x1 && tv_in 12 x2 && tv_in 4 x4) (tv_sg x3) (if tq x3 (σ.1 (12 * tN x1 + tN x2)) (lvl σ.2.1 (tN x4) (tN x1)) = 0 then (3, 0, σ) else (0, σ.1 (12 * tN x1 + tN x2), σ)) σ
/-- open or shut, by a reading and a level -/
def opn (x v tr : Int32) : Int32 := if tr = 0 then tq 3 x v else (if tq 0 x v = 0 then 1 else 0)
def wa (g : Nat) (p : Nat → Int32) (op : Nat → Int32) : Nat → (Nat → Int32) × Int32
  | 0 => (op, 0)
  | k + 1 => (upd (wa g p op k).1 g (p k), (wa g p op k).2 + (if p k = (wa g p op k).1 g then 0 else 1))
def sp_watch (x1 x2 x3 : Int32) (σ : TS) : TV := sp (tv_in 4 x1 && tv_in 8 x2) true (0, (wa (tN x1) (fun k => opn (rw12 σ.1 (tN x2) k) (lvl σ.2.1 (tN x1) (tN x2)) x3) σ.2.2.1 12).2, (σ.1, σ.2.1, (wa (tN x1) (fun k => opn (rw12 σ.1 (tN x2) k) (lvl σ.2.1 (tN x1) (tN x2)) x3) σ.2.2.1 12).1, σ.2.2.2)) σ
def sp_isOpen (x1 : Int32) (σ : TS) : TV := sp (tv_in 4 x1) true (0, σ.2.2.1 (tN x1), σ) σ
/-- from place p on, n steps at most -/
def wk (sg w : Int32) (rw : Nat → Int32) : Nat → Nat → Nat
  | 0, p => p
  | n + 1, p => if p < 11 ∧ tq sg (rw p) (rw (p + 1)) = w then wk sg w rw n (p + 1) else p
def sp_climb (x1 x2 x3 : Int32) (σ : TS) : TV := sp (tv_in 8 x1 && tv_in 12 x2) (tv_sg x3) (0, nI (wk x3 1 (rw12 σ.1 (tN x1)) 12 (tN x2)), σ) σ
def sp_drift (x1 x2 x3 : Int32) (σ : TS) : TV := sp (tv_in 8 x1 && tv_in 12 x2) (tv_sg x3) (0, nI (wk x3 0 (rw12 σ.1 (tN x1)) 12 (tN x2)), σ) σ
/-- the place held when k places behind place 0 have been looked at -/
def pck (sg : Int32) (rw : Nat → Int32) : Nat → Nat
  | 0 => 0
  | k + 1 => if tq sg (rw (k + 1)) (rw (pck sg rw k)) = 0 then pck sg rw k else k + 1
def sp_pick (x1 x2 : Int32) (σ : TS) : TV := sp (tv_in 8 x1) (tv_sg x2) (0, nI (pck x2 (rw12 σ.1 (tN x1)) 11), σ) σ
def kb (p : Nat → Int32) : Nat → Int32
  | 0 => 0
  | k + 1 => if p k = 0 then kb p k else kb p k ||| (1 <<< (nI k &&& 31))
def sp_keep (x1 x2 : Int32) (σ : TS) : TV := sp (tv_in 8 x1) (tv_sg x2) (0, cn (fun k => tq x2 (rw12 σ.1 (tN x1) k) (rw12 σ.1 (tN x1) (k + 1))) 11, (σ.1, σ.2.1, σ.2.2.1, upd σ.2.2.2 (tN x1) (kb (fun k => tq x2 (rw12 σ.1 (tN x1) k) (rw12 σ.1 (tN x1) (k + 1))) 11))) σ
def sp_notes (x1 : Int32) (σ : TS) : TV := sp (tv_in 8 x1) true (0, σ.2.2.2 (tN x1), σ) σ
def sp_gaps (x1 : Int32) (σ : TS) : TV := sp (tv_in 8 x1) true (0, cn (fun k => if rw12 σ.1 (tN x1) k = -2147483648 then 1 else 0) 12, σ) σ
/-- place p of row r goes to the left: the readings, and how often -/
def ml (sg : Int32) (r : Nat) : Nat → (Nat → Int32) → (Nat → Int32) × Nat
  | 0, rd => (rd, 0)
  | p + 1, rd => if tq sg (rd (12 * r + (p + 1))) (rd (12 * r + p)) = 0 then (rd, 0) else ((ml sg r p (upd (upd rd (12 * r + (p + 1)) (rd (12 * r + p))) (12 * r + p) (rd (12 * r + (p + 1))))).1, (ml sg r p (upd (upd rd (12 * r + (p + 1)) (rd (12 * r + p))) (12 * r + p) (rd (12 * r + (p + 1))))).2 + 1)
def se (sg : Int32) (r : Nat) (rd : Nat → Int32) : Nat → (Nat → Int32) × Int32
  | 0 => (rd, 0)
  | k + 1 => ((ml sg r (k + 1) (se sg r rd k).1).1, (se sg r rd k).2 + nI (ml sg r (k + 1) (se sg r rd k).1).2)
def sp_settle (x1 x2 : Int32) (σ : TS) : TV := sp (tv_in 8 x1) (tv_sg x2) (0, (se x2 (tN x1) σ.1 11).2, ((se x2 (tN x1) σ.1 11).1, σ.2)) σ
def sp_meet (x1 x2 x3 : Int32) (σ : TS) : TV := sp (tv_in 8 x1 && tv_in 8 x2) (tv_sg x3 && tv_os x1 x2) (0, cn (fun k => tq x3 (rw12 σ.1 (tN x1) k) (rw12 σ.1 (tN x2) k)) 12, σ) σ
def al (p : Nat → Prop) (d : ∀ k, Decidable (p k)) : Nat → Int32
  | 0 => 1
  | k + 1 => if al p d k = 0 then 0 else (if p k then 1 else 0)
def sp_alike (x1 x2 : Int32) (σ : TS) : TV := sp (tv_in 8 x1 && tv_in 8 x2) (tv_os x1 x2) (0, al (fun k => rw12 σ.1 (tN x1) k = rw12 σ.1 (tN x2) k) (fun _ => inferInstance) 12, σ) σ
def mg (sg : Int32) (r o t : Nat) (rd : Nat → Int32) : Nat → (Nat → Int32) × Nat
  | 0 => (rd, 0)
  | k + 1 => (upd (mg sg r o t rd k).1 (12 * t + k) (if tq sg ((mg sg r o t rd k).1 (12 * r + (mg sg r o t rd k).2)) ((mg sg r o t rd k).1 (12 * o + (k - (mg sg r o t rd k).2))) = 0 then (mg sg r o t rd k).1 (12 * o + (k - (mg sg r o t rd k).2)) else (mg sg r o t rd k).1 (12 * r + (mg sg r o t rd k).2)),
      if tq sg ((mg sg r o t rd k).1 (12 * r + (mg sg r o t rd k).2)) ((mg sg r o t rd k).1 (12 * o + (k - (mg sg r o t rd k).2))) = 0 then (mg sg r o t rd k).2 else (mg sg r o t rd k).2 + 1)
def sp_merge (x1 x2 x3 x4 : Int32) (σ : TS) : TV := sp (tv_in 8 x1 && tv_in 8 x2 && tv_in 8 x3) (tv_sg x4 && tv_os x1 x2 && tv_os x1 x3 && !(decide (x3 = x1)) && !(decide (x3 = x2))) (0, nI (mg x4 (tN x1) (tN x2) (tN x3) σ.1 12).2, ((mg x4 (tN x1) (tN x2) (tN x3) σ.1 12).1, σ.2)) σ
/-! THE WORLDS -/
abbrev tv_ty (cI cZ cL : ClassId) : List (ClassId × FieldType) := [(cI, .int), (cZ, .boolean), (cL, .long)]
/-- the cells of a TideHouse -/
abbrev tv_cw (cI cZ : ClassId) (h a1 a2 a3 a4 : Nat) (σ : TS) : va_W := [(h, .inr (0, [.ref a1, .ref a2, .ref a3, .ref a4])), (a1, .inl (cI, 96, .inl σ.1)), (a2, .inl (cI, 8, .inl σ.2.1)), (a3, .inl (cZ, 4, .inl σ.2.2.1)), (a4, .inl (cI, 8, .inl σ.2.2.2))]
/-- the cells of a TideHouseModel -/
abbrev tv_mw (cI cZ : ClassId) (h a1 a2 a3 a4 : Nat) (th : Int32) (σ : TS) : va_W := [(h, .inr (1, [.ref a1, .ref a2, .ref a3, .ref a4, .int th])), (a1, .inl (cI, 96, .inl σ.1)), (a2, .inl (cI, 8, .inl σ.2.1)), (a3, .inl (cZ, 4, .inl σ.2.2.1)), (a4, .inl (cI, 8, .inl σ.2.2.2))]
/-- what a method that only reads is given -/
def tv_Pw (D : va_G) (cI cZ cL : ClassId) (ws : va_W) (As : List Value) : Array Value → State → Prop := fun v U => v = As.toArray ∧ va_P D vwCl ws U.heap ∧ va_K D vwCl (tv_ty cI cZ cL) U
theorem tv_Pw.blind {D : va_G} {cI cZ cL : ClassId} {ws : va_W} {As : List Value} : FrameBlind (tv_Pw D cI cZ cL ws As) := fun a U g mk q => ⟨q.1, q.2.1, va_K.moved (u := U) (U := U.calling g mk a) (Vm.Alike.refl U.vm) q.2.2⟩
/-- nothing is returned, nothing changes -/
def tv_Void : Array Value → State → Outcome → State → Prop := fun _ st o t => o = .returned none ∧ t.heap = st.heap
section TVR
variable {p : Program} {l : Launch} {e : Env} {R : Room} {s : State} {m : MethodId} {args : Array Value} {below : List Frame} {meth : Method} {c : Code} {H : Heap} {locs : List Loc} {cells slots : Nat} {Q : State → Prop}
variable {cc : ByteArray} {pc : Nat} {ls : Array Slot} {rest : List Value} {D : va_G} {cl : List vw_C} {A : Nat → Prop} {a : Nat} {tys : List (ClassId × FieldType)} {ws : va_W} {H0 : Heap} {cI cZ cL : ClassId}
theorem tv_preS {As : List Value} (hP : va_P D vwCl ws H) (hK : va_K D vwCl (tv_ty cI cZ cL) s) : PreS s H (tv_Pw D cI cZ cL ws As) As := ⟨tv_Pw.blind, fun U hU hW => ⟨rfl, by rw [hU]; exact hP, va_K.moved hW.alike hK⟩⟩
theorem tv_preV {As : List Value} {b ci : Nat} {C : String} {T : u_T} {N : Nat} {fs : List Value} (hP : va_P D vwCl ws H) (hK : va_K D vwCl (tv_ty cI cZ cL) s) (hc : vwCl[ci]? = some (C, T, N)) (q0 : Nat) (he : ws[q0]? = some (b, .inr (ci, fs))) : PreV s H C b (tv_Pw D cI cZ cL ws (.ref b :: As)) As := ⟨tv_Pw.blind, va_recv hK hP hc he, fun U hU hW => ⟨rfl, by rw [hU]; exact hP, va_K.moved hW.alike hK⟩⟩
theorem tv_callv {g : JFrame} {a : Array Value} (hr : CallRun p l e R s m args below meth c H locs cells slots 0 0 g rest (tv_Void a) (fun _ => False)) (kk : W p l e R s m args below meth c H locs cells slots Q { g with pc := g.pc + 3, stack := rest }) : W p l e R s m args below meth c H locs cells slots Q g := by
  intro T hT X
  obtain ⟨v, st₀, t, T', L, h0, X', hL, e1, ⟨hv, hh⟩, st⟩ := hr T hT X
  cases hv
  obtain ⟨t2, a1, b1⟩ := kk T' (by rw [e1, hh, h0]) (Stand.forget X' (fun q h => (hL q h).elim))
  exact ⟨t2, st t2 a1, b1⟩
/-- an array's place, told as a natural number -/
theorem tv_iald (hexec : p.tables.exec = Jvm.exec) (hb : c.code = cc) (hK : va_K D cl tys s) (hP : va_P D cl ws H) (q0 t0 : Nat) {cA : ClassId} {n : Nat} {f : Nat → Int32} (ha : ws[q0]? = some (a, .inl (cA, n, .inl f))) (ht : tys[t0]? = some (cA, .int)) {k : Nat} (hk : k < n) (hn : n < 2 ^ 31) (hdg : decode cc pc = .ok (.iaload, 1))
    (kk : W p l e R s m args below meth c H locs cells slots Q (F0 m (pc + 1) ls (.int (f k) :: rest))) : W p l e R s m args below meth c H locs cells slots Q (F0 m pc ls (.int (nI k) :: .ref a :: rest)) :=
  va_iald hexec hb hK hP q0 t0 ha ht (vp_in_nI hk hn) hdg (by rw [nI_clamp (by omega)]; exact kk)
theorem tv_zald (hexec : p.tables.exec = Jvm.exec) (hb : c.code = cc) (hK : va_K D cl tys s) (hP : va_P D cl ws H) (q0 t0 : Nat) {cA : ClassId} {n : Nat} {f : Nat → Int32} (ha : ws[q0]? = some (a, .inl (cA, n, .inl f))) (ht : tys[t0]? = some (cA, .boolean)) {k : Nat} (hk : k < n) (hn : n < 2 ^ 31) (hdg : decode cc pc = .ok (.baload, 1))
    (kk : W p l e R s m args below meth c H locs cells slots Q (F0 m (pc + 1) ls (.int (f k) :: rest))) : W p l e R s m args below meth c H locs cells slots Q (F0 m pc ls (.int (nI k) :: .ref a :: rest)) :=
  va_zald hexec hb hK hP q0 t0 ha ht (vp_in_nI hk hn) hdg (by rw [nI_clamp (by omega)]; exact kk)
theorem tv_iast (hexec : p.tables.exec = Jvm.exec) (hb : c.code = cc) (hK : va_K D cl tys s) (hP : va_P D cl ws H) (hD : va_D A ws) (hS : va_S A H0 H locs) (q0 t0 : Nat) {cA : ClassId} {n : Nat} {f : Nat → Int32} (ha : ws[q0]? = some (a, .inl (cA, n, .inl f))) (ht : tys[t0]? = some (cA, .int)) {k : Nat} {x : Int32} (hk : k < n) (hn : n < 2 ^ 31) {ws1 : va_W} (hw : ws.set q0 (a, .inl (cA, n, .inl (upd f k x))) = ws1) (hdg : decode cc pc = .ok (.iastore, 1))
    (kk : ∀ (H1 : Heap) (locs1 : List Loc), va_P D cl ws1 H1 → va_D A ws1 → va_S A H0 H1 locs1 → W p l e R s m args below meth c H1 locs1 cells slots Q (F0 m (pc + 1) ls rest)) : W p l e R s m args below meth c H locs cells slots Q (F0 m pc ls (.int x :: .int (nI k) :: .ref a :: rest)) := by
  refine va_iast hexec hb hK hP hD hS q0 t0 ha ht (vp_in_nI hk hn) hdg fun H1 locs1 h1 h2 h3 => ?_
  rw [nI_clamp (by omega), hw] at h1 h2
  exact kk H1 locs1 h1 h2 h3
theorem tv_zast (hexec : p.tables.exec = Jvm.exec) (hb : c.code = cc) (hK : va_K D cl tys s) (hP : va_P D cl ws H) (hD : va_D A ws) (hS : va_S A H0 H locs) (q0 t0 : Nat) {cA : ClassId} {n : Nat} {f : Nat → Int32} (ha : ws[q0]? = some (a, .inl (cA, n, .inl f))) (ht : tys[t0]? = some (cA, .boolean)) {k : Nat} {x : Int32} (hx : x = 0 ∨ x = 1) (hk : k < n) (hn : n < 2 ^ 31) {ws1 : va_W} (hw : ws.set q0 (a, .inl (cA, n, .inl (upd f k x))) = ws1) (hdg : decode cc pc = .ok (.bastore, 1))
    (kk : ∀ (H1 : Heap) (locs1 : List Loc), va_P D cl ws1 H1 → va_D A ws1 → va_S A H0 H1 locs1 → W p l e R s m args below meth c H1 locs1 cells slots Q (F0 m (pc + 1) ls rest)) : W p l e R s m args below meth c H locs cells slots Q (F0 m pc ls (.int x :: .int (nI k) :: .ref a :: rest)) := by
  refine va_zast hexec hb hK hP hD hS q0 t0 ha ht (vp_in_nI hk hn) hdg fun H1 locs1 h1 h2 h3 => ?_
  have hx2 : vp_nar .boolean x = x := by rcases hx with rfl | rfl <;> rfl
  rw [nI_clamp (by omega), hx2, hw] at h1 h2
  exact kk H1 locs1 h1 h2 h3
/-- a boolean is returned -/
theorem tv_zret {Qc : Array Value → State → Outcome → State → Prop} {free : Addr → Prop} {v : Int32} (hexec : p.tables.exec = Jvm.exec) (hb : c.code = cc) (hr : meth.sig.returnType = some .boolean) (hv : v = 0 ∨ v = 1)
    (hq : ∀ t : State, t.heap = H → s.WarmedH t.vm → Qc args s (.returned (some (.int v))) t) (hf : ∀ q ∈ locs, free q.base) (hdg : decode cc pc = .ok (.ireturn, 1)) (hlocks : meth.locks = false) : W p l e R s m args below meth c H locs cells slots (MQ below Qc args s cells slots free) (F0 m pc ls [.int v]) :=
  W.zret hexec hb hr (by rcases hv with rfl | rfl <;> rfl) hq hf hdg hlocks
end TVR
end
section
/-! WHAT A THROW STANDS ON: two statics of Throwable, words of the tables that are not good ones, the texts. -/
def tv_nw : List Cond := [.declares ⟨"java/lang/RuntimeException", "<init>", "(Ljava/lang/String;)V"⟩, .declares ⟨"java/lang/Exception", "<init>", "(Ljava/lang/String;)V"⟩, .declares ⟨"java/lang/Throwable", "<init>", "(Ljava/lang/String;)V"⟩, .castable "java/lang/IndexOutOfBoundsException" "java/lang/IndexOutOfBoundsException", .castable "java/lang/IllegalArgumentException" "java/lang/IllegalArgumentException", .castable "java/lang/IllegalStateException" "java/lang/IllegalStateException"]
def tv_str : List (Nat × String) := [(109, "no such row"), (112, "no such place"), (114, "no such gate"), (118, "no such sign"), (123, "the number is beyond"), (125, "the rows are not of one sort"), (127, "the third row is the first or the second"), (75, "the question is not true")]
def tv_E (A : Nat → Prop) (U : State) (H : Heap) : Prop :=
  vx_Zq Bundle.tN "UNASSIGNED_STACK" Bundle.steD A U H ∧ vx_Zq Bundle.tN "SUPPRESSED_SENTINEL" Bundle.listD A U H ∧ (∀ w ∈ tv_nw, va_Nw w U) ∧ ∀ q ∈ tv_str, ∃ a : Nat, vk_R RX0 q.1 q.2 a U
theorem tv_E.warm {A : Nat → Prop} {s U : State} {H : Heap} (hW : s.WarmedH U.vm) (h : tv_E A s H) : tv_E A U H := by
  obtain ⟨h1, h2, h3, h4⟩ := h
  refine ⟨vx_Zq.moved hW.alike h1, vx_Zq.moved hW.alike h2, fun w hw => ?_, fun q hq => ?_⟩
  · have h5 := h3 w hw
    simp only [tv_nw, List.mem_cons, List.not_mem_nil, or_false] at hw
    rcases hw with rfl | rfl | rfl | rfl | rfl | rfl
    · exact va_Nw.warmD hW h5
    · exact va_Nw.warmD hW h5
    · exact va_Nw.warmD hW h5
    · exact va_Nw.warmC hW h5
    · exact va_Nw.warmC hW h5
    · exact va_Nw.warmC hW h5
  · obtain ⟨a, ha⟩ := h4 q hq
    exact ⟨a, vk_R.warm hW ha⟩
theorem tv_E.kept {A : Nat → Prop} {U : State} {H H1 : Heap} (h : tv_E A U H) (hq : ∀ a : Nat, a < H.size → ¬ A a → H1[a]? = H[a]?) : tv_E A U H1 := ⟨h.1.kept hq, h.2.1.kept hq, h.2.2⟩
theorem tv_E.narrow {A B : Nat → Prop} {U : State} {H : Heap} (h : tv_E A U H) (hAB : ∀ q, B q → A q) : tv_E B U H := ⟨h.1.narrow hAB, h.2.1.narrow hAB, h.2.2⟩
theorem tv_nw_on : ∀ w ∈ tv_nw, w.onTables = true := by decide +kernel
def tv_names : List String := ["java/lang/RuntimeException", "java/lang/Exception"]
/-- what a method that throws at once is given; how it ends -/
def tv_PT (As : List Value) : Array Value → State → Prop := fun v U => v = As.toArray ∧ tv_E (fun _ => False) U U.heap
theorem tv_PT.blind {As : List Value} : FrameBlind (tv_PT As) := fun a U g mk q => ⟨q.1, tv_E.warm (s := U) (U := U.calling g mk a) (State.WarmedH.refl U) q.2⟩
abbrev tv_XT (E : String) : String → State → State → Prop := vx_X (S := Unit) (fun _ => True) (fun E' _ _ => E' = E) (fun _ => False)
abbrev tv_rm0 : Room := { frames := 0, cells := 0, slots := 0, locals := 0 }
abbrev tv_rmT : Room := { frames := 6, cells := 1, slots := 6, locals := 82 }
theorem tv_fit3 : ∀ n ∈ tv_names, Bundle.fit n = true := by decide +kernel
section TVT
variable {p : Program} {l : Launch} {e : Env} {R : Room} {s : State} {m : MethodId} {args : Array Value} {below : List Frame} {meth : Method} {c : Code} {H : Heap} {locs : List Loc} {cells slots : Nat} {Q : State → Prop}
variable {cc : ByteArray} {pc : Nat} {ls : Array Slot} {rest st0 : List Value} {Qc : Array Value → State → Outcome → State → Prop} {XC : String → State → State → Prop} {free : Addr → Prop} {mc ms : Nat}
/-- 'throw new E(text)' in the class -/
theorem tv_thr (hexec : p.tables.exec = Jvm.exec) (hb : c.code = cc) (hT : l.stackTraces = false) {cls text : String} {ik is ic : Nat} {A : Nat → Prop} {ws : List Cond} (hts : ∀ w ∈ ws, w.before args s = true)
    (hown : s.vm.findClass RX0 = some m.cls) (hcls : Bundle.fit cls = true) (hk : Cond.classLink RX0 ik cls ∈ ws) (hini : Cond.initialized cls ∈ ws) (hg : ∀ w ∈ (vx_atS RX0 ic cls tv_names).filter goodWord, w ∈ ws) (hng : ∀ w ∈ (vx_atS RX0 ic cls tv_names).filter (fun w => !goodWord w), w ∈ tv_nw) (hot : ∀ w ∈ Cond.classLink RX0 ik cls :: Cond.initialized cls :: vx_atS RX0 ic cls tv_names, vx_ot w = true) (hstr : (is, text) ∈ tv_str)
    (hE : tv_E A s s.heap) (hS : va_S A s.heap H locs) (hsize : ls.size = c.maxLocals)
    (d0 : decode cc pc = .ok (.new ik, 3)) (d3 : decode cc (pc + 3) = .ok (.dup, 1)) (d4 : decode cc (pc + 4) = .ok (.ldc is, 2)) (d6 : decode cc (pc + 6) = .ok (.invokespecial ic, 3)) (d9 : decode cc (pc + 9) = .ok (.athrow, 1))
    (htab : ∀ x ∈ c.exceptionTable.toList, False) (hRf : 5 < R.frames) (hRl : (rest.map fun v => v.category).sum + 82 ≤ R.locals) (hRc : cells + 1 ≤ R.cells) (hRs : slots + 6 ≤ R.slots) (hlocks : meth.locks = false)
    (hx : ∀ t : State, s.vm.Alike t.vm → H.size ≤ t.heap.size → (∀ q : Nat, q < H.size → t.heap[q]? = H[q]?) → XC cls s t) (hf : ∀ z ∈ locs, free z.base) (hc : cells + 1 ≤ mc) (hs : slots + 6 ≤ ms) :
    W p l e R s m args below meth c H locs cells slots (vx_MQ below Qc XC args s mc ms free) (F0 m pc ls rest) := by
  obtain ⟨sa, hsa⟩ := hE.2.2.2 _ hstr
  exact vx_throwS (own := RX0) (cls := cls) (text := text) (names := tv_names) (ik := ik) (is := is) (ic := ic) (A := A) (sa := sa) hexec hb hT hown hcls tv_fit3 (hts _ hk) (hts _ hini) hsa
    (vx_hat (B := tv_nw) (fun w hw => hts w (hg w hw)) hng (fun w hw => va_Nw.use (tv_nw_on w hw) (hE.2.2.1 w hw))) hot hE.1 hE.2.1 hS hsize d0 d3 d4 d6 d9 (fun x hx => (htab x hx).elim) hRf hRl hRc hRs hlocks hx hf hc hs
/-- a call of a method that throws, not caught here -/
theorem tv_callT {E : String} {a : Array Value} (hr : vx_Run p l e R s m args below meth c H locs cells slots 1 6 (F0 m pc ls st0) rest (fun _ _ _ => False) (tv_XT E) (fun _ => False)) (htab : ∀ x ∈ c.exceptionTable.toList, False) (hlocks : meth.locks = false)
    (hx : ∀ t : State, H.size ≤ t.heap.size → (∀ q : Nat, q < H.size → t.heap[q]? = H[q]?) → XC E s t) (hf : ∀ z ∈ locs, free z.base) (hc : cells + 1 ≤ mc) (hs : slots + 6 ≤ ms) :
    W p l e R s m args below meth c H locs cells slots (vx_MQ below Qc XC args s mc ms free) (F0 m pc ls st0) := by
  intro T hT X
  rcases hr T hT X with ⟨v, st₀, t, T', L, h0, X', hL, e1, e2, hq, st⟩ | ⟨q, st₀, t, T', L, E', ce, h0, X', hL, e1, e2, ⟨u, hp, hb, hF⟩, hce, hcv, hcl, st⟩
  · exact hq.elim
  · subst hb
    have X2 := Stand.forget (extra := L) X' (fun z h => (hL z h).elim)
    obtain ⟨hz, hk⟩ := hF
    rw [h0] at hz hk
    obtain ⟨t2, a1, b1⟩ := vx_out (p := p) (l := l) (e := e) (R := R) (s := s) (m := m) (args := args) (below := below) (meth := meth) (c := c) (H := T'.heap) (locs := locs) (cells := cells + 1) (slots := slots + 6) (ls := ls) (rest := rest) (Qc := Qc) (XC := XC) (pc := pc) (q := q) (mc := mc) (ms := ms) (free := free)
      (fun x hx => (htab x hx).elim) hlocks (by rw [e1]; exact hce) hcv hcl (fun t' ht' _ => hx t' (by rw [ht', e1]; exact hz) (fun q hq => by rw [ht', e1]; exact hk q hq (fun h => h))) hf hc hs T' rfl X2
    exact ⟨t2, st.trans a1, b1⟩
theorem tv_preT {As : List Value} {A : Nat → Prop} (hE : tv_E A s s.heap) (hS : va_S A s.heap H locs) : PreS s H (tv_PT As) As := ⟨tv_PT.blind, fun U hU hW => ⟨rfl, by rw [hU]; exact tv_E.warm hW ((hE.kept hS.2.1).narrow (fun _ h => h.elim))⟩⟩
theorem tv_top {x : Int32} (y : Int32) (h : x = y) (k : W p l e R s m args below meth c H locs cells slots Q (F0 m pc ls (.int y :: rest))) : W p l e R s m args below meth c H locs cells slots Q (F0 m pc ls (.int x :: rest)) := by rw [h]; exact k
end TVT
theorem tv_io_g : ∀ w ∈ (vx_atS RX0 111 "java/lang/IndexOutOfBoundsException" tv_names).filter (fun w => !goodWord w), w ∈ tv_nw := by decide +kernel
theorem tv_io_o : ∀ w ∈ Cond.classLink RX0 107 "java/lang/IndexOutOfBoundsException" :: Cond.initialized "java/lang/IndexOutOfBoundsException" :: vx_atS RX0 111 "java/lang/IndexOutOfBoundsException" tv_names, vx_ot w = true := by decide +kernel
theorem tv_ia_g : ∀ w ∈ (vx_atS RX0 120 "java/lang/IllegalArgumentException" tv_names).filter (fun w => !goodWord w), w ∈ tv_nw := by decide +kernel
theorem tv_ia_o : ∀ w ∈ Cond.classLink RX0 116 "java/lang/IllegalArgumentException" :: Cond.initialized "java/lang/IllegalArgumentException" :: vx_atS RX0 120 "java/lang/IllegalArgumentException" tv_names, vx_ot w = true := by decide +kernel
theorem tv_is_g : ∀ w ∈ (vx_atS RX0 77 "java/lang/IllegalStateException" tv_names).filter (fun w => !goodWord w), w ∈ tv_nw := by decide +kernel
theorem tv_is_o : ∀ w ∈ Cond.classLink RX0 73 "java/lang/IllegalStateException" :: Cond.initialized "java/lang/IllegalStateException" :: vx_atS RX0 77 "java/lang/IllegalStateException" tv_names, vx_ot w = true := by decide +kernel
end
section
section TVW
variable {p : Program} {l : Launch} {e : Env} {R : Room} {s : State} {m : MethodId} {args : Array Value} {below : List Frame} {meth : Method} {c : Code} {H : Heap} {locs : List Loc} {cells slots : Nat} {Q : State → Prop} {pc : Nat} {ls : Array Slot} {st0 rest : List Value} {a : Array Value}
theorem tv_callR {r : Int32} (hr : CallRun p l e R s m args below meth c H locs cells slots 0 0 (F0 m pc ls st0) rest (QcRead r a) (fun _ => False)) (kk : W p l e R s m args below meth c H locs cells slots Q (F0 m (pc + 3) ls (.int r :: rest))) : W p l e R s m args below meth c H locs cells slots Q (F0 m pc ls st0) := W.callR hr kk
theorem tv_callN (hr : CallRun p l e R s m args below meth c H locs cells slots 0 0 (F0 m pc ls st0) rest (tv_Void a) (fun _ => False)) (kk : W p l e R s m args below meth c H locs cells slots Q (F0 m (pc + 3) ls rest)) : W p l e R s m args below meth c H locs cells slots Q (F0 m pc ls st0) := tv_callv hr kk
end TVW
theorem tv_12 : (12 : Int32) = nI 12 := rfl
theorem tv_ix (r k : Nat) : nI r * 12 + nI k = nI (12 * r + k) := by rw [tv_12, pk_mul, nI_add, Nat.mul_comm r 12]
theorem tv_lx (g k : Nat) : nI g * 2 + nI k = nI (2 * g + k) := by rw [show (2 : Int32) = nI 2 from rfl, pk_mul, nI_add, Nat.mul_comm g 2]
set_option maxHeartbeats 4000000 in
set_option maxRecDepth 100000 in
theorem c_X0_isTrue (l : Launch) (sg x y : Int32) : Met l yX0_isTrue wsX0_isTrue ({ frames := 0, cells := 0, slots := 0, locals := 0 } : Room) (fun v _ => v = ([.int sg, .int x, .int y] : List Value).toArray) (QcRead (tq sg x y)) 0 0 (fun _ => False) := by
  refine Met.ofW (cc := cX0_isTrue) (maxL := 3) (ret := (some .boolean)) (by decide) rfl ?_
  intro p e s m args below meth c s₁ B hml hv
  subst hv
  have hx := B.exec
  have hb := B.bytes
  have hr := B.returns
  have hts := atoms_spec (ws := wsX0_isTrue) B.pre
  have hown : s.vm.findClass RX0 = some m.cls := findClass_of_methodNamed B.named
  have hlocks := B.notSynchronized
  have hl := lv_entry ([.int sg, .int x, .int y]) (n := 3) (Nat.le_of_ble_eq_true rfl)
  rw [lg_entry_eq]
  generalize (lg_sl ([.int sg, .int x, .int y]) ++ List.replicate (3 - (lg_sl ([.int sg, .int x, .int y])).length) Slot.unset).toArray = ls at hl ⊢
  have hl : lv_has ls 3 [(0, .int sg), (1, .int x), (2, .int y)] := hl
  refine lv_iload_n hx hb dX0_isTrue_0 rfl (lv_at hl 1 rfl) ?_
  refine lv_ldc (v := -2147483648) hx hb hown (hts (.constant RX0 23 (-2147483648)) (by decide +kernel)) dX0_isTrue_1 ?_
  refine lv_icmp_eq (tgt := 12) hx hb dX0_isTrue_3 (by decide) (fun c_1 => ?_) (fun c_1 => ?_)
  · skip
    refine lv_iload_n hx hb dX0_isTrue_12 rfl (lv_at hl 0 rfl) ?_
    refine lv_iconst (v := 5) hx hb dX0_isTrue_13 (by decide) ?_
    refine lv_icmp_ne (tgt := 21) hx hb dX0_isTrue_14 (by decide) (fun c_2 => ?_) (fun c_2 => ?_)
    · skip
      refine lv_iconst (v := 0) hx hb dX0_isTrue_21 (by decide) ?_
      exact tv_zret (v := 0) hx hb hr (by decide) (fun t ht hW => ⟨by rw [show tq sg x y = 0 from by simp [tq, c_1, c_2]], ht⟩) (fun q h => nomatch h) dX0_isTrue_22 hlocks
    · skip
      refine lv_iconst (v := 1) hx hb dX0_isTrue_17 (by decide) ?_
      refine lv_goto (tgt := 22) hx hb dX0_isTrue_18 (by decide) ?_
      exact tv_zret (v := 1) hx hb hr (by decide) (fun t ht hW => ⟨by rw [show tq sg x y = 1 from by simp [tq, c_1, c_2]], ht⟩) (fun q h => nomatch h) dX0_isTrue_22 hlocks
  · skip
    refine lv_iload_n hx hb dX0_isTrue_6 rfl (lv_at hl 2 rfl) ?_
    refine lv_ldc (v := -2147483648) hx hb hown (hts (.constant RX0 23 (-2147483648)) (by decide +kernel)) dX0_isTrue_7 ?_
    refine lv_icmp_ne (tgt := 23) hx hb dX0_isTrue_9 (by decide) (fun c_3 => ?_) (fun c_3 => ?_)
    · skip
      refine lv_iload_n hx hb dX0_isTrue_23 rfl (lv_at hl 0 rfl) ?_
      by_cases k0 : sg = 0
      · subst k0
        refine lv_tableIn (off := 36) (tgt := 60) hx hb dX0_isTrue_24 (by decide) (by decide) (by decide) (by decide) ?_
        refine lv_iload_n hx hb dX0_isTrue_60 rfl (lv_at hl 1 rfl) ?_
        refine lv_iload_n hx hb dX0_isTrue_61 rfl (lv_at hl 2 rfl) ?_
        refine lv_icmp_ge (tgt := 69) hx hb dX0_isTrue_62 (by decide) (fun c_4 => ?_) (fun c_4 => ?_)
        · skip
          refine lv_iconst (v := 0) hx hb dX0_isTrue_69 (by decide) ?_
          exact tv_zret (v := 0) hx hb hr (by decide) (fun t ht hW => ⟨by rw [show tq 0 x y = 0 from by simp [tq, c_1, c_3, c_4]], ht⟩) (fun q h => nomatch h) dX0_isTrue_70 hlocks
        · skip
          refine lv_iconst (v := 1) hx hb dX0_isTrue_65 (by decide) ?_
          refine lv_goto (tgt := 70) hx hb dX0_isTrue_66 (by decide) ?_
          exact tv_zret (v := 1) hx hb hr (by decide) (fun t ht hW => ⟨by rw [show tq 0 x y = 1 from by simp [tq, c_1, c_3, c_4]], ht⟩) (fun q h => nomatch h) dX0_isTrue_70 hlocks
      · skip
        by_cases k1 : sg = 1
        · subst k1
          refine lv_tableIn (off := 47) (tgt := 71) hx hb dX0_isTrue_24 (by decide) (by decide) (by decide) (by decide) ?_
          refine lv_iload_n hx hb dX0_isTrue_71 rfl (lv_at hl 1 rfl) ?_
          refine lv_iload_n hx hb dX0_isTrue_72 rfl (lv_at hl 2 rfl) ?_
          refine lv_icmp_gt (tgt := 80) hx hb dX0_isTrue_73 (by decide) (fun c_5 => ?_) (fun c_5 => ?_)
          · skip
            refine lv_iconst (v := 0) hx hb dX0_isTrue_80 (by decide) ?_
            exact tv_zret (v := 0) hx hb hr (by decide) (fun t ht hW => ⟨by rw [show tq 1 x y = 0 from by simp [tq, c_1, c_3, c_5]], ht⟩) (fun q h => nomatch h) dX0_isTrue_81 hlocks
          · skip
            refine lv_iconst (v := 1) hx hb dX0_isTrue_76 (by decide) ?_
            refine lv_goto (tgt := 81) hx hb dX0_isTrue_77 (by decide) ?_
            exact tv_zret (v := 1) hx hb hr (by decide) (fun t ht hW => ⟨by rw [show tq 1 x y = 1 from by simp [tq, c_1, c_3, c_5]], ht⟩) (fun q h => nomatch h) dX0_isTrue_81 hlocks
        · skip
          by_cases k2 : sg = 2
          · subst k2
            refine lv_tableIn (off := 58) (tgt := 82) hx hb dX0_isTrue_24 (by decide) (by decide) (by decide) (by decide) ?_
            refine lv_iload_n hx hb dX0_isTrue_82 rfl (lv_at hl 1 rfl) ?_
            refine lv_iload_n hx hb dX0_isTrue_83 rfl (lv_at hl 2 rfl) ?_
            refine lv_icmp_le (tgt := 91) hx hb dX0_isTrue_84 (by decide) (fun c_6 => ?_) (fun c_6 => ?_)
            · skip
              refine lv_iconst (v := 0) hx hb dX0_isTrue_91 (by decide) ?_
              exact tv_zret (v := 0) hx hb hr (by decide) (fun t ht hW => ⟨by rw [show tq 2 x y = 0 from by simp [tq, c_1, c_3, c_6]], ht⟩) (fun q h => nomatch h) dX0_isTrue_92 hlocks
            · skip
              refine lv_iconst (v := 1) hx hb dX0_isTrue_87 (by decide) ?_
              refine lv_goto (tgt := 92) hx hb dX0_isTrue_88 (by decide) ?_
              exact tv_zret (v := 1) hx hb hr (by decide) (fun t ht hW => ⟨by rw [show tq 2 x y = 1 from by simp [tq, c_1, c_3, c_6]], ht⟩) (fun q h => nomatch h) dX0_isTrue_92 hlocks
          · skip
            by_cases k3 : sg = 3
            · subst k3
              refine lv_tableIn (off := 69) (tgt := 93) hx hb dX0_isTrue_24 (by decide) (by decide) (by decide) (by decide) ?_
              refine lv_iload_n hx hb dX0_isTrue_93 rfl (lv_at hl 1 rfl) ?_
              refine lv_iload_n hx hb dX0_isTrue_94 rfl (lv_at hl 2 rfl) ?_
              refine lv_icmp_lt (tgt := 102) hx hb dX0_isTrue_95 (by decide) (fun c_7 => ?_) (fun c_7 => ?_)
              · skip
                refine lv_iconst (v := 0) hx hb dX0_isTrue_102 (by decide) ?_
                exact tv_zret (v := 0) hx hb hr (by decide) (fun t ht hW => ⟨by rw [show tq 3 x y = 0 from by simp [tq, c_1, c_3, c_7]], ht⟩) (fun q h => nomatch h) dX0_isTrue_103 hlocks
              · skip
                refine lv_iconst (v := 1) hx hb dX0_isTrue_98 (by decide) ?_
                refine lv_goto (tgt := 103) hx hb dX0_isTrue_99 (by decide) ?_
                exact tv_zret (v := 1) hx hb hr (by decide) (fun t ht hW => ⟨by rw [show tq 3 x y = 1 from by simp [tq, c_1, c_3, c_7]], ht⟩) (fun q h => nomatch h) dX0_isTrue_103 hlocks
            · skip
              by_cases k4 : sg = 4
              · subst k4
                refine lv_tableIn (off := 80) (tgt := 104) hx hb dX0_isTrue_24 (by decide) (by decide) (by decide) (by decide) ?_
                refine lv_iload_n hx hb dX0_isTrue_104 rfl (lv_at hl 1 rfl) ?_
                refine lv_iload_n hx hb dX0_isTrue_105 rfl (lv_at hl 2 rfl) ?_
                refine lv_icmp_ne (tgt := 113) hx hb dX0_isTrue_106 (by decide) (fun c_8 => ?_) (fun c_8 => ?_)
                · skip
                  refine lv_iconst (v := 0) hx hb dX0_isTrue_113 (by decide) ?_
                  exact tv_zret (v := 0) hx hb hr (by decide) (fun t ht hW => ⟨by rw [show tq 4 x y = 0 from by simp [tq, c_1, c_3, c_8]], ht⟩) (fun q h => nomatch h) dX0_isTrue_114 hlocks
                · skip
                  refine lv_iconst (v := 1) hx hb dX0_isTrue_109 (by decide) ?_
                  refine lv_goto (tgt := 114) hx hb dX0_isTrue_110 (by decide) ?_
                  exact tv_zret (v := 1) hx hb hr (by decide) (fun t ht hW => ⟨by rw [show tq 4 x y = 1 from by simp [tq, c_1, c_3, c_8]], ht⟩) (fun q h => nomatch h) dX0_isTrue_114 hlocks
              · skip
                have z0 := lv_neT (a := 0) k0 rfl
                have z1 := lv_neT (a := 1) k1 rfl
                have z2 := lv_neT (a := 2) k2 rfl
                have z3 := lv_neT (a := 3) k3 rfl
                have z4 := lv_neT (a := 4) k4 rfl
                refine lv_tableOut (tgt := 115) hx hb dX0_isTrue_24 (by omega) (by decide) ?_
                refine lv_iload_n hx hb dX0_isTrue_115 rfl (lv_at hl 1 rfl) ?_
                refine lv_iload_n hx hb dX0_isTrue_116 rfl (lv_at hl 2 rfl) ?_
                refine lv_icmp_eq (tgt := 124) hx hb dX0_isTrue_117 (by decide) (fun c_9 => ?_) (fun c_9 => ?_)
                · skip
                  refine lv_iconst (v := 0) hx hb dX0_isTrue_124 (by decide) ?_
                  exact tv_zret (v := 0) hx hb hr (by decide) (fun t ht hW => ⟨by rw [show tq sg x y = 0 from by simp [tq, c_1, c_3, k0, k1, k2, k3, k4, c_9]], ht⟩) (fun q h => nomatch h) dX0_isTrue_125 hlocks
                · skip
                  refine lv_iconst (v := 1) hx hb dX0_isTrue_120 (by decide) ?_
                  refine lv_goto (tgt := 125) hx hb dX0_isTrue_121 (by decide) ?_
                  exact tv_zret (v := 1) hx hb hr (by decide) (fun t ht hW => ⟨by rw [show tq sg x y = 1 from by simp [tq, c_1, c_3, k0, k1, k2, k3, k4, c_9]], ht⟩) (fun q h => nomatch h) dX0_isTrue_125 hlocks
    · skip
      refine lv_iload_n hx hb dX0_isTrue_12 rfl (lv_at hl 0 rfl) ?_
      refine lv_iconst (v := 5) hx hb dX0_isTrue_13 (by decide) ?_
      refine lv_icmp_ne (tgt := 21) hx hb dX0_isTrue_14 (by decide) (fun c_10 => ?_) (fun c_10 => ?_)
      · skip
        refine lv_iconst (v := 0) hx hb dX0_isTrue_21 (by decide) ?_
        exact tv_zret (v := 0) hx hb hr (by decide) (fun t ht hW => ⟨by rw [show tq sg x y = 0 from by simp [tq, c_1, c_3, c_10]], ht⟩) (fun q h => nomatch h) dX0_isTrue_22 hlocks
      · skip
        refine lv_iconst (v := 1) hx hb dX0_isTrue_17 (by decide) ?_
        refine lv_goto (tgt := 22) hx hb dX0_isTrue_18 (by decide) ?_
        exact tv_zret (v := 1) hx hb hr (by decide) (fun t ht hW => ⟨by rw [show tq sg x y = 1 from by simp [tq, c_1, c_3, c_10]], ht⟩) (fun q h => nomatch h) dX0_isTrue_22 hlocks
set_option maxHeartbeats 4000000 in
set_option maxRecDepth 100000 in
theorem c_X0_spot (l : Launch) (r k : Nat) : Met l yX0_spot wsX0_spot ({ frames := 0, cells := 0, slots := 0, locals := 0 } : Room) (fun v _ => v = ([.int (nI r), .int (nI k)] : List Value).toArray) (QcRead (nI (12 * r + k))) 0 0 (fun _ => False) := by
  refine Met.ofW (cc := cX0_spot) (maxL := 2) (ret := (some .int)) (by decide) rfl ?_
  intro p e s m args below meth c s₁ B hml hv
  subst hv
  have hx := B.exec
  have hb := B.bytes
  have hr := B.returns
  have hts := atoms_spec (ws := wsX0_spot) B.pre
  have hown : s.vm.findClass RX0 = some m.cls := findClass_of_methodNamed B.named
  have hlocks := B.notSynchronized
  have hl := lv_entry ([.int (nI r), .int (nI k)]) (n := 2) (Nat.le_of_ble_eq_true rfl)
  rw [lg_entry_eq]
  generalize (lg_sl ([.int (nI r), .int (nI k)]) ++ List.replicate (2 - (lg_sl ([.int (nI r), .int (nI k)])).length) Slot.unset).toArray = ls at hl ⊢
  have hl : lv_has ls 2 [(0, .int (nI r)), (1, .int (nI k))] := hl
  refine lv_iload_n hx hb dX0_spot_0 rfl (lv_at hl 0 rfl) ?_
  refine lv_bipush (v := 12) hx hb dX0_spot_1 (by decide) ?_
  refine lv_imul hx hb dX0_spot_3 ?_
  refine lv_iload_n hx hb dX0_spot_4 rfl (lv_at hl 1 rfl) ?_
  refine lv_iadd hx hb dX0_spot_5 ?_
  refine tv_top (nI (12 * r + k)) (tv_ix r k) ?_
  exact W.iret (v := nI (12 * r + k)) hx hb hr (fun t ht hW => ⟨rfl, ht⟩) (fun q h => nomatch h) dX0_spot_6
set_option maxHeartbeats 4000000 in
set_option maxRecDepth 100000 in
theorem c_X0_levelSpot (l : Launch) (g : Nat) (x : Int32) : Met l yX0_levelSpot wsX0_levelSpot ({ frames := 0, cells := 0, slots := 0, locals := 0 } : Room) (fun v _ => v = ([.int (nI g), .int x] : List Value).toArray) (QcRead (nI (2 * g + (if x = 0 then 0 else 1)))) 0 0 (fun _ => False) := by
  refine Met.ofW (cc := cX0_levelSpot) (maxL := 2) (ret := (some .int)) (by decide) rfl ?_
  intro p e s m args below meth c s₁ B hml hv
  subst hv
  have hx := B.exec
  have hb := B.bytes
  have hr := B.returns
  have hts := atoms_spec (ws := wsX0_levelSpot) B.pre
  have hown : s.vm.findClass RX0 = some m.cls := findClass_of_methodNamed B.named
  have hlocks := B.notSynchronized
  have hl := lv_entry ([.int (nI g), .int x]) (n := 2) (Nat.le_of_ble_eq_true rfl)
  rw [lg_entry_eq]
  generalize (lg_sl ([.int (nI g), .int x]) ++ List.replicate (2 - (lg_sl ([.int (nI g), .int x])).length) Slot.unset).toArray = ls at hl ⊢
  have hl : lv_has ls 2 [(0, .int (nI g)), (1, .int x)] := hl
  refine lv_iload_n hx hb dX0_levelSpot_0 rfl (lv_at hl 0 rfl) ?_
  refine lv_iconst (v := 2) hx hb dX0_levelSpot_1 (by decide) ?_
  refine lv_imul hx hb dX0_levelSpot_2 ?_
  refine lv_iload_n hx hb dX0_levelSpot_3 rfl (lv_at hl 1 rfl) ?_
  refine lv_if_eq (tgt := 11) hx hb dX0_levelSpot_4 (by decide) (fun c_1 => ?_) (fun c_1 => ?_)
  · skip
    refine lv_iconst (v := 0) hx hb dX0_levelSpot_11 (by decide) ?_
    refine lv_iadd hx hb dX0_levelSpot_12 ?_
    rw [show nI g * 2 + 0 = nI (2 * g + (if x = 0 then 0 else 1)) from by rw [if_pos c_1]; exact tv_lx g 0]
    exact W.iret (v := nI (2 * g + (if x = 0 then 0 else 1))) hx hb hr (fun t ht hW => ⟨rfl, ht⟩) (fun q h => nomatch h) dX0_levelSpot_13
  · skip
    refine lv_iconst (v := 1) hx hb dX0_levelSpot_7 (by decide) ?_
    refine lv_goto (tgt := 12) hx hb dX0_levelSpot_8 (by decide) ?_
    refine lv_iadd hx hb dX0_levelSpot_12 ?_
    rw [show nI g * 2 + 1 = nI (2 * g + (if x = 0 then 0 else 1)) from by rw [if_neg c_1]; exact tv_lx g 1]
    exact W.iret (v := nI (2 * g + (if x = 0 then 0 else 1))) hx hb hr (fun t ht hW => ⟨rfl, ht⟩) (fun q h => nomatch h) dX0_levelSpot_13
set_option maxHeartbeats 4000000 in
set_option maxRecDepth 100000 in
theorem c_X0_isRough (l : Launch) (r : Nat) (h : r < 8) : Met l yX0_isRough wsX0_isRough ({ frames := 0, cells := 0, slots := 0, locals := 0 } : Room) (fun v _ => v = ([.int (nI r)] : List Value).toArray) (QcRead (if r < 4 then 0 else 1)) 0 0 (fun _ => False) := by
  refine Met.ofW (cc := cX0_isRough) (maxL := 1) (ret := (some .boolean)) (by decide) rfl ?_
  intro p e s m args below meth c s₁ B hml hv
  subst hv
  have hx := B.exec
  have hb := B.bytes
  have hr := B.returns
  have hts := atoms_spec (ws := wsX0_isRough) B.pre
  have hown : s.vm.findClass RX0 = some m.cls := findClass_of_methodNamed B.named
  have hlocks := B.notSynchronized
  have hl := lv_entry ([.int (nI r)]) (n := 1) (Nat.le_of_ble_eq_true rfl)
  rw [lg_entry_eq]
  generalize (lg_sl ([.int (nI r)]) ++ List.replicate (1 - (lg_sl ([.int (nI r)])).length) Slot.unset).toArray = ls at hl ⊢
  have hl : lv_has ls 1 [(0, .int (nI r))] := hl
  refine lv_iload_n hx hb dX0_isRough_0 rfl (lv_at hl 0 rfl) ?_
  refine lv_iconst (v := 4) hx hb dX0_isRough_1 (by decide) ?_
  refine lv_icmp_lt (tgt := 9) hx hb dX0_isRough_2 (by decide) (fun c_1 => ?_) (fun c_1 => ?_)
  · skip
    refine lv_iconst (v := 0) hx hb dX0_isRough_9 (by decide) ?_
    have q : r < 4 := (nI_ltI (by omega) (by omega)).mp (show nI r < nI 4 from c_1)
    exact tv_zret (v := 0) hx hb hr (by decide) (fun t ht hW => ⟨by rw [if_pos q], ht⟩) (fun q h => nomatch h) dX0_isRough_10 hlocks
  · skip
    refine lv_iconst (v := 1) hx hb dX0_isRough_5 (by decide) ?_
    refine lv_goto (tgt := 10) hx hb dX0_isRough_6 (by decide) ?_
    have q : ¬ r < 4 := fun z => c_1 (show nI r < nI 4 from nI_lt z (by omega))
    exact tv_zret (v := 1) hx hb hr (by decide) (fun t ht hW => ⟨by rw [if_neg q], ht⟩) (fun q h => nomatch h) dX0_isRough_10 hlocks
set_option maxHeartbeats 4000000 in
set_option maxRecDepth 100000 in
theorem n_X0_needRow (l : Launch) (x : Int32) (g : tv_in 8 x = true) : Met l yX0_needRow wsX0_needRow ({ frames := 0, cells := 0, slots := 0, locals := 0 } : Room) (fun v _ => v = ([.int x] : List Value).toArray) tv_Void 0 0 (fun _ => False) := by
  refine Met.ofW (cc := cX0_needRow) (maxL := 1) (ret := none) (by decide) rfl ?_
  intro p e s m args below meth c s₁ B hml hv
  subst hv
  have hx := B.exec
  have hb := B.bytes
  have hr := B.returns
  have hts := atoms_spec (ws := wsX0_needRow) B.pre
  have hown : s.vm.findClass RX0 = some m.cls := findClass_of_methodNamed B.named
  have hlocks := B.notSynchronized
  have hl := lv_entry ([.int x]) (n := 1) (Nat.le_of_ble_eq_true rfl)
  rw [lg_entry_eq]
  generalize (lg_sl ([.int x]) ++ List.replicate (1 - (lg_sl ([.int x])).length) Slot.unset).toArray = ls at hl ⊢
  have hl : lv_has ls 1 [(0, .int x)] := hl
  simp only [tv_in, Bool.and_eq_true, Bool.not_eq_true', decide_eq_false_iff_not, decide_eq_true_eq] at g
  refine lv_iload_n hx hb dX0_needRow_0 rfl (lv_at hl 0 rfl) ?_
  refine lv_if_lt (tgt := 10) hx hb dX0_needRow_1 (by decide) (fun c_1 => ?_) (fun c_1 => ?_)
  · exact absurd c_1 g.1
  · skip
    refine lv_iload_n hx hb dX0_needRow_4 rfl (lv_at hl 0 rfl) ?_
    refine lv_bipush (v := 8) hx hb dX0_needRow_5 (by decide) ?_
    refine lv_icmp_lt (tgt := 20) hx hb dX0_needRow_7 (by decide) (fun c_2 => ?_) (fun c_2 => ?_)
    · skip
      exact W.vret hx hb hr (fun t ht hW => ⟨rfl, ht⟩) (fun q h => nomatch h) dX0_needRow_20
    · exact absurd g.2 c_2
set_option maxHeartbeats 4000000 in
set_option maxRecDepth 100000 in
theorem t_X0_needRow (l : Launch) (hT : l.stackTraces = false) (x : Int32) (g : tv_in 8 x = false) : vx_Met l yX0_needRow wsX0_needRow tv_rmT (tv_PT [.int x]) (fun _ _ _ _ => False) (tv_XT "java/lang/IndexOutOfBoundsException") 1 6 (fun _ => False) := by
  refine vx_ofW (cc := cX0_needRow) (maxL := 1) (ret := none) (by decide) rfl ?_
  intro p e s m args below meth c s₁ B hml htab hv
  obtain ⟨rfl, hE⟩ := hv
  have hx := B.exec
  have hb := B.bytes
  have hr := B.returns
  have hts := atoms_spec (ws := wsX0_needRow) B.pre
  have hown : s.vm.findClass RX0 = some m.cls := findClass_of_methodNamed B.named
  have hlocks := B.notSynchronized
  have hS : va_S (fun _ : Nat => False) s.heap s.heap [] := va_S.rf
  have hl := lv_entry ([.int x]) (n := 1) (Nat.le_of_ble_eq_true rfl)
  rw [lg_entry_eq]
  generalize (lg_sl ([.int x]) ++ List.replicate (1 - (lg_sl ([.int x])).length) Slot.unset).toArray = ls at hl ⊢
  have hl : lv_has ls 1 [(0, .int x)] := hl
  refine lv_iload_n hx hb dX0_needRow_0 rfl (lv_at hl 0 rfl) ?_
  refine lv_if_lt (tgt := 10) hx hb dX0_needRow_1 (by decide) (fun c_1 => ?_) (fun c_1 => ?_)
  · skip
    exact tv_thr (cls := "java/lang/IndexOutOfBoundsException") (text := "no such row") (ik := 107) (is := 109) (ic := 111) hx hb hT hts hown (by decide +kernel) (by decide +kernel) (by decide +kernel) (by decide +kernel) tv_io_g tv_io_o (by decide +kernel) hE hS (hl.1.trans hml.symm) dX0_needRow_10 dX0_needRow_13 dX0_needRow_14 dX0_needRow_16 dX0_needRow_19 htab (Nat.le_of_ble_eq_true rfl) (Nat.le_of_ble_eq_true rfl) (Nat.le_of_ble_eq_true rfl) (Nat.le_of_ble_eq_true rfl) hlocks (fun t ht hz hk => ⟨(), trivial, rfl, hz, fun q hq _ => hk q hq⟩) (fun z h => nomatch h) (Nat.le_of_ble_eq_true rfl) (Nat.le_of_ble_eq_true rfl)
  · skip
    refine lv_iload_n hx hb dX0_needRow_4 rfl (lv_at hl 0 rfl) ?_
    refine lv_bipush (v := 8) hx hb dX0_needRow_5 (by decide) ?_
    refine lv_icmp_lt (tgt := 20) hx hb dX0_needRow_7 (by decide) (fun c_2 => ?_) (fun c_2 => ?_)
    · exact absurd (show tv_in 8 x = true from by simp only [tv_in, Bool.and_eq_true, Bool.not_eq_true', decide_eq_false_iff_not, decide_eq_true_eq]; exact ⟨c_1, c_2⟩) (by rw [g]; decide)
    · skip
      exact tv_thr (cls := "java/lang/IndexOutOfBoundsException") (text := "no such row") (ik := 107) (is := 109) (ic := 111) hx hb hT hts hown (by decide +kernel) (by decide +kernel) (by decide +kernel) (by decide +kernel) tv_io_g tv_io_o (by decide +kernel) hE hS (hl.1.trans hml.symm) dX0_needRow_10 dX0_needRow_13 dX0_needRow_14 dX0_needRow_16 dX0_needRow_19 htab (Nat.le_of_ble_eq_true rfl) (Nat.le_of_ble_eq_true rfl) (Nat.le_of_ble_eq_true rfl) (Nat.le_of_ble_eq_true rfl) hlocks (fun t ht hz hk => ⟨(), trivial, rfl, hz, fun q hq _ => hk q hq⟩) (fun z h => nomatch h) (Nat.le_of_ble_eq_true rfl) (Nat.le_of_ble_eq_true rfl)
set_option maxHeartbeats 4000000 in
set_option maxRecDepth 100000 in
theorem n_X0_needPlace (l : Launch) (x : Int32) (g : tv_in 12 x = true) : Met l yX0_needPlace wsX0_needPlace ({ frames := 0, cells := 0, slots := 0, locals := 0 } : Room) (fun v _ => v = ([.int x] : List Value).toArray) tv_Void 0 0 (fun _ => False) := by
  refine Met.ofW (cc := cX0_needPlace) (maxL := 1) (ret := none) (by decide) rfl ?_
  intro p e s m args below meth c s₁ B hml hv
  subst hv
  have hx := B.exec
  have hb := B.bytes
  have hr := B.returns
  have hts := atoms_spec (ws := wsX0_needPlace) B.pre
  have hown : s.vm.findClass RX0 = some m.cls := findClass_of_methodNamed B.named
  have hlocks := B.notSynchronized
  have hl := lv_entry ([.int x]) (n := 1) (Nat.le_of_ble_eq_true rfl)
  rw [lg_entry_eq]
  generalize (lg_sl ([.int x]) ++ List.replicate (1 - (lg_sl ([.int x])).length) Slot.unset).toArray = ls at hl ⊢
  have hl : lv_has ls 1 [(0, .int x)] := hl
  simp only [tv_in, Bool.and_eq_true, Bool.not_eq_true', decide_eq_false_iff_not, decide_eq_true_eq] at g
  refine lv_iload_n hx hb dX0_needPlace_0 rfl (lv_at hl 0 rfl) ?_
  refine lv_if_lt (tgt := 10) hx hb dX0_needPlace_1 (by decide) (fun c_1 => ?_) (fun c_1 => ?_)
  · exact absurd c_1 g.1
  · skip
    refine lv_iload_n hx hb dX0_needPlace_4 rfl (lv_at hl 0 rfl) ?_
    refine lv_bipush (v := 12) hx hb dX0_needPlace_5 (by decide) ?_
    refine lv_icmp_lt (tgt := 20) hx hb dX0_needPlace_7 (by decide) (fun c_2 => ?_) (fun c_2 => ?_)
    · skip
      exact W.vret hx hb hr (fun t ht hW => ⟨rfl, ht⟩) (fun q h => nomatch h) dX0_needPlace_20
    · exact absurd g.2 c_2
set_option maxHeartbeats 4000000 in
set_option maxRecDepth 100000 in
theorem t_X0_needPlace (l : Launch) (hT : l.stackTraces = false) (x : Int32) (g : tv_in 12 x = false) : vx_Met l yX0_needPlace wsX0_needPlace tv_rmT (tv_PT [.int x]) (fun _ _ _ _ => False) (tv_XT "java/lang/IndexOutOfBoundsException") 1 6 (fun _ => False) := by
  refine vx_ofW (cc := cX0_needPlace) (maxL := 1) (ret := none) (by decide) rfl ?_
  intro p e s m args below meth c s₁ B hml htab hv
  obtain ⟨rfl, hE⟩ := hv
  have hx := B.exec
  have hb := B.bytes
  have hr := B.returns
  have hts := atoms_spec (ws := wsX0_needPlace) B.pre
  have hown : s.vm.findClass RX0 = some m.cls := findClass_of_methodNamed B.named
  have hlocks := B.notSynchronized
  have hS : va_S (fun _ : Nat => False) s.heap s.heap [] := va_S.rf
  have hl := lv_entry ([.int x]) (n := 1) (Nat.le_of_ble_eq_true rfl)
  rw [lg_entry_eq]
  generalize (lg_sl ([.int x]) ++ List.replicate (1 - (lg_sl ([.int x])).length) Slot.unset).toArray = ls at hl ⊢
  have hl : lv_has ls 1 [(0, .int x)] := hl
  refine lv_iload_n hx hb dX0_needPlace_0 rfl (lv_at hl 0 rfl) ?_
  refine lv_if_lt (tgt := 10) hx hb dX0_needPlace_1 (by decide) (fun c_1 => ?_) (fun c_1 => ?_)
  · skip
    exact tv_thr (cls := "java/lang/IndexOutOfBoundsException") (text := "no such place") (ik := 107) (is := 112) (ic := 111) hx hb hT hts hown (by decide +kernel) (by decide +kernel) (by decide +kernel) (by decide +kernel) tv_io_g tv_io_o (by decide +kernel) hE hS (hl.1.trans hml.symm) dX0_needPlace_10 dX0_needPlace_13 dX0_needPlace_14 dX0_needPlace_16 dX0_needPlace_19 htab (Nat.le_of_ble_eq_true rfl) (Nat.le_of_ble_eq_true rfl) (Nat.le_of_ble_eq_true rfl) (Nat.le_of_ble_eq_true rfl) hlocks (fun t ht hz hk => ⟨(), trivial, rfl, hz, fun q hq _ => hk q hq⟩) (fun z h => nomatch h) (Nat.le_of_ble_eq_true rfl) (Nat.le_of_ble_eq_true rfl)
  · skip
    refine lv_iload_n hx hb dX0_needPlace_4 rfl (lv_at hl 0 rfl) ?_
    refine lv_bipush (v := 12) hx hb dX0_needPlace_5 (by decide) ?_
    refine lv_icmp_lt (tgt := 20) hx hb dX0_needPlace_7 (by decide) (fun c_2 => ?_) (fun c_2 => ?_)
    · exact absurd (show tv_in 12 x = true from by simp only [tv_in, Bool.and_eq_true, Bool.not_eq_true', decide_eq_false_iff_not, decide_eq_true_eq]; exact ⟨c_1, c_2⟩) (by rw [g]; decide)
    · skip
      exact tv_thr (cls := "java/lang/IndexOutOfBoundsException") (text := "no such place") (ik := 107) (is := 112) (ic := 111) hx hb hT hts hown (by decide +kernel) (by decide +kernel) (by decide +kernel) (by decide +kernel) tv_io_g tv_io_o (by decide +kernel) hE hS (hl.1.trans hml.symm) dX0_needPlace_10 dX0_needPlace_13 dX0_needPlace_14 dX0_needPlace_16 dX0_needPlace_19 htab (Nat.le_of_ble_eq_true rfl) (Nat.le_of_ble_eq_true rfl) (Nat.le_of_ble_eq_true rfl) (Nat.le_of_ble_eq_true rfl) hlocks (fun t ht hz hk => ⟨(), trivial, rfl, hz, fun q hq _ => hk q hq⟩) (fun z h => nomatch h) (Nat.le_of_ble_eq_true rfl) (Nat.le_of_ble_eq_true rfl)
set_option maxHeartbeats 4000000 in
set_option maxRecDepth 100000 in
theorem n_X0_needGate (l : Launch) (x : Int32) (g : tv_in 4 x = true) : Met l yX0_needGate wsX0_needGate ({ frames := 0, cells := 0, slots := 0, locals := 0 } : Room) (fun v _ => v = ([.int x] : List Value).toArray) tv_Void 0 0 (fun _ => False) := by
  refine Met.ofW (cc := cX0_needGate) (maxL := 1) (ret := none) (by decide) rfl ?_
  intro p e s m args below meth c s₁ B hml hv
  subst hv
  have hx := B.exec
  have hb := B.bytes
  have hr := B.returns
  have hts := atoms_spec (ws := wsX0_needGate) B.pre
  have hown : s.vm.findClass RX0 = some m.cls := findClass_of_methodNamed B.named
  have hlocks := B.notSynchronized
  have hl := lv_entry ([.int x]) (n := 1) (Nat.le_of_ble_eq_true rfl)
  rw [lg_entry_eq]
  generalize (lg_sl ([.int x]) ++ List.replicate (1 - (lg_sl ([.int x])).length) Slot.unset).toArray = ls at hl ⊢
  have hl : lv_has ls 1 [(0, .int x)] := hl
  simp only [tv_in, Bool.and_eq_true, Bool.not_eq_true', decide_eq_false_iff_not, decide_eq_true_eq] at g
  refine lv_iload_n hx hb dX0_needGate_0 rfl (lv_at hl 0 rfl) ?_
  refine lv_if_lt (tgt := 9) hx hb dX0_needGate_1 (by decide) (fun c_1 => ?_) (fun c_1 => ?_)
  · exact absurd c_1 g.1
  · skip
    refine lv_iload_n hx hb dX0_needGate_4 rfl (lv_at hl 0 rfl) ?_
    refine lv_iconst (v := 4) hx hb dX0_needGate_5 (by decide) ?_
    refine lv_icmp_lt (tgt := 19) hx hb dX0_needGate_6 (by decide) (fun c_2 => ?_) (fun c_2 => ?_)
    · skip
      exact W.vret hx hb hr (fun t ht hW => ⟨rfl, ht⟩) (fun q h => nomatch h) dX0_needGate_19
    · exact absurd g.2 c_2
set_option maxHeartbeats 4000000 in
set_option maxRecDepth 100000 in
theorem t_X0_needGate (l : Launch) (hT : l.stackTraces = false) (x : Int32) (g : tv_in 4 x = false) : vx_Met l yX0_needGate wsX0_needGate tv_rmT (tv_PT [.int x]) (fun _ _ _ _ => False) (tv_XT "java/lang/IndexOutOfBoundsException") 1 6 (fun _ => False) := by
  refine vx_ofW (cc := cX0_needGate) (maxL := 1) (ret := none) (by decide) rfl ?_
  intro p e s m args below meth c s₁ B hml htab hv
  obtain ⟨rfl, hE⟩ := hv
  have hx := B.exec
  have hb := B.bytes
  have hr := B.returns
  have hts := atoms_spec (ws := wsX0_needGate) B.pre
  have hown : s.vm.findClass RX0 = some m.cls := findClass_of_methodNamed B.named
  have hlocks := B.notSynchronized
  have hS : va_S (fun _ : Nat => False) s.heap s.heap [] := va_S.rf
  have hl := lv_entry ([.int x]) (n := 1) (Nat.le_of_ble_eq_true rfl)
  rw [lg_entry_eq]
  generalize (lg_sl ([.int x]) ++ List.replicate (1 - (lg_sl ([.int x])).length) Slot.unset).toArray = ls at hl ⊢
  have hl : lv_has ls 1 [(0, .int x)] := hl
  refine lv_iload_n hx hb dX0_needGate_0 rfl (lv_at hl 0 rfl) ?_
  refine lv_if_lt (tgt := 9) hx hb dX0_needGate_1 (by decide) (fun c_1 => ?_) (fun c_1 => ?_)
  · skip
    exact tv_thr (cls := "java/lang/IndexOutOfBoundsException") (text := "no such gate") (ik := 107) (is := 114) (ic := 111) hx hb hT hts hown (by decide +kernel) (by decide +kernel) (by decide +kernel) (by decide +kernel) tv_io_g tv_io_o (by decide +kernel) hE hS (hl.1.trans hml.symm) dX0_needGate_9 dX0_needGate_12 dX0_needGate_13 dX0_needGate_15 dX0_needGate_18 htab (Nat.le_of_ble_eq_true rfl) (Nat.le_of_ble_eq_true rfl) (Nat.le_of_ble_eq_true rfl) (Nat.le_of_ble_eq_true rfl) hlocks (fun t ht hz hk => ⟨(), trivial, rfl, hz, fun q hq _ => hk q hq⟩) (fun z h => nomatch h) (Nat.le_of_ble_eq_true rfl) (Nat.le_of_ble_eq_true rfl)
  · skip
    refine lv_iload_n hx hb dX0_needGate_4 rfl (lv_at hl 0 rfl) ?_
    refine lv_iconst (v := 4) hx hb dX0_needGate_5 (by decide) ?_
    refine lv_icmp_lt (tgt := 19) hx hb dX0_needGate_6 (by decide) (fun c_2 => ?_) (fun c_2 => ?_)
    · exact absurd (show tv_in 4 x = true from by simp only [tv_in, Bool.and_eq_true, Bool.not_eq_true', decide_eq_false_iff_not, decide_eq_true_eq]; exact ⟨c_1, c_2⟩) (by rw [g]; decide)
    · skip
      exact tv_thr (cls := "java/lang/IndexOutOfBoundsException") (text := "no such gate") (ik := 107) (is := 114) (ic := 111) hx hb hT hts hown (by decide +kernel) (by decide +kernel) (by decide +kernel) (by decide +kernel) tv_io_g tv_io_o (by decide +kernel) hE hS (hl.1.trans hml.symm) dX0_needGate_9 dX0_needGate_12 dX0_needGate_13 dX0_needGate_15 dX0_needGate_18 htab (Nat.le_of_ble_eq_true rfl) (Nat.le_of_ble_eq_true rfl) (Nat.le_of_ble_eq_true rfl) (Nat.le_of_ble_eq_true rfl) hlocks (fun t ht hz hk => ⟨(), trivial, rfl, hz, fun q hq _ => hk q hq⟩) (fun z h => nomatch h) (Nat.le_of_ble_eq_true rfl) (Nat.le_of_ble_eq_true rfl)
set_option maxHeartbeats 4000000 in
set_option maxRecDepth 100000 in
theorem n_X0_needSign (l : Launch) (x : Int32) (g : tv_sg x = true) : Met l yX0_needSign wsX0_needSign ({ frames := 0, cells := 0, slots := 0, locals := 0 } : Room) (fun v _ => v = ([.int x] : List Value).toArray) tv_Void 0 0 (fun _ => False) := by
  refine Met.ofW (cc := cX0_needSign) (maxL := 1) (ret := none) (by decide) rfl ?_
  intro p e s m args below meth c s₁ B hml hv
  subst hv
  have hx := B.exec
  have hb := B.bytes
  have hr := B.returns
  have hts := atoms_spec (ws := wsX0_needSign) B.pre
  have hown : s.vm.findClass RX0 = some m.cls := findClass_of_methodNamed B.named
  have hlocks := B.notSynchronized
  have hl := lv_entry ([.int x]) (n := 1) (Nat.le_of_ble_eq_true rfl)
  rw [lg_entry_eq]
  generalize (lg_sl ([.int x]) ++ List.replicate (1 - (lg_sl ([.int x])).length) Slot.unset).toArray = ls at hl ⊢
  have hl : lv_has ls 1 [(0, .int x)] := hl
  simp only [tv_sg, Bool.and_eq_true, Bool.not_eq_true', decide_eq_false_iff_not, decide_eq_true_eq] at g
  refine lv_iload_n hx hb dX0_needSign_0 rfl (lv_at hl 0 rfl) ?_
  refine lv_if_lt (tgt := 9) hx hb dX0_needSign_1 (by decide) (fun c_1 => ?_) (fun c_1 => ?_)
  · exact absurd c_1 g.1
  · skip
    refine lv_iload_n hx hb dX0_needSign_4 rfl (lv_at hl 0 rfl) ?_
    refine lv_iconst (v := 5) hx hb dX0_needSign_5 (by decide) ?_
    refine lv_icmp_le (tgt := 19) hx hb dX0_needSign_6 (by decide) (fun c_2 => ?_) (fun c_2 => ?_)
    · skip
      exact W.vret hx hb hr (fun t ht hW => ⟨rfl, ht⟩) (fun q h => nomatch h) dX0_needSign_19
    · exact absurd g.2 c_2
set_option maxHeartbeats 4000000 in
set_option maxRecDepth 100000 in
theorem t_X0_needSign (l : Launch) (hT : l.stackTraces = false) (x : Int32) (g : tv_sg x = false) : vx_Met l yX0_needSign wsX0_needSign tv_rmT (tv_PT [.int x]) (fun _ _ _ _ => False) (tv_XT "java/lang/IllegalArgumentException") 1 6 (fun _ => False) := by
  refine vx_ofW (cc := cX0_needSign) (maxL := 1) (ret := none) (by decide) rfl ?_
  intro p e s m args below meth c s₁ B hml htab hv
  obtain ⟨rfl, hE⟩ := hv
  have hx := B.exec
  have hb := B.bytes
  have hr := B.returns
  have hts := atoms_spec (ws := wsX0_needSign) B.pre
  have hown : s.vm.findClass RX0 = some m.cls := findClass_of_methodNamed B.named
  have hlocks := B.notSynchronized
  have hS : va_S (fun _ : Nat => False) s.heap s.heap [] := va_S.rf
  have hl := lv_entry ([.int x]) (n := 1) (Nat.le_of_ble_eq_true rfl)
  rw [lg_entry_eq]
  generalize (lg_sl ([.int x]) ++ List.replicate (1 - (lg_sl ([.int x])).length) Slot.unset).toArray = ls at hl ⊢
  have hl : lv_has ls 1 [(0, .int x)] := hl
  refine lv_iload_n hx hb dX0_needSign_0 rfl (lv_at hl 0 rfl) ?_
  refine lv_if_lt (tgt := 9) hx hb dX0_needSign_1 (by decide) (fun c_1 => ?_) (fun c_1 => ?_)
  · skip
    exact tv_thr (cls := "java/lang/IllegalArgumentException") (text := "no such sign") (ik := 116) (is := 118) (ic := 120) hx hb hT hts hown (by decide +kernel) (by decide +kernel) (by decide +kernel) (by decide +kernel) tv_ia_g tv_ia_o (by decide +kernel) hE hS (hl.1.trans hml.symm) dX0_needSign_9 dX0_needSign_12 dX0_needSign_13 dX0_needSign_15 dX0_needSign_18 htab (Nat.le_of_ble_eq_true rfl) (Nat.le_of_ble_eq_true rfl) (Nat.le_of_ble_eq_true rfl) (Nat.le_of_ble_eq_true rfl) hlocks (fun t ht hz hk => ⟨(), trivial, rfl, hz, fun q hq _ => hk q hq⟩) (fun z h => nomatch h) (Nat.le_of_ble_eq_true rfl) (Nat.le_of_ble_eq_true rfl)
  · skip
    refine lv_iload_n hx hb dX0_needSign_4 rfl (lv_at hl 0 rfl) ?_
    refine lv_iconst (v := 5) hx hb dX0_needSign_5 (by decide) ?_
    refine lv_icmp_le (tgt := 19) hx hb dX0_needSign_6 (by decide) (fun c_2 => ?_) (fun c_2 => ?_)
    · exact absurd (show tv_sg x = true from by simp only [tv_sg, Bool.and_eq_true, Bool.not_eq_true', decide_eq_false_iff_not, decide_eq_true_eq]; exact ⟨c_1, c_2⟩) (by rw [g]; decide)
    · skip
      exact tv_thr (cls := "java/lang/IllegalArgumentException") (text := "no such sign") (ik := 116) (is := 118) (ic := 120) hx hb hT hts hown (by decide +kernel) (by decide +kernel) (by decide +kernel) (by decide +kernel) tv_ia_g tv_ia_o (by decide +kernel) hE hS (hl.1.trans hml.symm) dX0_needSign_9 dX0_needSign_12 dX0_needSign_13 dX0_needSign_15 dX0_needSign_18 htab (Nat.le_of_ble_eq_true rfl) (Nat.le_of_ble_eq_true rfl) (Nat.le_of_ble_eq_true rfl) (Nat.le_of_ble_eq_true rfl) hlocks (fun t ht hz hk => ⟨(), trivial, rfl, hz, fun q hq _ => hk q hq⟩) (fun z h => nomatch h) (Nat.le_of_ble_eq_true rfl) (Nat.le_of_ble_eq_true rfl)
set_option maxHeartbeats 4000000 in
set_option maxRecDepth 100000 in
theorem n_X0_needNumber (l : Launch) (x : Int32) (g : tv_num x = true) : Met l yX0_needNumber wsX0_needNumber ({ frames := 0, cells := 0, slots := 0, locals := 0 } : Room) (fun v _ => v = ([.int x] : List Value).toArray) tv_Void 0 0 (fun _ => False) := by
  refine Met.ofW (cc := cX0_needNumber) (maxL := 1) (ret := none) (by decide) rfl ?_
  intro p e s m args below meth c s₁ B hml hv
  subst hv
  have hx := B.exec
  have hb := B.bytes
  have hr := B.returns
  have hts := atoms_spec (ws := wsX0_needNumber) B.pre
  have hown : s.vm.findClass RX0 = some m.cls := findClass_of_methodNamed B.named
  have hlocks := B.notSynchronized
  have hl := lv_entry ([.int x]) (n := 1) (Nat.le_of_ble_eq_true rfl)
  rw [lg_entry_eq]
  generalize (lg_sl ([.int x]) ++ List.replicate (1 - (lg_sl ([.int x])).length) Slot.unset).toArray = ls at hl ⊢
  have hl : lv_has ls 1 [(0, .int x)] := hl
  simp only [tv_num, Bool.or_eq_true, Bool.and_eq_true, Bool.not_eq_true', decide_eq_false_iff_not, decide_eq_true_eq] at g
  refine lv_iload_n hx hb dX0_needNumber_0 rfl (lv_at hl 0 rfl) ?_
  refine lv_ldc (v := -2147483648) hx hb hown (hts (.constant RX0 23 (-2147483648)) (by decide +kernel)) dX0_needNumber_1 ?_
  refine lv_icmp_eq (tgt := 28) hx hb dX0_needNumber_3 (by decide) (fun c_1 => ?_) (fun c_1 => ?_)
  · skip
    exact W.vret hx hb hr (fun t ht hW => ⟨rfl, ht⟩) (fun q h => nomatch h) dX0_needNumber_28
  · obtain ⟨g1, g2⟩ := g.resolve_left c_1
    refine lv_iload_n hx hb dX0_needNumber_6 rfl (lv_at hl 0 rfl) ?_
    refine lv_ldc (v := -8000000) hx hb hown (hts (.constant RX0 121 (-8000000)) (by decide +kernel)) dX0_needNumber_7 ?_
    refine lv_icmp_lt (tgt := 18) hx hb dX0_needNumber_9 (by decide) (fun c_2 => ?_) (fun c_2 => ?_)
    · exact absurd c_2 g1
    · skip
      refine lv_iload_n hx hb dX0_needNumber_12 rfl (lv_at hl 0 rfl) ?_
      refine lv_ldc (v := 8000000) hx hb hown (hts (.constant RX0 122 (8000000)) (by decide +kernel)) dX0_needNumber_13 ?_
      refine lv_icmp_le (tgt := 28) hx hb dX0_needNumber_15 (by decide) (fun c_3 => ?_) (fun c_3 => ?_)
      · skip
        exact W.vret hx hb hr (fun t ht hW => ⟨rfl, ht⟩) (fun q h => nomatch h) dX0_needNumber_28
      · exact absurd g2 c_3
set_option maxHeartbeats 4000000 in
set_option maxRecDepth 100000 in
theorem t_X0_needNumber (l : Launch) (hT : l.stackTraces = false) (x : Int32) (g : tv_num x = false) : vx_Met l yX0_needNumber wsX0_needNumber tv_rmT (tv_PT [.int x]) (fun _ _ _ _ => False) (tv_XT "java/lang/IllegalArgumentException") 1 6 (fun _ => False) := by
  refine vx_ofW (cc := cX0_needNumber) (maxL := 1) (ret := none) (by decide) rfl ?_
  intro p e s m args below meth c s₁ B hml htab hv
  obtain ⟨rfl, hE⟩ := hv
  have hx := B.exec
  have hb := B.bytes
  have hr := B.returns
  have hts := atoms_spec (ws := wsX0_needNumber) B.pre
  have hown : s.vm.findClass RX0 = some m.cls := findClass_of_methodNamed B.named
  have hlocks := B.notSynchronized
  have hS : va_S (fun _ : Nat => False) s.heap s.heap [] := va_S.rf
  have hl := lv_entry ([.int x]) (n := 1) (Nat.le_of_ble_eq_true rfl)
  rw [lg_entry_eq]
  generalize (lg_sl ([.int x]) ++ List.replicate (1 - (lg_sl ([.int x])).length) Slot.unset).toArray = ls at hl ⊢
  have hl : lv_has ls 1 [(0, .int x)] := hl
  refine lv_iload_n hx hb dX0_needNumber_0 rfl (lv_at hl 0 rfl) ?_
  refine lv_ldc (v := -2147483648) hx hb hown (hts (.constant RX0 23 (-2147483648)) (by decide +kernel)) dX0_needNumber_1 ?_
  refine lv_icmp_eq (tgt := 28) hx hb dX0_needNumber_3 (by decide) (fun c_1 => ?_) (fun c_1 => ?_)
  · exact absurd (show tv_num x = true from by simp only [tv_num, Bool.or_eq_true, Bool.and_eq_true, Bool.not_eq_true', decide_eq_false_iff_not, decide_eq_true_eq]; exact Or.inl c_1) (by rw [g]; decide)
  · skip
    refine lv_iload_n hx hb dX0_needNumber_6 rfl (lv_at hl 0 rfl) ?_
    refine lv_ldc (v := -8000000) hx hb hown (hts (.constant RX0 121 (-8000000)) (by decide +kernel)) dX0_needNumber_7 ?_
    refine lv_icmp_lt (tgt := 18) hx hb dX0_needNumber_9 (by decide) (fun c_2 => ?_) (fun c_2 => ?_)
    · skip
      exact tv_thr (cls := "java/lang/IllegalArgumentException") (text := "the number is beyond") (ik := 116) (is := 123) (ic := 120) hx hb hT hts hown (by decide +kernel) (by decide +kernel) (by decide +kernel) (by decide +kernel) tv_ia_g tv_ia_o (by decide +kernel) hE hS (hl.1.trans hml.symm) dX0_needNumber_18 dX0_needNumber_21 dX0_needNumber_22 dX0_needNumber_24 dX0_needNumber_27 htab (Nat.le_of_ble_eq_true rfl) (Nat.le_of_ble_eq_true rfl) (Nat.le_of_ble_eq_true rfl) (Nat.le_of_ble_eq_true rfl) hlocks (fun t ht hz hk => ⟨(), trivial, rfl, hz, fun q hq _ => hk q hq⟩) (fun z h => nomatch h) (Nat.le_of_ble_eq_true rfl) (Nat.le_of_ble_eq_true rfl)
    · skip
      refine lv_iload_n hx hb dX0_needNumber_12 rfl (lv_at hl 0 rfl) ?_
      refine lv_ldc (v := 8000000) hx hb hown (hts (.constant RX0 122 (8000000)) (by decide +kernel)) dX0_needNumber_13 ?_
      refine lv_icmp_le (tgt := 28) hx hb dX0_needNumber_15 (by decide) (fun c_3 => ?_) (fun c_3 => ?_)
      · exact absurd (show tv_num x = true from by simp only [tv_num, Bool.or_eq_true, Bool.and_eq_true, Bool.not_eq_true', decide_eq_false_iff_not, decide_eq_true_eq]; exact Or.inr ⟨c_2, c_3⟩) (by rw [g]; decide)
      · skip
        exact tv_thr (cls := "java/lang/IllegalArgumentException") (text := "the number is beyond") (ik := 116) (is := 123) (ic := 120) hx hb hT hts hown (by decide +kernel) (by decide +kernel) (by decide +kernel) (by decide +kernel) tv_ia_g tv_ia_o (by decide +kernel) hE hS (hl.1.trans hml.symm) dX0_needNumber_18 dX0_needNumber_21 dX0_needNumber_22 dX0_needNumber_24 dX0_needNumber_27 htab (Nat.le_of_ble_eq_true rfl) (Nat.le_of_ble_eq_true rfl) (Nat.le_of_ble_eq_true rfl) (Nat.le_of_ble_eq_true rfl) hlocks (fun t ht hz hk => ⟨(), trivial, rfl, hz, fun q hq _ => hk q hq⟩) (fun z h => nomatch h) (Nat.le_of_ble_eq_true rfl) (Nat.le_of_ble_eq_true rfl)
theorem tv_div4 {r : Nat} (h : r < 8) : nI r / 4 = nI (r / 4) := by rw [show (4 : Int32) = nI 4 from rfl]; exact pk_div (by omega) (by omega) (by omega)
theorem tv_os_nI {r o : Nat} (hr : r < 8) (ho : o < 8) : tv_os (nI r) (nI o) = decide ((if r < 4 then (0 : Int32) else 1) = (if o < 4 then 0 else 1)) := by
  unfold tv_os
  rw [tv_div4 hr, tv_div4 ho]
  by_cases h1 : r < 4 <;> by_cases h2 : o < 4
  · rw [if_pos h1, if_pos h2, Nat.div_eq_of_lt h1, Nat.div_eq_of_lt h2]; rfl
  · rw [if_pos h1, if_neg h2, Nat.div_eq_of_lt h1, show o / 4 = 1 by omega]; rfl
  · rw [if_neg h1, if_pos h2, Nat.div_eq_of_lt h2, show r / 4 = 1 by omega]; rfl
  · rw [if_neg h1, if_neg h2, show r / 4 = 1 by omega, show o / 4 = 1 by omega]; rfl
set_option maxHeartbeats 4000000 in
set_option maxRecDepth 100000 in
theorem n_X0_needOneSort (l : Launch) (r o : Nat) (g : tv_os (nI r) (nI o) = true) (hr8 : r < 8) (ho8 : o < 8) : Met l yX0_needOneSort wsX0_needOneSort ({ frames := 1, cells := 0, slots := 0, locals := 20 } : Room) (fun v _ => v = ([.int (nI r), .int (nI o)] : List Value).toArray) tv_Void 0 0 (fun _ => False) := by
  refine Met.ofW (cc := cX0_needOneSort) (maxL := 2) (ret := none) (by decide) rfl ?_
  intro p e s m args below meth c s₁ B hml hv
  subst hv
  have hx := B.exec
  have hb := B.bytes
  have hr := B.returns
  have hts := atoms_spec (ws := wsX0_needOneSort) B.pre
  have hown : s.vm.findClass RX0 = some m.cls := findClass_of_methodNamed B.named
  have hlocks := B.notSynchronized
  have hl := lv_entry ([.int (nI r), .int (nI o)]) (n := 2) (Nat.le_of_ble_eq_true rfl)
  rw [lg_entry_eq]
  generalize (lg_sl ([.int (nI r), .int (nI o)]) ++ List.replicate (2 - (lg_sl ([.int (nI r), .int (nI o)])).length) Slot.unset).toArray = ls at hl ⊢
  have hl : lv_has ls 2 [(0, .int (nI r)), (1, .int (nI o))] := hl
  rw [tv_os_nI hr8 ho8] at g
  simp only [decide_eq_true_eq] at g
  refine lv_iload_n hx hb dX0_needOneSort_0 rfl (lv_at hl 0 rfl) ?_
  refine tv_callR (W.runS (As := [.int (nI r)]) (rest := []) ⟨hx, hb, hml, hown, hts⟩ (c_X0_isRough l r hr8) (va_cwS 1 hts gX0_needOneSort_X0_isRough rfl rfl rfl (by decide +kernel) ⟨Nat.le_of_ble_eq_true rfl, Nat.le_of_ble_eq_true rfl⟩) preEq rfl rfl hl.1 rfl (lv_room (Nat.le_of_ble_eq_true rfl)) dX0_needOneSort_1 ⟨Nat.le_of_ble_eq_true rfl, Nat.le_of_ble_eq_true rfl⟩) ?_
  refine lv_iload_n hx hb dX0_needOneSort_4 rfl (lv_at hl 1 rfl) ?_
  refine tv_callR (W.runS (As := [.int (nI o)]) (rest := [.int (if r < 4 then 0 else 1)]) ⟨hx, hb, hml, hown, hts⟩ (c_X0_isRough l o ho8) (va_cwS 1 hts gX0_needOneSort_X0_isRough rfl rfl rfl (by decide +kernel) ⟨Nat.le_of_ble_eq_true rfl, Nat.le_of_ble_eq_true rfl⟩) preEq rfl rfl hl.1 rfl (lv_room (Nat.le_of_ble_eq_true rfl)) dX0_needOneSort_5 ⟨Nat.le_of_ble_eq_true rfl, Nat.le_of_ble_eq_true rfl⟩) ?_
  refine lv_icmp_eq (tgt := 21) hx hb dX0_needOneSort_8 (by decide) (fun c_1 => ?_) (fun c_1 => ?_)
  · skip
    exact W.vret hx hb hr (fun t ht hW => ⟨rfl, ht⟩) (fun q h => nomatch h) dX0_needOneSort_21
  · exact absurd g c_1
set_option maxHeartbeats 4000000 in
set_option maxRecDepth 100000 in
theorem t_X0_needOneSort (l : Launch) (hT : l.stackTraces = false) (r o : Nat) (g : tv_os (nI r) (nI o) = false) (hr8 : r < 8) (ho8 : o < 8) : vx_Met l yX0_needOneSort wsX0_needOneSort tv_rmT (tv_PT [.int (nI r), .int (nI o)]) (fun _ _ _ _ => False) (tv_XT "java/lang/IllegalArgumentException") 1 6 (fun _ => False) := by
  refine vx_ofW (cc := cX0_needOneSort) (maxL := 2) (ret := none) (by decide) rfl ?_
  intro p e s m args below meth c s₁ B hml htab hv
  obtain ⟨rfl, hE⟩ := hv
  have hx := B.exec
  have hb := B.bytes
  have hr := B.returns
  have hts := atoms_spec (ws := wsX0_needOneSort) B.pre
  have hown : s.vm.findClass RX0 = some m.cls := findClass_of_methodNamed B.named
  have hlocks := B.notSynchronized
  have hS : va_S (fun _ : Nat => False) s.heap s.heap [] := va_S.rf
  have hl := lv_entry ([.int (nI r), .int (nI o)]) (n := 2) (Nat.le_of_ble_eq_true rfl)
  rw [lg_entry_eq]
  generalize (lg_sl ([.int (nI r), .int (nI o)]) ++ List.replicate (2 - (lg_sl ([.int (nI r), .int (nI o)])).length) Slot.unset).toArray = ls at hl ⊢
  have hl : lv_has ls 2 [(0, .int (nI r)), (1, .int (nI o))] := hl
  rw [tv_os_nI hr8 ho8] at g
  simp only [decide_eq_false_iff_not] at g
  refine lv_iload_n hx hb dX0_needOneSort_0 rfl (lv_at hl 0 rfl) ?_
  refine tv_callR (W.runS (As := [.int (nI r)]) (rest := []) ⟨hx, hb, hml, hown, hts⟩ (c_X0_isRough l r hr8) (va_cwS 1 hts gX0_needOneSort_X0_isRough rfl rfl rfl (by decide +kernel) ⟨Nat.le_of_ble_eq_true rfl, Nat.le_of_ble_eq_true rfl⟩) preEq rfl rfl hl.1 rfl (lv_room (Nat.le_of_ble_eq_true rfl)) dX0_needOneSort_1 ⟨Nat.le_of_ble_eq_true rfl, Nat.le_of_ble_eq_true rfl⟩) ?_
  refine lv_iload_n hx hb dX0_needOneSort_4 rfl (lv_at hl 1 rfl) ?_
  refine tv_callR (W.runS (As := [.int (nI o)]) (rest := [.int (if r < 4 then 0 else 1)]) ⟨hx, hb, hml, hown, hts⟩ (c_X0_isRough l o ho8) (va_cwS 1 hts gX0_needOneSort_X0_isRough rfl rfl rfl (by decide +kernel) ⟨Nat.le_of_ble_eq_true rfl, Nat.le_of_ble_eq_true rfl⟩) preEq rfl rfl hl.1 rfl (lv_room (Nat.le_of_ble_eq_true rfl)) dX0_needOneSort_5 ⟨Nat.le_of_ble_eq_true rfl, Nat.le_of_ble_eq_true rfl⟩) ?_
  refine lv_icmp_eq (tgt := 21) hx hb dX0_needOneSort_8 (by decide) (fun c_1 => ?_) (fun c_1 => ?_)
  · exact absurd c_1 g
  · skip
    exact tv_thr (cls := "java/lang/IllegalArgumentException") (text := "the rows are not of one sort") (ik := 116) (is := 125) (ic := 120) hx hb hT hts hown (by decide +kernel) (by decide +kernel) (by decide +kernel) (by decide +kernel) tv_ia_g tv_ia_o (by decide +kernel) hE hS (hl.1.trans hml.symm) dX0_needOneSort_11 dX0_needOneSort_14 dX0_needOneSort_15 dX0_needOneSort_17 dX0_needOneSort_20 htab (Nat.le_of_ble_eq_true rfl) (Nat.le_of_ble_eq_true rfl) (Nat.le_of_ble_eq_true rfl) (Nat.le_of_ble_eq_true rfl) hlocks (fun t ht hz hk => ⟨(), trivial, rfl, hz, fun q hq _ => hk q hq⟩) (fun z h => nomatch h) (Nat.le_of_ble_eq_true rfl) (Nat.le_of_ble_eq_true rfl)
set_option maxHeartbeats 4000000 in
set_option maxRecDepth 100000 in
theorem n_X0_needApart (l : Launch) (x y : Int32) (g : (!(decide (x = y))) = true) : Met l yX0_needApart wsX0_needApart ({ frames := 0, cells := 0, slots := 0, locals := 0 } : Room) (fun v _ => v = ([.int x, .int y] : List Value).toArray) tv_Void 0 0 (fun _ => False) := by
  refine Met.ofW (cc := cX0_needApart) (maxL := 2) (ret := none) (by decide) rfl ?_
  intro p e s m args below meth c s₁ B hml hv
  subst hv
  have hx := B.exec
  have hb := B.bytes
  have hr := B.returns
  have hts := atoms_spec (ws := wsX0_needApart) B.pre
  have hown : s.vm.findClass RX0 = some m.cls := findClass_of_methodNamed B.named
  have hlocks := B.notSynchronized
  have hl := lv_entry ([.int x, .int y]) (n := 2) (Nat.le_of_ble_eq_true rfl)
  rw [lg_entry_eq]
  generalize (lg_sl ([.int x, .int y]) ++ List.replicate (2 - (lg_sl ([.int x, .int y])).length) Slot.unset).toArray = ls at hl ⊢
  have hl : lv_has ls 2 [(0, .int x), (1, .int y)] := hl
  simp only [Bool.not_eq_true', decide_eq_false_iff_not] at g
  refine lv_iload_n hx hb dX0_needApart_0 rfl (lv_at hl 0 rfl) ?_
  refine lv_iload_n hx hb dX0_needApart_1 rfl (lv_at hl 1 rfl) ?_
  refine lv_icmp_ne (tgt := 15) hx hb dX0_needApart_2 (by decide) (fun c_1 => ?_) (fun c_1 => ?_)
  · skip
    exact W.vret hx hb hr (fun t ht hW => ⟨rfl, ht⟩) (fun q h => nomatch h) dX0_needApart_15
  · exact absurd c_1 g
set_option maxHeartbeats 4000000 in
set_option maxRecDepth 100000 in
theorem t_X0_needApart (l : Launch) (hT : l.stackTraces = false) (x y : Int32) (g : (!(decide (x = y))) = false) : vx_Met l yX0_needApart wsX0_needApart tv_rmT (tv_PT [.int x, .int y]) (fun _ _ _ _ => False) (tv_XT "java/lang/IllegalArgumentException") 1 6 (fun _ => False) := by
  refine vx_ofW (cc := cX0_needApart) (maxL := 2) (ret := none) (by decide) rfl ?_
  intro p e s m args below meth c s₁ B hml htab hv
  obtain ⟨rfl, hE⟩ := hv
  have hx := B.exec
  have hb := B.bytes
  have hr := B.returns
  have hts := atoms_spec (ws := wsX0_needApart) B.pre
  have hown : s.vm.findClass RX0 = some m.cls := findClass_of_methodNamed B.named
  have hlocks := B.notSynchronized
  have hS : va_S (fun _ : Nat => False) s.heap s.heap [] := va_S.rf
  have hl := lv_entry ([.int x, .int y]) (n := 2) (Nat.le_of_ble_eq_true rfl)
  rw [lg_entry_eq]
  generalize (lg_sl ([.int x, .int y]) ++ List.replicate (2 - (lg_sl ([.int x, .int y])).length) Slot.unset).toArray = ls at hl ⊢
  have hl : lv_has ls 2 [(0, .int x), (1, .int y)] := hl
  simp only [Bool.not_eq_false', decide_eq_true_eq] at g
  refine lv_iload_n hx hb dX0_needApart_0 rfl (lv_at hl 0 rfl) ?_
  refine lv_iload_n hx hb dX0_needApart_1 rfl (lv_at hl 1 rfl) ?_
  refine lv_icmp_ne (tgt := 15) hx hb dX0_needApart_2 (by decide) (fun c_1 => ?_) (fun c_1 => ?_)
  · exact absurd g c_1
  · skip
    exact tv_thr (cls := "java/lang/IllegalArgumentException") (text := "the third row is the first or the second") (ik := 116) (is := 127) (ic := 120) hx hb hT hts hown (by decide +kernel) (by decide +kernel) (by decide +kernel) (by decide +kernel) tv_ia_g tv_ia_o (by decide +kernel) hE hS (hl.1.trans hml.symm) dX0_needApart_5 dX0_needApart_8 dX0_needApart_9 dX0_needApart_11 dX0_needApart_14 htab (Nat.le_of_ble_eq_true rfl) (Nat.le_of_ble_eq_true rfl) (Nat.le_of_ble_eq_true rfl) (Nat.le_of_ble_eq_true rfl) hlocks (fun t ht hz hk => ⟨(), trivial, rfl, hz, fun q hq _ => hk q hq⟩) (fun z h => nomatch h) (Nat.le_of_ble_eq_true rfl) (Nat.le_of_ble_eq_true rfl)
end
section
/-! A METHOD THAT WRITES IN ITS WORLD: what it is given, how it ends, a call of it. -/
def tv_Pd (D : va_G) (cI cZ cL : ClassId) (ws : va_W) (sz : Nat) (As : List Value) : Array Value → State → Prop := fun v U => v = As.toArray ∧ U.heap.size = sz ∧ va_P D vwCl ws U.heap ∧ va_K D vwCl (tv_ty cI cZ cL) U ∧ va_D (fun _ => True) ws
theorem tv_Pd.blind {D : va_G} {cI cZ cL : ClassId} {ws : va_W} {sz : Nat} {As : List Value} : FrameBlind (tv_Pd D cI cZ cL ws sz As) := fun a U g mk q => ⟨q.1, q.2.1, q.2.2.1, va_K.moved (u := U) (U := U.calling g mk a) (Vm.Alike.refl U.vm) q.2.2.2.1, q.2.2.2.2⟩
abbrev tv_Qw (D : va_G) (cI cZ cL : ClassId) (ws : va_W) (sz : Nat) (r : Int32) (ws' : va_W) : Array Value → State → Outcome → State → Prop :=
  va_Qi (S := Unit) (fun r' _ => r' = r) (fun _ t => va_P D vwCl ws' t.heap ∧ va_K D vwCl (tv_ty cI cZ cL) t ∧ va_D (va_A ws sz) ws') (va_A ws sz)
abbrev tv_Qwv (D : va_G) (cI cZ cL : ClassId) (ws : va_W) (sz : Nat) (ws' : va_W) : Array Value → State → Outcome → State → Prop :=
  va_Qv (S := Unit) (fun _ => True) (fun _ t => va_P D vwCl ws' t.heap ∧ va_K D vwCl (tv_ty cI cZ cL) t ∧ va_D (va_A ws sz) ws') (va_A ws sz)
section TVX
variable {p : Program} {l : Launch} {e : Env} {R : Room} {s : State} {m : MethodId} {args : Array Value} {below : List Frame} {meth : Method} {c : Code} {H : Heap} {locs : List Loc} {cells slots : Nat} {Q : State → Prop} {pc : Nat} {ls : Array Slot} {st0 rest : List Value} {a : Array Value} {D : va_G} {cI cZ cL : ClassId} {A0 : Nat → Prop} {H0 : Heap} {ws wc wr wc' wsN : va_W} {mc ms : Nat}
theorem tv_preD {As : List Value} (hP : va_P D vwCl ws H) (hK : va_K D vwCl (tv_ty cI cZ cL) s) (hD : va_D A0 ws) (isC : List Nat) (h1 : isC.filterMap (fun i => ws[i]?) = wc) (h2 : isC.map (fun i => ws[i]?) = wc.map some) (hn : va_nd isC = true) : PreS s H (tv_Pd D cI cZ cL wc H.size As) As :=
  ⟨tv_Pd.blind, fun U hU hW => ⟨rfl, by rw [hU], by rw [hU]; exact hP.sub isC h1, va_K.moved hW.alike hK, (hD.sub isC hn h2).weaken (fun _ _ _ _ => trivial)⟩⟩
theorem tv_preDV {As : List Value} {b ci : Nat} {C : String} {T : u_T} {N : Nat} {fs : List Value} (hP : va_P D vwCl ws H) (hK : va_K D vwCl (tv_ty cI cZ cL) s) (hD : va_D A0 ws) (isC : List Nat) (h1 : isC.filterMap (fun i => ws[i]?) = wc) (h2 : isC.map (fun i => ws[i]?) = wc.map some) (hn : va_nd isC = true) (hc : vwCl[ci]? = some (C, T, N)) (q0 : Nat) (he : ws[q0]? = some (b, .inr (ci, fs))) : PreV s H C b (tv_Pd D cI cZ cL wc H.size (.ref b :: As)) As :=
  ⟨tv_Pd.blind, va_recv hK hP hc he, fun U hU hW => ⟨rfl, by rw [hU], by rw [hU]; exact hP.sub isC h1, va_K.moved hW.alike hK, (hD.sub isC hn h2).weaken (fun _ _ _ _ => trivial)⟩⟩
theorem tv_callW {r : Int32} (hr : va_Run p l e R s m args below meth c H locs cells slots mc ms (F0 m pc ls st0) rest (tv_Qw D cI cZ cL wc H.size r wc' a) (va_A wc H.size)) (hP : va_P D vwCl ws H) (hD : va_D A0 ws) (hS : va_S A0 H0 H locs) (hA : ∀ q, H0.size ≤ q → A0 q)
    (isC isR : List Nat) (hC : isC.map (fun i => ws[i]?) = wc.map some) (hR : isR.map (fun i => ws[i]?) = wr.map some) (hn : va_nd isR = true) (hdis : ∀ i ∈ isR, i ∉ isC) (is : List Nat) (hi1 : is.filterMap (fun i => (wr ++ wc')[i]?) = wsN) (hi2 : is.map (fun i => (wr ++ wc')[i]?) = wsN.map some) (hin : va_nd is = true)
    (kk : ∀ (H : Heap) (locs : List Loc), va_P D vwCl wsN H → va_D A0 wsN → va_S A0 H0 H locs → W p l e R s m args below meth c H locs (cells + mc) (slots + ms) Q (F0 m (pc + 3) ls (.int r :: rest))) : W p l e R s m args below meth c H locs cells slots Q (F0 m pc ls st0) := by
  have hFc := va_free (wc := wc) hD hS hA isC hC
  refine va_calli hr hS (fun q _ h => hFc q h) hFc (fun r_2 u t H1 locs1 ht hvm hw hB hz1 hk1 hS1 => ?_)
  obtain ⟨hP1, hK1, hD1⟩ := hB
  rw [ht] at hP1
  subst hw
  obtain ⟨hP2, hD2⟩ := va_join (wr := wr) (w1 := wc') hP hD isC isR hC hR hn hdis hk1 hFc hP1 hD1
  exact kk H1 locs1 (hP2.sub is hi1) (hD2.sub is hin hi2) hS1
theorem tv_callWv (hr : va_Run p l e R s m args below meth c H locs cells slots mc ms (F0 m pc ls st0) rest (tv_Qwv D cI cZ cL wc H.size wc' a) (va_A wc H.size)) (hP : va_P D vwCl ws H) (hD : va_D A0 ws) (hS : va_S A0 H0 H locs) (hA : ∀ q, H0.size ≤ q → A0 q)
    (isC isR : List Nat) (hC : isC.map (fun i => ws[i]?) = wc.map some) (hR : isR.map (fun i => ws[i]?) = wr.map some) (hn : va_nd isR = true) (hdis : ∀ i ∈ isR, i ∉ isC) (is : List Nat) (hi1 : is.filterMap (fun i => (wr ++ wc')[i]?) = wsN) (hi2 : is.map (fun i => (wr ++ wc')[i]?) = wsN.map some) (hin : va_nd is = true)
    (kk : ∀ (H : Heap) (locs : List Loc), va_P D vwCl wsN H → va_D A0 wsN → va_S A0 H0 H locs → W p l e R s m args below meth c H locs (cells + mc) (slots + ms) Q (F0 m (pc + 3) ls rest)) : W p l e R s m args below meth c H locs cells slots Q (F0 m pc ls st0) := by
  have hFc := va_free (wc := wc) hD hS hA isC hC
  refine va_callv hr hS (fun q _ h => hFc q h) hFc (fun u t H1 locs1 ht hvm hw hB hz1 hk1 hS1 => ?_)
  obtain ⟨hP1, hK1, hD1⟩ := hB
  rw [ht] at hP1
  obtain ⟨hP2, hD2⟩ := va_join (wr := wr) (w1 := wc') hP hD isC isR hC hR hn hdis hk1 hFc hP1 hD1
  exact kk H1 locs1 (hP2.sub is hi1) (hD2.sub is hin hi2) hS1
/-- the end of a method that writes -/
theorem tv_iretW {cc : ByteArray} {A : Nat → Prop} {sz : Nat} {ws0 : va_W} {r : Int32} (hA : A = va_A ws0 sz) (hexec : p.tables.exec = Jvm.exec) (hb : c.code = cc) (hr : meth.sig.returnType = some .int) (hP : va_P D vwCl ws H) (hK : va_K D vwCl (tv_ty cI cZ cL) s) (hD : va_D A ws) (hS : va_S A s.heap H locs) (hdg : decode cc pc = .ok (.ireturn, 1)) (hlocks : meth.locks = false) :
    W p l e R s m args below meth c H locs cells slots (MQ below (tv_Qw D cI cZ cL ws0 sz r ws) args s cells slots (va_A ws0 sz)) (F0 m pc ls [.int r]) := by
  subst hA
  exact W.iret (v := r) hexec hb hr (fun t ht hW => ⟨⟨r, (), rfl, rfl, by rw [ht]; exact hP, va_K.moved hW.alike hK, hD⟩, hS.F ht⟩) hS.2.2 hdg hlocks
theorem tv_zretW {cc : ByteArray} {A : Nat → Prop} {sz : Nat} {ws0 : va_W} {r : Int32} (h01 : r = 0 ∨ r = 1) (hA : A = va_A ws0 sz) (hexec : p.tables.exec = Jvm.exec) (hb : c.code = cc) (hr : meth.sig.returnType = some .boolean) (hP : va_P D vwCl ws H) (hK : va_K D vwCl (tv_ty cI cZ cL) s) (hD : va_D A ws) (hS : va_S A s.heap H locs) (hdg : decode cc pc = .ok (.ireturn, 1)) (hlocks : meth.locks = false) :
    W p l e R s m args below meth c H locs cells slots (MQ below (tv_Qw D cI cZ cL ws0 sz r ws) args s cells slots (va_A ws0 sz)) (F0 m pc ls [.int r]) := by
  subst hA
  exact tv_zret (v := r) hexec hb hr h01 (fun t ht hW => ⟨⟨r, (), rfl, rfl, by rw [ht]; exact hP, va_K.moved hW.alike hK, hD⟩, hS.F ht⟩) hS.2.2 hdg hlocks
theorem tv_vretW {cc : ByteArray} {A : Nat → Prop} {sz : Nat} {ws0 : va_W} (hA : A = va_A ws0 sz) (hexec : p.tables.exec = Jvm.exec) (hb : c.code = cc) (hr : meth.sig.returnType = none) (hP : va_P D vwCl ws H) (hK : va_K D vwCl (tv_ty cI cZ cL) s) (hD : va_D A ws) (hS : va_S A s.heap H locs) (hdg : decode cc pc = .ok (.return_, 1)) (hlocks : meth.locks = false) :
    W p l e R s m args below meth c H locs cells slots (MQ below (tv_Qwv D cI cZ cL ws0 sz ws) args s cells slots (va_A ws0 sz)) (F0 m pc ls []) := by
  subst hA
  exact W.vret hexec hb hr (fun t ht hW => ⟨⟨(), rfl, trivial, by rw [ht]; exact hP, va_K.moved hW.alike hK, hD⟩, hS.F ht⟩) hS.2.2 hdg hlocks
end TVX
end
section
theorem tv_lvx {g r : Nat} (h : r < 8) : 2 * g + (if (if r < 4 then (0 : Int32) else 1) = 0 then 0 else 1) = 2 * g + r / 4 := by
  by_cases h1 : r < 4
  · rw [if_pos h1, Nat.div_eq_of_lt h1]; rfl
  · rw [if_neg h1, show r / 4 = 1 by omega]; rfl
theorem iX0_levelFor : ∀ w ∈ wsX00, w ∈ wsX0_levelFor := by decide +kernel
set_option maxHeartbeats 4000000 in
set_option maxRecDepth 100000 in
theorem c_X0_levelFor (l : Launch) (D : va_G) (cI cZ cL : ClassId) (h a1 a2 a3 a4 : Nat) (rd lv op nt : Nat → Int32) (g r : Nat) (hg4 : g < 4) (hr8 : r < 8) : Met l yX0_levelFor wsX0_levelFor ({ frames := 1, cells := 0, slots := 0, locals := 21 } : Room) (tv_Pw D cI cZ cL (tv_cw cI cZ h a1 a2 a3 a4 (rd, lv, op, nt)) [.ref h, .int (nI g), .int (nI r)]) (QcRead (lvl lv g r)) 0 0 (fun _ => False) := by
  refine Met.ofW (cc := cX0_levelFor) (maxL := 3) (ret := (some .int)) (by decide) rfl ?_
  intro p e s m args below meth c s₁ B hml hv
  obtain ⟨rfl, hP, hK⟩ := hv
  have hx := B.exec
  have hb := B.bytes
  have hr := B.returns
  have hts := atoms_spec (ws := wsX0_levelFor) B.pre
  have hown : s.vm.findClass RX0 = some m.cls := findClass_of_methodNamed B.named
  have hlocks := B.notSynchronized
  have hl := lv_entry ([.ref h, .int (nI g), .int (nI r)]) (n := 3) (Nat.le_of_ble_eq_true rfl)
  rw [lg_entry_eq]
  generalize (lg_sl ([.ref h, .int (nI g), .int (nI r)]) ++ List.replicate (3 - (lg_sl ([.ref h, .int (nI g), .int (nI r)])).length) Slot.unset).toArray = ls at hl ⊢
  have hl : lv_has ls 3 [(0, .ref h), (1, .int (nI g)), (2, .int (nI r))] := hl
  refine lv_aload_n hx hb dX0_levelFor_0 rfl (lv_at hl 0 rfl) ?_
  refine va_get (D := D) (ci := 0) (v := .ref a2) (C := RX0) (T := TX0) (N := 4) hx hb hts iX0_levelFor hown hK hP 0 rfl rfl 1 (by decide) (hts (.fieldLink RX0 13 "TideHouse" "levels" "[I") (by decide +kernel)) (fun _ h9 => h9) rfl dX0_levelFor_1 ?_
  refine lv_iload_n hx hb dX0_levelFor_4 rfl (lv_at hl 1 rfl) ?_
  refine lv_iload_n hx hb dX0_levelFor_5 rfl (lv_at hl 2 rfl) ?_
  refine tv_callR (W.runS (As := [.int (nI r)]) (rest := [.int (nI g), .ref a2]) ⟨hx, hb, hml, hown, hts⟩ (c_X0_isRough l r hr8) (va_cwS 1 hts gX0_levelFor_X0_isRough rfl rfl rfl (by decide +kernel) ⟨Nat.le_of_ble_eq_true rfl, Nat.le_of_ble_eq_true rfl⟩) preEq rfl rfl hl.1 rfl (lv_room (Nat.le_of_ble_eq_true rfl)) dX0_levelFor_6 ⟨Nat.le_of_ble_eq_true rfl, Nat.le_of_ble_eq_true rfl⟩) ?_
  refine tv_callR (W.runS (As := [.int (nI g), .int (if r < 4 then 0 else 1)]) (rest := [.ref a2]) ⟨hx, hb, hml, hown, hts⟩ (c_X0_levelSpot l g (if r < 4 then 0 else 1)) (va_cwS 2 hts gX0_levelFor_X0_levelSpot rfl rfl rfl (by decide +kernel) ⟨Nat.le_of_ble_eq_true rfl, Nat.le_of_ble_eq_true rfl⟩) preEq rfl rfl hl.1 rfl (lv_room (Nat.le_of_ble_eq_true rfl)) dX0_levelFor_9 ⟨Nat.le_of_ble_eq_true rfl, Nat.le_of_ble_eq_true rfl⟩) ?_
  refine tv_top (nI (2 * g + r / 4)) (by rw [tv_lvx hr8]) ?_
  refine tv_iald (D := D) (cA := cI) (n := 8) (f := lv) (k := (2 * g + r / 4)) hx hb hK hP 2 0 rfl rfl (by omega) (by omega) dX0_levelFor_12 ?_
  exact W.iret (v := lv (2 * g + r / 4)) hx hb hr (fun t ht hW => ⟨rfl, ht⟩) (fun q h => nomatch h) dX0_levelFor_13
set_option maxHeartbeats 4000000 in
set_option maxRecDepth 100000 in
theorem c_X0_opens (l : Launch) (x v tr : Int32) : Met l yX0_opens wsX0_opens ({ frames := 1, cells := 0, slots := 0, locals := 22 } : Room) (fun av _ => av = ([.int x, .int v, .int tr] : List Value).toArray) (QcRead (opn x v tr)) 0 0 (fun _ => False) := by
  refine Met.ofW (cc := cX0_opens) (maxL := 3) (ret := (some .boolean)) (by decide) rfl ?_
  intro p e s m args below meth c s₁ B hml hv
  subst hv
  have hx := B.exec
  have hb := B.bytes
  have hr := B.returns
  have hts := atoms_spec (ws := wsX0_opens) B.pre
  have hown : s.vm.findClass RX0 = some m.cls := findClass_of_methodNamed B.named
  have hlocks := B.notSynchronized
  have hl := lv_entry ([.int x, .int v, .int tr]) (n := 3) (Nat.le_of_ble_eq_true rfl)
  rw [lg_entry_eq]
  generalize (lg_sl ([.int x, .int v, .int tr]) ++ List.replicate (3 - (lg_sl ([.int x, .int v, .int tr])).length) Slot.unset).toArray = ls at hl ⊢
  have hl : lv_has ls 3 [(0, .int x), (1, .int v), (2, .int tr)] := hl
  refine lv_iload_n hx hb dX0_opens_0 rfl (lv_at hl 2 rfl) ?_
  refine lv_if_eq (tgt := 21) hx hb dX0_opens_1 (by decide) (fun c_1 => ?_) (fun c_1 => ?_)
  · skip
    refine lv_iconst (v := 3) hx hb dX0_opens_21 (by decide) ?_
    refine lv_iload_n hx hb dX0_opens_22 rfl (lv_at hl 0 rfl) ?_
    refine lv_iload_n hx hb dX0_opens_23 rfl (lv_at hl 1 rfl) ?_
    refine tv_callR (W.runS (As := [.int 3, .int x, .int v]) (rest := []) ⟨hx, hb, hml, hown, hts⟩ (c_X0_isTrue l 3 x v) (va_cwS 3 hts gX0_opens_X0_isTrue rfl rfl rfl (by decide +kernel) ⟨Nat.le_of_ble_eq_true rfl, Nat.le_of_ble_eq_true rfl⟩) preEq rfl rfl hl.1 rfl (lv_room (Nat.le_of_ble_eq_true rfl)) dX0_opens_24 ⟨Nat.le_of_ble_eq_true rfl, Nat.le_of_ble_eq_true rfl⟩) ?_
    exact tv_zret (v := tq 3 x v) hx hb hr (tq01 _ _ _) (fun t ht hW => ⟨by rw [opn, if_pos c_1], ht⟩) (fun q h => nomatch h) dX0_opens_27 hlocks
  · skip
    refine lv_iconst (v := 0) hx hb dX0_opens_4 (by decide) ?_
    refine lv_iload_n hx hb dX0_opens_5 rfl (lv_at hl 0 rfl) ?_
    refine lv_iload_n hx hb dX0_opens_6 rfl (lv_at hl 1 rfl) ?_
    refine tv_callR (W.runS (As := [.int 0, .int x, .int v]) (rest := []) ⟨hx, hb, hml, hown, hts⟩ (c_X0_isTrue l 0 x v) (va_cwS 3 hts gX0_opens_X0_isTrue rfl rfl rfl (by decide +kernel) ⟨Nat.le_of_ble_eq_true rfl, Nat.le_of_ble_eq_true rfl⟩) preEq rfl rfl hl.1 rfl (lv_room (Nat.le_of_ble_eq_true rfl)) dX0_opens_7 ⟨Nat.le_of_ble_eq_true rfl, Nat.le_of_ble_eq_true rfl⟩) ?_
    refine lv_if_ne (tgt := 17) hx hb dX0_opens_10 (by decide) (fun c_2 => ?_) (fun c_2 => ?_)
    · skip
      refine lv_iconst (v := 0) hx hb dX0_opens_17 (by decide) ?_
      refine lv_goto (tgt := 27) hx hb dX0_opens_18 (by decide) ?_
      exact tv_zret (v := 0) hx hb hr (by decide) (fun t ht hW => ⟨by rw [opn, if_neg c_1, if_neg c_2], ht⟩) (fun q h => nomatch h) dX0_opens_27 hlocks
    · skip
      refine lv_iconst (v := 1) hx hb dX0_opens_13 (by decide) ?_
      refine lv_goto (tgt := 27) hx hb dX0_opens_14 (by decide) ?_
      exact tv_zret (v := 1) hx hb hr (by decide) (fun t ht hW => ⟨by rw [opn, if_neg c_1, if_pos c_2], ht⟩) (fun q h => nomatch h) dX0_opens_27 hlocks
theorem iX0_isTrueOfNext : ∀ w ∈ wsX00, w ∈ wsX0_isTrueOfNext := by decide +kernel
set_option maxHeartbeats 4000000 in
set_option maxRecDepth 100000 in
theorem c_X0_isTrueOfNext (l : Launch) (D : va_G) (cI cZ cL : ClassId) (h a1 a2 a3 a4 : Nat) (rd lv op nt : Nat → Int32) (r k : Nat) (sg : Int32) (hr8 : r < 8) (hk11 : k < 11) : Met l yX0_isTrueOfNext wsX0_isTrueOfNext ({ frames := 1, cells := 0, slots := 0, locals := 22 } : Room) (tv_Pw D cI cZ cL (tv_cw cI cZ h a1 a2 a3 a4 (rd, lv, op, nt)) [.ref h, .int (nI r), .int (nI k), .int sg]) (QcRead (tq sg (rd (12 * r + k)) (rd (12 * r + (k + 1))))) 0 0 (fun _ => False) := by
  refine Met.ofW (cc := cX0_isTrueOfNext) (maxL := 4) (ret := (some .boolean)) (by decide) rfl ?_
  intro p e s m args below meth c s₁ B hml hv
  obtain ⟨rfl, hP, hK⟩ := hv
  have hx := B.exec
  have hb := B.bytes
  have hr := B.returns
  have hts := atoms_spec (ws := wsX0_isTrueOfNext) B.pre
  have hown : s.vm.findClass RX0 = some m.cls := findClass_of_methodNamed B.named
  have hlocks := B.notSynchronized
  have hl := lv_entry ([.ref h, .int (nI r), .int (nI k), .int sg]) (n := 4) (Nat.le_of_ble_eq_true rfl)
  rw [lg_entry_eq]
  generalize (lg_sl ([.ref h, .int (nI r), .int (nI k), .int sg]) ++ List.replicate (4 - (lg_sl ([.ref h, .int (nI r), .int (nI k), .int sg])).length) Slot.unset).toArray = ls at hl ⊢
  have hl : lv_has ls 4 [(0, .ref h), (1, .int (nI r)), (2, .int (nI k)), (3, .int sg)] := hl
  refine lv_iload_n hx hb dX0_isTrueOfNext_0 rfl (lv_at hl 3 rfl) ?_
  refine lv_aload_n hx hb dX0_isTrueOfNext_1 rfl (lv_at hl 0 rfl) ?_
  refine va_get (D := D) (ci := 0) (v := .ref a1) (C := RX0) (T := TX0) (N := 4) hx hb hts iX0_isTrueOfNext hown hK hP 0 rfl rfl 0 (by decide) (hts (.fieldLink RX0 9 "TideHouse" "readings" "[I") (by decide +kernel)) (fun _ h9 => h9) rfl dX0_isTrueOfNext_2 ?_
  refine lv_iload_n hx hb dX0_isTrueOfNext_5 rfl (lv_at hl 1 rfl) ?_
  refine lv_iload_n hx hb dX0_isTrueOfNext_6 rfl (lv_at hl 2 rfl) ?_
  refine tv_callR (W.runS (As := [.int (nI r), .int (nI k)]) (rest := [.ref a1, .int sg]) ⟨hx, hb, hml, hown, hts⟩ (c_X0_spot l r k) (va_cwS 2 hts gX0_isTrueOfNext_X0_spot rfl rfl rfl (by decide +kernel) ⟨Nat.le_of_ble_eq_true rfl, Nat.le_of_ble_eq_true rfl⟩) preEq rfl rfl hl.1 rfl (lv_room (Nat.le_of_ble_eq_true rfl)) dX0_isTrueOfNext_7 ⟨Nat.le_of_ble_eq_true rfl, Nat.le_of_ble_eq_true rfl⟩) ?_
  refine tv_iald (D := D) (cA := cI) (n := 96) (f := rd) (k := (12 * r + k)) hx hb hK hP 1 0 rfl rfl (by omega) (by omega) dX0_isTrueOfNext_10 ?_
  refine lv_aload_n hx hb dX0_isTrueOfNext_11 rfl (lv_at hl 0 rfl) ?_
  refine va_get (D := D) (ci := 0) (v := .ref a1) (C := RX0) (T := TX0) (N := 4) hx hb hts iX0_isTrueOfNext hown hK hP 0 rfl rfl 0 (by decide) (hts (.fieldLink RX0 9 "TideHouse" "readings" "[I") (by decide +kernel)) (fun _ h9 => h9) rfl dX0_isTrueOfNext_12 ?_
  refine lv_iload_n hx hb dX0_isTrueOfNext_15 rfl (lv_at hl 1 rfl) ?_
  refine lv_iload_n hx hb dX0_isTrueOfNext_16 rfl (lv_at hl 2 rfl) ?_
  refine lv_iconst (v := 1) hx hb dX0_isTrueOfNext_17 (by decide) ?_
  refine lv_iadd hx hb dX0_isTrueOfNext_18 ?_
  refine tv_top (nI (k + 1)) (nI_1 k) ?_
  refine tv_callR (W.runS (As := [.int (nI r), .int (nI (k + 1))]) (rest := [.ref a1, .int (rd (12 * r + k)), .int sg]) ⟨hx, hb, hml, hown, hts⟩ (c_X0_spot l r (k + 1)) (va_cwS 2 hts gX0_isTrueOfNext_X0_spot rfl rfl rfl (by decide +kernel) ⟨Nat.le_of_ble_eq_true rfl, Nat.le_of_ble_eq_true rfl⟩) preEq rfl rfl hl.1 rfl (lv_room (Nat.le_of_ble_eq_true rfl)) dX0_isTrueOfNext_19 ⟨Nat.le_of_ble_eq_true rfl, Nat.le_of_ble_eq_true rfl⟩) ?_
  refine tv_iald (D := D) (cA := cI) (n := 96) (f := rd) (k := (12 * r + (k + 1))) hx hb hK hP 1 0 rfl rfl (by omega) (by omega) dX0_isTrueOfNext_22 ?_
  refine tv_callR (W.runS (As := [.int sg, .int (rd (12 * r + k)), .int (rd (12 * r + (k + 1)))]) (rest := []) ⟨hx, hb, hml, hown, hts⟩ (c_X0_isTrue l sg (rd (12 * r + k)) (rd (12 * r + (k + 1)))) (va_cwS 3 hts gX0_isTrueOfNext_X0_isTrue rfl rfl rfl (by decide +kernel) ⟨Nat.le_of_ble_eq_true rfl, Nat.le_of_ble_eq_true rfl⟩) preEq rfl rfl hl.1 rfl (lv_room (Nat.le_of_ble_eq_true rfl)) dX0_isTrueOfNext_23 ⟨Nat.le_of_ble_eq_true rfl, Nat.le_of_ble_eq_true rfl⟩) ?_
  exact tv_zret (v := tq sg (rd (12 * r + k)) (rd (12 * r + (k + 1)))) hx hb hr (tq01 _ _ _) (fun t ht hW => ⟨rfl, ht⟩) (fun q h => nomatch h) dX0_isTrueOfNext_26 hlocks
theorem iX0_countMissing : ∀ w ∈ wsX00, w ∈ wsX0_countMissing := by decide +kernel
set_option maxHeartbeats 4000000 in
set_option maxRecDepth 100000 in
theorem c_X0_countMissing (l : Launch) (D : va_G) (cI cZ cL : ClassId) (h a1 a2 a3 a4 : Nat) (rd lv op nt : Nat → Int32) (r : Nat) (hr8 : r < 8) : Met l yX0_countMissing wsX0_countMissing ({ frames := 1, cells := 0, slots := 0, locals := 22 } : Room) (tv_Pw D cI cZ cL (tv_cw cI cZ h a1 a2 a3 a4 (rd, lv, op, nt)) [.ref h, .int (nI r)]) (QcRead (cn (fun k => if rd (12 * r + k) = -2147483648 then 1 else 0) 12)) 0 0 (fun _ => False) := by
  refine Met.ofW (cc := cX0_countMissing) (maxL := 5) (ret := (some .int)) (by decide) rfl ?_
  intro p e s m args below meth c s₁ B hml hv
  obtain ⟨rfl, hP, hK⟩ := hv
  have hx := B.exec
  have hb := B.bytes
  have hr := B.returns
  have hts := atoms_spec (ws := wsX0_countMissing) B.pre
  have hown : s.vm.findClass RX0 = some m.cls := findClass_of_methodNamed B.named
  have hlocks := B.notSynchronized
  have hl := lv_entry ([.ref h, .int (nI r)]) (n := 5) (Nat.le_of_ble_eq_true rfl)
  rw [lg_entry_eq]
  generalize (lg_sl ([.ref h, .int (nI r)]) ++ List.replicate (5 - (lg_sl ([.ref h, .int (nI r)])).length) Slot.unset).toArray = ls at hl ⊢
  have hl : lv_has ls 5 [(0, .ref h), (1, .int (nI r))] := hl
  refine lv_iconst (v := 0) hx hb dX0_countMissing_0 (by decide) ?_
  refine lv_istore_n (lv' := [(2, .int 0), (0, .ref h), (1, .int (nI r))]) hx hb dX0_countMissing_1 rfl hl (by decide) rfl (fun ls hl => ?_)
  refine lv_iconst (v := 0) hx hb dX0_countMissing_2 (by decide) ?_
  refine lv_istore_n (lv' := [(3, .int 0), (2, .int 0), (0, .ref h), (1, .int (nI r))]) hx hb dX0_countMissing_3 rfl hl (by decide) rfl (fun ls hl => ?_)
  have loop : ∀ (n k : Nat), k + n = 12 → ∀ ls : Array Slot, lv_has ls 5 [(0, .ref h), (1, .int (nI r)), (2, .int (cn (fun k => if rd (12 * r + k) = -2147483648 then 1 else 0) k)), (3, .int (nI k))] → W p l e (headSpec wsX0_countMissing ({ frames := 1, cells := 0, slots := 0, locals := 22 } : Room)).room s m ([.ref h, .int (nI r)] : List Value).toArray below meth c s.heap [] 0 0 (MQ below (QcRead (cn (fun k => if rd (12 * r + k) = -2147483648 then 1 else 0) 12)) ([.ref h, .int (nI r)] : List Value).toArray s 0 0 (fun _ => False)) (F0 m 4 ls []) := by
    intro n
    induction n with
    | zero =>
      intro k hk ls hl
      have hk2 : k = 12 := by omega
      subst hk2
      refine lv_iload_n hx hb dX0_countMissing_4 rfl (lv_at hl 3 rfl) ?_
      refine lv_bipush (v := 12) hx hb dX0_countMissing_5 (by decide) ?_
      refine lv_icmp_ge (tgt := 42) hx hb dX0_countMissing_7 (by decide) (fun c_1 => ?_) (fun c_1 => ?_)
      · skip
        refine lv_iload_n hx hb dX0_countMissing_42 rfl (lv_at hl 2 rfl) ?_
        exact W.iret (v := cn (fun k => if rd (12 * r + k) = -2147483648 then 1 else 0) 12) hx hb hr (fun t ht hW => ⟨rfl, ht⟩) (fun q h => nomatch h) dX0_countMissing_43
      · exact absurd (show nI 12 ≤ nI 12 from nI_le (Nat.le_refl _) (by omega)) c_1
    | succ n ih =>
      intro k hk ls hl
      refine lv_iload_n hx hb dX0_countMissing_4 rfl (lv_at hl 3 rfl) ?_
      refine lv_bipush (v := 12) hx hb dX0_countMissing_5 (by decide) ?_
      refine lv_icmp_ge (tgt := 42) hx hb dX0_countMissing_7 (by decide) (fun c_2 => ?_) (fun c_2 => ?_)
      · exact absurd (show nI 12 ≤ nI k from c_2) (nI_ge (by omega) (by omega))
      · skip
        refine lv_aload_n hx hb dX0_countMissing_10 rfl (lv_at hl 0 rfl) ?_
        refine va_get (D := D) (ci := 0) (v := .ref a1) (C := RX0) (T := TX0) (N := 4) hx hb hts iX0_countMissing hown hK hP 0 rfl rfl 0 (by decide) (hts (.fieldLink RX0 9 "TideHouse" "readings" "[I") (by decide +kernel)) (fun _ h9 => h9) rfl dX0_countMissing_11 ?_
        refine lv_iload_n hx hb dX0_countMissing_14 rfl (lv_at hl 1 rfl) ?_
        refine lv_iload_n hx hb dX0_countMissing_15 rfl (lv_at hl 3 rfl) ?_
        refine tv_callR (W.runS (As := [.int (nI r), .int (nI k)]) (rest := [.ref a1]) ⟨hx, hb, hml, hown, hts⟩ (c_X0_spot l r k) (va_cwS 2 hts gX0_countMissing_X0_spot rfl rfl rfl (by decide +kernel) ⟨Nat.le_of_ble_eq_true rfl, Nat.le_of_ble_eq_true rfl⟩) preEq rfl rfl hl.1 rfl (lv_room (Nat.le_of_ble_eq_true rfl)) dX0_countMissing_16 ⟨Nat.le_of_ble_eq_true rfl, Nat.le_of_ble_eq_true rfl⟩) ?_
        refine tv_iald (D := D) (cA := cI) (n := 96) (f := rd) (k := (12 * r + k)) hx hb hK hP 1 0 rfl rfl (by omega) (by omega) dX0_countMissing_19 ?_
        refine lv_istore (lv' := [(4, .int (rd (12 * r + k))), (0, .ref h), (1, .int (nI r)), (2, .int (cn (fun k => if rd (12 * r + k) = -2147483648 then 1 else 0) k)), (3, .int (nI k))]) hx hb dX0_countMissing_20 hl (by decide) rfl (fun ls hl => ?_)
        refine lv_iconst (v := 5) hx hb dX0_countMissing_22 (by decide) ?_
        refine lv_iload hx hb dX0_countMissing_23 (lv_at hl 0 rfl) ?_
        refine lv_iload hx hb dX0_countMissing_25 (lv_at hl 0 rfl) ?_
        refine tv_callR (W.runS (As := [.int 5, .int (rd (12 * r + k)), .int (rd (12 * r + k))]) (rest := []) ⟨hx, hb, hml, hown, hts⟩ (c_X0_isTrue l 5 (rd (12 * r + k)) (rd (12 * r + k))) (va_cwS 3 hts gX0_countMissing_X0_isTrue rfl rfl rfl (by decide +kernel) ⟨Nat.le_of_ble_eq_true rfl, Nat.le_of_ble_eq_true rfl⟩) preEq rfl rfl hl.1 rfl (lv_room (Nat.le_of_ble_eq_true rfl)) dX0_countMissing_27 ⟨Nat.le_of_ble_eq_true rfl, Nat.le_of_ble_eq_true rfl⟩) ?_
        refine lv_if_eq (tgt := 36) hx hb dX0_countMissing_30 (by decide) (fun c_3 => ?_) (fun c_3 => ?_)
        · skip
          refine lv_iinc (v := nI (k + 1)) (lv' := [(3, .int (nI (k + 1))), (4, .int (rd (12 * r + k))), (0, .ref h), (1, .int (nI r)), (2, .int (cn (fun k => if rd (12 * r + k) = -2147483648 then 1 else 0) k))]) hx hb dX0_countMissing_36 hl (k := 4) rfl (nI_1 k) (by decide) rfl (fun ls hl => ?_)
          refine lv_goto (tgt := 4) hx hb dX0_countMissing_39 (by decide) ?_
          exact ih (k + 1) (by omega) ls (by rw [show cn (fun k => if rd (12 * r + k) = -2147483648 then 1 else 0) (k + 1) = cn (fun k => if rd (12 * r + k) = -2147483648 then 1 else 0) k from by rw [tq_self] at c_3; simp only [cn, c_3]; simp]; exact lv_sub hl [2, 3, 4, 0] rfl)
        · skip
          refine lv_iinc (v := cn (fun k => if rd (12 * r + k) = -2147483648 then 1 else 0) k + 1) (lv' := [(2, .int (cn (fun k => if rd (12 * r + k) = -2147483648 then 1 else 0) k + 1)), (4, .int (rd (12 * r + k))), (0, .ref h), (1, .int (nI r)), (3, .int (nI k))]) hx hb dX0_countMissing_33 hl (k := 3) rfl (rfl) (by decide) rfl (fun ls hl => ?_)
          refine lv_iinc (v := nI (k + 1)) (lv' := [(3, .int (nI (k + 1))), (2, .int (cn (fun k => if rd (12 * r + k) = -2147483648 then 1 else 0) k + 1)), (4, .int (rd (12 * r + k))), (0, .ref h), (1, .int (nI r))]) hx hb dX0_countMissing_36 hl (k := 4) rfl (nI_1 k) (by decide) rfl (fun ls hl => ?_)
          refine lv_goto (tgt := 4) hx hb dX0_countMissing_39 (by decide) ?_
          exact ih (k + 1) (by omega) ls (by rw [show cn (fun k => if rd (12 * r + k) = -2147483648 then 1 else 0) (k + 1) = cn (fun k => if rd (12 * r + k) = -2147483648 then 1 else 0) k + 1 from by rw [tq_self] at c_3; by_cases z : rd (12 * r + k) = -2147483648; (· simp only [cn, if_pos z]); (· exact absurd (if_neg z) c_3)]; exact lv_sub hl [3, 4, 1, 0] rfl)
  exact loop 12 0 rfl ls (by rw [show cn (fun k => if rd (12 * r + k) = -2147483648 then 1 else 0) 0 = 0 from rfl, show nI 0 = 0 from nI_0]; exact lv_sub hl [2, 3, 1, 0] rfl)
theorem wk_le (sg w : Int32) (rw : Nat → Int32) : ∀ n p : Nat, p < 12 → wk sg w rw n p < 12 := by
  intro n
  induction n with
  | zero => intro p h; exact h
  | succ n ih =>
    intro p h
    unfold wk
    split
    · exact ih (p + 1) (by omega)
    · exact h
theorem iX0_walk : ∀ w ∈ wsX00, w ∈ wsX0_walk := by decide +kernel
set_option maxHeartbeats 4000000 in
set_option maxRecDepth 100000 in
theorem c_X0_walk (l : Launch) (D : va_G) (cI cZ cL : ClassId) (h a1 a2 a3 a4 : Nat) (rd lv op nt : Nat → Int32) (r p0 z : Nat) (sg w : Int32) (hr8 : r < 8) (hp12 : p0 < 12) (hz : wk sg w (rw12 rd r) 12 p0 = z) : Met l yX0_walk wsX0_walk ({ frames := 2, cells := 0, slots := 0, locals := 45 } : Room) (tv_Pw D cI cZ cL (tv_cw cI cZ h a1 a2 a3 a4 (rd, lv, op, nt)) [.ref h, .int (nI r), .int (nI p0), .int sg, .int w]) (QcRead (nI z)) 0 0 (fun _ => False) := by
  refine Met.ofW (cc := cX0_walk) (maxL := 6) (ret := (some .int)) (by decide) rfl ?_
  intro p e s m args below meth c s₁ B hml hv
  obtain ⟨rfl, hP, hK⟩ := hv
  have hx := B.exec
  have hb := B.bytes
  have hr := B.returns
  have hts := atoms_spec (ws := wsX0_walk) B.pre
  have hown : s.vm.findClass RX0 = some m.cls := findClass_of_methodNamed B.named
  have hlocks := B.notSynchronized
  have hl := lv_entry ([.ref h, .int (nI r), .int (nI p0), .int sg, .int w]) (n := 6) (Nat.le_of_ble_eq_true rfl)
  rw [lg_entry_eq]
  generalize (lg_sl ([.ref h, .int (nI r), .int (nI p0), .int sg, .int w]) ++ List.replicate (6 - (lg_sl ([.ref h, .int (nI r), .int (nI p0), .int sg, .int w])).length) Slot.unset).toArray = ls at hl ⊢
  have hl : lv_has ls 6 [(0, .ref h), (1, .int (nI r)), (2, .int (nI p0)), (3, .int sg), (4, .int w)] := hl
  refine lv_iload_n hx hb dX0_walk_0 rfl (lv_at hl 2 rfl) ?_
  refine lv_istore (lv' := [(5, .int (nI p0)), (0, .ref h), (1, .int (nI r)), (2, .int (nI p0)), (3, .int sg), (4, .int w)]) hx hb dX0_walk_1 hl (by decide) rfl (fun ls hl => ?_)
  have loop : ∀ (n q : Nat), q < 12 → 12 ≤ q + n → wk sg w (rw12 rd r) n q = z → ∀ ls : Array Slot, lv_has ls 6 [(0, .ref h), (1, .int (nI r)), (3, .int sg), (4, .int w), (5, .int (nI q))] → W p l e (headSpec wsX0_walk ({ frames := 2, cells := 0, slots := 0, locals := 45 } : Room)).room s m ([.ref h, .int (nI r), .int (nI p0), .int sg, .int w] : List Value).toArray below meth c s.heap [] 0 0 (MQ below (QcRead (nI z)) ([.ref h, .int (nI r), .int (nI p0), .int sg, .int w] : List Value).toArray s 0 0 (fun _ => False)) (F0 m 3 ls []) := by
    intro n
    induction n with
    | zero =>
      intro q h1 h2 h3 ls hl
      exact absurd h2 (by omega)
    | succ n ih =>
      intro q h1 h2 h3 ls hl
      refine lv_iload hx hb dX0_walk_3 (lv_at hl 4 rfl) ?_
      refine lv_bipush (v := 11) hx hb dX0_walk_5 (by decide) ?_
      refine lv_icmp_ge (tgt := 29) hx hb dX0_walk_7 (by decide) (fun c_1 => ?_) (fun c_1 => ?_)
      · have g1 : ¬ q < 11 := fun g => absurd (show nI 11 ≤ nI q from c_1) (nI_ge g (by omega))
        refine lv_iload hx hb dX0_walk_29 (lv_at hl 4 rfl) ?_
        refine tv_top (nI z) (by rw [← h3, wk, if_neg (fun g => g1 g.1)]) ?_
        exact W.iret (v := nI z) hx hb hr (fun t ht hW => ⟨rfl, ht⟩) (fun q h => nomatch h) dX0_walk_31
      · have g1 : q < 11 := Nat.lt_of_not_le (fun g => c_1 (show nI 11 ≤ nI q from nI_le g (by omega)))
        refine lv_aload_n hx hb dX0_walk_10 rfl (lv_at hl 0 rfl) ?_
        refine lv_iload_n hx hb dX0_walk_11 rfl (lv_at hl 1 rfl) ?_
        refine lv_iload hx hb dX0_walk_12 (lv_at hl 4 rfl) ?_
        refine lv_iload_n hx hb dX0_walk_14 rfl (lv_at hl 2 rfl) ?_
        refine tv_callR (W.runV (As := [.int (nI r), .int (nI q), .int sg]) (rest := []) ⟨hx, hb, hml, hown, hts⟩ (c_X0_isTrueOfNext l D cI cZ cL h a1 a2 a3 a4 rd lv op nt r q sg hr8 g1) (cwV 3 hts gX0_walk_X0_isTrueOfNext rfl rfl rfl (by decide +kernel) ⟨Nat.le_of_ble_eq_true rfl, Nat.le_of_ble_eq_true rfl⟩) (tv_preV hP hK rfl 0 rfl) rfl rfl hl.1 rfl (lv_room (Nat.le_of_ble_eq_true rfl)) dX0_walk_15 ⟨Nat.le_of_ble_eq_true rfl, Nat.le_of_ble_eq_true rfl⟩) ?_
        refine lv_iload hx hb dX0_walk_18 (lv_at hl 3 rfl) ?_
        refine lv_icmp_ne (tgt := 29) hx hb dX0_walk_20 (by decide) (fun c_2 => ?_) (fun c_2 => ?_)
        · skip
          refine lv_iload hx hb dX0_walk_29 (lv_at hl 4 rfl) ?_
          refine tv_top (nI z) (by rw [← h3, wk, if_neg (fun g => c_2 g.2)]) ?_
          exact W.iret (v := nI z) hx hb hr (fun t ht hW => ⟨rfl, ht⟩) (fun q h => nomatch h) dX0_walk_31
        · skip
          refine lv_iinc (v := nI (q + 1)) (lv' := [(5, .int (nI (q + 1))), (0, .ref h), (1, .int (nI r)), (3, .int sg), (4, .int w)]) hx hb dX0_walk_23 hl (k := 4) rfl (nI_1 q) (by decide) rfl (fun ls hl => ?_)
          refine lv_goto (tgt := 3) hx hb dX0_walk_26 (by decide) ?_
          exact ih (q + 1) (by omega) (by omega) (by rw [← h3]; conv => rhs; rw [wk]; rw [if_pos ⟨g1, c_2⟩]) ls (lv_sub hl [1, 2, 3, 4, 0] rfl)
  exact loop 12 p0 hp12 (by omega) hz ls (lv_sub hl [1, 2, 4, 5, 0] rfl)
set_option maxHeartbeats 4000000 in
set_option maxRecDepth 100000 in
theorem c_X0_store (l : Launch) (D : va_G) (cI cZ cL : ClassId) (a n : Nat) (sz : Nat) (f : Nat → Int32) (k : Nat) (x : Int32) (hk : k < n) (hn : n < 2 ^ 31) : Met l yX0_store wsX0_store ({ frames := 0, cells := 0, slots := 0, locals := 0 } : Room) (tv_Pd D cI cZ cL [(a, .inl (cI, n, .inl f))] sz [.ref a, .int (nI k), .int x]) (tv_Qw D cI cZ cL [(a, .inl (cI, n, .inl f))] sz (if f k = x then 0 else 1) [(a, .inl (cI, n, .inl (upd f k x)))]) 0 0 (va_A [(a, .inl (cI, n, .inl f))] sz) := by
  refine Met.ofW (cc := cX0_store) (maxL := 4) (ret := (some .boolean)) (by decide) rfl ?_
  intro p e s m args below meth c s₁ B hml hv
  obtain ⟨rfl, hsz, hP, hK, hD0⟩ := hv
  subst hsz
  have hx := B.exec
  have hb := B.bytes
  have hr := B.returns
  have hts := atoms_spec (ws := wsX0_store) B.pre
  have hown : s.vm.findClass RX0 = some m.cls := findClass_of_methodNamed B.named
  have hlocks := B.notSynchronized
  have hD := hD0.self (sz := s.heap.size)
  obtain ⟨A, hAe⟩ : ∃ A, A = va_A [(a, .inl (cI, n, .inl f))] s.heap.size := ⟨_, rfl⟩
  rw [← hAe] at hD
  have hA : ∀ q : Nat, s.heap.size ≤ q → A q := fun q h => by rw [hAe]; exact Or.inr h
  have hS : va_S A s.heap s.heap [] := va_S.rf
  clear hD0
  have hl := lv_entry ([.ref a, .int (nI k), .int x]) (n := 4) (Nat.le_of_ble_eq_true rfl)
  rw [lg_entry_eq]
  generalize (lg_sl ([.ref a, .int (nI k), .int x]) ++ List.replicate (4 - (lg_sl ([.ref a, .int (nI k), .int x])).length) Slot.unset).toArray = ls at hl ⊢
  have hl : lv_has ls 4 [(0, .ref a), (1, .int (nI k)), (2, .int x)] := hl
  refine lv_aload_n hx hb dX0_store_0 rfl (lv_at hl 0 rfl) ?_
  refine lv_iload_n hx hb dX0_store_1 rfl (lv_at hl 1 rfl) ?_
  refine tv_iald (D := D) (cA := cI) (n := n) (f := f) (k := k) hx hb hK hP 0 0 rfl rfl (by omega) (by omega) dX0_store_2 ?_
  refine lv_iload_n hx hb dX0_store_3 rfl (lv_at hl 2 rfl) ?_
  refine lv_icmp_eq (tgt := 11) hx hb dX0_store_4 (by decide) (fun c_1 => ?_) (fun c_1 => ?_)
  · skip
    refine lv_iconst (v := 0) hx hb dX0_store_11 (by decide) ?_
    refine lv_istore_n (lv' := [(3, .int 0), (0, .ref a), (1, .int (nI k)), (2, .int x)]) hx hb dX0_store_12 rfl hl (by decide) rfl (fun ls hl => ?_)
    refine lv_aload_n hx hb dX0_store_13 rfl (lv_at hl 1 rfl) ?_
    refine lv_iload_n hx hb dX0_store_14 rfl (lv_at hl 2 rfl) ?_
    refine lv_iload_n hx hb dX0_store_15 rfl (lv_at hl 3 rfl) ?_
    refine tv_iast (D := D) (cA := cI) (n := n) (f := f) (k := k) (x := x) (ws1 := [(a, .inl (cI, n, .inl (upd f k x)))]) hx hb hK hP hD hS 0 0 rfl rfl (by omega) (by omega) rfl dX0_store_16 (fun H locs hP hD hS => ?_)
    refine lv_iload_n hx hb dX0_store_17 rfl (lv_at hl 0 rfl) ?_
    refine tv_top (if f k = x then 0 else 1) (if_pos c_1).symm ?_
    exact tv_zretW (by split <;> simp) hAe hx hb hr hP hK hD hS dX0_store_18 hlocks
  · skip
    refine lv_iconst (v := 1) hx hb dX0_store_7 (by decide) ?_
    refine lv_goto (tgt := 12) hx hb dX0_store_8 (by decide) ?_
    refine lv_istore_n (lv' := [(3, .int 1), (0, .ref a), (1, .int (nI k)), (2, .int x)]) hx hb dX0_store_12 rfl hl (by decide) rfl (fun ls hl => ?_)
    refine lv_aload_n hx hb dX0_store_13 rfl (lv_at hl 1 rfl) ?_
    refine lv_iload_n hx hb dX0_store_14 rfl (lv_at hl 2 rfl) ?_
    refine lv_iload_n hx hb dX0_store_15 rfl (lv_at hl 3 rfl) ?_
    refine tv_iast (D := D) (cA := cI) (n := n) (f := f) (k := k) (x := x) (ws1 := [(a, .inl (cI, n, .inl (upd f k x)))]) hx hb hK hP hD hS 0 0 rfl rfl (by omega) (by omega) rfl dX0_store_16 (fun H locs hP hD hS => ?_)
    refine lv_iload_n hx hb dX0_store_17 rfl (lv_at hl 0 rfl) ?_
    refine tv_top (if f k = x then 0 else 1) (if_neg c_1).symm ?_
    exact tv_zretW (by split <;> simp) hAe hx hb hr hP hK hD hS dX0_store_18 hlocks
theorem iX0_moveLeft : ∀ w ∈ wsX00, w ∈ wsX0_moveLeft := by decide +kernel
set_option maxHeartbeats 4000000 in
set_option maxRecDepth 100000 in
theorem c_X0_moveLeft (l : Launch) (D : va_G) (cI cZ cL : ClassId) (h a1 a2 a3 a4 : Nat) (rd lv op nt : Nat → Int32) (sz : Nat) (r q N : Nat) (sg : Int32) (F : Nat → Int32) (hr8 : r < 8) (hq12 : q < 12) (hF : (ml sg r q rd).1 = F) (hN : (ml sg r q rd).2 = N) : Met l yX0_moveLeft wsX0_moveLeft ({ frames := 1, cells := 0, slots := 0, locals := 22 } : Room) (tv_Pd D cI cZ cL (tv_cw cI cZ h a1 a2 a3 a4 (rd, lv, op, nt)) sz [.ref h, .int (nI r), .int (nI q), .int sg]) (tv_Qw D cI cZ cL (tv_cw cI cZ h a1 a2 a3 a4 (rd, lv, op, nt)) sz (nI N) (tv_cw cI cZ h a1 a2 a3 a4 (F, lv, op, nt))) 0 0 (va_A (tv_cw cI cZ h a1 a2 a3 a4 (rd, lv, op, nt)) sz) := by
  refine Met.ofW (cc := cX0_moveLeft) (maxL := 6) (ret := (some .int)) (by decide) rfl ?_
  intro p e s m args below meth c s₁ B hml hv
  obtain ⟨rfl, hsz, hP, hK, hD0⟩ := hv
  subst hsz
  have hx := B.exec
  have hb := B.bytes
  have hr := B.returns
  have hts := atoms_spec (ws := wsX0_moveLeft) B.pre
  have hown : s.vm.findClass RX0 = some m.cls := findClass_of_methodNamed B.named
  have hlocks := B.notSynchronized
  have hD := hD0.self (sz := s.heap.size)
  obtain ⟨A, hAe⟩ : ∃ A, A = va_A (tv_cw cI cZ h a1 a2 a3 a4 (rd, lv, op, nt)) s.heap.size := ⟨_, rfl⟩
  rw [← hAe] at hD
  have hA : ∀ q : Nat, s.heap.size ≤ q → A q := fun q h => by rw [hAe]; exact Or.inr h
  have hS : va_S A s.heap s.heap [] := va_S.rf
  clear hD0
  have hl := lv_entry ([.ref h, .int (nI r), .int (nI q), .int sg]) (n := 6) (Nat.le_of_ble_eq_true rfl)
  rw [lg_entry_eq]
  generalize (lg_sl ([.ref h, .int (nI r), .int (nI q), .int sg]) ++ List.replicate (6 - (lg_sl ([.ref h, .int (nI r), .int (nI q), .int sg])).length) Slot.unset).toArray = ls at hl ⊢
  have hl : lv_has ls 6 [(0, .ref h), (1, .int (nI r)), (2, .int (nI q)), (3, .int sg)] := hl
  refine lv_iload_n hx hb dX0_moveLeft_0 rfl (lv_at hl 2 rfl) ?_
  refine lv_istore (lv' := [(4, .int (nI q)), (0, .ref h), (1, .int (nI r)), (2, .int (nI q)), (3, .int sg)]) hx hb dX0_moveLeft_1 hl (by decide) rfl (fun ls hl => ?_)
  have loop : ∀ (p0 : Nat) (rx : Nat → Int32) (H : Heap) (locs : List Loc), p0 ≤ q → (ml sg r p0 rx).1 = F → q - p0 + (ml sg r p0 rx).2 = N → va_P D vwCl (tv_cw cI cZ h a1 a2 a3 a4 (rx, lv, op, nt)) H → va_D A (tv_cw cI cZ h a1 a2 a3 a4 (rx, lv, op, nt)) → va_S A s.heap H locs → ∀ ls : Array Slot, lv_has ls 6 [(0, .ref h), (1, .int (nI r)), (2, .int (nI q)), (3, .int sg), (4, .int (nI p0))] → W p l e (headSpec wsX0_moveLeft ({ frames := 1, cells := 0, slots := 0, locals := 22 } : Room)).room s m ([.ref h, .int (nI r), .int (nI q), .int sg] : List Value).toArray below meth c H locs 0 0 (MQ below (tv_Qw D cI cZ cL (tv_cw cI cZ h a1 a2 a3 a4 (rd, lv, op, nt)) s.heap.size (nI N) (tv_cw cI cZ h a1 a2 a3 a4 (F, lv, op, nt))) ([.ref h, .int (nI r), .int (nI q), .int sg] : List Value).toArray s 0 0 (va_A (tv_cw cI cZ h a1 a2 a3 a4 (rd, lv, op, nt)) s.heap.size)) (F0 m 3 ls []) := by
    intro p0
    induction p0 with
    | zero =>
      intro rx H locs h1 h2 h3 hP hD hS ls hl
      refine lv_iload hx hb dX0_moveLeft_3 (lv_at hl 4 rfl) ?_
      refine lv_if_le (tgt := 97) hx hb dX0_moveLeft_5 (by decide) (fun c_1 => ?_) (fun c_1 => ?_)
      · skip
        refine lv_iload_n hx hb dX0_moveLeft_97 rfl (lv_at hl 2 rfl) ?_
        refine lv_iload hx hb dX0_moveLeft_98 (lv_at hl 4 rfl) ?_
        refine lv_isub hx hb dX0_moveLeft_100 ?_
        refine tv_top (nI N) (by rw [← h3, pk_sub (Nat.zero_le q)]; rfl) ?_
        have h2 : rx = F := h2
        subst h2
        exact tv_iretW hAe hx hb hr hP hK hD hS dX0_moveLeft_101 hlocks
      · exact absurd (show nI 0 ≤ 0 from by decide) c_1
    | succ p0 ih =>
      intro rx H locs h1 h2 h3 hP hD hS ls hl
      refine lv_iload hx hb dX0_moveLeft_3 (lv_at hl 4 rfl) ?_
      refine lv_if_le (tgt := 97) hx hb dX0_moveLeft_5 (by decide) (fun c_2 => ?_) (fun c_2 => ?_)
      · exact absurd c_2 (nI_nle (by omega) (by omega))
      · skip
        refine lv_iload_n hx hb dX0_moveLeft_8 rfl (lv_at hl 3 rfl) ?_
        refine lv_aload_n hx hb dX0_moveLeft_9 rfl (lv_at hl 0 rfl) ?_
        refine va_get (D := D) (ci := 0) (v := .ref a1) (C := RX0) (T := TX0) (N := 4) hx hb hts iX0_moveLeft hown hK hP 0 rfl rfl 0 (by decide) (hts (.fieldLink RX0 9 "TideHouse" "readings" "[I") (by decide +kernel)) (fun _ h9 => h9) rfl dX0_moveLeft_10 ?_
        refine lv_iload_n hx hb dX0_moveLeft_13 rfl (lv_at hl 1 rfl) ?_
        refine lv_iload hx hb dX0_moveLeft_14 (lv_at hl 4 rfl) ?_
        refine tv_callR (W.runS (As := [.int (nI r), .int (nI (p0 + 1))]) (rest := [.ref a1, .int sg]) ⟨hx, hb, hml, hown, hts⟩ (c_X0_spot l r (p0 + 1)) (va_cwS 2 hts gX0_moveLeft_X0_spot rfl rfl rfl (by decide +kernel) ⟨Nat.le_of_ble_eq_true rfl, Nat.le_of_ble_eq_true rfl⟩) preEq rfl rfl hl.1 rfl (lv_room (Nat.le_of_ble_eq_true rfl)) dX0_moveLeft_16 ⟨Nat.le_of_ble_eq_true rfl, Nat.le_of_ble_eq_true rfl⟩) ?_
        refine tv_iald (D := D) (cA := cI) (n := 96) (f := rx) (k := (12 * r + (p0 + 1))) hx hb hK hP 1 0 rfl rfl (by omega) (by omega) dX0_moveLeft_19 ?_
        refine lv_aload_n hx hb dX0_moveLeft_20 rfl (lv_at hl 0 rfl) ?_
        refine va_get (D := D) (ci := 0) (v := .ref a1) (C := RX0) (T := TX0) (N := 4) hx hb hts iX0_moveLeft hown hK hP 0 rfl rfl 0 (by decide) (hts (.fieldLink RX0 9 "TideHouse" "readings" "[I") (by decide +kernel)) (fun _ h9 => h9) rfl dX0_moveLeft_21 ?_
        refine lv_iload_n hx hb dX0_moveLeft_24 rfl (lv_at hl 1 rfl) ?_
        refine lv_iload hx hb dX0_moveLeft_25 (lv_at hl 4 rfl) ?_
        refine lv_iconst (v := 1) hx hb dX0_moveLeft_27 (by decide) ?_
        refine lv_isub hx hb dX0_moveLeft_28 ?_
        refine tv_top (nI p0) (nI_pred p0) ?_
        refine tv_callR (W.runS (As := [.int (nI r), .int (nI p0)]) (rest := [.ref a1, .int (rx (12 * r + (p0 + 1))), .int sg]) ⟨hx, hb, hml, hown, hts⟩ (c_X0_spot l r p0) (va_cwS 2 hts gX0_moveLeft_X0_spot rfl rfl rfl (by decide +kernel) ⟨Nat.le_of_ble_eq_true rfl, Nat.le_of_ble_eq_true rfl⟩) preEq rfl rfl hl.1 rfl (lv_room (Nat.le_of_ble_eq_true rfl)) dX0_moveLeft_29 ⟨Nat.le_of_ble_eq_true rfl, Nat.le_of_ble_eq_true rfl⟩) ?_
        refine tv_iald (D := D) (cA := cI) (n := 96) (f := rx) (k := (12 * r + p0)) hx hb hK hP 1 0 rfl rfl (by omega) (by omega) dX0_moveLeft_32 ?_
        refine tv_callR (W.runS (As := [.int sg, .int (rx (12 * r + (p0 + 1))), .int (rx (12 * r + p0))]) (rest := []) ⟨hx, hb, hml, hown, hts⟩ (c_X0_isTrue l sg (rx (12 * r + (p0 + 1))) (rx (12 * r + p0))) (va_cwS 3 hts gX0_moveLeft_X0_isTrue rfl rfl rfl (by decide +kernel) ⟨Nat.le_of_ble_eq_true rfl, Nat.le_of_ble_eq_true rfl⟩) preEq rfl rfl hl.1 rfl (lv_room (Nat.le_of_ble_eq_true rfl)) dX0_moveLeft_33 ⟨Nat.le_of_ble_eq_true rfl, Nat.le_of_ble_eq_true rfl⟩) ?_
        refine lv_if_eq (tgt := 97) hx hb dX0_moveLeft_36 (by decide) (fun c_3 => ?_) (fun c_3 => ?_)
        · rw [ml, if_pos c_3] at h2 h3
          refine lv_iload_n hx hb dX0_moveLeft_97 rfl (lv_at hl 2 rfl) ?_
          refine lv_iload hx hb dX0_moveLeft_98 (lv_at hl 4 rfl) ?_
          refine lv_isub hx hb dX0_moveLeft_100 ?_
          refine tv_top (nI N) (by rw [← h3, pk_sub h1]; rfl) ?_
          have h2 : rx = F := h2
          subst h2
          exact tv_iretW hAe hx hb hr hP hK hD hS dX0_moveLeft_101 hlocks
        · rw [ml, if_neg c_3] at h2 h3
          refine lv_aload_n hx hb dX0_moveLeft_39 rfl (lv_at hl 0 rfl) ?_
          refine va_get (D := D) (ci := 0) (v := .ref a1) (C := RX0) (T := TX0) (N := 4) hx hb hts iX0_moveLeft hown hK hP 0 rfl rfl 0 (by decide) (hts (.fieldLink RX0 9 "TideHouse" "readings" "[I") (by decide +kernel)) (fun _ h9 => h9) rfl dX0_moveLeft_40 ?_
          refine lv_iload_n hx hb dX0_moveLeft_43 rfl (lv_at hl 1 rfl) ?_
          refine lv_iload hx hb dX0_moveLeft_44 (lv_at hl 4 rfl) ?_
          refine tv_callR (W.runS (As := [.int (nI r), .int (nI (p0 + 1))]) (rest := [.ref a1]) ⟨hx, hb, hml, hown, hts⟩ (c_X0_spot l r (p0 + 1)) (va_cwS 2 hts gX0_moveLeft_X0_spot rfl rfl rfl (by decide +kernel) ⟨Nat.le_of_ble_eq_true rfl, Nat.le_of_ble_eq_true rfl⟩) preEq rfl rfl hl.1 rfl (lv_room (Nat.le_of_ble_eq_true rfl)) dX0_moveLeft_46 ⟨Nat.le_of_ble_eq_true rfl, Nat.le_of_ble_eq_true rfl⟩) ?_
          refine tv_iald (D := D) (cA := cI) (n := 96) (f := rx) (k := (12 * r + (p0 + 1))) hx hb hK hP 1 0 rfl rfl (by omega) (by omega) dX0_moveLeft_49 ?_
          refine lv_istore (lv' := [(5, .int (rx (12 * r + (p0 + 1)))), (0, .ref h), (1, .int (nI r)), (2, .int (nI q)), (3, .int sg), (4, .int (nI (p0 + 1)))]) hx hb dX0_moveLeft_50 hl (by decide) rfl (fun ls hl => ?_)
          refine lv_aload_n hx hb dX0_moveLeft_52 rfl (lv_at hl 1 rfl) ?_
          refine va_get (D := D) (ci := 0) (v := .ref a1) (C := RX0) (T := TX0) (N := 4) hx hb hts iX0_moveLeft hown hK hP 0 rfl rfl 0 (by decide) (hts (.fieldLink RX0 9 "TideHouse" "readings" "[I") (by decide +kernel)) (fun _ h9 => h9) rfl dX0_moveLeft_53 ?_
          refine lv_iload_n hx hb dX0_moveLeft_56 rfl (lv_at hl 2 rfl) ?_
          refine lv_iload hx hb dX0_moveLeft_57 (lv_at hl 5 rfl) ?_
          refine tv_callR (W.runS (As := [.int (nI r), .int (nI (p0 + 1))]) (rest := [.ref a1]) ⟨hx, hb, hml, hown, hts⟩ (c_X0_spot l r (p0 + 1)) (va_cwS 2 hts gX0_moveLeft_X0_spot rfl rfl rfl (by decide +kernel) ⟨Nat.le_of_ble_eq_true rfl, Nat.le_of_ble_eq_true rfl⟩) preEq rfl rfl hl.1 rfl (lv_room (Nat.le_of_ble_eq_true rfl)) dX0_moveLeft_59 ⟨Nat.le_of_ble_eq_true rfl, Nat.le_of_ble_eq_true rfl⟩) ?_
          refine lv_aload_n hx hb dX0_moveLeft_62 rfl (lv_at hl 1 rfl) ?_
          refine va_get (D := D) (ci := 0) (v := .ref a1) (C := RX0) (T := TX0) (N := 4) hx hb hts iX0_moveLeft hown hK hP 0 rfl rfl 0 (by decide) (hts (.fieldLink RX0 9 "TideHouse" "readings" "[I") (by decide +kernel)) (fun _ h9 => h9) rfl dX0_moveLeft_63 ?_
          refine lv_iload_n hx hb dX0_moveLeft_66 rfl (lv_at hl 2 rfl) ?_
          refine lv_iload hx hb dX0_moveLeft_67 (lv_at hl 5 rfl) ?_
          refine lv_iconst (v := 1) hx hb dX0_moveLeft_69 (by decide) ?_
          refine lv_isub hx hb dX0_moveLeft_70 ?_
          refine tv_top (nI p0) (nI_pred p0) ?_
          refine tv_callR (W.runS (As := [.int (nI r), .int (nI p0)]) (rest := [.ref a1, .int (nI (12 * r + (p0 + 1))), .ref a1]) ⟨hx, hb, hml, hown, hts⟩ (c_X0_spot l r p0) (va_cwS 2 hts gX0_moveLeft_X0_spot rfl rfl rfl (by decide +kernel) ⟨Nat.le_of_ble_eq_true rfl, Nat.le_of_ble_eq_true rfl⟩) preEq rfl rfl hl.1 rfl (lv_room (Nat.le_of_ble_eq_true rfl)) dX0_moveLeft_71 ⟨Nat.le_of_ble_eq_true rfl, Nat.le_of_ble_eq_true rfl⟩) ?_
          refine tv_iald (D := D) (cA := cI) (n := 96) (f := rx) (k := (12 * r + p0)) hx hb hK hP 1 0 rfl rfl (by omega) (by omega) dX0_moveLeft_74 ?_
          refine tv_iast (D := D) (cA := cI) (n := 96) (f := rx) (k := (12 * r + (p0 + 1))) (x := rx (12 * r + p0)) (ws1 := tv_cw cI cZ h a1 a2 a3 a4 (upd rx (12 * r + (p0 + 1)) (rx (12 * r + p0)), lv, op, nt)) hx hb hK hP hD hS 1 0 rfl rfl (by omega) (by omega) rfl dX0_moveLeft_75 (fun H locs hP hD hS => ?_)
          refine lv_aload_n hx hb dX0_moveLeft_76 rfl (lv_at hl 1 rfl) ?_
          refine va_get (D := D) (ci := 0) (v := .ref a1) (C := RX0) (T := TX0) (N := 4) hx hb hts iX0_moveLeft hown hK hP 0 rfl rfl 0 (by decide) (hts (.fieldLink RX0 9 "TideHouse" "readings" "[I") (by decide +kernel)) (fun _ h9 => h9) rfl dX0_moveLeft_77 ?_
          refine lv_iload_n hx hb dX0_moveLeft_80 rfl (lv_at hl 2 rfl) ?_
          refine lv_iload hx hb dX0_moveLeft_81 (lv_at hl 5 rfl) ?_
          refine lv_iconst (v := 1) hx hb dX0_moveLeft_83 (by decide) ?_
          refine lv_isub hx hb dX0_moveLeft_84 ?_
          refine tv_top (nI p0) (nI_pred p0) ?_
          refine tv_callR (W.runS (As := [.int (nI r), .int (nI p0)]) (rest := [.ref a1]) ⟨hx, hb, hml, hown, hts⟩ (c_X0_spot l r p0) (va_cwS 2 hts gX0_moveLeft_X0_spot rfl rfl rfl (by decide +kernel) ⟨Nat.le_of_ble_eq_true rfl, Nat.le_of_ble_eq_true rfl⟩) preEq rfl rfl hl.1 rfl (lv_room (Nat.le_of_ble_eq_true rfl)) dX0_moveLeft_85 ⟨Nat.le_of_ble_eq_true rfl, Nat.le_of_ble_eq_true rfl⟩) ?_
          refine lv_iload hx hb dX0_moveLeft_88 (lv_at hl 0 rfl) ?_
          refine tv_iast (D := D) (cA := cI) (n := 96) (f := upd rx (12 * r + (p0 + 1)) (rx (12 * r + p0))) (k := (12 * r + p0)) (x := rx (12 * r + (p0 + 1))) (ws1 := tv_cw cI cZ h a1 a2 a3 a4 (upd (upd rx (12 * r + (p0 + 1)) (rx (12 * r + p0))) (12 * r + p0) (rx (12 * r + (p0 + 1))), lv, op, nt)) hx hb hK hP hD hS 1 0 rfl rfl (by omega) (by omega) rfl dX0_moveLeft_90 (fun H locs hP hD hS => ?_)
          refine lv_iinc (v := nI p0) (lv' := [(4, .int (nI p0)), (5, .int (rx (12 * r + (p0 + 1)))), (0, .ref h), (1, .int (nI r)), (2, .int (nI q)), (3, .int sg)]) hx hb dX0_moveLeft_91 hl (k := 5) rfl (pk_m1 p0) (by decide) rfl (fun ls hl => ?_)
          refine lv_goto (tgt := 3) hx hb dX0_moveLeft_94 (by decide) ?_
          exact ih (upd (upd rx (12 * r + (p0 + 1)) (rx (12 * r + p0))) (12 * r + p0) (rx (12 * r + (p0 + 1)))) H locs (by omega) h2 (by simp only at h3; omega) hP hD hS ls (lv_sub hl [2, 3, 4, 5, 0] rfl)
  exact loop q rd s.heap [] (Nat.le_refl q) hF (by rw [hN, Nat.sub_self, Nat.zero_add]) hP hD hS ls (lv_sub hl [1, 2, 3, 4, 0] rfl)
end
section
/-! A PUBLIC METHOD OF THE CLASS: it returns, or throws and changes nothing. -/
def tv_PP (D : va_G) (cI cZ cL : ClassId) (ws : va_W) (sz : Nat) (As : List Value) : Array Value → State → Prop := fun v U => v = As.toArray ∧ U.heap.size = sz ∧ va_P D vwCl ws U.heap ∧ va_K D vwCl (tv_ty cI cZ cL) U ∧ va_D (fun _ => True) ws ∧ tv_E (va_A ws sz) U U.heap
theorem tv_PP.blind {D : va_G} {cI cZ cL : ClassId} {ws : va_W} {sz : Nat} {As : List Value} : FrameBlind (tv_PP D cI cZ cL ws sz As) := fun a U g mk q => ⟨q.1, q.2.1, q.2.2.1, va_K.moved (u := U) (U := U.calling g mk a) (Vm.Alike.refl U.vm) q.2.2.2.1, q.2.2.2.2.1, tv_E.warm (s := U) (U := U.calling g mk a) (State.WarmedH.refl U) q.2.2.2.2.2⟩
abbrev tv_QP (D : va_G) (cI cZ cL : ClassId) (wf : TS → va_W) (ws : va_W) (sz : Nat) (V : TV) : Array Value → State → Outcome → State → Prop :=
  va_Qi (S := TS) (fun r u => V.1 = 0 ∧ r = V.2.1 ∧ u = V.2.2) (fun u t => va_P D vwCl (wf u) t.heap ∧ va_K D vwCl (tv_ty cI cZ cL) t ∧ va_D (va_A ws sz) (wf u)) (va_A ws sz)
abbrev tv_XP (V : TV) : String → State → State → Prop := vx_X (S := Unit) (fun _ => V.1 ≠ 0) (fun E _ _ => E = tv_en V.1) (fun _ => False)
abbrev tv_rmP : Room := { frames := 8, cells := 1, slots := 6, locals := 120 }
section TVP
variable {p : Program} {l : Launch} {e : Env} {R : Room} {s : State} {m : MethodId} {args : Array Value} {below : List Frame} {meth : Method} {c : Code} {H : Heap} {locs : List Loc} {Q : State → Prop} {pc : Nat} {ls : Array Slot} {st0 rest : List Value} {a : Array Value} {D : va_G} {cI cZ cL : ClassId} {ws0 : va_W} {wf : TS → va_W} {σ : TS} {V : TV} {sz : Nat} {cc : ByteArray} {A : Nat → Prop} {r : Int32}
theorem tv_iretP (hA : A = va_A ws0 sz) (hV : V = (0, r, σ)) (hexec : p.tables.exec = Jvm.exec) (hb : c.code = cc) (hr : meth.sig.returnType = some .int) (hP : va_P D vwCl (wf σ) H) (hK : va_K D vwCl (tv_ty cI cZ cL) s) (hD : va_D A (wf σ)) (hS : va_S A s.heap H locs) (hdg : decode cc pc = .ok (.ireturn, 1)) (hlocks : meth.locks = false) :
    W p l e R s m args below meth c H locs 0 0 (vx_MQ below (tv_QP D cI cZ cL wf ws0 sz V) (tv_XP V) args s 1 6 (va_A ws0 sz)) (F0 m pc ls [.int r]) := by
  subst hA
  subst hV
  refine vx_ret (W.widen (k := 1) (n := 6) (by omega) (by omega) ?_)
  exact W.iret (v := r) hexec hb hr (fun t ht hW => ⟨⟨r, σ, rfl, ⟨rfl, rfl, rfl⟩, by rw [ht]; exact hP, va_K.moved hW.alike hK, hD⟩, hS.F ht⟩) hS.2.2 hdg hlocks
theorem tv_zretP (h01 : r = 0 ∨ r = 1) (hA : A = va_A ws0 sz) (hV : V = (0, r, σ)) (hexec : p.tables.exec = Jvm.exec) (hb : c.code = cc) (hr : meth.sig.returnType = some .boolean) (hP : va_P D vwCl (wf σ) H) (hK : va_K D vwCl (tv_ty cI cZ cL) s) (hD : va_D A (wf σ)) (hS : va_S A s.heap H locs) (hdg : decode cc pc = .ok (.ireturn, 1)) (hlocks : meth.locks = false) :
    W p l e R s m args below meth c H locs 0 0 (vx_MQ below (tv_QP D cI cZ cL wf ws0 sz V) (tv_XP V) args s 1 6 (va_A ws0 sz)) (F0 m pc ls [.int r]) := by
  subst hA
  subst hV
  refine vx_ret (W.widen (k := 1) (n := 6) (by omega) (by omega) ?_)
  exact tv_zret (v := r) hexec hb hr h01 (fun t ht hW => ⟨⟨r, σ, rfl, ⟨rfl, rfl, rfl⟩, by rw [ht]; exact hP, va_K.moved hW.alike hK, hD⟩, hS.F ht⟩) hS.2.2 hdg hlocks
end TVP
theorem cn_s0 {p : Nat → Int32} {k : Nat} (h : p k = 0) : cn p (k + 1) = cn p k := by rw [cn, h]; simp
theorem cn_s1 {p : Nat → Int32} {k : Nat} (h : p k = 1) : cn p (k + 1) = cn p k + 1 := by rw [cn, h]
theorem kb_s0 {p : Nat → Int32} {k : Nat} (h : p k = 0) : kb p (k + 1) = kb p k := by rw [kb, if_pos h]
theorem kb_s1 {p : Nat → Int32} {k : Nat} (h : ¬ p k = 0) : kb p (k + 1) = kb p k ||| (1 <<< (nI k &&& 31)) := by rw [kb, if_neg h]
theorem tq1 {sg x y : Int32} (h : ¬ tq sg x y = 0) : tq sg x y = 1 := (tq01 sg x y).resolve_left h
theorem upd_same (f : Nat → Int32) (k : Nat) : upd f k (f k) = f := by
  funext j
  by_cases h : j = k
  · subst h; exact pk_us
  · exact pk_un h
theorem cn_congr {p q : Nat → Int32} : ∀ n : Nat, (∀ k, k < n → p k = q k) → cn p n = cn q n
  | 0, _ => rfl
  | n + 1, h => by rw [cn, cn, cn_congr n (fun k hk => h k (by omega)), h n (by omega)]
theorem cp_out (f t : Nat) (rd : Nat → Int32) : ∀ (k j : Nat), (j < 12 * t ∨ 12 * t + k ≤ j) → cp f t rd k j = rd j
  | 0, _, _ => rfl
  | k + 1, j, h => by rw [cp, pk_un (by omega)]; exact cp_out f t rd k j (by omega)
theorem cp_self (t : Nat) (rd : Nat → Int32) : ∀ k : Nat, cp t t rd k = rd
  | 0 => rfl
  | k + 1 => by rw [cp, upd_same]; exact cp_self t rd k
theorem cp_src {f t : Nat} (rd : Nat → Int32) {k : Nat} (h : k < 12) : cp f t rd k (12 * f + k) = rd (12 * f + k) := by
  by_cases e : f = t
  · subst e; rw [cp_self]
  · rcases Nat.lt_or_gt_of_ne e with q | q
    · exact cp_out f t rd k _ (Or.inl (by omega))
    · exact cp_out f t rd k _ (Or.inr (by omega))
theorem cp_in {f t : Nat} (rd : Nat → Int32) : ∀ (m j : Nat), j < m → m ≤ 12 → cp f t rd m (12 * t + j) = rd (12 * f + j)
  | 0, j, h, _ => absurd h (Nat.not_lt_zero j)
  | m + 1, j, h, h2 => by
    by_cases e : j = m
    · subst e; rw [cp, pk_us]; exact cp_src rd (by omega)
    · rw [cp, pk_un (by omega)]; exact cp_in rd m j (by omega) (by omega)
theorem pck_le (sg : Int32) (rw : Nat → Int32) : ∀ k : Nat, pck sg rw k ≤ k
  | 0 => Nat.le_refl 0
  | k + 1 => by
    rw [pck]
    split
    · exact Nat.le_succ_of_le (pck_le sg rw k)
    · exact Nat.le_refl _
theorem mg_le (sg : Int32) (r o t : Nat) (rd : Nat → Int32) : ∀ k : Nat, (mg sg r o t rd k).2 ≤ k
  | 0 => Nat.le_refl 0
  | k + 1 => by
    have h := mg_le sg r o t rd k
    rw [mg]
    dsimp only
    split <;> omega
theorem al_s {p : Nat → Prop} {d : ∀ k, Decidable (p k)} {k : Nat} (h : al p d k = 1) (hp : p k) : al p d (k + 1) = 1 := by rw [al, h, if_neg (by decide), if_pos hp]
theorem al_f {p : Nat → Prop} {d : ∀ k, Decidable (p k)} {k : Nat} (hp : ¬ p k) : ∀ n : Nat, al p d (k + 1 + n) = 0
  | 0 => by
    show al p d (k + 1) = 0
    rw [al, if_neg hp]
    split <;> rfl
  | n + 1 => by rw [show k + 1 + (n + 1) = (k + 1 + n) + 1 from rfl, al, al_f hp n, if_pos rfl]
theorem al01 {p : Nat → Prop} {d : ∀ k, Decidable (p k)} : ∀ n : Nat, al p d n = 0 ∨ al p d n = 1
  | 0 => Or.inr rfl
  | n + 1 => by
    rw [al]
    split
    · exact Or.inl rfl
    · split
      · exact Or.inr rfl
      · exact Or.inl rfl
end
section
theorem tv_if01 {p : Prop} [Decidable p] : (if p then (0 : Int32) else 1) = 0 ∨ (if p then (0 : Int32) else 1) = 1 := by by_cases h : p <;> simp [h]
theorem iX0_put : ∀ w ∈ wsX00, w ∈ wsX0_put := by decide +kernel
set_option maxHeartbeats 4000000 in
set_option maxRecDepth 100000 in
theorem c_X0_put (l : Launch) (hT : l.stackTraces = false) (D : va_G) (cI cZ cL : ClassId) (h a1 a2 a3 a4 : Nat) (rd lv op nt : Nat → Int32) (sz : Nat) (x1 x2 x3 : Int32) (V : TV) (hV : V = sp_put x1 x2 x3 (rd, lv, op, nt)) : vx_Met l yX0_put wsX0_put tv_rmP (tv_PP D cI cZ cL (tv_cw cI cZ h a1 a2 a3 a4 (rd, lv, op, nt)) sz [.ref h, .int x1, .int x2, .int x3]) (tv_QP D cI cZ cL (tv_cw cI cZ h a1 a2 a3 a4) (tv_cw cI cZ h a1 a2 a3 a4 (rd, lv, op, nt)) sz V) (tv_XP V) 1 6 (va_A (tv_cw cI cZ h a1 a2 a3 a4 (rd, lv, op, nt)) sz) := by
  refine vx_ofW (cc := cX0_put) (maxL := 4) (ret := (some .boolean)) (by decide) rfl ?_
  intro p e s m args below meth c s₁ B hml htab hv
  obtain ⟨rfl, hsz, hP, hK, hD0, hE⟩ := hv
  subst hsz
  have hx := B.exec
  have hb := B.bytes
  have hr := B.returns
  have hts := atoms_spec (ws := wsX0_put) B.pre
  have hown : s.vm.findClass RX0 = some m.cls := findClass_of_methodNamed B.named
  have hlocks := B.notSynchronized
  have hD := hD0.self (sz := s.heap.size)
  obtain ⟨A, hAe⟩ : ∃ A, A = va_A (tv_cw cI cZ h a1 a2 a3 a4 (rd, lv, op, nt)) s.heap.size := ⟨_, rfl⟩
  rw [← hAe] at hD hE
  have hA : ∀ q : Nat, s.heap.size ≤ q → A q := fun q h => by rw [hAe]; exact Or.inr h
  have hS : va_S A s.heap s.heap [] := va_S.rf
  clear hD0
  have hl := lv_entry ([.ref h, .int x1, .int x2, .int x3]) (n := 4) (Nat.le_of_ble_eq_true rfl)
  rw [lg_entry_eq]
  generalize (lg_sl ([.ref h, .int x1, .int x2, .int x3]) ++ List.replicate (4 - (lg_sl ([.ref h, .int x1, .int x2, .int x3])).length) Slot.unset).toArray = ls at hl ⊢
  have hl : lv_has ls 4 [(0, .ref h), (1, .int x1), (2, .int x2), (3, .int x3)] := hl
  refine lv_iload_n hx hb dX0_put_0 rfl (lv_at hl 1 rfl) ?_
  cases g1 : tv_in 8 x1 with
  | false =>
    have hV1 : V = (1, 0, (rd, lv, op, nt)) := by rw [hV]; simp only [sp_put, g1, Bool.and_false, Bool.false_and, Bool.and_true, Bool.true_and, Bool.and_self, sp_f, sp_tf, sp_tt]
    exact tv_callT (a := #[]) (vx_runS (As := [.int x1]) (rest := []) ⟨hx, hb, hml, hown, hts⟩ (t_X0_needRow l hT x1 g1) (va_cwS 1 hts gX0_put_X0_needRow rfl rfl rfl (by decide +kernel) ⟨Nat.le_of_ble_eq_true rfl, Nat.le_of_ble_eq_true rfl⟩) (tv_preT hE hS) rfl rfl hl.1 rfl (lv_room (Nat.le_of_ble_eq_true rfl)) dX0_put_1 ⟨Nat.le_of_ble_eq_true rfl, Nat.le_of_ble_eq_true rfl⟩) htab hlocks (fun t hz hk => ⟨(), by rw [hV1]; exact (by decide : (1 : Int32) ≠ 0), by rw [hV1]; rfl, hz, fun q hq _ => hk q hq⟩) (fun z h => nomatch h) (Nat.le_of_ble_eq_true rfl) (Nat.le_of_ble_eq_true rfl)
  | true =>
    refine tv_callN (W.runS (As := [.int x1]) (rest := []) ⟨hx, hb, hml, hown, hts⟩ (n_X0_needRow l x1 g1) (va_cwS 1 hts gX0_put_X0_needRow rfl rfl rfl (by decide +kernel) ⟨Nat.le_of_ble_eq_true rfl, Nat.le_of_ble_eq_true rfl⟩) preEq rfl rfl hl.1 rfl (lv_room (Nat.le_of_ble_eq_true rfl)) dX0_put_1 ⟨Nat.le_of_ble_eq_true rfl, Nat.le_of_ble_eq_true rfl⟩) ?_
    obtain ⟨r, hr8, rfl⟩ := tv_in_of (by omega) g1
    refine lv_iload_n hx hb dX0_put_4 rfl (lv_at hl 2 rfl) ?_
    cases g2 : tv_in 12 x2 with
    | false =>
      have hV1 : V = (1, 0, (rd, lv, op, nt)) := by rw [hV]; simp only [sp_put, g1, g2, Bool.and_false, Bool.false_and, Bool.and_true, Bool.true_and, Bool.and_self, sp_f, sp_tf, sp_tt]
      exact tv_callT (a := #[]) (vx_runS (As := [.int x2]) (rest := []) ⟨hx, hb, hml, hown, hts⟩ (t_X0_needPlace l hT x2 g2) (va_cwS 1 hts gX0_put_X0_needPlace rfl rfl rfl (by decide +kernel) ⟨Nat.le_of_ble_eq_true rfl, Nat.le_of_ble_eq_true rfl⟩) (tv_preT hE hS) rfl rfl hl.1 rfl (lv_room (Nat.le_of_ble_eq_true rfl)) dX0_put_5 ⟨Nat.le_of_ble_eq_true rfl, Nat.le_of_ble_eq_true rfl⟩) htab hlocks (fun t hz hk => ⟨(), by rw [hV1]; exact (by decide : (1 : Int32) ≠ 0), by rw [hV1]; rfl, hz, fun q hq _ => hk q hq⟩) (fun z h => nomatch h) (Nat.le_of_ble_eq_true rfl) (Nat.le_of_ble_eq_true rfl)
    | true =>
      refine tv_callN (W.runS (As := [.int x2]) (rest := []) ⟨hx, hb, hml, hown, hts⟩ (n_X0_needPlace l x2 g2) (va_cwS 1 hts gX0_put_X0_needPlace rfl rfl rfl (by decide +kernel) ⟨Nat.le_of_ble_eq_true rfl, Nat.le_of_ble_eq_true rfl⟩) preEq rfl rfl hl.1 rfl (lv_room (Nat.le_of_ble_eq_true rfl)) dX0_put_5 ⟨Nat.le_of_ble_eq_true rfl, Nat.le_of_ble_eq_true rfl⟩) ?_
      obtain ⟨k, hk8, rfl⟩ := tv_in_of (by omega) g2
      refine lv_iload_n hx hb dX0_put_8 rfl (lv_at hl 3 rfl) ?_
      cases g3 : tv_num x3 with
      | false =>
        have hV1 : V = (2, 0, (rd, lv, op, nt)) := by rw [hV]; simp only [sp_put, g1, g2, g3, Bool.and_false, Bool.false_and, Bool.and_true, Bool.true_and, Bool.and_self, sp_f, sp_tf, sp_tt]
        exact tv_callT (a := #[]) (vx_runS (As := [.int x3]) (rest := []) ⟨hx, hb, hml, hown, hts⟩ (t_X0_needNumber l hT x3 g3) (va_cwS 1 hts gX0_put_X0_needNumber rfl rfl rfl (by decide +kernel) ⟨Nat.le_of_ble_eq_true rfl, Nat.le_of_ble_eq_true rfl⟩) (tv_preT hE hS) rfl rfl hl.1 rfl (lv_room (Nat.le_of_ble_eq_true rfl)) dX0_put_9 ⟨Nat.le_of_ble_eq_true rfl, Nat.le_of_ble_eq_true rfl⟩) htab hlocks (fun t hz hk => ⟨(), by rw [hV1]; exact (by decide : (2 : Int32) ≠ 0), by rw [hV1]; rfl, hz, fun q hq _ => hk q hq⟩) (fun z h => nomatch h) (Nat.le_of_ble_eq_true rfl) (Nat.le_of_ble_eq_true rfl)
      | true =>
        refine tv_callN (W.runS (As := [.int x3]) (rest := []) ⟨hx, hb, hml, hown, hts⟩ (n_X0_needNumber l x3 g3) (va_cwS 1 hts gX0_put_X0_needNumber rfl rfl rfl (by decide +kernel) ⟨Nat.le_of_ble_eq_true rfl, Nat.le_of_ble_eq_true rfl⟩) preEq rfl rfl hl.1 rfl (lv_room (Nat.le_of_ble_eq_true rfl)) dX0_put_9 ⟨Nat.le_of_ble_eq_true rfl, Nat.le_of_ble_eq_true rfl⟩) ?_
        refine lv_aload_n hx hb dX0_put_12 rfl (lv_at hl 0 rfl) ?_
        refine va_get (D := D) (ci := 0) (v := .ref a1) (C := RX0) (T := TX0) (N := 4) hx hb hts iX0_put hown hK hP 0 rfl rfl 0 (by decide) (hts (.fieldLink RX0 9 "TideHouse" "readings" "[I") (by decide +kernel)) (fun _ h9 => h9) rfl dX0_put_13 ?_
        refine lv_iload_n hx hb dX0_put_16 rfl (lv_at hl 1 rfl) ?_
        refine lv_iload_n hx hb dX0_put_17 rfl (lv_at hl 2 rfl) ?_
        refine tv_callR (W.runS (As := [.int (nI r), .int (nI k)]) (rest := [.ref a1]) ⟨hx, hb, hml, hown, hts⟩ (c_X0_spot l r k) (va_cwS 2 hts gX0_put_X0_spot rfl rfl rfl (by decide +kernel) ⟨Nat.le_of_ble_eq_true rfl, Nat.le_of_ble_eq_true rfl⟩) preEq rfl rfl hl.1 rfl (lv_room (Nat.le_of_ble_eq_true rfl)) dX0_put_18 ⟨Nat.le_of_ble_eq_true rfl, Nat.le_of_ble_eq_true rfl⟩) ?_
        refine lv_iload_n hx hb dX0_put_21 rfl (lv_at hl 3 rfl) ?_
        refine tv_callW (D := D) (ws := tv_cw cI cZ h a1 a2 a3 a4 (rd, lv, op, nt)) (wc := [(a1, .inl (cI, 96, .inl (rd)))]) (wr := [(h, .inr (0, [.ref a1, .ref a2, .ref a3, .ref a4])), (a2, .inl (cI, 8, .inl (lv))), (a3, .inl (cZ, 4, .inl (op))), (a4, .inl (cI, 8, .inl (nt)))]) (wc' := [(a1, .inl (cI, 96, .inl (upd rd (12 * r + k) x3)))]) (wsN := tv_cw cI cZ h a1 a2 a3 a4 (upd rd (12 * r + k) x3, lv, op, nt)) (r := (if rd (12 * r + k) = x3 then 0 else 1)) (va_runS (As := [.ref a1, .int (nI (12 * r + k)), .int x3]) (rest := []) ⟨hx, hb, hml, hown, hts⟩ (c_X0_store l D cI cZ cL a1 96 s.heap.size rd (12 * r + k) x3 (by omega) (by omega)) (va_cwS 3 hts gX0_put_X0_store rfl rfl rfl (by decide +kernel) ⟨Nat.le_of_ble_eq_true rfl, Nat.le_of_ble_eq_true rfl⟩) (tv_preD hP hK hD [1] rfl rfl rfl) rfl rfl hl.1 rfl (lv_room (Nat.le_of_ble_eq_true rfl)) dX0_put_22 ⟨Nat.le_of_ble_eq_true rfl, Nat.le_of_ble_eq_true rfl⟩) hP hD hS hA [1] [0, 2, 3, 4] rfl rfl rfl (by decide) [0, 4, 1, 2, 3] rfl rfl rfl (fun H locs hP hD hS => ?_)
        have hV0 : V = (0, (if rd (12 * r + k) = x3 then 0 else 1), (upd rd (12 * r + k) x3, lv, op, nt)) := by
          rw [hV]; simp only [sp_put, tN, nI_clamp (show r < 2 ^ 31 by omega), nI_clamp (show k < 2 ^ 31 by omega), g1, g2, g3, Bool.and_false, Bool.false_and, Bool.and_true, Bool.true_and, Bool.and_self, sp_f, sp_tf, sp_tt]
        exact tv_zretP tv_if01 (wf := tv_cw cI cZ h a1 a2 a3 a4) (σ := (upd rd (12 * r + k) x3, lv, op, nt)) (r := if rd (12 * r + k) = x3 then 0 else 1) hAe hV0 hx hb hr hP hK hD hS dX0_put_25 hlocks
theorem iX0_reading : ∀ w ∈ wsX00, w ∈ wsX0_reading := by decide +kernel
set_option maxHeartbeats 4000000 in
set_option maxRecDepth 100000 in
theorem c_X0_reading (l : Launch) (hT : l.stackTraces = false) (D : va_G) (cI cZ cL : ClassId) (h a1 a2 a3 a4 : Nat) (rd lv op nt : Nat → Int32) (sz : Nat) (x1 x2 : Int32) (V : TV) (hV : V = sp_reading x1 x2 (rd, lv, op, nt)) : vx_Met l yX0_reading wsX0_reading tv_rmP (tv_PP D cI cZ cL (tv_cw cI cZ h a1 a2 a3 a4 (rd, lv, op, nt)) sz [.ref h, .int x1, .int x2]) (tv_QP D cI cZ cL (tv_cw cI cZ h a1 a2 a3 a4) (tv_cw cI cZ h a1 a2 a3 a4 (rd, lv, op, nt)) sz V) (tv_XP V) 1 6 (va_A (tv_cw cI cZ h a1 a2 a3 a4 (rd, lv, op, nt)) sz) := by
  refine vx_ofW (cc := cX0_reading) (maxL := 3) (ret := (some .int)) (by decide) rfl ?_
  intro p e s m args below meth c s₁ B hml htab hv
  obtain ⟨rfl, hsz, hP, hK, hD0, hE⟩ := hv
  subst hsz
  have hx := B.exec
  have hb := B.bytes
  have hr := B.returns
  have hts := atoms_spec (ws := wsX0_reading) B.pre
  have hown : s.vm.findClass RX0 = some m.cls := findClass_of_methodNamed B.named
  have hlocks := B.notSynchronized
  have hD := hD0.self (sz := s.heap.size)
  obtain ⟨A, hAe⟩ : ∃ A, A = va_A (tv_cw cI cZ h a1 a2 a3 a4 (rd, lv, op, nt)) s.heap.size := ⟨_, rfl⟩
  rw [← hAe] at hD hE
  have hA : ∀ q : Nat, s.heap.size ≤ q → A q := fun q h => by rw [hAe]; exact Or.inr h
  have hS : va_S A s.heap s.heap [] := va_S.rf
  clear hD0
  have hl := lv_entry ([.ref h, .int x1, .int x2]) (n := 3) (Nat.le_of_ble_eq_true rfl)
  rw [lg_entry_eq]
  generalize (lg_sl ([.ref h, .int x1, .int x2]) ++ List.replicate (3 - (lg_sl ([.ref h, .int x1, .int x2])).length) Slot.unset).toArray = ls at hl ⊢
  have hl : lv_has ls 3 [(0, .ref h), (1, .int x1), (2, .int x2)] := hl
  refine lv_iload_n hx hb dX0_reading_0 rfl (lv_at hl 1 rfl) ?_
  cases g1 : tv_in 8 x1 with
  | false =>
    have hV1 : V = (1, 0, (rd, lv, op, nt)) := by rw [hV]; simp only [sp_reading, g1, Bool.and_false, Bool.false_and, Bool.and_true, Bool.true_and, Bool.and_self, sp_f, sp_tf, sp_tt]
    exact tv_callT (a := #[]) (vx_runS (As := [.int x1]) (rest := []) ⟨hx, hb, hml, hown, hts⟩ (t_X0_needRow l hT x1 g1) (va_cwS 1 hts gX0_reading_X0_needRow rfl rfl rfl (by decide +kernel) ⟨Nat.le_of_ble_eq_true rfl, Nat.le_of_ble_eq_true rfl⟩) (tv_preT hE hS) rfl rfl hl.1 rfl (lv_room (Nat.le_of_ble_eq_true rfl)) dX0_reading_1 ⟨Nat.le_of_ble_eq_true rfl, Nat.le_of_ble_eq_true rfl⟩) htab hlocks (fun t hz hk => ⟨(), by rw [hV1]; exact (by decide : (1 : Int32) ≠ 0), by rw [hV1]; rfl, hz, fun q hq _ => hk q hq⟩) (fun z h => nomatch h) (Nat.le_of_ble_eq_true rfl) (Nat.le_of_ble_eq_true rfl)
  | true =>
    refine tv_callN (W.runS (As := [.int x1]) (rest := []) ⟨hx, hb, hml, hown, hts⟩ (n_X0_needRow l x1 g1) (va_cwS 1 hts gX0_reading_X0_needRow rfl rfl rfl (by decide +kernel) ⟨Nat.le_of_ble_eq_true rfl, Nat.le_of_ble_eq_true rfl⟩) preEq rfl rfl hl.1 rfl (lv_room (Nat.le_of_ble_eq_true rfl)) dX0_reading_1 ⟨Nat.le_of_ble_eq_true rfl, Nat.le_of_ble_eq_true rfl⟩) ?_
    obtain ⟨r, hr8, rfl⟩ := tv_in_of (by omega) g1
    refine lv_iload_n hx hb dX0_reading_4 rfl (lv_at hl 2 rfl) ?_
    cases g2 : tv_in 12 x2 with
    | false =>
      have hV1 : V = (1, 0, (rd, lv, op, nt)) := by rw [hV]; simp only [sp_reading, g1, g2, Bool.and_false, Bool.false_and, Bool.and_true, Bool.true_and, Bool.and_self, sp_f, sp_tf, sp_tt]
      exact tv_callT (a := #[]) (vx_runS (As := [.int x2]) (rest := []) ⟨hx, hb, hml, hown, hts⟩ (t_X0_needPlace l hT x2 g2) (va_cwS 1 hts gX0_reading_X0_needPlace rfl rfl rfl (by decide +kernel) ⟨Nat.le_of_ble_eq_true rfl, Nat.le_of_ble_eq_true rfl⟩) (tv_preT hE hS) rfl rfl hl.1 rfl (lv_room (Nat.le_of_ble_eq_true rfl)) dX0_reading_5 ⟨Nat.le_of_ble_eq_true rfl, Nat.le_of_ble_eq_true rfl⟩) htab hlocks (fun t hz hk => ⟨(), by rw [hV1]; exact (by decide : (1 : Int32) ≠ 0), by rw [hV1]; rfl, hz, fun q hq _ => hk q hq⟩) (fun z h => nomatch h) (Nat.le_of_ble_eq_true rfl) (Nat.le_of_ble_eq_true rfl)
    | true =>
      refine tv_callN (W.runS (As := [.int x2]) (rest := []) ⟨hx, hb, hml, hown, hts⟩ (n_X0_needPlace l x2 g2) (va_cwS 1 hts gX0_reading_X0_needPlace rfl rfl rfl (by decide +kernel) ⟨Nat.le_of_ble_eq_true rfl, Nat.le_of_ble_eq_true rfl⟩) preEq rfl rfl hl.1 rfl (lv_room (Nat.le_of_ble_eq_true rfl)) dX0_reading_5 ⟨Nat.le_of_ble_eq_true rfl, Nat.le_of_ble_eq_true rfl⟩) ?_
      obtain ⟨k, hk8, rfl⟩ := tv_in_of (by omega) g2
      refine lv_aload_n hx hb dX0_reading_8 rfl (lv_at hl 0 rfl) ?_
      refine va_get (D := D) (ci := 0) (v := .ref a1) (C := RX0) (T := TX0) (N := 4) hx hb hts iX0_reading hown hK hP 0 rfl rfl 0 (by decide) (hts (.fieldLink RX0 9 "TideHouse" "readings" "[I") (by decide +kernel)) (fun _ h9 => h9) rfl dX0_reading_9 ?_
      refine lv_iload_n hx hb dX0_reading_12 rfl (lv_at hl 1 rfl) ?_
      refine lv_iload_n hx hb dX0_reading_13 rfl (lv_at hl 2 rfl) ?_
      refine tv_callR (W.runS (As := [.int (nI r), .int (nI k)]) (rest := [.ref a1]) ⟨hx, hb, hml, hown, hts⟩ (c_X0_spot l r k) (va_cwS 2 hts gX0_reading_X0_spot rfl rfl rfl (by decide +kernel) ⟨Nat.le_of_ble_eq_true rfl, Nat.le_of_ble_eq_true rfl⟩) preEq rfl rfl hl.1 rfl (lv_room (Nat.le_of_ble_eq_true rfl)) dX0_reading_14 ⟨Nat.le_of_ble_eq_true rfl, Nat.le_of_ble_eq_true rfl⟩) ?_
      refine tv_iald (D := D) (cA := cI) (n := 96) (f := rd) (k := (12 * r + k)) hx hb hK hP 1 0 rfl rfl (by omega) (by omega) dX0_reading_17 ?_
      have hV0 : V = (0, rd (12 * r + k), (rd, lv, op, nt)) := by
        rw [hV]; simp only [sp_reading, tN, nI_clamp (show r < 2 ^ 31 by omega), nI_clamp (show k < 2 ^ 31 by omega), g1, g2, Bool.and_false, Bool.false_and, Bool.and_true, Bool.true_and, Bool.and_self, sp_f, sp_tf, sp_tt]
      exact tv_iretP (wf := tv_cw cI cZ h a1 a2 a3 a4) (σ := (rd, lv, op, nt)) (r := rd (12 * r + k)) hAe hV0 hx hb hr hP hK hD hS dX0_reading_18 hlocks
theorem iX0_level : ∀ w ∈ wsX00, w ∈ wsX0_level := by decide +kernel
set_option maxHeartbeats 4000000 in
set_option maxRecDepth 100000 in
theorem c_X0_level (l : Launch) (hT : l.stackTraces = false) (D : va_G) (cI cZ cL : ClassId) (h a1 a2 a3 a4 : Nat) (rd lv op nt : Nat → Int32) (sz : Nat) (x1 x2 x3 : Int32) (V : TV) (hV : V = sp_level x1 x2 x3 (rd, lv, op, nt)) : vx_Met l yX0_level wsX0_level tv_rmP (tv_PP D cI cZ cL (tv_cw cI cZ h a1 a2 a3 a4 (rd, lv, op, nt)) sz [.ref h, .int x1, .int x2, .int x3]) (tv_QP D cI cZ cL (tv_cw cI cZ h a1 a2 a3 a4) (tv_cw cI cZ h a1 a2 a3 a4 (rd, lv, op, nt)) sz V) (tv_XP V) 1 6 (va_A (tv_cw cI cZ h a1 a2 a3 a4 (rd, lv, op, nt)) sz) := by
  refine vx_ofW (cc := cX0_level) (maxL := 4) (ret := (some .boolean)) (by decide) rfl ?_
  intro p e s m args below meth c s₁ B hml htab hv
  obtain ⟨rfl, hsz, hP, hK, hD0, hE⟩ := hv
  subst hsz
  have hx := B.exec
  have hb := B.bytes
  have hr := B.returns
  have hts := atoms_spec (ws := wsX0_level) B.pre
  have hown : s.vm.findClass RX0 = some m.cls := findClass_of_methodNamed B.named
  have hlocks := B.notSynchronized
  have hD := hD0.self (sz := s.heap.size)
  obtain ⟨A, hAe⟩ : ∃ A, A = va_A (tv_cw cI cZ h a1 a2 a3 a4 (rd, lv, op, nt)) s.heap.size := ⟨_, rfl⟩
  rw [← hAe] at hD hE
  have hA : ∀ q : Nat, s.heap.size ≤ q → A q := fun q h => by rw [hAe]; exact Or.inr h
  have hS : va_S A s.heap s.heap [] := va_S.rf
  clear hD0
  have hl := lv_entry ([.ref h, .int x1, .int x2, .int x3]) (n := 4) (Nat.le_of_ble_eq_true rfl)
  rw [lg_entry_eq]
  generalize (lg_sl ([.ref h, .int x1, .int x2, .int x3]) ++ List.replicate (4 - (lg_sl ([.ref h, .int x1, .int x2, .int x3])).length) Slot.unset).toArray = ls at hl ⊢
  have hl : lv_has ls 4 [(0, .ref h), (1, .int x1), (2, .int x2), (3, .int x3)] := hl
  refine lv_iload_n hx hb dX0_level_0 rfl (lv_at hl 1 rfl) ?_
  cases g1 : tv_in 4 x1 with
  | false =>
    have hV1 : V = (1, 0, (rd, lv, op, nt)) := by rw [hV]; simp only [sp_level, g1, Bool.and_false, Bool.false_and, Bool.and_true, Bool.true_and, Bool.and_self, sp_f, sp_tf, sp_tt]
    exact tv_callT (a := #[]) (vx_runS (As := [.int x1]) (rest := []) ⟨hx, hb, hml, hown, hts⟩ (t_X0_needGate l hT x1 g1) (va_cwS 1 hts gX0_level_X0_needGate rfl rfl rfl (by decide +kernel) ⟨Nat.le_of_ble_eq_true rfl, Nat.le_of_ble_eq_true rfl⟩) (tv_preT hE hS) rfl rfl hl.1 rfl (lv_room (Nat.le_of_ble_eq_true rfl)) dX0_level_1 ⟨Nat.le_of_ble_eq_true rfl, Nat.le_of_ble_eq_true rfl⟩) htab hlocks (fun t hz hk => ⟨(), by rw [hV1]; exact (by decide : (1 : Int32) ≠ 0), by rw [hV1]; rfl, hz, fun q hq _ => hk q hq⟩) (fun z h => nomatch h) (Nat.le_of_ble_eq_true rfl) (Nat.le_of_ble_eq_true rfl)
  | true =>
    refine tv_callN (W.runS (As := [.int x1]) (rest := []) ⟨hx, hb, hml, hown, hts⟩ (n_X0_needGate l x1 g1) (va_cwS 1 hts gX0_level_X0_needGate rfl rfl rfl (by decide +kernel) ⟨Nat.le_of_ble_eq_true rfl, Nat.le_of_ble_eq_true rfl⟩) preEq rfl rfl hl.1 rfl (lv_room (Nat.le_of_ble_eq_true rfl)) dX0_level_1 ⟨Nat.le_of_ble_eq_true rfl, Nat.le_of_ble_eq_true rfl⟩) ?_
    obtain ⟨g, hg8, rfl⟩ := tv_in_of (by omega) g1
    refine lv_iload_n hx hb dX0_level_4 rfl (lv_at hl 3 rfl) ?_
    cases g2 : tv_num x3 with
    | false =>
      have hV1 : V = (2, 0, (rd, lv, op, nt)) := by rw [hV]; simp only [sp_level, g1, g2, Bool.and_false, Bool.false_and, Bool.and_true, Bool.true_and, Bool.and_self, sp_f, sp_tf, sp_tt]
      exact tv_callT (a := #[]) (vx_runS (As := [.int x3]) (rest := []) ⟨hx, hb, hml, hown, hts⟩ (t_X0_needNumber l hT x3 g2) (va_cwS 1 hts gX0_level_X0_needNumber rfl rfl rfl (by decide +kernel) ⟨Nat.le_of_ble_eq_true rfl, Nat.le_of_ble_eq_true rfl⟩) (tv_preT hE hS) rfl rfl hl.1 rfl (lv_room (Nat.le_of_ble_eq_true rfl)) dX0_level_5 ⟨Nat.le_of_ble_eq_true rfl, Nat.le_of_ble_eq_true rfl⟩) htab hlocks (fun t hz hk => ⟨(), by rw [hV1]; exact (by decide : (2 : Int32) ≠ 0), by rw [hV1]; rfl, hz, fun q hq _ => hk q hq⟩) (fun z h => nomatch h) (Nat.le_of_ble_eq_true rfl) (Nat.le_of_ble_eq_true rfl)
    | true =>
      refine tv_callN (W.runS (As := [.int x3]) (rest := []) ⟨hx, hb, hml, hown, hts⟩ (n_X0_needNumber l x3 g2) (va_cwS 1 hts gX0_level_X0_needNumber rfl rfl rfl (by decide +kernel) ⟨Nat.le_of_ble_eq_true rfl, Nat.le_of_ble_eq_true rfl⟩) preEq rfl rfl hl.1 rfl (lv_room (Nat.le_of_ble_eq_true rfl)) dX0_level_5 ⟨Nat.le_of_ble_eq_true rfl, Nat.le_of_ble_eq_true rfl⟩) ?_
      refine lv_aload_n hx hb dX0_level_8 rfl (lv_at hl 0 rfl) ?_
      refine va_get (D := D) (ci := 0) (v := .ref a2) (C := RX0) (T := TX0) (N := 4) hx hb hts iX0_level hown hK hP 0 rfl rfl 1 (by decide) (hts (.fieldLink RX0 13 "TideHouse" "levels" "[I") (by decide +kernel)) (fun _ h9 => h9) rfl dX0_level_9 ?_
      refine lv_iload_n hx hb dX0_level_12 rfl (lv_at hl 1 rfl) ?_
      refine lv_iload_n hx hb dX0_level_13 rfl (lv_at hl 2 rfl) ?_
      refine tv_callR (W.runS (As := [.int (nI g), .int x2]) (rest := [.ref a2]) ⟨hx, hb, hml, hown, hts⟩ (c_X0_levelSpot l g x2) (va_cwS 2 hts gX0_level_X0_levelSpot rfl rfl rfl (by decide +kernel) ⟨Nat.le_of_ble_eq_true rfl, Nat.le_of_ble_eq_true rfl⟩) preEq rfl rfl hl.1 rfl (lv_room (Nat.le_of_ble_eq_true rfl)) dX0_level_14 ⟨Nat.le_of_ble_eq_true rfl, Nat.le_of_ble_eq_true rfl⟩) ?_
      refine lv_iload_n hx hb dX0_level_17 rfl (lv_at hl 3 rfl) ?_
      refine tv_callW (D := D) (ws := tv_cw cI cZ h a1 a2 a3 a4 (rd, lv, op, nt)) (wc := [(a2, .inl (cI, 8, .inl (lv)))]) (wr := [(h, .inr (0, [.ref a1, .ref a2, .ref a3, .ref a4])), (a1, .inl (cI, 96, .inl (rd))), (a3, .inl (cZ, 4, .inl (op))), (a4, .inl (cI, 8, .inl (nt)))]) (wc' := [(a2, .inl (cI, 8, .inl (upd lv (2 * g + (if x2 = 0 then 0 else 1)) x3)))]) (wsN := tv_cw cI cZ h a1 a2 a3 a4 (rd, upd lv (2 * g + (if x2 = 0 then 0 else 1)) x3, op, nt)) (r := (if lv (2 * g + (if x2 = 0 then 0 else 1)) = x3 then 0 else 1)) (va_runS (As := [.ref a2, .int (nI (2 * g + (if x2 = 0 then 0 else 1))), .int x3]) (rest := []) ⟨hx, hb, hml, hown, hts⟩ (c_X0_store l D cI cZ cL a2 8 s.heap.size lv (2 * g + (if x2 = 0 then 0 else 1)) x3 (by split <;> omega) (by omega)) (va_cwS 3 hts gX0_level_X0_store rfl rfl rfl (by decide +kernel) ⟨Nat.le_of_ble_eq_true rfl, Nat.le_of_ble_eq_true rfl⟩) (tv_preD hP hK hD [2] rfl rfl rfl) rfl rfl hl.1 rfl (lv_room (Nat.le_of_ble_eq_true rfl)) dX0_level_18 ⟨Nat.le_of_ble_eq_true rfl, Nat.le_of_ble_eq_true rfl⟩) hP hD hS hA [2] [0, 1, 3, 4] rfl rfl rfl (by decide) [0, 1, 4, 2, 3] rfl rfl rfl (fun H locs hP hD hS => ?_)
      have hV0 : V = (0, (if lv (2 * g + (if x2 = 0 then 0 else 1)) = x3 then 0 else 1), (rd, upd lv (2 * g + (if x2 = 0 then 0 else 1)) x3, op, nt)) := by
        rw [hV]; simp only [sp_level, tN, nI_clamp (show g < 2 ^ 31 by omega), g1, g2, Bool.and_false, Bool.false_and, Bool.and_true, Bool.true_and, Bool.and_self, sp_f, sp_tf, sp_tt]
      exact tv_zretP tv_if01 (wf := tv_cw cI cZ h a1 a2 a3 a4) (σ := (rd, upd lv (2 * g + (if x2 = 0 then 0 else 1)) x3, op, nt)) (r := if lv (2 * g + (if x2 = 0 then 0 else 1)) = x3 then 0 else 1) hAe hV0 hx hb hr hP hK hD hS dX0_level_21 hlocks
theorem iX0_isOpen : ∀ w ∈ wsX00, w ∈ wsX0_isOpen := by decide +kernel
set_option maxHeartbeats 4000000 in
set_option maxRecDepth 100000 in
theorem c_X0_isOpen (l : Launch) (hT : l.stackTraces = false) (D : va_G) (cI cZ cL : ClassId) (h a1 a2 a3 a4 : Nat) (rd lv op nt : Nat → Int32) (sz : Nat) (x1 : Int32) (V : TV) (hV : V = sp_isOpen x1 (rd, lv, op, nt)) (hop : ∀ j, op j = 0 ∨ op j = 1) : vx_Met l yX0_isOpen wsX0_isOpen tv_rmP (tv_PP D cI cZ cL (tv_cw cI cZ h a1 a2 a3 a4 (rd, lv, op, nt)) sz [.ref h, .int x1]) (tv_QP D cI cZ cL (tv_cw cI cZ h a1 a2 a3 a4) (tv_cw cI cZ h a1 a2 a3 a4 (rd, lv, op, nt)) sz V) (tv_XP V) 1 6 (va_A (tv_cw cI cZ h a1 a2 a3 a4 (rd, lv, op, nt)) sz) := by
  refine vx_ofW (cc := cX0_isOpen) (maxL := 2) (ret := (some .boolean)) (by decide) rfl ?_
  intro p e s m args below meth c s₁ B hml htab hv
  obtain ⟨rfl, hsz, hP, hK, hD0, hE⟩ := hv
  subst hsz
  have hx := B.exec
  have hb := B.bytes
  have hr := B.returns
  have hts := atoms_spec (ws := wsX0_isOpen) B.pre
  have hown : s.vm.findClass RX0 = some m.cls := findClass_of_methodNamed B.named
  have hlocks := B.notSynchronized
  have hD := hD0.self (sz := s.heap.size)
  obtain ⟨A, hAe⟩ : ∃ A, A = va_A (tv_cw cI cZ h a1 a2 a3 a4 (rd, lv, op, nt)) s.heap.size := ⟨_, rfl⟩
  rw [← hAe] at hD hE
  have hA : ∀ q : Nat, s.heap.size ≤ q → A q := fun q h => by rw [hAe]; exact Or.inr h
  have hS : va_S A s.heap s.heap [] := va_S.rf
  clear hD0
  have hl := lv_entry ([.ref h, .int x1]) (n := 2) (Nat.le_of_ble_eq_true rfl)
  rw [lg_entry_eq]
  generalize (lg_sl ([.ref h, .int x1]) ++ List.replicate (2 - (lg_sl ([.ref h, .int x1])).length) Slot.unset).toArray = ls at hl ⊢
  have hl : lv_has ls 2 [(0, .ref h), (1, .int x1)] := hl
  refine lv_iload_n hx hb dX0_isOpen_0 rfl (lv_at hl 1 rfl) ?_
  cases g1 : tv_in 4 x1 with
  | false =>
    have hV1 : V = (1, 0, (rd, lv, op, nt)) := by rw [hV]; simp only [sp_isOpen, g1, Bool.and_false, Bool.false_and, Bool.and_true, Bool.true_and, Bool.and_self, sp_f, sp_tf, sp_tt]
    exact tv_callT (a := #[]) (vx_runS (As := [.int x1]) (rest := []) ⟨hx, hb, hml, hown, hts⟩ (t_X0_needGate l hT x1 g1) (va_cwS 1 hts gX0_isOpen_X0_needGate rfl rfl rfl (by decide +kernel) ⟨Nat.le_of_ble_eq_true rfl, Nat.le_of_ble_eq_true rfl⟩) (tv_preT hE hS) rfl rfl hl.1 rfl (lv_room (Nat.le_of_ble_eq_true rfl)) dX0_isOpen_1 ⟨Nat.le_of_ble_eq_true rfl, Nat.le_of_ble_eq_true rfl⟩) htab hlocks (fun t hz hk => ⟨(), by rw [hV1]; exact (by decide : (1 : Int32) ≠ 0), by rw [hV1]; rfl, hz, fun q hq _ => hk q hq⟩) (fun z h => nomatch h) (Nat.le_of_ble_eq_true rfl) (Nat.le_of_ble_eq_true rfl)
  | true =>
    refine tv_callN (W.runS (As := [.int x1]) (rest := []) ⟨hx, hb, hml, hown, hts⟩ (n_X0_needGate l x1 g1) (va_cwS 1 hts gX0_isOpen_X0_needGate rfl rfl rfl (by decide +kernel) ⟨Nat.le_of_ble_eq_true rfl, Nat.le_of_ble_eq_true rfl⟩) preEq rfl rfl hl.1 rfl (lv_room (Nat.le_of_ble_eq_true rfl)) dX0_isOpen_1 ⟨Nat.le_of_ble_eq_true rfl, Nat.le_of_ble_eq_true rfl⟩) ?_
    obtain ⟨g, hg8, rfl⟩ := tv_in_of (by omega) g1
    refine lv_aload_n hx hb dX0_isOpen_4 rfl (lv_at hl 0 rfl) ?_
    refine va_get (D := D) (ci := 0) (v := .ref a3) (C := RX0) (T := TX0) (N := 4) hx hb hts iX0_isOpen hown hK hP 0 rfl rfl 2 (by decide) (hts (.fieldLink RX0 16 "TideHouse" "open" "[Z") (by decide +kernel)) (fun _ h9 => h9) rfl dX0_isOpen_5 ?_
    refine lv_iload_n hx hb dX0_isOpen_8 rfl (lv_at hl 1 rfl) ?_
    refine tv_zald (D := D) (cA := cZ) (n := 4) (f := op) (k := g) hx hb hK hP 3 1 rfl rfl (by omega) (by omega) dX0_isOpen_9 ?_
    have hV0 : V = (0, op g, (rd, lv, op, nt)) := by
      rw [hV]; simp only [sp_isOpen, tN, nI_clamp (show g < 2 ^ 31 by omega), g1, Bool.and_false, Bool.false_and, Bool.and_true, Bool.true_and, Bool.and_self, sp_f, sp_tf, sp_tt]
    exact tv_zretP (hop g) (wf := tv_cw cI cZ h a1 a2 a3 a4) (σ := (rd, lv, op, nt)) (r := op g) hAe hV0 hx hb hr hP hK hD hS dX0_isOpen_10 hlocks
theorem iX0_notes : ∀ w ∈ wsX00, w ∈ wsX0_notes := by decide +kernel
set_option maxHeartbeats 4000000 in
set_option maxRecDepth 100000 in
theorem c_X0_notes (l : Launch) (hT : l.stackTraces = false) (D : va_G) (cI cZ cL : ClassId) (h a1 a2 a3 a4 : Nat) (rd lv op nt : Nat → Int32) (sz : Nat) (x1 : Int32) (V : TV) (hV : V = sp_notes x1 (rd, lv, op, nt)) : vx_Met l yX0_notes wsX0_notes tv_rmP (tv_PP D cI cZ cL (tv_cw cI cZ h a1 a2 a3 a4 (rd, lv, op, nt)) sz [.ref h, .int x1]) (tv_QP D cI cZ cL (tv_cw cI cZ h a1 a2 a3 a4) (tv_cw cI cZ h a1 a2 a3 a4 (rd, lv, op, nt)) sz V) (tv_XP V) 1 6 (va_A (tv_cw cI cZ h a1 a2 a3 a4 (rd, lv, op, nt)) sz) := by
  refine vx_ofW (cc := cX0_notes) (maxL := 2) (ret := (some .int)) (by decide) rfl ?_
  intro p e s m args below meth c s₁ B hml htab hv
  obtain ⟨rfl, hsz, hP, hK, hD0, hE⟩ := hv
  subst hsz
  have hx := B.exec
  have hb := B.bytes
  have hr := B.returns
  have hts := atoms_spec (ws := wsX0_notes) B.pre
  have hown : s.vm.findClass RX0 = some m.cls := findClass_of_methodNamed B.named
  have hlocks := B.notSynchronized
  have hD := hD0.self (sz := s.heap.size)
  obtain ⟨A, hAe⟩ : ∃ A, A = va_A (tv_cw cI cZ h a1 a2 a3 a4 (rd, lv, op, nt)) s.heap.size := ⟨_, rfl⟩
  rw [← hAe] at hD hE
  have hA : ∀ q : Nat, s.heap.size ≤ q → A q := fun q h => by rw [hAe]; exact Or.inr h
  have hS : va_S A s.heap s.heap [] := va_S.rf
  clear hD0
  have hl := lv_entry ([.ref h, .int x1]) (n := 2) (Nat.le_of_ble_eq_true rfl)
  rw [lg_entry_eq]
  generalize (lg_sl ([.ref h, .int x1]) ++ List.replicate (2 - (lg_sl ([.ref h, .int x1])).length) Slot.unset).toArray = ls at hl ⊢
  have hl : lv_has ls 2 [(0, .ref h), (1, .int x1)] := hl
  refine lv_iload_n hx hb dX0_notes_0 rfl (lv_at hl 1 rfl) ?_
  cases g1 : tv_in 8 x1 with
  | false =>
    have hV1 : V = (1, 0, (rd, lv, op, nt)) := by rw [hV]; simp only [sp_notes, g1, Bool.and_false, Bool.false_and, Bool.and_true, Bool.true_and, Bool.and_self, sp_f, sp_tf, sp_tt]
    exact tv_callT (a := #[]) (vx_runS (As := [.int x1]) (rest := []) ⟨hx, hb, hml, hown, hts⟩ (t_X0_needRow l hT x1 g1) (va_cwS 1 hts gX0_notes_X0_needRow rfl rfl rfl (by decide +kernel) ⟨Nat.le_of_ble_eq_true rfl, Nat.le_of_ble_eq_true rfl⟩) (tv_preT hE hS) rfl rfl hl.1 rfl (lv_room (Nat.le_of_ble_eq_true rfl)) dX0_notes_1 ⟨Nat.le_of_ble_eq_true rfl, Nat.le_of_ble_eq_true rfl⟩) htab hlocks (fun t hz hk => ⟨(), by rw [hV1]; exact (by decide : (1 : Int32) ≠ 0), by rw [hV1]; rfl, hz, fun q hq _ => hk q hq⟩) (fun z h => nomatch h) (Nat.le_of_ble_eq_true rfl) (Nat.le_of_ble_eq_true rfl)
  | true =>
    refine tv_callN (W.runS (As := [.int x1]) (rest := []) ⟨hx, hb, hml, hown, hts⟩ (n_X0_needRow l x1 g1) (va_cwS 1 hts gX0_notes_X0_needRow rfl rfl rfl (by decide +kernel) ⟨Nat.le_of_ble_eq_true rfl, Nat.le_of_ble_eq_true rfl⟩) preEq rfl rfl hl.1 rfl (lv_room (Nat.le_of_ble_eq_true rfl)) dX0_notes_1 ⟨Nat.le_of_ble_eq_true rfl, Nat.le_of_ble_eq_true rfl⟩) ?_
    obtain ⟨r, hr8, rfl⟩ := tv_in_of (by omega) g1
    refine lv_aload_n hx hb dX0_notes_4 rfl (lv_at hl 0 rfl) ?_
    refine va_get (D := D) (ci := 0) (v := .ref a4) (C := RX0) (T := TX0) (N := 4) hx hb hts iX0_notes hown hK hP 0 rfl rfl 3 (by decide) (hts (.fieldLink RX0 20 "TideHouse" "rowNotes" "[I") (by decide +kernel)) (fun _ h9 => h9) rfl dX0_notes_5 ?_
    refine lv_iload_n hx hb dX0_notes_8 rfl (lv_at hl 1 rfl) ?_
    refine tv_iald (D := D) (cA := cI) (n := 8) (f := nt) (k := r) hx hb hK hP 4 0 rfl rfl (by omega) (by omega) dX0_notes_9 ?_
    have hV0 : V = (0, nt r, (rd, lv, op, nt)) := by
      rw [hV]; simp only [sp_notes, tN, nI_clamp (show r < 2 ^ 31 by omega), g1, Bool.and_false, Bool.false_and, Bool.and_true, Bool.true_and, Bool.and_self, sp_f, sp_tf, sp_tt]
    exact tv_iretP (wf := tv_cw cI cZ h a1 a2 a3 a4) (σ := (rd, lv, op, nt)) (r := nt r) hAe hV0 hx hb hr hP hK hD hS dX0_notes_10 hlocks
theorem iX0_gaps : ∀ w ∈ wsX00, w ∈ wsX0_gaps := by decide +kernel
set_option maxHeartbeats 4000000 in
set_option maxRecDepth 100000 in
theorem c_X0_gaps (l : Launch) (hT : l.stackTraces = false) (D : va_G) (cI cZ cL : ClassId) (h a1 a2 a3 a4 : Nat) (rd lv op nt : Nat → Int32) (sz : Nat) (x1 : Int32) (V : TV) (hV : V = sp_gaps x1 (rd, lv, op, nt)) : vx_Met l yX0_gaps wsX0_gaps tv_rmP (tv_PP D cI cZ cL (tv_cw cI cZ h a1 a2 a3 a4 (rd, lv, op, nt)) sz [.ref h, .int x1]) (tv_QP D cI cZ cL (tv_cw cI cZ h a1 a2 a3 a4) (tv_cw cI cZ h a1 a2 a3 a4 (rd, lv, op, nt)) sz V) (tv_XP V) 1 6 (va_A (tv_cw cI cZ h a1 a2 a3 a4 (rd, lv, op, nt)) sz) := by
  refine vx_ofW (cc := cX0_gaps) (maxL := 2) (ret := (some .int)) (by decide) rfl ?_
  intro p e s m args below meth c s₁ B hml htab hv
  obtain ⟨rfl, hsz, hP, hK, hD0, hE⟩ := hv
  subst hsz
  have hx := B.exec
  have hb := B.bytes
  have hr := B.returns
  have hts := atoms_spec (ws := wsX0_gaps) B.pre
  have hown : s.vm.findClass RX0 = some m.cls := findClass_of_methodNamed B.named
  have hlocks := B.notSynchronized
  have hD := hD0.self (sz := s.heap.size)
  obtain ⟨A, hAe⟩ : ∃ A, A = va_A (tv_cw cI cZ h a1 a2 a3 a4 (rd, lv, op, nt)) s.heap.size := ⟨_, rfl⟩
  rw [← hAe] at hD hE
  have hA : ∀ q : Nat, s.heap.size ≤ q → A q := fun q h => by rw [hAe]; exact Or.inr h
  have hS : va_S A s.heap s.heap [] := va_S.rf
  clear hD0
  have hl := lv_entry ([.ref h, .int x1]) (n := 2) (Nat.le_of_ble_eq_true rfl)
  rw [lg_entry_eq]
  generalize (lg_sl ([.ref h, .int x1]) ++ List.replicate (2 - (lg_sl ([.ref h, .int x1])).length) Slot.unset).toArray = ls at hl ⊢
  have hl : lv_has ls 2 [(0, .ref h), (1, .int x1)] := hl
  refine lv_iload_n hx hb dX0_gaps_0 rfl (lv_at hl 1 rfl) ?_
  cases g1 : tv_in 8 x1 with
  | false =>
    have hV1 : V = (1, 0, (rd, lv, op, nt)) := by rw [hV]; simp only [sp_gaps, g1, Bool.and_false, Bool.false_and, Bool.and_true, Bool.true_and, Bool.and_self, sp_f, sp_tf, sp_tt]
    exact tv_callT (a := #[]) (vx_runS (As := [.int x1]) (rest := []) ⟨hx, hb, hml, hown, hts⟩ (t_X0_needRow l hT x1 g1) (va_cwS 1 hts gX0_gaps_X0_needRow rfl rfl rfl (by decide +kernel) ⟨Nat.le_of_ble_eq_true rfl, Nat.le_of_ble_eq_true rfl⟩) (tv_preT hE hS) rfl rfl hl.1 rfl (lv_room (Nat.le_of_ble_eq_true rfl)) dX0_gaps_1 ⟨Nat.le_of_ble_eq_true rfl, Nat.le_of_ble_eq_true rfl⟩) htab hlocks (fun t hz hk => ⟨(), by rw [hV1]; exact (by decide : (1 : Int32) ≠ 0), by rw [hV1]; rfl, hz, fun q hq _ => hk q hq⟩) (fun z h => nomatch h) (Nat.le_of_ble_eq_true rfl) (Nat.le_of_ble_eq_true rfl)
  | true =>
    refine tv_callN (W.runS (As := [.int x1]) (rest := []) ⟨hx, hb, hml, hown, hts⟩ (n_X0_needRow l x1 g1) (va_cwS 1 hts gX0_gaps_X0_needRow rfl rfl rfl (by decide +kernel) ⟨Nat.le_of_ble_eq_true rfl, Nat.le_of_ble_eq_true rfl⟩) preEq rfl rfl hl.1 rfl (lv_room (Nat.le_of_ble_eq_true rfl)) dX0_gaps_1 ⟨Nat.le_of_ble_eq_true rfl, Nat.le_of_ble_eq_true rfl⟩) ?_
    obtain ⟨r, hr8, rfl⟩ := tv_in_of (by omega) g1
    refine lv_aload_n hx hb dX0_gaps_4 rfl (lv_at hl 0 rfl) ?_
    refine lv_iload_n hx hb dX0_gaps_5 rfl (lv_at hl 1 rfl) ?_
    refine tv_callR (W.runV (As := [.int (nI r)]) (rest := []) ⟨hx, hb, hml, hown, hts⟩ (c_X0_countMissing l D cI cZ cL h a1 a2 a3 a4 rd lv op nt r hr8) (cwV 1 hts gX0_gaps_X0_countMissing rfl rfl rfl (by decide +kernel) ⟨Nat.le_of_ble_eq_true rfl, Nat.le_of_ble_eq_true rfl⟩) (tv_preV hP hK rfl 0 rfl) rfl rfl hl.1 rfl (lv_room (Nat.le_of_ble_eq_true rfl)) dX0_gaps_6 ⟨Nat.le_of_ble_eq_true rfl, Nat.le_of_ble_eq_true rfl⟩) ?_
    have hV0 : V = (0, cn (fun k => if rd (12 * r + k) = -2147483648 then 1 else 0) 12, (rd, lv, op, nt)) := by
      rw [hV]; simp only [sp_gaps, tN, nI_clamp (show r < 2 ^ 31 by omega), g1, Bool.and_false, Bool.false_and, Bool.and_true, Bool.true_and, Bool.and_self, sp_f, sp_tf, sp_tt]
    exact tv_iretP (wf := tv_cw cI cZ h a1 a2 a3 a4) (σ := (rd, lv, op, nt)) (r := cn (fun k => if rd (12 * r + k) = -2147483648 then 1 else 0) 12) hAe hV0 hx hb hr hP hK hD hS dX0_gaps_9 hlocks
theorem iX0_climb : ∀ w ∈ wsX00, w ∈ wsX0_climb := by decide +kernel
set_option maxHeartbeats 4000000 in
set_option maxRecDepth 100000 in
theorem c_X0_climb (l : Launch) (hT : l.stackTraces = false) (D : va_G) (cI cZ cL : ClassId) (h a1 a2 a3 a4 : Nat) (rd lv op nt : Nat → Int32) (sz : Nat) (x1 x2 x3 : Int32) (V : TV) (hV : V = sp_climb x1 x2 x3 (rd, lv, op, nt)) : vx_Met l yX0_climb wsX0_climb tv_rmP (tv_PP D cI cZ cL (tv_cw cI cZ h a1 a2 a3 a4 (rd, lv, op, nt)) sz [.ref h, .int x1, .int x2, .int x3]) (tv_QP D cI cZ cL (tv_cw cI cZ h a1 a2 a3 a4) (tv_cw cI cZ h a1 a2 a3 a4 (rd, lv, op, nt)) sz V) (tv_XP V) 1 6 (va_A (tv_cw cI cZ h a1 a2 a3 a4 (rd, lv, op, nt)) sz) := by
  refine vx_ofW (cc := cX0_climb) (maxL := 4) (ret := (some .int)) (by decide) rfl ?_
  intro p e s m args below meth c s₁ B hml htab hv
  obtain ⟨rfl, hsz, hP, hK, hD0, hE⟩ := hv
  subst hsz
  have hx := B.exec
  have hb := B.bytes
  have hr := B.returns
  have hts := atoms_spec (ws := wsX0_climb) B.pre
  have hown : s.vm.findClass RX0 = some m.cls := findClass_of_methodNamed B.named
  have hlocks := B.notSynchronized
  have hD := hD0.self (sz := s.heap.size)
  obtain ⟨A, hAe⟩ : ∃ A, A = va_A (tv_cw cI cZ h a1 a2 a3 a4 (rd, lv, op, nt)) s.heap.size := ⟨_, rfl⟩
  rw [← hAe] at hD hE
  have hA : ∀ q : Nat, s.heap.size ≤ q → A q := fun q h => by rw [hAe]; exact Or.inr h
  have hS : va_S A s.heap s.heap [] := va_S.rf
  clear hD0
  have hl := lv_entry ([.ref h, .int x1, .int x2, .int x3]) (n := 4) (Nat.le_of_ble_eq_true rfl)
  rw [lg_entry_eq]
  generalize (lg_sl ([.ref h, .int x1, .int x2, .int x3]) ++ List.replicate (4 - (lg_sl ([.ref h, .int x1, .int x2, .int x3])).length) Slot.unset).toArray = ls at hl ⊢
  have hl : lv_has ls 4 [(0, .ref h), (1, .int x1), (2, .int x2), (3, .int x3)] := hl
  refine lv_iload_n hx hb dX0_climb_0 rfl (lv_at hl 1 rfl) ?_
  cases g1 : tv_in 8 x1 with
  | false =>
    have hV1 : V = (1, 0, (rd, lv, op, nt)) := by rw [hV]; simp only [sp_climb, g1, Bool.and_false, Bool.false_and, Bool.and_true, Bool.true_and, Bool.and_self, sp_f, sp_tf, sp_tt]
    exact tv_callT (a := #[]) (vx_runS (As := [.int x1]) (rest := []) ⟨hx, hb, hml, hown, hts⟩ (t_X0_needRow l hT x1 g1) (va_cwS 1 hts gX0_climb_X0_needRow rfl rfl rfl (by decide +kernel) ⟨Nat.le_of_ble_eq_true rfl, Nat.le_of_ble_eq_true rfl⟩) (tv_preT hE hS) rfl rfl hl.1 rfl (lv_room (Nat.le_of_ble_eq_true rfl)) dX0_climb_1 ⟨Nat.le_of_ble_eq_true rfl, Nat.le_of_ble_eq_true rfl⟩) htab hlocks (fun t hz hk => ⟨(), by rw [hV1]; exact (by decide : (1 : Int32) ≠ 0), by rw [hV1]; rfl, hz, fun q hq _ => hk q hq⟩) (fun z h => nomatch h) (Nat.le_of_ble_eq_true rfl) (Nat.le_of_ble_eq_true rfl)
  | true =>
    refine tv_callN (W.runS (As := [.int x1]) (rest := []) ⟨hx, hb, hml, hown, hts⟩ (n_X0_needRow l x1 g1) (va_cwS 1 hts gX0_climb_X0_needRow rfl rfl rfl (by decide +kernel) ⟨Nat.le_of_ble_eq_true rfl, Nat.le_of_ble_eq_true rfl⟩) preEq rfl rfl hl.1 rfl (lv_room (Nat.le_of_ble_eq_true rfl)) dX0_climb_1 ⟨Nat.le_of_ble_eq_true rfl, Nat.le_of_ble_eq_true rfl⟩) ?_
    obtain ⟨r, hr8, rfl⟩ := tv_in_of (by omega) g1
    refine lv_iload_n hx hb dX0_climb_4 rfl (lv_at hl 2 rfl) ?_
    cases g2 : tv_in 12 x2 with
    | false =>
      have hV1 : V = (1, 0, (rd, lv, op, nt)) := by rw [hV]; simp only [sp_climb, g1, g2, Bool.and_false, Bool.false_and, Bool.and_true, Bool.true_and, Bool.and_self, sp_f, sp_tf, sp_tt]
      exact tv_callT (a := #[]) (vx_runS (As := [.int x2]) (rest := []) ⟨hx, hb, hml, hown, hts⟩ (t_X0_needPlace l hT x2 g2) (va_cwS 1 hts gX0_climb_X0_needPlace rfl rfl rfl (by decide +kernel) ⟨Nat.le_of_ble_eq_true rfl, Nat.le_of_ble_eq_true rfl⟩) (tv_preT hE hS) rfl rfl hl.1 rfl (lv_room (Nat.le_of_ble_eq_true rfl)) dX0_climb_5 ⟨Nat.le_of_ble_eq_true rfl, Nat.le_of_ble_eq_true rfl⟩) htab hlocks (fun t hz hk => ⟨(), by rw [hV1]; exact (by decide : (1 : Int32) ≠ 0), by rw [hV1]; rfl, hz, fun q hq _ => hk q hq⟩) (fun z h => nomatch h) (Nat.le_of_ble_eq_true rfl) (Nat.le_of_ble_eq_true rfl)
    | true =>
      refine tv_callN (W.runS (As := [.int x2]) (rest := []) ⟨hx, hb, hml, hown, hts⟩ (n_X0_needPlace l x2 g2) (va_cwS 1 hts gX0_climb_X0_needPlace rfl rfl rfl (by decide +kernel) ⟨Nat.le_of_ble_eq_true rfl, Nat.le_of_ble_eq_true rfl⟩) preEq rfl rfl hl.1 rfl (lv_room (Nat.le_of_ble_eq_true rfl)) dX0_climb_5 ⟨Nat.le_of_ble_eq_true rfl, Nat.le_of_ble_eq_true rfl⟩) ?_
      obtain ⟨k, hk8, rfl⟩ := tv_in_of (by omega) g2
      refine lv_iload_n hx hb dX0_climb_8 rfl (lv_at hl 3 rfl) ?_
      cases g3 : tv_sg x3 with
      | false =>
        have hV1 : V = (2, 0, (rd, lv, op, nt)) := by rw [hV]; simp only [sp_climb, g1, g2, g3, Bool.and_false, Bool.false_and, Bool.and_true, Bool.true_and, Bool.and_self, sp_f, sp_tf, sp_tt]
        exact tv_callT (a := #[]) (vx_runS (As := [.int x3]) (rest := []) ⟨hx, hb, hml, hown, hts⟩ (t_X0_needSign l hT x3 g3) (va_cwS 1 hts gX0_climb_X0_needSign rfl rfl rfl (by decide +kernel) ⟨Nat.le_of_ble_eq_true rfl, Nat.le_of_ble_eq_true rfl⟩) (tv_preT hE hS) rfl rfl hl.1 rfl (lv_room (Nat.le_of_ble_eq_true rfl)) dX0_climb_9 ⟨Nat.le_of_ble_eq_true rfl, Nat.le_of_ble_eq_true rfl⟩) htab hlocks (fun t hz hk => ⟨(), by rw [hV1]; exact (by decide : (2 : Int32) ≠ 0), by rw [hV1]; rfl, hz, fun q hq _ => hk q hq⟩) (fun z h => nomatch h) (Nat.le_of_ble_eq_true rfl) (Nat.le_of_ble_eq_true rfl)
      | true =>
        refine tv_callN (W.runS (As := [.int x3]) (rest := []) ⟨hx, hb, hml, hown, hts⟩ (n_X0_needSign l x3 g3) (va_cwS 1 hts gX0_climb_X0_needSign rfl rfl rfl (by decide +kernel) ⟨Nat.le_of_ble_eq_true rfl, Nat.le_of_ble_eq_true rfl⟩) preEq rfl rfl hl.1 rfl (lv_room (Nat.le_of_ble_eq_true rfl)) dX0_climb_9 ⟨Nat.le_of_ble_eq_true rfl, Nat.le_of_ble_eq_true rfl⟩) ?_
        refine lv_aload_n hx hb dX0_climb_12 rfl (lv_at hl 0 rfl) ?_
        refine lv_iload_n hx hb dX0_climb_13 rfl (lv_at hl 1 rfl) ?_
        refine lv_iload_n hx hb dX0_climb_14 rfl (lv_at hl 2 rfl) ?_
        refine lv_iload_n hx hb dX0_climb_15 rfl (lv_at hl 3 rfl) ?_
        refine lv_iconst (v := 1) hx hb dX0_climb_16 (by decide) ?_
        refine tv_callR (W.runV (As := [.int (nI r), .int (nI k), .int x3, .int 1]) (rest := []) ⟨hx, hb, hml, hown, hts⟩ (c_X0_walk l D cI cZ cL h a1 a2 a3 a4 rd lv op nt r k (wk x3 1 (rw12 rd r) 12 k) x3 1 hr8 hk8 rfl) (cwV 4 hts gX0_climb_X0_walk rfl rfl rfl (by decide +kernel) ⟨Nat.le_of_ble_eq_true rfl, Nat.le_of_ble_eq_true rfl⟩) (tv_preV hP hK rfl 0 rfl) rfl rfl hl.1 rfl (lv_room (Nat.le_of_ble_eq_true rfl)) dX0_climb_17 ⟨Nat.le_of_ble_eq_true rfl, Nat.le_of_ble_eq_true rfl⟩) ?_
        have hV0 : V = (0, nI (wk x3 1 (rw12 rd r) 12 k), (rd, lv, op, nt)) := by
          rw [hV]; simp only [sp_climb, tN, nI_clamp (show r < 2 ^ 31 by omega), nI_clamp (show k < 2 ^ 31 by omega), g1, g2, g3, Bool.and_false, Bool.false_and, Bool.and_true, Bool.true_and, Bool.and_self, sp_f, sp_tf, sp_tt]
        exact tv_iretP (wf := tv_cw cI cZ h a1 a2 a3 a4) (σ := (rd, lv, op, nt)) (r := nI (wk x3 1 (rw12 rd r) 12 k)) hAe hV0 hx hb hr hP hK hD hS dX0_climb_20 hlocks
theorem iX0_drift : ∀ w ∈ wsX00, w ∈ wsX0_drift := by decide +kernel
set_option maxHeartbeats 4000000 in
set_option maxRecDepth 100000 in
theorem c_X0_drift (l : Launch) (hT : l.stackTraces = false) (D : va_G) (cI cZ cL : ClassId) (h a1 a2 a3 a4 : Nat) (rd lv op nt : Nat → Int32) (sz : Nat) (x1 x2 x3 : Int32) (V : TV) (hV : V = sp_drift x1 x2 x3 (rd, lv, op, nt)) : vx_Met l yX0_drift wsX0_drift tv_rmP (tv_PP D cI cZ cL (tv_cw cI cZ h a1 a2 a3 a4 (rd, lv, op, nt)) sz [.ref h, .int x1, .int x2, .int x3]) (tv_QP D cI cZ cL (tv_cw cI cZ h a1 a2 a3 a4) (tv_cw cI cZ h a1 a2 a3 a4 (rd, lv, op, nt)) sz V) (tv_XP V) 1 6 (va_A (tv_cw cI cZ h a1 a2 a3 a4 (rd, lv, op, nt)) sz) := by
  refine vx_ofW (cc := cX0_drift) (maxL := 4) (ret := (some .int)) (by decide) rfl ?_
  intro p e s m args below meth c s₁ B hml htab hv
  obtain ⟨rfl, hsz, hP, hK, hD0, hE⟩ := hv
  subst hsz
  have hx := B.exec
  have hb := B.bytes
  have hr := B.returns
  have hts := atoms_spec (ws := wsX0_drift) B.pre
  have hown : s.vm.findClass RX0 = some m.cls := findClass_of_methodNamed B.named
  have hlocks := B.notSynchronized
  have hD := hD0.self (sz := s.heap.size)
  obtain ⟨A, hAe⟩ : ∃ A, A = va_A (tv_cw cI cZ h a1 a2 a3 a4 (rd, lv, op, nt)) s.heap.size := ⟨_, rfl⟩
  rw [← hAe] at hD hE
  have hA : ∀ q : Nat, s.heap.size ≤ q → A q := fun q h => by rw [hAe]; exact Or.inr h
  have hS : va_S A s.heap s.heap [] := va_S.rf
  clear hD0
  have hl := lv_entry ([.ref h, .int x1, .int x2, .int x3]) (n := 4) (Nat.le_of_ble_eq_true rfl)
  rw [lg_entry_eq]
  generalize (lg_sl ([.ref h, .int x1, .int x2, .int x3]) ++ List.replicate (4 - (lg_sl ([.ref h, .int x1, .int x2, .int x3])).length) Slot.unset).toArray = ls at hl ⊢
  have hl : lv_has ls 4 [(0, .ref h), (1, .int x1), (2, .int x2), (3, .int x3)] := hl
  refine lv_iload_n hx hb dX0_drift_0 rfl (lv_at hl 1 rfl) ?_
  cases g1 : tv_in 8 x1 with
  | false =>
    have hV1 : V = (1, 0, (rd, lv, op, nt)) := by rw [hV]; simp only [sp_drift, g1, Bool.and_false, Bool.false_and, Bool.and_true, Bool.true_and, Bool.and_self, sp_f, sp_tf, sp_tt]
    exact tv_callT (a := #[]) (vx_runS (As := [.int x1]) (rest := []) ⟨hx, hb, hml, hown, hts⟩ (t_X0_needRow l hT x1 g1) (va_cwS 1 hts gX0_drift_X0_needRow rfl rfl rfl (by decide +kernel) ⟨Nat.le_of_ble_eq_true rfl, Nat.le_of_ble_eq_true rfl⟩) (tv_preT hE hS) rfl rfl hl.1 rfl (lv_room (Nat.le_of_ble_eq_true rfl)) dX0_drift_1 ⟨Nat.le_of_ble_eq_true rfl, Nat.le_of_ble_eq_true rfl⟩) htab hlocks (fun t hz hk => ⟨(), by rw [hV1]; exact (by decide : (1 : Int32) ≠ 0), by rw [hV1]; rfl, hz, fun q hq _ => hk q hq⟩) (fun z h => nomatch h) (Nat.le_of_ble_eq_true rfl) (Nat.le_of_ble_eq_true rfl)
  | true =>
    refine tv_callN (W.runS (As := [.int x1]) (rest := []) ⟨hx, hb, hml, hown, hts⟩ (n_X0_needRow l x1 g1) (va_cwS 1 hts gX0_drift_X0_needRow rfl rfl rfl (by decide +kernel) ⟨Nat.le_of_ble_eq_true rfl, Nat.le_of_ble_eq_true rfl⟩) preEq rfl rfl hl.1 rfl (lv_room (Nat.le_of_ble_eq_true rfl)) dX0_drift_1 ⟨Nat.le_of_ble_eq_true rfl, Nat.le_of_ble_eq_true rfl⟩) ?_
    obtain ⟨r, hr8, rfl⟩ := tv_in_of (by omega) g1
    refine lv_iload_n hx hb dX0_drift_4 rfl (lv_at hl 2 rfl) ?_
    cases g2 : tv_in 12 x2 with
    | false =>
      have hV1 : V = (1, 0, (rd, lv, op, nt)) := by rw [hV]; simp only [sp_drift, g1, g2, Bool.and_false, Bool.false_and, Bool.and_true, Bool.true_and, Bool.and_self, sp_f, sp_tf, sp_tt]
      exact tv_callT (a := #[]) (vx_runS (As := [.int x2]) (rest := []) ⟨hx, hb, hml, hown, hts⟩ (t_X0_needPlace l hT x2 g2) (va_cwS 1 hts gX0_drift_X0_needPlace rfl rfl rfl (by decide +kernel) ⟨Nat.le_of_ble_eq_true rfl, Nat.le_of_ble_eq_true rfl⟩) (tv_preT hE hS) rfl rfl hl.1 rfl (lv_room (Nat.le_of_ble_eq_true rfl)) dX0_drift_5 ⟨Nat.le_of_ble_eq_true rfl, Nat.le_of_ble_eq_true rfl⟩) htab hlocks (fun t hz hk => ⟨(), by rw [hV1]; exact (by decide : (1 : Int32) ≠ 0), by rw [hV1]; rfl, hz, fun q hq _ => hk q hq⟩) (fun z h => nomatch h) (Nat.le_of_ble_eq_true rfl) (Nat.le_of_ble_eq_true rfl)
    | true =>
      refine tv_callN (W.runS (As := [.int x2]) (rest := []) ⟨hx, hb, hml, hown, hts⟩ (n_X0_needPlace l x2 g2) (va_cwS 1 hts gX0_drift_X0_needPlace rfl rfl rfl (by decide +kernel) ⟨Nat.le_of_ble_eq_true rfl, Nat.le_of_ble_eq_true rfl⟩) preEq rfl rfl hl.1 rfl (lv_room (Nat.le_of_ble_eq_true rfl)) dX0_drift_5 ⟨Nat.le_of_ble_eq_true rfl, Nat.le_of_ble_eq_true rfl⟩) ?_
      obtain ⟨k, hk8, rfl⟩ := tv_in_of (by omega) g2
      refine lv_iload_n hx hb dX0_drift_8 rfl (lv_at hl 3 rfl) ?_
      cases g3 : tv_sg x3 with
      | false =>
        have hV1 : V = (2, 0, (rd, lv, op, nt)) := by rw [hV]; simp only [sp_drift, g1, g2, g3, Bool.and_false, Bool.false_and, Bool.and_true, Bool.true_and, Bool.and_self, sp_f, sp_tf, sp_tt]
        exact tv_callT (a := #[]) (vx_runS (As := [.int x3]) (rest := []) ⟨hx, hb, hml, hown, hts⟩ (t_X0_needSign l hT x3 g3) (va_cwS 1 hts gX0_drift_X0_needSign rfl rfl rfl (by decide +kernel) ⟨Nat.le_of_ble_eq_true rfl, Nat.le_of_ble_eq_true rfl⟩) (tv_preT hE hS) rfl rfl hl.1 rfl (lv_room (Nat.le_of_ble_eq_true rfl)) dX0_drift_9 ⟨Nat.le_of_ble_eq_true rfl, Nat.le_of_ble_eq_true rfl⟩) htab hlocks (fun t hz hk => ⟨(), by rw [hV1]; exact (by decide : (2 : Int32) ≠ 0), by rw [hV1]; rfl, hz, fun q hq _ => hk q hq⟩) (fun z h => nomatch h) (Nat.le_of_ble_eq_true rfl) (Nat.le_of_ble_eq_true rfl)
      | true =>
        refine tv_callN (W.runS (As := [.int x3]) (rest := []) ⟨hx, hb, hml, hown, hts⟩ (n_X0_needSign l x3 g3) (va_cwS 1 hts gX0_drift_X0_needSign rfl rfl rfl (by decide +kernel) ⟨Nat.le_of_ble_eq_true rfl, Nat.le_of_ble_eq_true rfl⟩) preEq rfl rfl hl.1 rfl (lv_room (Nat.le_of_ble_eq_true rfl)) dX0_drift_9 ⟨Nat.le_of_ble_eq_true rfl, Nat.le_of_ble_eq_true rfl⟩) ?_
        refine lv_aload_n hx hb dX0_drift_12 rfl (lv_at hl 0 rfl) ?_
        refine lv_iload_n hx hb dX0_drift_13 rfl (lv_at hl 1 rfl) ?_
        refine lv_iload_n hx hb dX0_drift_14 rfl (lv_at hl 2 rfl) ?_
        refine lv_iload_n hx hb dX0_drift_15 rfl (lv_at hl 3 rfl) ?_
        refine lv_iconst (v := 0) hx hb dX0_drift_16 (by decide) ?_
        refine tv_callR (W.runV (As := [.int (nI r), .int (nI k), .int x3, .int 0]) (rest := []) ⟨hx, hb, hml, hown, hts⟩ (c_X0_walk l D cI cZ cL h a1 a2 a3 a4 rd lv op nt r k (wk x3 0 (rw12 rd r) 12 k) x3 0 hr8 hk8 rfl) (cwV 4 hts gX0_drift_X0_walk rfl rfl rfl (by decide +kernel) ⟨Nat.le_of_ble_eq_true rfl, Nat.le_of_ble_eq_true rfl⟩) (tv_preV hP hK rfl 0 rfl) rfl rfl hl.1 rfl (lv_room (Nat.le_of_ble_eq_true rfl)) dX0_drift_17 ⟨Nat.le_of_ble_eq_true rfl, Nat.le_of_ble_eq_true rfl⟩) ?_
        have hV0 : V = (0, nI (wk x3 0 (rw12 rd r) 12 k), (rd, lv, op, nt)) := by
          rw [hV]; simp only [sp_drift, tN, nI_clamp (show r < 2 ^ 31 by omega), nI_clamp (show k < 2 ^ 31 by omega), g1, g2, g3, Bool.and_false, Bool.false_and, Bool.and_true, Bool.true_and, Bool.and_self, sp_f, sp_tf, sp_tt]
        exact tv_iretP (wf := tv_cw cI cZ h a1 a2 a3 a4) (σ := (rd, lv, op, nt)) (r := nI (wk x3 0 (rw12 rd r) 12 k)) hAe hV0 hx hb hr hP hK hD hS dX0_drift_20 hlocks
theorem iX0_must : ∀ w ∈ wsX00, w ∈ wsX0_must := by decide +kernel
set_option maxHeartbeats 4000000 in
set_option maxRecDepth 100000 in
theorem c_X0_must (l : Launch) (hT : l.stackTraces = false) (D : va_G) (cI cZ cL : ClassId) (h a1 a2 a3 a4 : Nat) (rd lv op nt : Nat → Int32) (sz : Nat) (x1 x2 x3 x4 : Int32) (V : TV) (hV : V = sp_must x1 x2 x3 x4 (rd, lv, op, nt)) : vx_Met l yX0_must wsX0_must tv_rmP (tv_PP D cI cZ cL (tv_cw cI cZ h a1 a2 a3 a4 (rd, lv, op, nt)) sz [.ref h, .int x1, .int x2, .int x3, .int x4]) (tv_QP D cI cZ cL (tv_cw cI cZ h a1 a2 a3 a4) (tv_cw cI cZ h a1 a2 a3 a4 (rd, lv, op, nt)) sz V) (tv_XP V) 1 6 (va_A (tv_cw cI cZ h a1 a2 a3 a4 (rd, lv, op, nt)) sz) := by
  refine vx_ofW (cc := cX0_must) (maxL := 6) (ret := (some .int)) (by decide) rfl ?_
  intro p e s m args below meth c s₁ B hml htab hv
  obtain ⟨rfl, hsz, hP, hK, hD0, hE⟩ := hv
  subst hsz
  have hx := B.exec
  have hb := B.bytes
  have hr := B.returns
  have hts := atoms_spec (ws := wsX0_must) B.pre
  have hown : s.vm.findClass RX0 = some m.cls := findClass_of_methodNamed B.named
  have hlocks := B.notSynchronized
  have hD := hD0.self (sz := s.heap.size)
  obtain ⟨A, hAe⟩ : ∃ A, A = va_A (tv_cw cI cZ h a1 a2 a3 a4 (rd, lv, op, nt)) s.heap.size := ⟨_, rfl⟩
  rw [← hAe] at hD hE
  have hA : ∀ q : Nat, s.heap.size ≤ q → A q := fun q h => by rw [hAe]; exact Or.inr h
  have hS : va_S A s.heap s.heap [] := va_S.rf
  clear hD0
  have hl := lv_entry ([.ref h, .int x1, .int x2, .int x3, .int x4]) (n := 6) (Nat.le_of_ble_eq_true rfl)
  rw [lg_entry_eq]
  generalize (lg_sl ([.ref h, .int x1, .int x2, .int x3, .int x4]) ++ List.replicate (6 - (lg_sl ([.ref h, .int x1, .int x2, .int x3, .int x4])).length) Slot.unset).toArray = ls at hl ⊢
  have hl : lv_has ls 6 [(0, .ref h), (1, .int x1), (2, .int x2), (3, .int x3), (4, .int x4)] := hl
  refine lv_iload_n hx hb dX0_must_0 rfl (lv_at hl 1 rfl) ?_
  cases g1 : tv_in 8 x1 with
  | false =>
    have hV1 : V = (1, 0, (rd, lv, op, nt)) := by rw [hV]; simp only [sp_must, g1, Bool.and_false, Bool.false_and, Bool.and_true, Bool.true_and, Bool.and_self, sp_f, sp_tf, sp_tt]
    exact tv_callT (a := #[]) (vx_runS (As := [.int x1]) (rest := []) ⟨hx, hb, hml, hown, hts⟩ (t_X0_needRow l hT x1 g1) (va_cwS 1 hts gX0_must_X0_needRow rfl rfl rfl (by decide +kernel) ⟨Nat.le_of_ble_eq_true rfl, Nat.le_of_ble_eq_true rfl⟩) (tv_preT hE hS) rfl rfl hl.1 rfl (lv_room (Nat.le_of_ble_eq_true rfl)) dX0_must_1 ⟨Nat.le_of_ble_eq_true rfl, Nat.le_of_ble_eq_true rfl⟩) htab hlocks (fun t hz hk => ⟨(), by rw [hV1]; exact (by decide : (1 : Int32) ≠ 0), by rw [hV1]; rfl, hz, fun q hq _ => hk q hq⟩) (fun z h => nomatch h) (Nat.le_of_ble_eq_true rfl) (Nat.le_of_ble_eq_true rfl)
  | true =>
    refine tv_callN (W.runS (As := [.int x1]) (rest := []) ⟨hx, hb, hml, hown, hts⟩ (n_X0_needRow l x1 g1) (va_cwS 1 hts gX0_must_X0_needRow rfl rfl rfl (by decide +kernel) ⟨Nat.le_of_ble_eq_true rfl, Nat.le_of_ble_eq_true rfl⟩) preEq rfl rfl hl.1 rfl (lv_room (Nat.le_of_ble_eq_true rfl)) dX0_must_1 ⟨Nat.le_of_ble_eq_true rfl, Nat.le_of_ble_eq_true rfl⟩) ?_
    obtain ⟨r, hr8, rfl⟩ := tv_in_of (by omega) g1
    refine lv_iload_n hx hb dX0_must_4 rfl (lv_at hl 2 rfl) ?_
    cases g2 : tv_in 12 x2 with
    | false =>
      have hV1 : V = (1, 0, (rd, lv, op, nt)) := by rw [hV]; simp only [sp_must, g1, g2, Bool.and_false, Bool.false_and, Bool.and_true, Bool.true_and, Bool.and_self, sp_f, sp_tf, sp_tt]
      exact tv_callT (a := #[]) (vx_runS (As := [.int x2]) (rest := []) ⟨hx, hb, hml, hown, hts⟩ (t_X0_needPlace l hT x2 g2) (va_cwS 1 hts gX0_must_X0_needPlace rfl rfl rfl (by decide +kernel) ⟨Nat.le_of_ble_eq_true rfl, Nat.le_of_ble_eq_true rfl⟩) (tv_preT hE hS) rfl rfl hl.1 rfl (lv_room (Nat.le_of_ble_eq_true rfl)) dX0_must_5 ⟨Nat.le_of_ble_eq_true rfl, Nat.le_of_ble_eq_true rfl⟩) htab hlocks (fun t hz hk => ⟨(), by rw [hV1]; exact (by decide : (1 : Int32) ≠ 0), by rw [hV1]; rfl, hz, fun q hq _ => hk q hq⟩) (fun z h => nomatch h) (Nat.le_of_ble_eq_true rfl) (Nat.le_of_ble_eq_true rfl)
    | true =>
      refine tv_callN (W.runS (As := [.int x2]) (rest := []) ⟨hx, hb, hml, hown, hts⟩ (n_X0_needPlace l x2 g2) (va_cwS 1 hts gX0_must_X0_needPlace rfl rfl rfl (by decide +kernel) ⟨Nat.le_of_ble_eq_true rfl, Nat.le_of_ble_eq_true rfl⟩) preEq rfl rfl hl.1 rfl (lv_room (Nat.le_of_ble_eq_true rfl)) dX0_must_5 ⟨Nat.le_of_ble_eq_true rfl, Nat.le_of_ble_eq_true rfl⟩) ?_
      obtain ⟨k, hk8, rfl⟩ := tv_in_of (by omega) g2
      refine lv_iload hx hb dX0_must_8 (lv_at hl 4 rfl) ?_
      cases g3 : tv_in 4 x4 with
      | false =>
        have hV1 : V = (1, 0, (rd, lv, op, nt)) := by rw [hV]; simp only [sp_must, g1, g2, g3, Bool.and_false, Bool.false_and, Bool.and_true, Bool.true_and, Bool.and_self, sp_f, sp_tf, sp_tt]
        exact tv_callT (a := #[]) (vx_runS (As := [.int x4]) (rest := []) ⟨hx, hb, hml, hown, hts⟩ (t_X0_needGate l hT x4 g3) (va_cwS 1 hts gX0_must_X0_needGate rfl rfl rfl (by decide +kernel) ⟨Nat.le_of_ble_eq_true rfl, Nat.le_of_ble_eq_true rfl⟩) (tv_preT hE hS) rfl rfl hl.1 rfl (lv_room (Nat.le_of_ble_eq_true rfl)) dX0_must_10 ⟨Nat.le_of_ble_eq_true rfl, Nat.le_of_ble_eq_true rfl⟩) htab hlocks (fun t hz hk => ⟨(), by rw [hV1]; exact (by decide : (1 : Int32) ≠ 0), by rw [hV1]; rfl, hz, fun q hq _ => hk q hq⟩) (fun z h => nomatch h) (Nat.le_of_ble_eq_true rfl) (Nat.le_of_ble_eq_true rfl)
      | true =>
        refine tv_callN (W.runS (As := [.int x4]) (rest := []) ⟨hx, hb, hml, hown, hts⟩ (n_X0_needGate l x4 g3) (va_cwS 1 hts gX0_must_X0_needGate rfl rfl rfl (by decide +kernel) ⟨Nat.le_of_ble_eq_true rfl, Nat.le_of_ble_eq_true rfl⟩) preEq rfl rfl hl.1 rfl (lv_room (Nat.le_of_ble_eq_true rfl)) dX0_must_10 ⟨Nat.le_of_ble_eq_true rfl, Nat.le_of_ble_eq_true rfl⟩) ?_
        obtain ⟨g, hg8, rfl⟩ := tv_in_of (by omega) g3
        refine lv_iload_n hx hb dX0_must_13 rfl (lv_at hl 3 rfl) ?_
        cases g4 : tv_sg x3 with
        | false =>
          have hV1 : V = (2, 0, (rd, lv, op, nt)) := by rw [hV]; simp only [sp_must, g1, g2, g3, g4, Bool.and_false, Bool.false_and, Bool.and_true, Bool.true_and, Bool.and_self, sp_f, sp_tf, sp_tt]
          exact tv_callT (a := #[]) (vx_runS (As := [.int x3]) (rest := []) ⟨hx, hb, hml, hown, hts⟩ (t_X0_needSign l hT x3 g4) (va_cwS 1 hts gX0_must_X0_needSign rfl rfl rfl (by decide +kernel) ⟨Nat.le_of_ble_eq_true rfl, Nat.le_of_ble_eq_true rfl⟩) (tv_preT hE hS) rfl rfl hl.1 rfl (lv_room (Nat.le_of_ble_eq_true rfl)) dX0_must_14 ⟨Nat.le_of_ble_eq_true rfl, Nat.le_of_ble_eq_true rfl⟩) htab hlocks (fun t hz hk => ⟨(), by rw [hV1]; exact (by decide : (2 : Int32) ≠ 0), by rw [hV1]; rfl, hz, fun q hq _ => hk q hq⟩) (fun z h => nomatch h) (Nat.le_of_ble_eq_true rfl) (Nat.le_of_ble_eq_true rfl)
        | true =>
          refine tv_callN (W.runS (As := [.int x3]) (rest := []) ⟨hx, hb, hml, hown, hts⟩ (n_X0_needSign l x3 g4) (va_cwS 1 hts gX0_must_X0_needSign rfl rfl rfl (by decide +kernel) ⟨Nat.le_of_ble_eq_true rfl, Nat.le_of_ble_eq_true rfl⟩) preEq rfl rfl hl.1 rfl (lv_room (Nat.le_of_ble_eq_true rfl)) dX0_must_14 ⟨Nat.le_of_ble_eq_true rfl, Nat.le_of_ble_eq_true rfl⟩) ?_
          refine lv_aload_n hx hb dX0_must_17 rfl (lv_at hl 0 rfl) ?_
          refine va_get (D := D) (ci := 0) (v := .ref a1) (C := RX0) (T := TX0) (N := 4) hx hb hts iX0_must hown hK hP 0 rfl rfl 0 (by decide) (hts (.fieldLink RX0 9 "TideHouse" "readings" "[I") (by decide +kernel)) (fun _ h9 => h9) rfl dX0_must_18 ?_
          refine lv_iload_n hx hb dX0_must_21 rfl (lv_at hl 1 rfl) ?_
          refine lv_iload_n hx hb dX0_must_22 rfl (lv_at hl 2 rfl) ?_
          refine tv_callR (W.runS (As := [.int (nI r), .int (nI k)]) (rest := [.ref a1]) ⟨hx, hb, hml, hown, hts⟩ (c_X0_spot l r k) (va_cwS 2 hts gX0_must_X0_spot rfl rfl rfl (by decide +kernel) ⟨Nat.le_of_ble_eq_true rfl, Nat.le_of_ble_eq_true rfl⟩) preEq rfl rfl hl.1 rfl (lv_room (Nat.le_of_ble_eq_true rfl)) dX0_must_23 ⟨Nat.le_of_ble_eq_true rfl, Nat.le_of_ble_eq_true rfl⟩) ?_
          refine tv_iald (D := D) (cA := cI) (n := 96) (f := rd) (k := (12 * r + k)) hx hb hK hP 1 0 rfl rfl (by omega) (by omega) dX0_must_26 ?_
          refine lv_istore (lv' := [(5, .int (rd (12 * r + k))), (0, .ref h), (1, .int (nI r)), (2, .int (nI k)), (3, .int x3), (4, .int (nI g))]) hx hb dX0_must_27 hl (by decide) rfl (fun ls hl => ?_)
          refine lv_iload_n hx hb dX0_must_29 rfl (lv_at hl 4 rfl) ?_
          refine lv_iload hx hb dX0_must_30 (lv_at hl 0 rfl) ?_
          refine lv_aload_n hx hb dX0_must_32 rfl (lv_at hl 1 rfl) ?_
          refine lv_iload hx hb dX0_must_33 (lv_at hl 5 rfl) ?_
          refine lv_iload_n hx hb dX0_must_35 rfl (lv_at hl 2 rfl) ?_
          refine tv_callR (W.runV (As := [.int (nI g), .int (nI r)]) (rest := [.int (rd (12 * r + k)), .int x3]) ⟨hx, hb, hml, hown, hts⟩ (c_X0_levelFor l D cI cZ cL h a1 a2 a3 a4 rd lv op nt g r hg8 hr8) (cwV 2 hts gX0_must_X0_levelFor rfl rfl rfl (by decide +kernel) ⟨Nat.le_of_ble_eq_true rfl, Nat.le_of_ble_eq_true rfl⟩) (tv_preV hP hK rfl 0 rfl) rfl rfl hl.1 rfl (lv_room (Nat.le_of_ble_eq_true rfl)) dX0_must_36 ⟨Nat.le_of_ble_eq_true rfl, Nat.le_of_ble_eq_true rfl⟩) ?_
          refine tv_callR (W.runS (As := [.int x3, .int (rd (12 * r + k)), .int (lvl lv g r)]) (rest := []) ⟨hx, hb, hml, hown, hts⟩ (c_X0_isTrue l x3 (rd (12 * r + k)) (lvl lv g r)) (va_cwS 3 hts gX0_must_X0_isTrue rfl rfl rfl (by decide +kernel) ⟨Nat.le_of_ble_eq_true rfl, Nat.le_of_ble_eq_true rfl⟩) preEq rfl rfl hl.1 rfl (lv_room (Nat.le_of_ble_eq_true rfl)) dX0_must_39 ⟨Nat.le_of_ble_eq_true rfl, Nat.le_of_ble_eq_true rfl⟩) ?_
          refine lv_if_ne (tgt := 55) hx hb dX0_must_42 (by decide) (fun c_1 => ?_) (fun c_1 => ?_)
          · skip
            refine lv_iload hx hb dX0_must_55 (lv_at hl 0 rfl) ?_
            have hV0 : V = (0, rd (12 * r + k), (rd, lv, op, nt)) := by
              rw [hV]; simp only [sp_must, tN, nI_clamp (show r < 2 ^ 31 by omega), nI_clamp (show k < 2 ^ 31 by omega), nI_clamp (show g < 2 ^ 31 by omega), g1, g2, g3, g4, Bool.and_false, Bool.false_and, Bool.and_true, Bool.true_and, Bool.and_self, sp_f, sp_tf, sp_tt]; exact if_neg c_1
            exact tv_iretP (wf := tv_cw cI cZ h a1 a2 a3 a4) (σ := (rd, lv, op, nt)) (r := rd (12 * r + k)) hAe hV0 hx hb hr hP hK hD hS dX0_must_57 hlocks
          · have hV1 : V = (3, 0, (rd, lv, op, nt)) := by
              rw [hV]; simp only [sp_must, tN, nI_clamp (show r < 2 ^ 31 by omega), nI_clamp (show k < 2 ^ 31 by omega), nI_clamp (show g < 2 ^ 31 by omega), g1, g2, g3, g4, Bool.and_false, Bool.false_and, Bool.and_true, Bool.true_and, Bool.and_self, sp_f, sp_tf, sp_tt]; exact if_pos c_1
            exact tv_thr (cls := "java/lang/IllegalStateException") (text := "the question is not true") (ik := 73) (is := 75) (ic := 77) (A := A) hx hb hT hts hown (by decide +kernel) (by decide +kernel) (by decide +kernel) (by decide +kernel) tv_is_g tv_is_o (by decide +kernel) hE hS (hl.1.trans hml.symm) dX0_must_45 dX0_must_48 dX0_must_49 dX0_must_51 dX0_must_54 htab (Nat.le_of_ble_eq_true rfl) (Nat.le_of_ble_eq_true rfl) (Nat.le_of_ble_eq_true rfl) (Nat.le_of_ble_eq_true rfl) hlocks (fun t ht hz hk => ⟨(), by rw [hV1]; exact (by decide : (3 : Int32) ≠ 0), by rw [hV1]; rfl, hz, fun q hq _ => hk q hq⟩) (fun z h => nomatch h) (Nat.le_of_ble_eq_true rfl) (Nat.le_of_ble_eq_true rfl)
theorem iX0_straight : ∀ w ∈ wsX00, w ∈ wsX0_straight := by decide +kernel
set_option maxHeartbeats 4000000 in
set_option maxRecDepth 100000 in
theorem c_X0_straight (l : Launch) (hT : l.stackTraces = false) (D : va_G) (cI cZ cL : ClassId) (h a1 a2 a3 a4 : Nat) (rd lv op nt : Nat → Int32) (sz : Nat) (x1 x2 x3 : Int32) (V : TV) (hV : V = sp_straight x1 x2 x3 (rd, lv, op, nt)) : vx_Met l yX0_straight wsX0_straight tv_rmP (tv_PP D cI cZ cL (tv_cw cI cZ h a1 a2 a3 a4 (rd, lv, op, nt)) sz [.ref h, .int x1, .int x2, .int x3]) (tv_QP D cI cZ cL (tv_cw cI cZ h a1 a2 a3 a4) (tv_cw cI cZ h a1 a2 a3 a4 (rd, lv, op, nt)) sz V) (tv_XP V) 1 6 (va_A (tv_cw cI cZ h a1 a2 a3 a4 (rd, lv, op, nt)) sz) := by
  refine vx_ofW (cc := cX0_straight) (maxL := 7) (ret := (some .int)) (by decide) rfl ?_
  intro p e s m args below meth c s₁ B hml htab hv
  obtain ⟨rfl, hsz, hP, hK, hD0, hE⟩ := hv
  subst hsz
  have hx := B.exec
  have hb := B.bytes
  have hr := B.returns
  have hts := atoms_spec (ws := wsX0_straight) B.pre
  have hown : s.vm.findClass RX0 = some m.cls := findClass_of_methodNamed B.named
  have hlocks := B.notSynchronized
  have hD := hD0.self (sz := s.heap.size)
  obtain ⟨A, hAe⟩ : ∃ A, A = va_A (tv_cw cI cZ h a1 a2 a3 a4 (rd, lv, op, nt)) s.heap.size := ⟨_, rfl⟩
  rw [← hAe] at hD hE
  have hA : ∀ q : Nat, s.heap.size ≤ q → A q := fun q h => by rw [hAe]; exact Or.inr h
  have hS : va_S A s.heap s.heap [] := va_S.rf
  clear hD0
  have hl := lv_entry ([.ref h, .int x1, .int x2, .int x3]) (n := 7) (Nat.le_of_ble_eq_true rfl)
  rw [lg_entry_eq]
  generalize (lg_sl ([.ref h, .int x1, .int x2, .int x3]) ++ List.replicate (7 - (lg_sl ([.ref h, .int x1, .int x2, .int x3])).length) Slot.unset).toArray = ls at hl ⊢
  have hl : lv_has ls 7 [(0, .ref h), (1, .int x1), (2, .int x2), (3, .int x3)] := hl
  refine lv_iload_n hx hb dX0_straight_0 rfl (lv_at hl 1 rfl) ?_
  cases g1 : tv_in 8 x1 with
  | false =>
    have hV1 : V = (1, 0, (rd, lv, op, nt)) := by rw [hV]; simp only [sp_straight, g1, Bool.and_false, Bool.false_and, Bool.and_true, Bool.true_and, Bool.and_self, sp_f, sp_tf, sp_tt]
    exact tv_callT (a := #[]) (vx_runS (As := [.int x1]) (rest := []) ⟨hx, hb, hml, hown, hts⟩ (t_X0_needRow l hT x1 g1) (va_cwS 1 hts gX0_straight_X0_needRow rfl rfl rfl (by decide +kernel) ⟨Nat.le_of_ble_eq_true rfl, Nat.le_of_ble_eq_true rfl⟩) (tv_preT hE hS) rfl rfl hl.1 rfl (lv_room (Nat.le_of_ble_eq_true rfl)) dX0_straight_1 ⟨Nat.le_of_ble_eq_true rfl, Nat.le_of_ble_eq_true rfl⟩) htab hlocks (fun t hz hk => ⟨(), by rw [hV1]; exact (by decide : (1 : Int32) ≠ 0), by rw [hV1]; rfl, hz, fun q hq _ => hk q hq⟩) (fun z h => nomatch h) (Nat.le_of_ble_eq_true rfl) (Nat.le_of_ble_eq_true rfl)
  | true =>
    refine tv_callN (W.runS (As := [.int x1]) (rest := []) ⟨hx, hb, hml, hown, hts⟩ (n_X0_needRow l x1 g1) (va_cwS 1 hts gX0_straight_X0_needRow rfl rfl rfl (by decide +kernel) ⟨Nat.le_of_ble_eq_true rfl, Nat.le_of_ble_eq_true rfl⟩) preEq rfl rfl hl.1 rfl (lv_room (Nat.le_of_ble_eq_true rfl)) dX0_straight_1 ⟨Nat.le_of_ble_eq_true rfl, Nat.le_of_ble_eq_true rfl⟩) ?_
    obtain ⟨r, hr8, rfl⟩ := tv_in_of (by omega) g1
    refine lv_iload_n hx hb dX0_straight_4 rfl (lv_at hl 3 rfl) ?_
    cases g2 : tv_in 4 x3 with
    | false =>
      have hV1 : V = (1, 0, (rd, lv, op, nt)) := by rw [hV]; simp only [sp_straight, g1, g2, Bool.and_false, Bool.false_and, Bool.and_true, Bool.true_and, Bool.and_self, sp_f, sp_tf, sp_tt]
      exact tv_callT (a := #[]) (vx_runS (As := [.int x3]) (rest := []) ⟨hx, hb, hml, hown, hts⟩ (t_X0_needGate l hT x3 g2) (va_cwS 1 hts gX0_straight_X0_needGate rfl rfl rfl (by decide +kernel) ⟨Nat.le_of_ble_eq_true rfl, Nat.le_of_ble_eq_true rfl⟩) (tv_preT hE hS) rfl rfl hl.1 rfl (lv_room (Nat.le_of_ble_eq_true rfl)) dX0_straight_5 ⟨Nat.le_of_ble_eq_true rfl, Nat.le_of_ble_eq_true rfl⟩) htab hlocks (fun t hz hk => ⟨(), by rw [hV1]; exact (by decide : (1 : Int32) ≠ 0), by rw [hV1]; rfl, hz, fun q hq _ => hk q hq⟩) (fun z h => nomatch h) (Nat.le_of_ble_eq_true rfl) (Nat.le_of_ble_eq_true rfl)
    | true =>
      refine tv_callN (W.runS (As := [.int x3]) (rest := []) ⟨hx, hb, hml, hown, hts⟩ (n_X0_needGate l x3 g2) (va_cwS 1 hts gX0_straight_X0_needGate rfl rfl rfl (by decide +kernel) ⟨Nat.le_of_ble_eq_true rfl, Nat.le_of_ble_eq_true rfl⟩) preEq rfl rfl hl.1 rfl (lv_room (Nat.le_of_ble_eq_true rfl)) dX0_straight_5 ⟨Nat.le_of_ble_eq_true rfl, Nat.le_of_ble_eq_true rfl⟩) ?_
      obtain ⟨g, hg8, rfl⟩ := tv_in_of (by omega) g2
      refine lv_iload_n hx hb dX0_straight_8 rfl (lv_at hl 2 rfl) ?_
      cases g3 : tv_sg x2 with
      | false =>
        have hV1 : V = (2, 0, (rd, lv, op, nt)) := by rw [hV]; simp only [sp_straight, g1, g2, g3, Bool.and_false, Bool.false_and, Bool.and_true, Bool.true_and, Bool.and_self, sp_f, sp_tf, sp_tt]
        exact tv_callT (a := #[]) (vx_runS (As := [.int x2]) (rest := []) ⟨hx, hb, hml, hown, hts⟩ (t_X0_needSign l hT x2 g3) (va_cwS 1 hts gX0_straight_X0_needSign rfl rfl rfl (by decide +kernel) ⟨Nat.le_of_ble_eq_true rfl, Nat.le_of_ble_eq_true rfl⟩) (tv_preT hE hS) rfl rfl hl.1 rfl (lv_room (Nat.le_of_ble_eq_true rfl)) dX0_straight_9 ⟨Nat.le_of_ble_eq_true rfl, Nat.le_of_ble_eq_true rfl⟩) htab hlocks (fun t hz hk => ⟨(), by rw [hV1]; exact (by decide : (2 : Int32) ≠ 0), by rw [hV1]; rfl, hz, fun q hq _ => hk q hq⟩) (fun z h => nomatch h) (Nat.le_of_ble_eq_true rfl) (Nat.le_of_ble_eq_true rfl)
      | true =>
        refine tv_callN (W.runS (As := [.int x2]) (rest := []) ⟨hx, hb, hml, hown, hts⟩ (n_X0_needSign l x2 g3) (va_cwS 1 hts gX0_straight_X0_needSign rfl rfl rfl (by decide +kernel) ⟨Nat.le_of_ble_eq_true rfl, Nat.le_of_ble_eq_true rfl⟩) preEq rfl rfl hl.1 rfl (lv_room (Nat.le_of_ble_eq_true rfl)) dX0_straight_9 ⟨Nat.le_of_ble_eq_true rfl, Nat.le_of_ble_eq_true rfl⟩) ?_
        refine lv_aload_n hx hb dX0_straight_12 rfl (lv_at hl 0 rfl) ?_
        refine lv_iload_n hx hb dX0_straight_13 rfl (lv_at hl 3 rfl) ?_
        refine lv_iload_n hx hb dX0_straight_14 rfl (lv_at hl 1 rfl) ?_
        refine tv_callR (W.runV (As := [.int (nI g), .int (nI r)]) (rest := []) ⟨hx, hb, hml, hown, hts⟩ (c_X0_levelFor l D cI cZ cL h a1 a2 a3 a4 rd lv op nt g r hg8 hr8) (cwV 2 hts gX0_straight_X0_levelFor rfl rfl rfl (by decide +kernel) ⟨Nat.le_of_ble_eq_true rfl, Nat.le_of_ble_eq_true rfl⟩) (tv_preV hP hK rfl 0 rfl) rfl rfl hl.1 rfl (lv_room (Nat.le_of_ble_eq_true rfl)) dX0_straight_15 ⟨Nat.le_of_ble_eq_true rfl, Nat.le_of_ble_eq_true rfl⟩) ?_
        refine lv_istore (lv' := [(4, .int (lvl lv g r)), (0, .ref h), (1, .int (nI r)), (2, .int x2), (3, .int (nI g))]) hx hb dX0_straight_18 hl (by decide) rfl (fun ls hl => ?_)
        refine lv_iconst (v := 0) hx hb dX0_straight_20 (by decide) ?_
        refine lv_istore (lv' := [(5, .int 0), (4, .int (lvl lv g r)), (0, .ref h), (1, .int (nI r)), (2, .int x2), (3, .int (nI g))]) hx hb dX0_straight_21 hl (by decide) rfl (fun ls hl => ?_)
        refine lv_iconst (v := 0) hx hb dX0_straight_23 (by decide) ?_
        refine lv_istore (lv' := [(6, .int 0), (5, .int 0), (4, .int (lvl lv g r)), (0, .ref h), (1, .int (nI r)), (2, .int x2), (3, .int (nI g))]) hx hb dX0_straight_24 hl (by decide) rfl (fun ls hl => ?_)
        have hV0 : V = (0, cn (fun k => tq x2 (rw12 rd r k) (lvl lv g r)) 12, (rd, lv, op, nt)) := by
          rw [hV]; simp only [sp_straight, tN, nI_clamp (show r < 2 ^ 31 by omega), nI_clamp (show g < 2 ^ 31 by omega), g1, g2, g3, Bool.and_false, Bool.false_and, Bool.and_true, Bool.true_and, Bool.and_self, sp_f, sp_tf, sp_tt]
        have loop : ∀ (n k : Nat), k + n = 12 → ∀ ls : Array Slot, lv_has ls 7 [(0, .ref h), (1, .int (nI r)), (2, .int x2), (4, .int (lvl lv g r)), (5, .int (cn (fun k => tq x2 (rw12 rd r k) (lvl lv g r)) k)), (6, .int (nI k))] → W p l e (headSpec wsX0_straight tv_rmP).room s m ([.ref h, .int (nI r), .int x2, .int (nI g)] : List Value).toArray below meth c s.heap [] 0 0 (vx_MQ below (tv_QP D cI cZ cL (tv_cw cI cZ h a1 a2 a3 a4) (tv_cw cI cZ h a1 a2 a3 a4 (rd, lv, op, nt)) s.heap.size V) (tv_XP V) ([.ref h, .int (nI r), .int x2, .int (nI g)] : List Value).toArray s 1 6 (va_A (tv_cw cI cZ h a1 a2 a3 a4 (rd, lv, op, nt)) s.heap.size)) (F0 m 26 ls []) := by
          intro n
          induction n with
          | zero =>
            intro k hk ls hl
            have hk2 : k = 12 := by omega
            subst hk2
            refine lv_iload hx hb dX0_straight_26 (lv_at hl 5 rfl) ?_
            refine lv_bipush (v := 12) hx hb dX0_straight_28 (by decide) ?_
            refine lv_icmp_ge (tgt := 62) hx hb dX0_straight_30 (by decide) (fun c_1 => ?_) (fun c_1 => ?_)
            · skip
              refine lv_iload hx hb dX0_straight_62 (lv_at hl 4 rfl) ?_
              exact tv_iretP (wf := tv_cw cI cZ h a1 a2 a3 a4) (σ := (rd, lv, op, nt)) (r := cn (fun k => tq x2 (rw12 rd r k) (lvl lv g r)) 12) hAe hV0 hx hb hr hP hK hD hS dX0_straight_64 hlocks
            · exact absurd (show nI 12 ≤ nI 12 from nI_le (Nat.le_refl _) (by omega)) c_1
          | succ n ih =>
            intro k hk ls hl
            refine lv_iload hx hb dX0_straight_26 (lv_at hl 5 rfl) ?_
            refine lv_bipush (v := 12) hx hb dX0_straight_28 (by decide) ?_
            refine lv_icmp_ge (tgt := 62) hx hb dX0_straight_30 (by decide) (fun c_2 => ?_) (fun c_2 => ?_)
            · exact absurd (show nI 12 ≤ nI k from c_2) (nI_ge (by omega) (by omega))
            · skip
              refine lv_iload_n hx hb dX0_straight_33 rfl (lv_at hl 2 rfl) ?_
              refine lv_aload_n hx hb dX0_straight_34 rfl (lv_at hl 0 rfl) ?_
              refine va_get (D := D) (ci := 0) (v := .ref a1) (C := RX0) (T := TX0) (N := 4) hx hb hts iX0_straight hown hK hP 0 rfl rfl 0 (by decide) (hts (.fieldLink RX0 9 "TideHouse" "readings" "[I") (by decide +kernel)) (fun _ h9 => h9) rfl dX0_straight_35 ?_
              refine lv_iload_n hx hb dX0_straight_38 rfl (lv_at hl 1 rfl) ?_
              refine lv_iload hx hb dX0_straight_39 (lv_at hl 5 rfl) ?_
              refine tv_callR (W.runS (As := [.int (nI r), .int (nI k)]) (rest := [.ref a1, .int x2]) ⟨hx, hb, hml, hown, hts⟩ (c_X0_spot l r k) (va_cwS 2 hts gX0_straight_X0_spot rfl rfl rfl (by decide +kernel) ⟨Nat.le_of_ble_eq_true rfl, Nat.le_of_ble_eq_true rfl⟩) preEq rfl rfl hl.1 rfl (lv_room (Nat.le_of_ble_eq_true rfl)) dX0_straight_41 ⟨Nat.le_of_ble_eq_true rfl, Nat.le_of_ble_eq_true rfl⟩) ?_
              refine tv_iald (D := D) (cA := cI) (n := 96) (f := rd) (k := (12 * r + k)) hx hb hK hP 1 0 rfl rfl (by omega) (by omega) dX0_straight_44 ?_
              refine lv_iload hx hb dX0_straight_45 (lv_at hl 3 rfl) ?_
              refine tv_callR (W.runS (As := [.int x2, .int (rd (12 * r + k)), .int (lvl lv g r)]) (rest := []) ⟨hx, hb, hml, hown, hts⟩ (c_X0_isTrue l x2 (rd (12 * r + k)) (lvl lv g r)) (va_cwS 3 hts gX0_straight_X0_isTrue rfl rfl rfl (by decide +kernel) ⟨Nat.le_of_ble_eq_true rfl, Nat.le_of_ble_eq_true rfl⟩) preEq rfl rfl hl.1 rfl (lv_room (Nat.le_of_ble_eq_true rfl)) dX0_straight_47 ⟨Nat.le_of_ble_eq_true rfl, Nat.le_of_ble_eq_true rfl⟩) ?_
              refine lv_if_eq (tgt := 56) hx hb dX0_straight_50 (by decide) (fun c_3 => ?_) (fun c_3 => ?_)
              · skip
                refine lv_iinc (v := nI (k + 1)) (lv' := [(6, .int (nI (k + 1))), (0, .ref h), (1, .int (nI r)), (2, .int x2), (4, .int (lvl lv g r)), (5, .int (cn (fun k => tq x2 (rw12 rd r k) (lvl lv g r)) k))]) hx hb dX0_straight_56 hl (k := 5) rfl (nI_1 k) (by decide) rfl (fun ls hl => ?_)
                refine lv_goto (tgt := 26) hx hb dX0_straight_59 (by decide) ?_
                exact ih (k + 1) (by omega) ls (by rw [show cn (fun k => tq x2 (rw12 rd r k) (lvl lv g r)) (k + 1) = cn (fun k => tq x2 (rw12 rd r k) (lvl lv g r)) k from cn_s0 c_3]; exact lv_sub hl [1, 2, 3, 4, 5, 0] rfl)
              · skip
                refine lv_iinc (v := cn (fun k => tq x2 (rw12 rd r k) (lvl lv g r)) k + 1) (lv' := [(5, .int (cn (fun k => tq x2 (rw12 rd r k) (lvl lv g r)) k + 1)), (0, .ref h), (1, .int (nI r)), (2, .int x2), (4, .int (lvl lv g r)), (6, .int (nI k))]) hx hb dX0_straight_53 hl (k := 4) rfl (rfl) (by decide) rfl (fun ls hl => ?_)
                refine lv_iinc (v := nI (k + 1)) (lv' := [(6, .int (nI (k + 1))), (5, .int (cn (fun k => tq x2 (rw12 rd r k) (lvl lv g r)) k + 1)), (0, .ref h), (1, .int (nI r)), (2, .int x2), (4, .int (lvl lv g r))]) hx hb dX0_straight_56 hl (k := 5) rfl (nI_1 k) (by decide) rfl (fun ls hl => ?_)
                refine lv_goto (tgt := 26) hx hb dX0_straight_59 (by decide) ?_
                exact ih (k + 1) (by omega) ls (by rw [show cn (fun k => tq x2 (rw12 rd r k) (lvl lv g r)) (k + 1) = cn (fun k => tq x2 (rw12 rd r k) (lvl lv g r)) k + 1 from cn_s1 (tq1 c_3)]; exact lv_sub hl [2, 3, 4, 5, 1, 0] rfl)
        exact loop 12 0 (by omega) ls (by rw [show cn (fun k => tq x2 (rw12 rd r k) (lvl lv g r)) 0 = 0 from rfl, show nI 0 = 0 from nI_0]; exact lv_sub hl [3, 4, 5, 2, 1, 0] rfl)
theorem iX0_turned : ∀ w ∈ wsX00, w ∈ wsX0_turned := by decide +kernel
set_option maxHeartbeats 4000000 in
set_option maxRecDepth 100000 in
theorem c_X0_turned (l : Launch) (hT : l.stackTraces = false) (D : va_G) (cI cZ cL : ClassId) (h a1 a2 a3 a4 : Nat) (rd lv op nt : Nat → Int32) (sz : Nat) (x1 x2 x3 : Int32) (V : TV) (hV : V = sp_turned x1 x2 x3 (rd, lv, op, nt)) : vx_Met l yX0_turned wsX0_turned tv_rmP (tv_PP D cI cZ cL (tv_cw cI cZ h a1 a2 a3 a4 (rd, lv, op, nt)) sz [.ref h, .int x1, .int x2, .int x3]) (tv_QP D cI cZ cL (tv_cw cI cZ h a1 a2 a3 a4) (tv_cw cI cZ h a1 a2 a3 a4 (rd, lv, op, nt)) sz V) (tv_XP V) 1 6 (va_A (tv_cw cI cZ h a1 a2 a3 a4 (rd, lv, op, nt)) sz) := by
  refine vx_ofW (cc := cX0_turned) (maxL := 7) (ret := (some .int)) (by decide) rfl ?_
  intro p e s m args below meth c s₁ B hml htab hv
  obtain ⟨rfl, hsz, hP, hK, hD0, hE⟩ := hv
  subst hsz
  have hx := B.exec
  have hb := B.bytes
  have hr := B.returns
  have hts := atoms_spec (ws := wsX0_turned) B.pre
  have hown : s.vm.findClass RX0 = some m.cls := findClass_of_methodNamed B.named
  have hlocks := B.notSynchronized
  have hD := hD0.self (sz := s.heap.size)
  obtain ⟨A, hAe⟩ : ∃ A, A = va_A (tv_cw cI cZ h a1 a2 a3 a4 (rd, lv, op, nt)) s.heap.size := ⟨_, rfl⟩
  rw [← hAe] at hD hE
  have hA : ∀ q : Nat, s.heap.size ≤ q → A q := fun q h => by rw [hAe]; exact Or.inr h
  have hS : va_S A s.heap s.heap [] := va_S.rf
  clear hD0
  have hl := lv_entry ([.ref h, .int x1, .int x2, .int x3]) (n := 7) (Nat.le_of_ble_eq_true rfl)
  rw [lg_entry_eq]
  generalize (lg_sl ([.ref h, .int x1, .int x2, .int x3]) ++ List.replicate (7 - (lg_sl ([.ref h, .int x1, .int x2, .int x3])).length) Slot.unset).toArray = ls at hl ⊢
  have hl : lv_has ls 7 [(0, .ref h), (1, .int x1), (2, .int x2), (3, .int x3)] := hl
  refine lv_iload_n hx hb dX0_turned_0 rfl (lv_at hl 1 rfl) ?_
  cases g1 : tv_in 8 x1 with
  | false =>
    have hV1 : V = (1, 0, (rd, lv, op, nt)) := by rw [hV]; simp only [sp_turned, g1, Bool.and_false, Bool.false_and, Bool.and_true, Bool.true_and, Bool.and_self, sp_f, sp_tf, sp_tt]
    exact tv_callT (a := #[]) (vx_runS (As := [.int x1]) (rest := []) ⟨hx, hb, hml, hown, hts⟩ (t_X0_needRow l hT x1 g1) (va_cwS 1 hts gX0_turned_X0_needRow rfl rfl rfl (by decide +kernel) ⟨Nat.le_of_ble_eq_true rfl, Nat.le_of_ble_eq_true rfl⟩) (tv_preT hE hS) rfl rfl hl.1 rfl (lv_room (Nat.le_of_ble_eq_true rfl)) dX0_turned_1 ⟨Nat.le_of_ble_eq_true rfl, Nat.le_of_ble_eq_true rfl⟩) htab hlocks (fun t hz hk => ⟨(), by rw [hV1]; exact (by decide : (1 : Int32) ≠ 0), by rw [hV1]; rfl, hz, fun q hq _ => hk q hq⟩) (fun z h => nomatch h) (Nat.le_of_ble_eq_true rfl) (Nat.le_of_ble_eq_true rfl)
  | true =>
    refine tv_callN (W.runS (As := [.int x1]) (rest := []) ⟨hx, hb, hml, hown, hts⟩ (n_X0_needRow l x1 g1) (va_cwS 1 hts gX0_turned_X0_needRow rfl rfl rfl (by decide +kernel) ⟨Nat.le_of_ble_eq_true rfl, Nat.le_of_ble_eq_true rfl⟩) preEq rfl rfl hl.1 rfl (lv_room (Nat.le_of_ble_eq_true rfl)) dX0_turned_1 ⟨Nat.le_of_ble_eq_true rfl, Nat.le_of_ble_eq_true rfl⟩) ?_
    obtain ⟨r, hr8, rfl⟩ := tv_in_of (by omega) g1
    refine lv_iload_n hx hb dX0_turned_4 rfl (lv_at hl 3 rfl) ?_
    cases g2 : tv_in 4 x3 with
    | false =>
      have hV1 : V = (1, 0, (rd, lv, op, nt)) := by rw [hV]; simp only [sp_turned, g1, g2, Bool.and_false, Bool.false_and, Bool.and_true, Bool.true_and, Bool.and_self, sp_f, sp_tf, sp_tt]
      exact tv_callT (a := #[]) (vx_runS (As := [.int x3]) (rest := []) ⟨hx, hb, hml, hown, hts⟩ (t_X0_needGate l hT x3 g2) (va_cwS 1 hts gX0_turned_X0_needGate rfl rfl rfl (by decide +kernel) ⟨Nat.le_of_ble_eq_true rfl, Nat.le_of_ble_eq_true rfl⟩) (tv_preT hE hS) rfl rfl hl.1 rfl (lv_room (Nat.le_of_ble_eq_true rfl)) dX0_turned_5 ⟨Nat.le_of_ble_eq_true rfl, Nat.le_of_ble_eq_true rfl⟩) htab hlocks (fun t hz hk => ⟨(), by rw [hV1]; exact (by decide : (1 : Int32) ≠ 0), by rw [hV1]; rfl, hz, fun q hq _ => hk q hq⟩) (fun z h => nomatch h) (Nat.le_of_ble_eq_true rfl) (Nat.le_of_ble_eq_true rfl)
    | true =>
      refine tv_callN (W.runS (As := [.int x3]) (rest := []) ⟨hx, hb, hml, hown, hts⟩ (n_X0_needGate l x3 g2) (va_cwS 1 hts gX0_turned_X0_needGate rfl rfl rfl (by decide +kernel) ⟨Nat.le_of_ble_eq_true rfl, Nat.le_of_ble_eq_true rfl⟩) preEq rfl rfl hl.1 rfl (lv_room (Nat.le_of_ble_eq_true rfl)) dX0_turned_5 ⟨Nat.le_of_ble_eq_true rfl, Nat.le_of_ble_eq_true rfl⟩) ?_
      obtain ⟨g, hg8, rfl⟩ := tv_in_of (by omega) g2
      refine lv_iload_n hx hb dX0_turned_8 rfl (lv_at hl 2 rfl) ?_
      cases g3 : tv_sg x2 with
      | false =>
        have hV1 : V = (2, 0, (rd, lv, op, nt)) := by rw [hV]; simp only [sp_turned, g1, g2, g3, Bool.and_false, Bool.false_and, Bool.and_true, Bool.true_and, Bool.and_self, sp_f, sp_tf, sp_tt]
        exact tv_callT (a := #[]) (vx_runS (As := [.int x2]) (rest := []) ⟨hx, hb, hml, hown, hts⟩ (t_X0_needSign l hT x2 g3) (va_cwS 1 hts gX0_turned_X0_needSign rfl rfl rfl (by decide +kernel) ⟨Nat.le_of_ble_eq_true rfl, Nat.le_of_ble_eq_true rfl⟩) (tv_preT hE hS) rfl rfl hl.1 rfl (lv_room (Nat.le_of_ble_eq_true rfl)) dX0_turned_9 ⟨Nat.le_of_ble_eq_true rfl, Nat.le_of_ble_eq_true rfl⟩) htab hlocks (fun t hz hk => ⟨(), by rw [hV1]; exact (by decide : (2 : Int32) ≠ 0), by rw [hV1]; rfl, hz, fun q hq _ => hk q hq⟩) (fun z h => nomatch h) (Nat.le_of_ble_eq_true rfl) (Nat.le_of_ble_eq_true rfl)
      | true =>
        refine tv_callN (W.runS (As := [.int x2]) (rest := []) ⟨hx, hb, hml, hown, hts⟩ (n_X0_needSign l x2 g3) (va_cwS 1 hts gX0_turned_X0_needSign rfl rfl rfl (by decide +kernel) ⟨Nat.le_of_ble_eq_true rfl, Nat.le_of_ble_eq_true rfl⟩) preEq rfl rfl hl.1 rfl (lv_room (Nat.le_of_ble_eq_true rfl)) dX0_turned_9 ⟨Nat.le_of_ble_eq_true rfl, Nat.le_of_ble_eq_true rfl⟩) ?_
        refine lv_aload_n hx hb dX0_turned_12 rfl (lv_at hl 0 rfl) ?_
        refine lv_iload_n hx hb dX0_turned_13 rfl (lv_at hl 3 rfl) ?_
        refine lv_iload_n hx hb dX0_turned_14 rfl (lv_at hl 1 rfl) ?_
        refine tv_callR (W.runV (As := [.int (nI g), .int (nI r)]) (rest := []) ⟨hx, hb, hml, hown, hts⟩ (c_X0_levelFor l D cI cZ cL h a1 a2 a3 a4 rd lv op nt g r hg8 hr8) (cwV 2 hts gX0_turned_X0_levelFor rfl rfl rfl (by decide +kernel) ⟨Nat.le_of_ble_eq_true rfl, Nat.le_of_ble_eq_true rfl⟩) (tv_preV hP hK rfl 0 rfl) rfl rfl hl.1 rfl (lv_room (Nat.le_of_ble_eq_true rfl)) dX0_turned_15 ⟨Nat.le_of_ble_eq_true rfl, Nat.le_of_ble_eq_true rfl⟩) ?_
        refine lv_istore (lv' := [(4, .int (lvl lv g r)), (0, .ref h), (1, .int (nI r)), (2, .int x2), (3, .int (nI g))]) hx hb dX0_turned_18 hl (by decide) rfl (fun ls hl => ?_)
        refine lv_iconst (v := 0) hx hb dX0_turned_20 (by decide) ?_
        refine lv_istore (lv' := [(5, .int 0), (4, .int (lvl lv g r)), (0, .ref h), (1, .int (nI r)), (2, .int x2), (3, .int (nI g))]) hx hb dX0_turned_21 hl (by decide) rfl (fun ls hl => ?_)
        refine lv_iconst (v := 0) hx hb dX0_turned_23 (by decide) ?_
        refine lv_istore (lv' := [(6, .int 0), (5, .int 0), (4, .int (lvl lv g r)), (0, .ref h), (1, .int (nI r)), (2, .int x2), (3, .int (nI g))]) hx hb dX0_turned_24 hl (by decide) rfl (fun ls hl => ?_)
        have hV0 : V = (0, cn (fun k => if tq x2 (lvl lv g r) (rw12 rd r k) = 0 then 1 else 0) 12, (rd, lv, op, nt)) := by
          rw [hV]; simp only [sp_turned, tN, nI_clamp (show r < 2 ^ 31 by omega), nI_clamp (show g < 2 ^ 31 by omega), g1, g2, g3, Bool.and_false, Bool.false_and, Bool.and_true, Bool.true_and, Bool.and_self, sp_f, sp_tf, sp_tt]
        have loop : ∀ (n k : Nat), k + n = 12 → ∀ ls : Array Slot, lv_has ls 7 [(0, .ref h), (1, .int (nI r)), (2, .int x2), (4, .int (lvl lv g r)), (5, .int (cn (fun k => if tq x2 (lvl lv g r) (rw12 rd r k) = 0 then 1 else 0) k)), (6, .int (nI k))] → W p l e (headSpec wsX0_turned tv_rmP).room s m ([.ref h, .int (nI r), .int x2, .int (nI g)] : List Value).toArray below meth c s.heap [] 0 0 (vx_MQ below (tv_QP D cI cZ cL (tv_cw cI cZ h a1 a2 a3 a4) (tv_cw cI cZ h a1 a2 a3 a4 (rd, lv, op, nt)) s.heap.size V) (tv_XP V) ([.ref h, .int (nI r), .int x2, .int (nI g)] : List Value).toArray s 1 6 (va_A (tv_cw cI cZ h a1 a2 a3 a4 (rd, lv, op, nt)) s.heap.size)) (F0 m 26 ls []) := by
          intro n
          induction n with
          | zero =>
            intro k hk ls hl
            have hk2 : k = 12 := by omega
            subst hk2
            refine lv_iload hx hb dX0_turned_26 (lv_at hl 5 rfl) ?_
            refine lv_bipush (v := 12) hx hb dX0_turned_28 (by decide) ?_
            refine lv_icmp_ge (tgt := 62) hx hb dX0_turned_30 (by decide) (fun c_1 => ?_) (fun c_1 => ?_)
            · skip
              refine lv_iload hx hb dX0_turned_62 (lv_at hl 4 rfl) ?_
              exact tv_iretP (wf := tv_cw cI cZ h a1 a2 a3 a4) (σ := (rd, lv, op, nt)) (r := cn (fun k => if tq x2 (lvl lv g r) (rw12 rd r k) = 0 then 1 else 0) 12) hAe hV0 hx hb hr hP hK hD hS dX0_turned_64 hlocks
            · exact absurd (show nI 12 ≤ nI 12 from nI_le (Nat.le_refl _) (by omega)) c_1
          | succ n ih =>
            intro k hk ls hl
            refine lv_iload hx hb dX0_turned_26 (lv_at hl 5 rfl) ?_
            refine lv_bipush (v := 12) hx hb dX0_turned_28 (by decide) ?_
            refine lv_icmp_ge (tgt := 62) hx hb dX0_turned_30 (by decide) (fun c_2 => ?_) (fun c_2 => ?_)
            · exact absurd (show nI 12 ≤ nI k from c_2) (nI_ge (by omega) (by omega))
            · skip
              refine lv_iload_n hx hb dX0_turned_33 rfl (lv_at hl 2 rfl) ?_
              refine lv_iload hx hb dX0_turned_34 (lv_at hl 3 rfl) ?_
              refine lv_aload_n hx hb dX0_turned_36 rfl (lv_at hl 0 rfl) ?_
              refine va_get (D := D) (ci := 0) (v := .ref a1) (C := RX0) (T := TX0) (N := 4) hx hb hts iX0_turned hown hK hP 0 rfl rfl 0 (by decide) (hts (.fieldLink RX0 9 "TideHouse" "readings" "[I") (by decide +kernel)) (fun _ h9 => h9) rfl dX0_turned_37 ?_
              refine lv_iload_n hx hb dX0_turned_40 rfl (lv_at hl 1 rfl) ?_
              refine lv_iload hx hb dX0_turned_41 (lv_at hl 5 rfl) ?_
              refine tv_callR (W.runS (As := [.int (nI r), .int (nI k)]) (rest := [.ref a1, .int (lvl lv g r), .int x2]) ⟨hx, hb, hml, hown, hts⟩ (c_X0_spot l r k) (va_cwS 2 hts gX0_turned_X0_spot rfl rfl rfl (by decide +kernel) ⟨Nat.le_of_ble_eq_true rfl, Nat.le_of_ble_eq_true rfl⟩) preEq rfl rfl hl.1 rfl (lv_room (Nat.le_of_ble_eq_true rfl)) dX0_turned_43 ⟨Nat.le_of_ble_eq_true rfl, Nat.le_of_ble_eq_true rfl⟩) ?_
              refine tv_iald (D := D) (cA := cI) (n := 96) (f := rd) (k := (12 * r + k)) hx hb hK hP 1 0 rfl rfl (by omega) (by omega) dX0_turned_46 ?_
              refine tv_callR (W.runS (As := [.int x2, .int (lvl lv g r), .int (rd (12 * r + k))]) (rest := []) ⟨hx, hb, hml, hown, hts⟩ (c_X0_isTrue l x2 (lvl lv g r) (rd (12 * r + k))) (va_cwS 3 hts gX0_turned_X0_isTrue rfl rfl rfl (by decide +kernel) ⟨Nat.le_of_ble_eq_true rfl, Nat.le_of_ble_eq_true rfl⟩) preEq rfl rfl hl.1 rfl (lv_room (Nat.le_of_ble_eq_true rfl)) dX0_turned_47 ⟨Nat.le_of_ble_eq_true rfl, Nat.le_of_ble_eq_true rfl⟩) ?_
              refine lv_if_ne (tgt := 56) hx hb dX0_turned_50 (by decide) (fun c_3 => ?_) (fun c_3 => ?_)
              · skip
                refine lv_iinc (v := nI (k + 1)) (lv' := [(6, .int (nI (k + 1))), (0, .ref h), (1, .int (nI r)), (2, .int x2), (4, .int (lvl lv g r)), (5, .int (cn (fun k => if tq x2 (lvl lv g r) (rw12 rd r k) = 0 then 1 else 0) k))]) hx hb dX0_turned_56 hl (k := 5) rfl (nI_1 k) (by decide) rfl (fun ls hl => ?_)
                refine lv_goto (tgt := 26) hx hb dX0_turned_59 (by decide) ?_
                exact ih (k + 1) (by omega) ls (by rw [show cn (fun k => if tq x2 (lvl lv g r) (rw12 rd r k) = 0 then 1 else 0) (k + 1) = cn (fun k => if tq x2 (lvl lv g r) (rw12 rd r k) = 0 then 1 else 0) k from cn_s0 (if_neg c_3)]; exact lv_sub hl [1, 2, 3, 4, 5, 0] rfl)
              · skip
                refine lv_iinc (v := cn (fun k => if tq x2 (lvl lv g r) (rw12 rd r k) = 0 then 1 else 0) k + 1) (lv' := [(5, .int (cn (fun k => if tq x2 (lvl lv g r) (rw12 rd r k) = 0 then 1 else 0) k + 1)), (0, .ref h), (1, .int (nI r)), (2, .int x2), (4, .int (lvl lv g r)), (6, .int (nI k))]) hx hb dX0_turned_53 hl (k := 4) rfl (rfl) (by decide) rfl (fun ls hl => ?_)
                refine lv_iinc (v := nI (k + 1)) (lv' := [(6, .int (nI (k + 1))), (5, .int (cn (fun k => if tq x2 (lvl lv g r) (rw12 rd r k) = 0 then 1 else 0) k + 1)), (0, .ref h), (1, .int (nI r)), (2, .int x2), (4, .int (lvl lv g r))]) hx hb dX0_turned_56 hl (k := 5) rfl (nI_1 k) (by decide) rfl (fun ls hl => ?_)
                refine lv_goto (tgt := 26) hx hb dX0_turned_59 (by decide) ?_
                exact ih (k + 1) (by omega) ls (by rw [show cn (fun k => if tq x2 (lvl lv g r) (rw12 rd r k) = 0 then 1 else 0) (k + 1) = cn (fun k => if tq x2 (lvl lv g r) (rw12 rd r k) = 0 then 1 else 0) k + 1 from cn_s1 (if_pos c_3)]; exact lv_sub hl [2, 3, 4, 5, 1, 0] rfl)
        exact loop 12 0 (by omega) ls (by rw [show cn (fun k => if tq x2 (lvl lv g r) (rw12 rd r k) = 0 then 1 else 0) 0 = 0 from rfl, show nI 0 = 0 from nI_0]; exact lv_sub hl [3, 4, 5, 2, 1, 0] rfl)
theorem iX0_meet : ∀ w ∈ wsX00, w ∈ wsX0_meet := by decide +kernel
set_option maxHeartbeats 4000000 in
set_option maxRecDepth 100000 in
theorem c_X0_meet (l : Launch) (hT : l.stackTraces = false) (D : va_G) (cI cZ cL : ClassId) (h a1 a2 a3 a4 : Nat) (rd lv op nt : Nat → Int32) (sz : Nat) (x1 x2 x3 : Int32) (V : TV) (hV : V = sp_meet x1 x2 x3 (rd, lv, op, nt)) : vx_Met l yX0_meet wsX0_meet tv_rmP (tv_PP D cI cZ cL (tv_cw cI cZ h a1 a2 a3 a4 (rd, lv, op, nt)) sz [.ref h, .int x1, .int x2, .int x3]) (tv_QP D cI cZ cL (tv_cw cI cZ h a1 a2 a3 a4) (tv_cw cI cZ h a1 a2 a3 a4 (rd, lv, op, nt)) sz V) (tv_XP V) 1 6 (va_A (tv_cw cI cZ h a1 a2 a3 a4 (rd, lv, op, nt)) sz) := by
  refine vx_ofW (cc := cX0_meet) (maxL := 6) (ret := (some .int)) (by decide) rfl ?_
  intro p e s m args below meth c s₁ B hml htab hv
  obtain ⟨rfl, hsz, hP, hK, hD0, hE⟩ := hv
  subst hsz
  have hx := B.exec
  have hb := B.bytes
  have hr := B.returns
  have hts := atoms_spec (ws := wsX0_meet) B.pre
  have hown : s.vm.findClass RX0 = some m.cls := findClass_of_methodNamed B.named
  have hlocks := B.notSynchronized
  have hD := hD0.self (sz := s.heap.size)
  obtain ⟨A, hAe⟩ : ∃ A, A = va_A (tv_cw cI cZ h a1 a2 a3 a4 (rd, lv, op, nt)) s.heap.size := ⟨_, rfl⟩
  rw [← hAe] at hD hE
  have hA : ∀ q : Nat, s.heap.size ≤ q → A q := fun q h => by rw [hAe]; exact Or.inr h
  have hS : va_S A s.heap s.heap [] := va_S.rf
  clear hD0
  have hl := lv_entry ([.ref h, .int x1, .int x2, .int x3]) (n := 6) (Nat.le_of_ble_eq_true rfl)
  rw [lg_entry_eq]
  generalize (lg_sl ([.ref h, .int x1, .int x2, .int x3]) ++ List.replicate (6 - (lg_sl ([.ref h, .int x1, .int x2, .int x3])).length) Slot.unset).toArray = ls at hl ⊢
  have hl : lv_has ls 6 [(0, .ref h), (1, .int x1), (2, .int x2), (3, .int x3)] := hl
  refine lv_iload_n hx hb dX0_meet_0 rfl (lv_at hl 1 rfl) ?_
  cases g1 : tv_in 8 x1 with
  | false =>
    have hV1 : V = (1, 0, (rd, lv, op, nt)) := by rw [hV]; simp only [sp_meet, g1, Bool.and_false, Bool.false_and, Bool.and_true, Bool.true_and, Bool.and_self, sp_f, sp_tf, sp_tt]
    exact tv_callT (a := #[]) (vx_runS (As := [.int x1]) (rest := []) ⟨hx, hb, hml, hown, hts⟩ (t_X0_needRow l hT x1 g1) (va_cwS 1 hts gX0_meet_X0_needRow rfl rfl rfl (by decide +kernel) ⟨Nat.le_of_ble_eq_true rfl, Nat.le_of_ble_eq_true rfl⟩) (tv_preT hE hS) rfl rfl hl.1 rfl (lv_room (Nat.le_of_ble_eq_true rfl)) dX0_meet_1 ⟨Nat.le_of_ble_eq_true rfl, Nat.le_of_ble_eq_true rfl⟩) htab hlocks (fun t hz hk => ⟨(), by rw [hV1]; exact (by decide : (1 : Int32) ≠ 0), by rw [hV1]; rfl, hz, fun q hq _ => hk q hq⟩) (fun z h => nomatch h) (Nat.le_of_ble_eq_true rfl) (Nat.le_of_ble_eq_true rfl)
  | true =>
    refine tv_callN (W.runS (As := [.int x1]) (rest := []) ⟨hx, hb, hml, hown, hts⟩ (n_X0_needRow l x1 g1) (va_cwS 1 hts gX0_meet_X0_needRow rfl rfl rfl (by decide +kernel) ⟨Nat.le_of_ble_eq_true rfl, Nat.le_of_ble_eq_true rfl⟩) preEq rfl rfl hl.1 rfl (lv_room (Nat.le_of_ble_eq_true rfl)) dX0_meet_1 ⟨Nat.le_of_ble_eq_true rfl, Nat.le_of_ble_eq_true rfl⟩) ?_
    obtain ⟨r, hr8, rfl⟩ := tv_in_of (by omega) g1
    refine lv_iload_n hx hb dX0_meet_4 rfl (lv_at hl 2 rfl) ?_
    cases g2 : tv_in 8 x2 with
    | false =>
      have hV1 : V = (1, 0, (rd, lv, op, nt)) := by rw [hV]; simp only [sp_meet, g1, g2, Bool.and_false, Bool.false_and, Bool.and_true, Bool.true_and, Bool.and_self, sp_f, sp_tf, sp_tt]
      exact tv_callT (a := #[]) (vx_runS (As := [.int x2]) (rest := []) ⟨hx, hb, hml, hown, hts⟩ (t_X0_needRow l hT x2 g2) (va_cwS 1 hts gX0_meet_X0_needRow rfl rfl rfl (by decide +kernel) ⟨Nat.le_of_ble_eq_true rfl, Nat.le_of_ble_eq_true rfl⟩) (tv_preT hE hS) rfl rfl hl.1 rfl (lv_room (Nat.le_of_ble_eq_true rfl)) dX0_meet_5 ⟨Nat.le_of_ble_eq_true rfl, Nat.le_of_ble_eq_true rfl⟩) htab hlocks (fun t hz hk => ⟨(), by rw [hV1]; exact (by decide : (1 : Int32) ≠ 0), by rw [hV1]; rfl, hz, fun q hq _ => hk q hq⟩) (fun z h => nomatch h) (Nat.le_of_ble_eq_true rfl) (Nat.le_of_ble_eq_true rfl)
    | true =>
      refine tv_callN (W.runS (As := [.int x2]) (rest := []) ⟨hx, hb, hml, hown, hts⟩ (n_X0_needRow l x2 g2) (va_cwS 1 hts gX0_meet_X0_needRow rfl rfl rfl (by decide +kernel) ⟨Nat.le_of_ble_eq_true rfl, Nat.le_of_ble_eq_true rfl⟩) preEq rfl rfl hl.1 rfl (lv_room (Nat.le_of_ble_eq_true rfl)) dX0_meet_5 ⟨Nat.le_of_ble_eq_true rfl, Nat.le_of_ble_eq_true rfl⟩) ?_
      obtain ⟨q, hq8, rfl⟩ := tv_in_of (by omega) g2
      refine lv_iload_n hx hb dX0_meet_8 rfl (lv_at hl 3 rfl) ?_
      cases g3 : tv_sg x3 with
      | false =>
        have hV1 : V = (2, 0, (rd, lv, op, nt)) := by rw [hV]; simp only [sp_meet, g1, g2, g3, Bool.and_false, Bool.false_and, Bool.and_true, Bool.true_and, Bool.and_self, sp_f, sp_tf, sp_tt]
        exact tv_callT (a := #[]) (vx_runS (As := [.int x3]) (rest := []) ⟨hx, hb, hml, hown, hts⟩ (t_X0_needSign l hT x3 g3) (va_cwS 1 hts gX0_meet_X0_needSign rfl rfl rfl (by decide +kernel) ⟨Nat.le_of_ble_eq_true rfl, Nat.le_of_ble_eq_true rfl⟩) (tv_preT hE hS) rfl rfl hl.1 rfl (lv_room (Nat.le_of_ble_eq_true rfl)) dX0_meet_9 ⟨Nat.le_of_ble_eq_true rfl, Nat.le_of_ble_eq_true rfl⟩) htab hlocks (fun t hz hk => ⟨(), by rw [hV1]; exact (by decide : (2 : Int32) ≠ 0), by rw [hV1]; rfl, hz, fun q hq _ => hk q hq⟩) (fun z h => nomatch h) (Nat.le_of_ble_eq_true rfl) (Nat.le_of_ble_eq_true rfl)
      | true =>
        refine tv_callN (W.runS (As := [.int x3]) (rest := []) ⟨hx, hb, hml, hown, hts⟩ (n_X0_needSign l x3 g3) (va_cwS 1 hts gX0_meet_X0_needSign rfl rfl rfl (by decide +kernel) ⟨Nat.le_of_ble_eq_true rfl, Nat.le_of_ble_eq_true rfl⟩) preEq rfl rfl hl.1 rfl (lv_room (Nat.le_of_ble_eq_true rfl)) dX0_meet_9 ⟨Nat.le_of_ble_eq_true rfl, Nat.le_of_ble_eq_true rfl⟩) ?_
        refine lv_iload_n hx hb dX0_meet_12 rfl (lv_at hl 1 rfl) ?_
        refine lv_iload_n hx hb dX0_meet_13 rfl (lv_at hl 2 rfl) ?_
        cases g4 : tv_os (nI r) (nI q) with
        | false =>
          have hV1 : V = (2, 0, (rd, lv, op, nt)) := by rw [hV]; simp only [sp_meet, g1, g2, g3, g4, Bool.and_false, Bool.false_and, Bool.and_true, Bool.true_and, Bool.and_self, sp_f, sp_tf, sp_tt]
          exact tv_callT (a := #[]) (vx_runS (As := [.int (nI r), .int (nI q)]) (rest := []) ⟨hx, hb, hml, hown, hts⟩ (t_X0_needOneSort l hT r q g4 hr8 hq8) (va_cwS 2 hts gX0_meet_X0_needOneSort rfl rfl rfl (by decide +kernel) ⟨Nat.le_of_ble_eq_true rfl, Nat.le_of_ble_eq_true rfl⟩) (tv_preT hE hS) rfl rfl hl.1 rfl (lv_room (Nat.le_of_ble_eq_true rfl)) dX0_meet_14 ⟨Nat.le_of_ble_eq_true rfl, Nat.le_of_ble_eq_true rfl⟩) htab hlocks (fun t hz hk => ⟨(), by rw [hV1]; exact (by decide : (2 : Int32) ≠ 0), by rw [hV1]; rfl, hz, fun q hq _ => hk q hq⟩) (fun z h => nomatch h) (Nat.le_of_ble_eq_true rfl) (Nat.le_of_ble_eq_true rfl)
        | true =>
          refine tv_callN (W.runS (As := [.int (nI r), .int (nI q)]) (rest := []) ⟨hx, hb, hml, hown, hts⟩ (n_X0_needOneSort l r q g4 hr8 hq8) (va_cwS 2 hts gX0_meet_X0_needOneSort rfl rfl rfl (by decide +kernel) ⟨Nat.le_of_ble_eq_true rfl, Nat.le_of_ble_eq_true rfl⟩) preEq rfl rfl hl.1 rfl (lv_room (Nat.le_of_ble_eq_true rfl)) dX0_meet_14 ⟨Nat.le_of_ble_eq_true rfl, Nat.le_of_ble_eq_true rfl⟩) ?_
          refine lv_iconst (v := 0) hx hb dX0_meet_17 (by decide) ?_
          refine lv_istore (lv' := [(4, .int 0), (0, .ref h), (1, .int (nI r)), (2, .int (nI q)), (3, .int x3)]) hx hb dX0_meet_18 hl (by decide) rfl (fun ls hl => ?_)
          refine lv_iconst (v := 0) hx hb dX0_meet_20 (by decide) ?_
          refine lv_istore (lv' := [(5, .int 0), (4, .int 0), (0, .ref h), (1, .int (nI r)), (2, .int (nI q)), (3, .int x3)]) hx hb dX0_meet_21 hl (by decide) rfl (fun ls hl => ?_)
          have hV0 : V = (0, cn (fun k => tq x3 (rw12 rd r k) (rw12 rd q k)) 12, (rd, lv, op, nt)) := by
            rw [hV]; simp only [sp_meet, tN, nI_clamp (show r < 2 ^ 31 by omega), nI_clamp (show q < 2 ^ 31 by omega), g1, g2, g3, g4, Bool.and_false, Bool.false_and, Bool.and_true, Bool.true_and, Bool.and_self, sp_f, sp_tf, sp_tt]
          have loop : ∀ (n k : Nat), k + n = 12 → ∀ ls : Array Slot, lv_has ls 6 [(0, .ref h), (1, .int (nI r)), (2, .int (nI q)), (3, .int x3), (4, .int (cn (fun k => tq x3 (rw12 rd r k) (rw12 rd q k)) k)), (5, .int (nI k))] → W p l e (headSpec wsX0_meet tv_rmP).room s m ([.ref h, .int (nI r), .int (nI q), .int x3] : List Value).toArray below meth c s.heap [] 0 0 (vx_MQ below (tv_QP D cI cZ cL (tv_cw cI cZ h a1 a2 a3 a4) (tv_cw cI cZ h a1 a2 a3 a4 (rd, lv, op, nt)) s.heap.size V) (tv_XP V) ([.ref h, .int (nI r), .int (nI q), .int x3] : List Value).toArray s 1 6 (va_A (tv_cw cI cZ h a1 a2 a3 a4 (rd, lv, op, nt)) s.heap.size)) (F0 m 23 ls []) := by
            intro n
            induction n with
            | zero =>
              intro k hk ls hl
              have hk2 : k = 12 := by omega
              subst hk2
              refine lv_iload hx hb dX0_meet_23 (lv_at hl 5 rfl) ?_
              refine lv_bipush (v := 12) hx hb dX0_meet_25 (by decide) ?_
              refine lv_icmp_ge (tgt := 68) hx hb dX0_meet_27 (by decide) (fun c_1 => ?_) (fun c_1 => ?_)
              · skip
                refine lv_iload hx hb dX0_meet_68 (lv_at hl 4 rfl) ?_
                exact tv_iretP (wf := tv_cw cI cZ h a1 a2 a3 a4) (σ := (rd, lv, op, nt)) (r := cn (fun k => tq x3 (rw12 rd r k) (rw12 rd q k)) 12) hAe hV0 hx hb hr hP hK hD hS dX0_meet_70 hlocks
              · exact absurd (show nI 12 ≤ nI 12 from nI_le (Nat.le_refl _) (by omega)) c_1
            | succ n ih =>
              intro k hk ls hl
              refine lv_iload hx hb dX0_meet_23 (lv_at hl 5 rfl) ?_
              refine lv_bipush (v := 12) hx hb dX0_meet_25 (by decide) ?_
              refine lv_icmp_ge (tgt := 68) hx hb dX0_meet_27 (by decide) (fun c_2 => ?_) (fun c_2 => ?_)
              · exact absurd (show nI 12 ≤ nI k from c_2) (nI_ge (by omega) (by omega))
              · skip
                refine lv_iload_n hx hb dX0_meet_30 rfl (lv_at hl 3 rfl) ?_
                refine lv_aload_n hx hb dX0_meet_31 rfl (lv_at hl 0 rfl) ?_
                refine va_get (D := D) (ci := 0) (v := .ref a1) (C := RX0) (T := TX0) (N := 4) hx hb hts iX0_meet hown hK hP 0 rfl rfl 0 (by decide) (hts (.fieldLink RX0 9 "TideHouse" "readings" "[I") (by decide +kernel)) (fun _ h9 => h9) rfl dX0_meet_32 ?_
                refine lv_iload_n hx hb dX0_meet_35 rfl (lv_at hl 1 rfl) ?_
                refine lv_iload hx hb dX0_meet_36 (lv_at hl 5 rfl) ?_
                refine tv_callR (W.runS (As := [.int (nI r), .int (nI k)]) (rest := [.ref a1, .int x3]) ⟨hx, hb, hml, hown, hts⟩ (c_X0_spot l r k) (va_cwS 2 hts gX0_meet_X0_spot rfl rfl rfl (by decide +kernel) ⟨Nat.le_of_ble_eq_true rfl, Nat.le_of_ble_eq_true rfl⟩) preEq rfl rfl hl.1 rfl (lv_room (Nat.le_of_ble_eq_true rfl)) dX0_meet_38 ⟨Nat.le_of_ble_eq_true rfl, Nat.le_of_ble_eq_true rfl⟩) ?_
                refine tv_iald (D := D) (cA := cI) (n := 96) (f := rd) (k := (12 * r + k)) hx hb hK hP 1 0 rfl rfl (by omega) (by omega) dX0_meet_41 ?_
                refine lv_aload_n hx hb dX0_meet_42 rfl (lv_at hl 0 rfl) ?_
                refine va_get (D := D) (ci := 0) (v := .ref a1) (C := RX0) (T := TX0) (N := 4) hx hb hts iX0_meet hown hK hP 0 rfl rfl 0 (by decide) (hts (.fieldLink RX0 9 "TideHouse" "readings" "[I") (by decide +kernel)) (fun _ h9 => h9) rfl dX0_meet_43 ?_
                refine lv_iload_n hx hb dX0_meet_46 rfl (lv_at hl 2 rfl) ?_
                refine lv_iload hx hb dX0_meet_47 (lv_at hl 5 rfl) ?_
                refine tv_callR (W.runS (As := [.int (nI q), .int (nI k)]) (rest := [.ref a1, .int (rd (12 * r + k)), .int x3]) ⟨hx, hb, hml, hown, hts⟩ (c_X0_spot l q k) (va_cwS 2 hts gX0_meet_X0_spot rfl rfl rfl (by decide +kernel) ⟨Nat.le_of_ble_eq_true rfl, Nat.le_of_ble_eq_true rfl⟩) preEq rfl rfl hl.1 rfl (lv_room (Nat.le_of_ble_eq_true rfl)) dX0_meet_49 ⟨Nat.le_of_ble_eq_true rfl, Nat.le_of_ble_eq_true rfl⟩) ?_
                refine tv_iald (D := D) (cA := cI) (n := 96) (f := rd) (k := (12 * q + k)) hx hb hK hP 1 0 rfl rfl (by omega) (by omega) dX0_meet_52 ?_
                refine tv_callR (W.runS (As := [.int x3, .int (rd (12 * r + k)), .int (rd (12 * q + k))]) (rest := []) ⟨hx, hb, hml, hown, hts⟩ (c_X0_isTrue l x3 (rd (12 * r + k)) (rd (12 * q + k))) (va_cwS 3 hts gX0_meet_X0_isTrue rfl rfl rfl (by decide +kernel) ⟨Nat.le_of_ble_eq_true rfl, Nat.le_of_ble_eq_true rfl⟩) preEq rfl rfl hl.1 rfl (lv_room (Nat.le_of_ble_eq_true rfl)) dX0_meet_53 ⟨Nat.le_of_ble_eq_true rfl, Nat.le_of_ble_eq_true rfl⟩) ?_
                refine lv_if_eq (tgt := 62) hx hb dX0_meet_56 (by decide) (fun c_3 => ?_) (fun c_3 => ?_)
                · skip
                  refine lv_iinc (v := nI (k + 1)) (lv' := [(5, .int (nI (k + 1))), (0, .ref h), (1, .int (nI r)), (2, .int (nI q)), (3, .int x3), (4, .int (cn (fun k => tq x3 (rw12 rd r k) (rw12 rd q k)) k))]) hx hb dX0_meet_62 hl (k := 5) rfl (nI_1 k) (by decide) rfl (fun ls hl => ?_)
                  refine lv_goto (tgt := 23) hx hb dX0_meet_65 (by decide) ?_
                  exact ih (k + 1) (by omega) ls (by rw [show cn (fun k => tq x3 (rw12 rd r k) (rw12 rd q k)) (k + 1) = cn (fun k => tq x3 (rw12 rd r k) (rw12 rd q k)) k from cn_s0 c_3]; exact lv_sub hl [1, 2, 3, 4, 5, 0] rfl)
                · skip
                  refine lv_iinc (v := cn (fun k => tq x3 (rw12 rd r k) (rw12 rd q k)) k + 1) (lv' := [(4, .int (cn (fun k => tq x3 (rw12 rd r k) (rw12 rd q k)) k + 1)), (0, .ref h), (1, .int (nI r)), (2, .int (nI q)), (3, .int x3), (5, .int (nI k))]) hx hb dX0_meet_59 hl (k := 4) rfl (rfl) (by decide) rfl (fun ls hl => ?_)
                  refine lv_iinc (v := nI (k + 1)) (lv' := [(5, .int (nI (k + 1))), (4, .int (cn (fun k => tq x3 (rw12 rd r k) (rw12 rd q k)) k + 1)), (0, .ref h), (1, .int (nI r)), (2, .int (nI q)), (3, .int x3)]) hx hb dX0_meet_62 hl (k := 5) rfl (nI_1 k) (by decide) rfl (fun ls hl => ?_)
                  refine lv_goto (tgt := 23) hx hb dX0_meet_65 (by decide) ?_
                  exact ih (k + 1) (by omega) ls (by rw [show cn (fun k => tq x3 (rw12 rd r k) (rw12 rd q k)) (k + 1) = cn (fun k => tq x3 (rw12 rd r k) (rw12 rd q k)) k + 1 from cn_s1 (tq1 c_3)]; exact lv_sub hl [2, 3, 4, 5, 1, 0] rfl)
          exact loop 12 0 (by omega) ls (by rw [show cn (fun k => tq x3 (rw12 rd r k) (rw12 rd q k)) 0 = 0 from rfl, show nI 0 = 0 from nI_0]; exact lv_sub hl [2, 3, 4, 5, 1, 0] rfl)
theorem iX0_between : ∀ w ∈ wsX00, w ∈ wsX0_between := by decide +kernel
set_option maxHeartbeats 4000000 in
set_option maxRecDepth 100000 in
theorem c_X0_between (l : Launch) (hT : l.stackTraces = false) (D : va_G) (cI cZ cL : ClassId) (h a1 a2 a3 a4 : Nat) (rd lv op nt : Nat → Int32) (sz : Nat) (x1 x2 x3 : Int32) (V : TV) (hV : V = sp_between x1 x2 x3 (rd, lv, op, nt)) : vx_Met l yX0_between wsX0_between tv_rmP (tv_PP D cI cZ cL (tv_cw cI cZ h a1 a2 a3 a4 (rd, lv, op, nt)) sz [.ref h, .int x1, .int x2, .int x3]) (tv_QP D cI cZ cL (tv_cw cI cZ h a1 a2 a3 a4) (tv_cw cI cZ h a1 a2 a3 a4 (rd, lv, op, nt)) sz V) (tv_XP V) 1 6 (va_A (tv_cw cI cZ h a1 a2 a3 a4 (rd, lv, op, nt)) sz) := by
  refine vx_ofW (cc := cX0_between) (maxL := 10) (ret := (some .int)) (by decide) rfl ?_
  intro p e s m args below meth c s₁ B hml htab hv
  obtain ⟨rfl, hsz, hP, hK, hD0, hE⟩ := hv
  subst hsz
  have hx := B.exec
  have hb := B.bytes
  have hr := B.returns
  have hts := atoms_spec (ws := wsX0_between) B.pre
  have hown : s.vm.findClass RX0 = some m.cls := findClass_of_methodNamed B.named
  have hlocks := B.notSynchronized
  have hD := hD0.self (sz := s.heap.size)
  obtain ⟨A, hAe⟩ : ∃ A, A = va_A (tv_cw cI cZ h a1 a2 a3 a4 (rd, lv, op, nt)) s.heap.size := ⟨_, rfl⟩
  rw [← hAe] at hD hE
  have hA : ∀ q : Nat, s.heap.size ≤ q → A q := fun q h => by rw [hAe]; exact Or.inr h
  have hS : va_S A s.heap s.heap [] := va_S.rf
  clear hD0
  have hl := lv_entry ([.ref h, .int x1, .int x2, .int x3]) (n := 10) (Nat.le_of_ble_eq_true rfl)
  rw [lg_entry_eq]
  generalize (lg_sl ([.ref h, .int x1, .int x2, .int x3]) ++ List.replicate (10 - (lg_sl ([.ref h, .int x1, .int x2, .int x3])).length) Slot.unset).toArray = ls at hl ⊢
  have hl : lv_has ls 10 [(0, .ref h), (1, .int x1), (2, .int x2), (3, .int x3)] := hl
  refine lv_iload_n hx hb dX0_between_0 rfl (lv_at hl 1 rfl) ?_
  cases g1 : tv_in 8 x1 with
  | false =>
    have hV1 : V = (1, 0, (rd, lv, op, nt)) := by rw [hV]; simp only [sp_between, g1, Bool.and_false, Bool.false_and, Bool.and_true, Bool.true_and, Bool.and_self, sp_f, sp_tf, sp_tt]
    exact tv_callT (a := #[]) (vx_runS (As := [.int x1]) (rest := []) ⟨hx, hb, hml, hown, hts⟩ (t_X0_needRow l hT x1 g1) (va_cwS 1 hts gX0_between_X0_needRow rfl rfl rfl (by decide +kernel) ⟨Nat.le_of_ble_eq_true rfl, Nat.le_of_ble_eq_true rfl⟩) (tv_preT hE hS) rfl rfl hl.1 rfl (lv_room (Nat.le_of_ble_eq_true rfl)) dX0_between_1 ⟨Nat.le_of_ble_eq_true rfl, Nat.le_of_ble_eq_true rfl⟩) htab hlocks (fun t hz hk => ⟨(), by rw [hV1]; exact (by decide : (1 : Int32) ≠ 0), by rw [hV1]; rfl, hz, fun q hq _ => hk q hq⟩) (fun z h => nomatch h) (Nat.le_of_ble_eq_true rfl) (Nat.le_of_ble_eq_true rfl)
  | true =>
    refine tv_callN (W.runS (As := [.int x1]) (rest := []) ⟨hx, hb, hml, hown, hts⟩ (n_X0_needRow l x1 g1) (va_cwS 1 hts gX0_between_X0_needRow rfl rfl rfl (by decide +kernel) ⟨Nat.le_of_ble_eq_true rfl, Nat.le_of_ble_eq_true rfl⟩) preEq rfl rfl hl.1 rfl (lv_room (Nat.le_of_ble_eq_true rfl)) dX0_between_1 ⟨Nat.le_of_ble_eq_true rfl, Nat.le_of_ble_eq_true rfl⟩) ?_
    obtain ⟨r, hr8, rfl⟩ := tv_in_of (by omega) g1
    refine lv_iload_n hx hb dX0_between_4 rfl (lv_at hl 2 rfl) ?_
    cases g2 : tv_in 4 x2 with
    | false =>
      have hV1 : V = (1, 0, (rd, lv, op, nt)) := by rw [hV]; simp only [sp_between, g1, g2, Bool.and_false, Bool.false_and, Bool.and_true, Bool.true_and, Bool.and_self, sp_f, sp_tf, sp_tt]
      exact tv_callT (a := #[]) (vx_runS (As := [.int x2]) (rest := []) ⟨hx, hb, hml, hown, hts⟩ (t_X0_needGate l hT x2 g2) (va_cwS 1 hts gX0_between_X0_needGate rfl rfl rfl (by decide +kernel) ⟨Nat.le_of_ble_eq_true rfl, Nat.le_of_ble_eq_true rfl⟩) (tv_preT hE hS) rfl rfl hl.1 rfl (lv_room (Nat.le_of_ble_eq_true rfl)) dX0_between_5 ⟨Nat.le_of_ble_eq_true rfl, Nat.le_of_ble_eq_true rfl⟩) htab hlocks (fun t hz hk => ⟨(), by rw [hV1]; exact (by decide : (1 : Int32) ≠ 0), by rw [hV1]; rfl, hz, fun q hq _ => hk q hq⟩) (fun z h => nomatch h) (Nat.le_of_ble_eq_true rfl) (Nat.le_of_ble_eq_true rfl)
    | true =>
      refine tv_callN (W.runS (As := [.int x2]) (rest := []) ⟨hx, hb, hml, hown, hts⟩ (n_X0_needGate l x2 g2) (va_cwS 1 hts gX0_between_X0_needGate rfl rfl rfl (by decide +kernel) ⟨Nat.le_of_ble_eq_true rfl, Nat.le_of_ble_eq_true rfl⟩) preEq rfl rfl hl.1 rfl (lv_room (Nat.le_of_ble_eq_true rfl)) dX0_between_5 ⟨Nat.le_of_ble_eq_true rfl, Nat.le_of_ble_eq_true rfl⟩) ?_
      obtain ⟨g, hg8, rfl⟩ := tv_in_of (by omega) g2
      refine lv_iload_n hx hb dX0_between_8 rfl (lv_at hl 3 rfl) ?_
      cases g3 : tv_in 4 x3 with
      | false =>
        have hV1 : V = (1, 0, (rd, lv, op, nt)) := by rw [hV]; simp only [sp_between, g1, g2, g3, Bool.and_false, Bool.false_and, Bool.and_true, Bool.true_and, Bool.and_self, sp_f, sp_tf, sp_tt]
        exact tv_callT (a := #[]) (vx_runS (As := [.int x3]) (rest := []) ⟨hx, hb, hml, hown, hts⟩ (t_X0_needGate l hT x3 g3) (va_cwS 1 hts gX0_between_X0_needGate rfl rfl rfl (by decide +kernel) ⟨Nat.le_of_ble_eq_true rfl, Nat.le_of_ble_eq_true rfl⟩) (tv_preT hE hS) rfl rfl hl.1 rfl (lv_room (Nat.le_of_ble_eq_true rfl)) dX0_between_9 ⟨Nat.le_of_ble_eq_true rfl, Nat.le_of_ble_eq_true rfl⟩) htab hlocks (fun t hz hk => ⟨(), by rw [hV1]; exact (by decide : (1 : Int32) ≠ 0), by rw [hV1]; rfl, hz, fun q hq _ => hk q hq⟩) (fun z h => nomatch h) (Nat.le_of_ble_eq_true rfl) (Nat.le_of_ble_eq_true rfl)
      | true =>
        refine tv_callN (W.runS (As := [.int x3]) (rest := []) ⟨hx, hb, hml, hown, hts⟩ (n_X0_needGate l x3 g3) (va_cwS 1 hts gX0_between_X0_needGate rfl rfl rfl (by decide +kernel) ⟨Nat.le_of_ble_eq_true rfl, Nat.le_of_ble_eq_true rfl⟩) preEq rfl rfl hl.1 rfl (lv_room (Nat.le_of_ble_eq_true rfl)) dX0_between_9 ⟨Nat.le_of_ble_eq_true rfl, Nat.le_of_ble_eq_true rfl⟩) ?_
        obtain ⟨u, hu8, rfl⟩ := tv_in_of (by omega) g3
        refine lv_aload_n hx hb dX0_between_12 rfl (lv_at hl 0 rfl) ?_
        refine lv_iload_n hx hb dX0_between_13 rfl (lv_at hl 2 rfl) ?_
        refine lv_iload_n hx hb dX0_between_14 rfl (lv_at hl 1 rfl) ?_
        refine tv_callR (W.runV (As := [.int (nI g), .int (nI r)]) (rest := []) ⟨hx, hb, hml, hown, hts⟩ (c_X0_levelFor l D cI cZ cL h a1 a2 a3 a4 rd lv op nt g r hg8 hr8) (cwV 2 hts gX0_between_X0_levelFor rfl rfl rfl (by decide +kernel) ⟨Nat.le_of_ble_eq_true rfl, Nat.le_of_ble_eq_true rfl⟩) (tv_preV hP hK rfl 0 rfl) rfl rfl hl.1 rfl (lv_room (Nat.le_of_ble_eq_true rfl)) dX0_between_15 ⟨Nat.le_of_ble_eq_true rfl, Nat.le_of_ble_eq_true rfl⟩) ?_
        refine lv_istore (lv' := [(4, .int (lvl lv g r)), (0, .ref h), (1, .int (nI r)), (2, .int (nI g)), (3, .int (nI u))]) hx hb dX0_between_18 hl (by decide) rfl (fun ls hl => ?_)
        refine lv_aload_n hx hb dX0_between_20 rfl (lv_at hl 1 rfl) ?_
        refine lv_iload_n hx hb dX0_between_21 rfl (lv_at hl 4 rfl) ?_
        refine lv_iload_n hx hb dX0_between_22 rfl (lv_at hl 2 rfl) ?_
        refine tv_callR (W.runV (As := [.int (nI u), .int (nI r)]) (rest := []) ⟨hx, hb, hml, hown, hts⟩ (c_X0_levelFor l D cI cZ cL h a1 a2 a3 a4 rd lv op nt u r hu8 hr8) (cwV 2 hts gX0_between_X0_levelFor rfl rfl rfl (by decide +kernel) ⟨Nat.le_of_ble_eq_true rfl, Nat.le_of_ble_eq_true rfl⟩) (tv_preV hP hK rfl 0 rfl) rfl rfl hl.1 rfl (lv_room (Nat.le_of_ble_eq_true rfl)) dX0_between_23 ⟨Nat.le_of_ble_eq_true rfl, Nat.le_of_ble_eq_true rfl⟩) ?_
        refine lv_istore (lv' := [(5, .int (lvl lv u r)), (4, .int (lvl lv g r)), (0, .ref h), (1, .int (nI r)), (2, .int (nI g)), (3, .int (nI u))]) hx hb dX0_between_26 hl (by decide) rfl (fun ls hl => ?_)
        refine lv_iconst (v := 0) hx hb dX0_between_28 (by decide) ?_
        refine lv_istore (lv' := [(6, .int 0), (5, .int (lvl lv u r)), (4, .int (lvl lv g r)), (0, .ref h), (1, .int (nI r)), (2, .int (nI g)), (3, .int (nI u))]) hx hb dX0_between_29 hl (by decide) rfl (fun ls hl => ?_)
        refine lv_iconst (v := 0) hx hb dX0_between_31 (by decide) ?_
        refine lv_istore (lv' := [(7, .int 0), (6, .int 0), (5, .int (lvl lv u r)), (4, .int (lvl lv g r)), (0, .ref h), (1, .int (nI r)), (2, .int (nI g)), (3, .int (nI u))]) hx hb dX0_between_32 hl (by decide) rfl (fun ls hl => ?_)
        refine lv_iconst (v := 0) hx hb dX0_between_34 (by decide) ?_
        refine lv_istore (lv' := [(8, .int 0), (7, .int 0), (6, .int 0), (5, .int (lvl lv u r)), (4, .int (lvl lv g r)), (0, .ref h), (1, .int (nI r)), (2, .int (nI g)), (3, .int (nI u))]) hx hb dX0_between_35 hl (by decide) rfl (fun ls hl => ?_)
        have hV0 : V = (0, 16 * cn (fun k => bt1 (rw12 rd r k) (lvl lv g r) (lvl lv u r)) 12 + cn (fun k => bt2 (rw12 rd r k) (lvl lv g r) (lvl lv u r)) 12, (rd, lv, op, nt)) := by
          rw [hV]; simp only [sp_between, tN, nI_clamp (show r < 2 ^ 31 by omega), nI_clamp (show g < 2 ^ 31 by omega), nI_clamp (show u < 2 ^ 31 by omega), g1, g2, g3, Bool.and_false, Bool.false_and, Bool.and_true, Bool.true_and, Bool.and_self, sp_f, sp_tf, sp_tt]
        have loop : ∀ (n k : Nat), k + n = 12 → ∀ ls : Array Slot, lv_has ls 10 [(0, .ref h), (1, .int (nI r)), (4, .int (lvl lv g r)), (5, .int (lvl lv u r)), (6, .int (cn (fun k => bt1 (rw12 rd r k) (lvl lv g r) (lvl lv u r)) k)), (7, .int (cn (fun k => bt2 (rw12 rd r k) (lvl lv g r) (lvl lv u r)) k)), (8, .int (nI k))] → W p l e (headSpec wsX0_between tv_rmP).room s m ([.ref h, .int (nI r), .int (nI g), .int (nI u)] : List Value).toArray below meth c s.heap [] 0 0 (vx_MQ below (tv_QP D cI cZ cL (tv_cw cI cZ h a1 a2 a3 a4) (tv_cw cI cZ h a1 a2 a3 a4 (rd, lv, op, nt)) s.heap.size V) (tv_XP V) ([.ref h, .int (nI r), .int (nI g), .int (nI u)] : List Value).toArray s 1 6 (va_A (tv_cw cI cZ h a1 a2 a3 a4 (rd, lv, op, nt)) s.heap.size)) (F0 m 37 ls []) := by
          intro n
          induction n with
          | zero =>
            intro k hk ls hl
            have hk2 : k = 12 := by omega
            subst hk2
            refine lv_iload hx hb dX0_between_37 (lv_at hl 6 rfl) ?_
            refine lv_bipush (v := 12) hx hb dX0_between_39 (by decide) ?_
            refine lv_icmp_ge (tgt := 113) hx hb dX0_between_41 (by decide) (fun c_1 => ?_) (fun c_1 => ?_)
            · skip
              refine lv_bipush (v := 16) hx hb dX0_between_113 (by decide) ?_
              refine lv_iload hx hb dX0_between_115 (lv_at hl 4 rfl) ?_
              refine lv_imul hx hb dX0_between_117 ?_
              refine lv_iload hx hb dX0_between_118 (lv_at hl 5 rfl) ?_
              refine lv_iadd hx hb dX0_between_120 ?_
              exact tv_iretP (wf := tv_cw cI cZ h a1 a2 a3 a4) (σ := (rd, lv, op, nt)) (r := (16 * (cn (fun k => bt1 (rw12 rd r k) (lvl lv g r) (lvl lv u r)) 12)) + (cn (fun k => bt2 (rw12 rd r k) (lvl lv g r) (lvl lv u r)) 12)) hAe hV0 hx hb hr hP hK hD hS dX0_between_121 hlocks
            · exact absurd (show nI 12 ≤ nI 12 from nI_le (Nat.le_refl _) (by omega)) c_1
          | succ n ih =>
            intro k hk ls hl
            refine lv_iload hx hb dX0_between_37 (lv_at hl 6 rfl) ?_
            refine lv_bipush (v := 12) hx hb dX0_between_39 (by decide) ?_
            refine lv_icmp_ge (tgt := 113) hx hb dX0_between_41 (by decide) (fun c_2 => ?_) (fun c_2 => ?_)
            · exact absurd (show nI 12 ≤ nI k from c_2) (nI_ge (by omega) (by omega))
            · skip
              refine lv_aload_n hx hb dX0_between_44 rfl (lv_at hl 0 rfl) ?_
              refine va_get (D := D) (ci := 0) (v := .ref a1) (C := RX0) (T := TX0) (N := 4) hx hb hts iX0_between hown hK hP 0 rfl rfl 0 (by decide) (hts (.fieldLink RX0 9 "TideHouse" "readings" "[I") (by decide +kernel)) (fun _ h9 => h9) rfl dX0_between_45 ?_
              refine lv_iload_n hx hb dX0_between_48 rfl (lv_at hl 1 rfl) ?_
              refine lv_iload hx hb dX0_between_49 (lv_at hl 6 rfl) ?_
              refine tv_callR (W.runS (As := [.int (nI r), .int (nI k)]) (rest := [.ref a1]) ⟨hx, hb, hml, hown, hts⟩ (c_X0_spot l r k) (va_cwS 2 hts gX0_between_X0_spot rfl rfl rfl (by decide +kernel) ⟨Nat.le_of_ble_eq_true rfl, Nat.le_of_ble_eq_true rfl⟩) preEq rfl rfl hl.1 rfl (lv_room (Nat.le_of_ble_eq_true rfl)) dX0_between_51 ⟨Nat.le_of_ble_eq_true rfl, Nat.le_of_ble_eq_true rfl⟩) ?_
              refine tv_iald (D := D) (cA := cI) (n := 96) (f := rd) (k := (12 * r + k)) hx hb hK hP 1 0 rfl rfl (by omega) (by omega) dX0_between_54 ?_
              refine lv_istore (lv' := [(9, .int (rd (12 * r + k))), (0, .ref h), (1, .int (nI r)), (4, .int (lvl lv g r)), (5, .int (lvl lv u r)), (6, .int (cn (fun k => bt1 (rw12 rd r k) (lvl lv g r) (lvl lv u r)) k)), (7, .int (cn (fun k => bt2 (rw12 rd r k) (lvl lv g r) (lvl lv u r)) k)), (8, .int (nI k))]) hx hb dX0_between_55 hl (by decide) rfl (fun ls hl => ?_)
              refine lv_iconst (v := 3) hx hb dX0_between_57 (by decide) ?_
              refine lv_iload hx hb dX0_between_58 (lv_at hl 0 rfl) ?_
              refine lv_iload hx hb dX0_between_60 (lv_at hl 3 rfl) ?_
              refine tv_callR (W.runS (As := [.int 3, .int (rd (12 * r + k)), .int (lvl lv g r)]) (rest := []) ⟨hx, hb, hml, hown, hts⟩ (c_X0_isTrue l 3 (rd (12 * r + k)) (lvl lv g r)) (va_cwS 3 hts gX0_between_X0_isTrue rfl rfl rfl (by decide +kernel) ⟨Nat.le_of_ble_eq_true rfl, Nat.le_of_ble_eq_true rfl⟩) preEq rfl rfl hl.1 rfl (lv_room (Nat.le_of_ble_eq_true rfl)) dX0_between_62 ⟨Nat.le_of_ble_eq_true rfl, Nat.le_of_ble_eq_true rfl⟩) ?_
              refine lv_if_eq (tgt := 82) hx hb dX0_between_65 (by decide) (fun c_3 => ?_) (fun c_3 => ?_)
              · skip
                refine lv_iconst (v := 0) hx hb dX0_between_82 (by decide) ?_
                refine lv_iload hx hb dX0_between_83 (lv_at hl 0 rfl) ?_
                refine lv_iload hx hb dX0_between_85 (lv_at hl 3 rfl) ?_
                refine tv_callR (W.runS (As := [.int 0, .int (rd (12 * r + k)), .int (lvl lv g r)]) (rest := []) ⟨hx, hb, hml, hown, hts⟩ (c_X0_isTrue l 0 (rd (12 * r + k)) (lvl lv g r)) (va_cwS 3 hts gX0_between_X0_isTrue rfl rfl rfl (by decide +kernel) ⟨Nat.le_of_ble_eq_true rfl, Nat.le_of_ble_eq_true rfl⟩) preEq rfl rfl hl.1 rfl (lv_room (Nat.le_of_ble_eq_true rfl)) dX0_between_87 ⟨Nat.le_of_ble_eq_true rfl, Nat.le_of_ble_eq_true rfl⟩) ?_
                refine lv_if_ne (tgt := 104) hx hb dX0_between_90 (by decide) (fun c_4 => ?_) (fun c_4 => ?_)
                · skip
                  refine lv_iinc (v := cn (fun k => bt2 (rw12 rd r k) (lvl lv g r) (lvl lv u r)) k + 1) (lv' := [(7, .int (cn (fun k => bt2 (rw12 rd r k) (lvl lv g r) (lvl lv u r)) k + 1)), (9, .int (rd (12 * r + k))), (0, .ref h), (1, .int (nI r)), (4, .int (lvl lv g r)), (5, .int (lvl lv u r)), (6, .int (cn (fun k => bt1 (rw12 rd r k) (lvl lv g r) (lvl lv u r)) k)), (8, .int (nI k))]) hx hb dX0_between_104 hl (k := 6) rfl (rfl) (by decide) rfl (fun ls hl => ?_)
                  refine lv_iinc (v := nI (k + 1)) (lv' := [(8, .int (nI (k + 1))), (7, .int (cn (fun k => bt2 (rw12 rd r k) (lvl lv g r) (lvl lv u r)) k + 1)), (9, .int (rd (12 * r + k))), (0, .ref h), (1, .int (nI r)), (4, .int (lvl lv g r)), (5, .int (lvl lv u r)), (6, .int (cn (fun k => bt1 (rw12 rd r k) (lvl lv g r) (lvl lv u r)) k))]) hx hb dX0_between_107 hl (k := 7) rfl (nI_1 k) (by decide) rfl (fun ls hl => ?_)
                  refine lv_goto (tgt := 37) hx hb dX0_between_110 (by decide) ?_
                  exact ih (k + 1) (by omega) ls (by rw [show cn (fun k => bt1 (rw12 rd r k) (lvl lv g r) (lvl lv u r)) (k + 1) = cn (fun k => bt1 (rw12 rd r k) (lvl lv g r) (lvl lv u r)) k from cn_s0 (by show bt1 _ _ _ = 0; rw [bt1, if_pos c_3]), show cn (fun k => bt2 (rw12 rd r k) (lvl lv g r) (lvl lv u r)) (k + 1) = cn (fun k => bt2 (rw12 rd r k) (lvl lv g r) (lvl lv u r)) k + 1 from cn_s1 (by show bt2 _ _ _ = 1; rw [bt2, if_neg c_4])]; exact lv_sub hl [3, 4, 5, 6, 7, 1, 0] rfl)
                · skip
                  refine lv_iconst (v := 2) hx hb dX0_between_93 (by decide) ?_
                  refine lv_iload hx hb dX0_between_94 (lv_at hl 0 rfl) ?_
                  refine lv_iload hx hb dX0_between_96 (lv_at hl 4 rfl) ?_
                  refine tv_callR (W.runS (As := [.int 2, .int (rd (12 * r + k)), .int (lvl lv u r)]) (rest := []) ⟨hx, hb, hml, hown, hts⟩ (c_X0_isTrue l 2 (rd (12 * r + k)) (lvl lv u r)) (va_cwS 3 hts gX0_between_X0_isTrue rfl rfl rfl (by decide +kernel) ⟨Nat.le_of_ble_eq_true rfl, Nat.le_of_ble_eq_true rfl⟩) preEq rfl rfl hl.1 rfl (lv_room (Nat.le_of_ble_eq_true rfl)) dX0_between_98 ⟨Nat.le_of_ble_eq_true rfl, Nat.le_of_ble_eq_true rfl⟩) ?_
                  refine lv_if_eq (tgt := 107) hx hb dX0_between_101 (by decide) (fun c_5 => ?_) (fun c_5 => ?_)
                  · skip
                    refine lv_iinc (v := nI (k + 1)) (lv' := [(8, .int (nI (k + 1))), (9, .int (rd (12 * r + k))), (0, .ref h), (1, .int (nI r)), (4, .int (lvl lv g r)), (5, .int (lvl lv u r)), (6, .int (cn (fun k => bt1 (rw12 rd r k) (lvl lv g r) (lvl lv u r)) k)), (7, .int (cn (fun k => bt2 (rw12 rd r k) (lvl lv g r) (lvl lv u r)) k))]) hx hb dX0_between_107 hl (k := 7) rfl (nI_1 k) (by decide) rfl (fun ls hl => ?_)
                    refine lv_goto (tgt := 37) hx hb dX0_between_110 (by decide) ?_
                    exact ih (k + 1) (by omega) ls (by rw [show cn (fun k => bt1 (rw12 rd r k) (lvl lv g r) (lvl lv u r)) (k + 1) = cn (fun k => bt1 (rw12 rd r k) (lvl lv g r) (lvl lv u r)) k from cn_s0 (by show bt1 _ _ _ = 0; rw [bt1, if_pos c_3]), show cn (fun k => bt2 (rw12 rd r k) (lvl lv g r) (lvl lv u r)) (k + 1) = cn (fun k => bt2 (rw12 rd r k) (lvl lv g r) (lvl lv u r)) k from cn_s0 (by show bt2 _ _ _ = 0; rw [bt2, if_pos c_4]; exact c_5)]; exact lv_sub hl [2, 3, 4, 5, 6, 7, 0] rfl)
                  · skip
                    refine lv_iinc (v := cn (fun k => bt2 (rw12 rd r k) (lvl lv g r) (lvl lv u r)) k + 1) (lv' := [(7, .int (cn (fun k => bt2 (rw12 rd r k) (lvl lv g r) (lvl lv u r)) k + 1)), (9, .int (rd (12 * r + k))), (0, .ref h), (1, .int (nI r)), (4, .int (lvl lv g r)), (5, .int (lvl lv u r)), (6, .int (cn (fun k => bt1 (rw12 rd r k) (lvl lv g r) (lvl lv u r)) k)), (8, .int (nI k))]) hx hb dX0_between_104 hl (k := 6) rfl (rfl) (by decide) rfl (fun ls hl => ?_)
                    refine lv_iinc (v := nI (k + 1)) (lv' := [(8, .int (nI (k + 1))), (7, .int (cn (fun k => bt2 (rw12 rd r k) (lvl lv g r) (lvl lv u r)) k + 1)), (9, .int (rd (12 * r + k))), (0, .ref h), (1, .int (nI r)), (4, .int (lvl lv g r)), (5, .int (lvl lv u r)), (6, .int (cn (fun k => bt1 (rw12 rd r k) (lvl lv g r) (lvl lv u r)) k))]) hx hb dX0_between_107 hl (k := 7) rfl (nI_1 k) (by decide) rfl (fun ls hl => ?_)
                    refine lv_goto (tgt := 37) hx hb dX0_between_110 (by decide) ?_
                    exact ih (k + 1) (by omega) ls (by rw [show cn (fun k => bt1 (rw12 rd r k) (lvl lv g r) (lvl lv u r)) (k + 1) = cn (fun k => bt1 (rw12 rd r k) (lvl lv g r) (lvl lv u r)) k from cn_s0 (by show bt1 _ _ _ = 0; rw [bt1, if_pos c_3]), show cn (fun k => bt2 (rw12 rd r k) (lvl lv g r) (lvl lv u r)) (k + 1) = cn (fun k => bt2 (rw12 rd r k) (lvl lv g r) (lvl lv u r)) k + 1 from cn_s1 (by show bt2 _ _ _ = 1; rw [bt2, if_pos c_4]; exact tq1 c_5)]; exact lv_sub hl [3, 4, 5, 6, 7, 1, 0] rfl)
              · skip
                refine lv_iconst (v := 1) hx hb dX0_between_68 (by decide) ?_
                refine lv_iload hx hb dX0_between_69 (lv_at hl 0 rfl) ?_
                refine lv_iload hx hb dX0_between_71 (lv_at hl 4 rfl) ?_
                refine tv_callR (W.runS (As := [.int 1, .int (rd (12 * r + k)), .int (lvl lv u r)]) (rest := []) ⟨hx, hb, hml, hown, hts⟩ (c_X0_isTrue l 1 (rd (12 * r + k)) (lvl lv u r)) (va_cwS 3 hts gX0_between_X0_isTrue rfl rfl rfl (by decide +kernel) ⟨Nat.le_of_ble_eq_true rfl, Nat.le_of_ble_eq_true rfl⟩) preEq rfl rfl hl.1 rfl (lv_room (Nat.le_of_ble_eq_true rfl)) dX0_between_73 ⟨Nat.le_of_ble_eq_true rfl, Nat.le_of_ble_eq_true rfl⟩) ?_
                refine lv_if_eq (tgt := 82) hx hb dX0_between_76 (by decide) (fun c_6 => ?_) (fun c_6 => ?_)
                · skip
                  refine lv_iconst (v := 0) hx hb dX0_between_82 (by decide) ?_
                  refine lv_iload hx hb dX0_between_83 (lv_at hl 0 rfl) ?_
                  refine lv_iload hx hb dX0_between_85 (lv_at hl 3 rfl) ?_
                  refine tv_callR (W.runS (As := [.int 0, .int (rd (12 * r + k)), .int (lvl lv g r)]) (rest := []) ⟨hx, hb, hml, hown, hts⟩ (c_X0_isTrue l 0 (rd (12 * r + k)) (lvl lv g r)) (va_cwS 3 hts gX0_between_X0_isTrue rfl rfl rfl (by decide +kernel) ⟨Nat.le_of_ble_eq_true rfl, Nat.le_of_ble_eq_true rfl⟩) preEq rfl rfl hl.1 rfl (lv_room (Nat.le_of_ble_eq_true rfl)) dX0_between_87 ⟨Nat.le_of_ble_eq_true rfl, Nat.le_of_ble_eq_true rfl⟩) ?_
                  refine lv_if_ne (tgt := 104) hx hb dX0_between_90 (by decide) (fun c_7 => ?_) (fun c_7 => ?_)
                  · skip
                    refine lv_iinc (v := cn (fun k => bt2 (rw12 rd r k) (lvl lv g r) (lvl lv u r)) k + 1) (lv' := [(7, .int (cn (fun k => bt2 (rw12 rd r k) (lvl lv g r) (lvl lv u r)) k + 1)), (9, .int (rd (12 * r + k))), (0, .ref h), (1, .int (nI r)), (4, .int (lvl lv g r)), (5, .int (lvl lv u r)), (6, .int (cn (fun k => bt1 (rw12 rd r k) (lvl lv g r) (lvl lv u r)) k)), (8, .int (nI k))]) hx hb dX0_between_104 hl (k := 6) rfl (rfl) (by decide) rfl (fun ls hl => ?_)
                    refine lv_iinc (v := nI (k + 1)) (lv' := [(8, .int (nI (k + 1))), (7, .int (cn (fun k => bt2 (rw12 rd r k) (lvl lv g r) (lvl lv u r)) k + 1)), (9, .int (rd (12 * r + k))), (0, .ref h), (1, .int (nI r)), (4, .int (lvl lv g r)), (5, .int (lvl lv u r)), (6, .int (cn (fun k => bt1 (rw12 rd r k) (lvl lv g r) (lvl lv u r)) k))]) hx hb dX0_between_107 hl (k := 7) rfl (nI_1 k) (by decide) rfl (fun ls hl => ?_)
                    refine lv_goto (tgt := 37) hx hb dX0_between_110 (by decide) ?_
                    exact ih (k + 1) (by omega) ls (by rw [show cn (fun k => bt1 (rw12 rd r k) (lvl lv g r) (lvl lv u r)) (k + 1) = cn (fun k => bt1 (rw12 rd r k) (lvl lv g r) (lvl lv u r)) k from cn_s0 (by show bt1 _ _ _ = 0; rw [bt1, if_neg c_3]; exact c_6), show cn (fun k => bt2 (rw12 rd r k) (lvl lv g r) (lvl lv u r)) (k + 1) = cn (fun k => bt2 (rw12 rd r k) (lvl lv g r) (lvl lv u r)) k + 1 from cn_s1 (by show bt2 _ _ _ = 1; rw [bt2, if_neg c_7])]; exact lv_sub hl [3, 4, 5, 6, 7, 1, 0] rfl)
                  · skip
                    refine lv_iconst (v := 2) hx hb dX0_between_93 (by decide) ?_
                    refine lv_iload hx hb dX0_between_94 (lv_at hl 0 rfl) ?_
                    refine lv_iload hx hb dX0_between_96 (lv_at hl 4 rfl) ?_
                    refine tv_callR (W.runS (As := [.int 2, .int (rd (12 * r + k)), .int (lvl lv u r)]) (rest := []) ⟨hx, hb, hml, hown, hts⟩ (c_X0_isTrue l 2 (rd (12 * r + k)) (lvl lv u r)) (va_cwS 3 hts gX0_between_X0_isTrue rfl rfl rfl (by decide +kernel) ⟨Nat.le_of_ble_eq_true rfl, Nat.le_of_ble_eq_true rfl⟩) preEq rfl rfl hl.1 rfl (lv_room (Nat.le_of_ble_eq_true rfl)) dX0_between_98 ⟨Nat.le_of_ble_eq_true rfl, Nat.le_of_ble_eq_true rfl⟩) ?_
                    refine lv_if_eq (tgt := 107) hx hb dX0_between_101 (by decide) (fun c_8 => ?_) (fun c_8 => ?_)
                    · skip
                      refine lv_iinc (v := nI (k + 1)) (lv' := [(8, .int (nI (k + 1))), (9, .int (rd (12 * r + k))), (0, .ref h), (1, .int (nI r)), (4, .int (lvl lv g r)), (5, .int (lvl lv u r)), (6, .int (cn (fun k => bt1 (rw12 rd r k) (lvl lv g r) (lvl lv u r)) k)), (7, .int (cn (fun k => bt2 (rw12 rd r k) (lvl lv g r) (lvl lv u r)) k))]) hx hb dX0_between_107 hl (k := 7) rfl (nI_1 k) (by decide) rfl (fun ls hl => ?_)
                      refine lv_goto (tgt := 37) hx hb dX0_between_110 (by decide) ?_
                      exact ih (k + 1) (by omega) ls (by rw [show cn (fun k => bt1 (rw12 rd r k) (lvl lv g r) (lvl lv u r)) (k + 1) = cn (fun k => bt1 (rw12 rd r k) (lvl lv g r) (lvl lv u r)) k from cn_s0 (by show bt1 _ _ _ = 0; rw [bt1, if_neg c_3]; exact c_6), show cn (fun k => bt2 (rw12 rd r k) (lvl lv g r) (lvl lv u r)) (k + 1) = cn (fun k => bt2 (rw12 rd r k) (lvl lv g r) (lvl lv u r)) k from cn_s0 (by show bt2 _ _ _ = 0; rw [bt2, if_pos c_7]; exact c_8)]; exact lv_sub hl [2, 3, 4, 5, 6, 7, 0] rfl)
                    · skip
                      refine lv_iinc (v := cn (fun k => bt2 (rw12 rd r k) (lvl lv g r) (lvl lv u r)) k + 1) (lv' := [(7, .int (cn (fun k => bt2 (rw12 rd r k) (lvl lv g r) (lvl lv u r)) k + 1)), (9, .int (rd (12 * r + k))), (0, .ref h), (1, .int (nI r)), (4, .int (lvl lv g r)), (5, .int (lvl lv u r)), (6, .int (cn (fun k => bt1 (rw12 rd r k) (lvl lv g r) (lvl lv u r)) k)), (8, .int (nI k))]) hx hb dX0_between_104 hl (k := 6) rfl (rfl) (by decide) rfl (fun ls hl => ?_)
                      refine lv_iinc (v := nI (k + 1)) (lv' := [(8, .int (nI (k + 1))), (7, .int (cn (fun k => bt2 (rw12 rd r k) (lvl lv g r) (lvl lv u r)) k + 1)), (9, .int (rd (12 * r + k))), (0, .ref h), (1, .int (nI r)), (4, .int (lvl lv g r)), (5, .int (lvl lv u r)), (6, .int (cn (fun k => bt1 (rw12 rd r k) (lvl lv g r) (lvl lv u r)) k))]) hx hb dX0_between_107 hl (k := 7) rfl (nI_1 k) (by decide) rfl (fun ls hl => ?_)
                      refine lv_goto (tgt := 37) hx hb dX0_between_110 (by decide) ?_
                      exact ih (k + 1) (by omega) ls (by rw [show cn (fun k => bt1 (rw12 rd r k) (lvl lv g r) (lvl lv u r)) (k + 1) = cn (fun k => bt1 (rw12 rd r k) (lvl lv g r) (lvl lv u r)) k from cn_s0 (by show bt1 _ _ _ = 0; rw [bt1, if_neg c_3]; exact c_6), show cn (fun k => bt2 (rw12 rd r k) (lvl lv g r) (lvl lv u r)) (k + 1) = cn (fun k => bt2 (rw12 rd r k) (lvl lv g r) (lvl lv u r)) k + 1 from cn_s1 (by show bt2 _ _ _ = 1; rw [bt2, if_pos c_7]; exact tq1 c_8)]; exact lv_sub hl [3, 4, 5, 6, 7, 1, 0] rfl)
                · skip
                  refine lv_iinc (v := cn (fun k => bt1 (rw12 rd r k) (lvl lv g r) (lvl lv u r)) k + 1) (lv' := [(6, .int (cn (fun k => bt1 (rw12 rd r k) (lvl lv g r) (lvl lv u r)) k + 1)), (9, .int (rd (12 * r + k))), (0, .ref h), (1, .int (nI r)), (4, .int (lvl lv g r)), (5, .int (lvl lv u r)), (7, .int (cn (fun k => bt2 (rw12 rd r k) (lvl lv g r) (lvl lv u r)) k)), (8, .int (nI k))]) hx hb dX0_between_79 hl (k := 5) rfl (rfl) (by decide) rfl (fun ls hl => ?_)
                  refine lv_iconst (v := 0) hx hb dX0_between_82 (by decide) ?_
                  refine lv_iload hx hb dX0_between_83 (lv_at hl 1 rfl) ?_
                  refine lv_iload hx hb dX0_between_85 (lv_at hl 4 rfl) ?_
                  refine tv_callR (W.runS (As := [.int 0, .int (rd (12 * r + k)), .int (lvl lv g r)]) (rest := []) ⟨hx, hb, hml, hown, hts⟩ (c_X0_isTrue l 0 (rd (12 * r + k)) (lvl lv g r)) (va_cwS 3 hts gX0_between_X0_isTrue rfl rfl rfl (by decide +kernel) ⟨Nat.le_of_ble_eq_true rfl, Nat.le_of_ble_eq_true rfl⟩) preEq rfl rfl hl.1 rfl (lv_room (Nat.le_of_ble_eq_true rfl)) dX0_between_87 ⟨Nat.le_of_ble_eq_true rfl, Nat.le_of_ble_eq_true rfl⟩) ?_
                  refine lv_if_ne (tgt := 104) hx hb dX0_between_90 (by decide) (fun c_9 => ?_) (fun c_9 => ?_)
                  · skip
                    refine lv_iinc (v := cn (fun k => bt2 (rw12 rd r k) (lvl lv g r) (lvl lv u r)) k + 1) (lv' := [(7, .int (cn (fun k => bt2 (rw12 rd r k) (lvl lv g r) (lvl lv u r)) k + 1)), (6, .int (cn (fun k => bt1 (rw12 rd r k) (lvl lv g r) (lvl lv u r)) k + 1)), (9, .int (rd (12 * r + k))), (0, .ref h), (1, .int (nI r)), (4, .int (lvl lv g r)), (5, .int (lvl lv u r)), (8, .int (nI k))]) hx hb dX0_between_104 hl (k := 6) rfl (rfl) (by decide) rfl (fun ls hl => ?_)
                    refine lv_iinc (v := nI (k + 1)) (lv' := [(8, .int (nI (k + 1))), (7, .int (cn (fun k => bt2 (rw12 rd r k) (lvl lv g r) (lvl lv u r)) k + 1)), (6, .int (cn (fun k => bt1 (rw12 rd r k) (lvl lv g r) (lvl lv u r)) k + 1)), (9, .int (rd (12 * r + k))), (0, .ref h), (1, .int (nI r)), (4, .int (lvl lv g r)), (5, .int (lvl lv u r))]) hx hb dX0_between_107 hl (k := 7) rfl (nI_1 k) (by decide) rfl (fun ls hl => ?_)
                    refine lv_goto (tgt := 37) hx hb dX0_between_110 (by decide) ?_
                    exact ih (k + 1) (by omega) ls (by rw [show cn (fun k => bt1 (rw12 rd r k) (lvl lv g r) (lvl lv u r)) (k + 1) = cn (fun k => bt1 (rw12 rd r k) (lvl lv g r) (lvl lv u r)) k + 1 from cn_s1 (by show bt1 _ _ _ = 1; rw [bt1, if_neg c_3]; exact tq1 c_6), show cn (fun k => bt2 (rw12 rd r k) (lvl lv g r) (lvl lv u r)) (k + 1) = cn (fun k => bt2 (rw12 rd r k) (lvl lv g r) (lvl lv u r)) k + 1 from cn_s1 (by show bt2 _ _ _ = 1; rw [bt2, if_neg c_9])]; exact lv_sub hl [4, 5, 6, 7, 2, 1, 0] rfl)
                  · skip
                    refine lv_iconst (v := 2) hx hb dX0_between_93 (by decide) ?_
                    refine lv_iload hx hb dX0_between_94 (lv_at hl 1 rfl) ?_
                    refine lv_iload hx hb dX0_between_96 (lv_at hl 5 rfl) ?_
                    refine tv_callR (W.runS (As := [.int 2, .int (rd (12 * r + k)), .int (lvl lv u r)]) (rest := []) ⟨hx, hb, hml, hown, hts⟩ (c_X0_isTrue l 2 (rd (12 * r + k)) (lvl lv u r)) (va_cwS 3 hts gX0_between_X0_isTrue rfl rfl rfl (by decide +kernel) ⟨Nat.le_of_ble_eq_true rfl, Nat.le_of_ble_eq_true rfl⟩) preEq rfl rfl hl.1 rfl (lv_room (Nat.le_of_ble_eq_true rfl)) dX0_between_98 ⟨Nat.le_of_ble_eq_true rfl, Nat.le_of_ble_eq_true rfl⟩) ?_
                    refine lv_if_eq (tgt := 107) hx hb dX0_between_101 (by decide) (fun c_10 => ?_) (fun c_10 => ?_)
                    · skip
                      refine lv_iinc (v := nI (k + 1)) (lv' := [(8, .int (nI (k + 1))), (6, .int (cn (fun k => bt1 (rw12 rd r k) (lvl lv g r) (lvl lv u r)) k + 1)), (9, .int (rd (12 * r + k))), (0, .ref h), (1, .int (nI r)), (4, .int (lvl lv g r)), (5, .int (lvl lv u r)), (7, .int (cn (fun k => bt2 (rw12 rd r k) (lvl lv g r) (lvl lv u r)) k))]) hx hb dX0_between_107 hl (k := 7) rfl (nI_1 k) (by decide) rfl (fun ls hl => ?_)
                      refine lv_goto (tgt := 37) hx hb dX0_between_110 (by decide) ?_
                      exact ih (k + 1) (by omega) ls (by rw [show cn (fun k => bt1 (rw12 rd r k) (lvl lv g r) (lvl lv u r)) (k + 1) = cn (fun k => bt1 (rw12 rd r k) (lvl lv g r) (lvl lv u r)) k + 1 from cn_s1 (by show bt1 _ _ _ = 1; rw [bt1, if_neg c_3]; exact tq1 c_6), show cn (fun k => bt2 (rw12 rd r k) (lvl lv g r) (lvl lv u r)) (k + 1) = cn (fun k => bt2 (rw12 rd r k) (lvl lv g r) (lvl lv u r)) k from cn_s0 (by show bt2 _ _ _ = 0; rw [bt2, if_pos c_9]; exact c_10)]; exact lv_sub hl [3, 4, 5, 6, 1, 7, 0] rfl)
                    · skip
                      refine lv_iinc (v := cn (fun k => bt2 (rw12 rd r k) (lvl lv g r) (lvl lv u r)) k + 1) (lv' := [(7, .int (cn (fun k => bt2 (rw12 rd r k) (lvl lv g r) (lvl lv u r)) k + 1)), (6, .int (cn (fun k => bt1 (rw12 rd r k) (lvl lv g r) (lvl lv u r)) k + 1)), (9, .int (rd (12 * r + k))), (0, .ref h), (1, .int (nI r)), (4, .int (lvl lv g r)), (5, .int (lvl lv u r)), (8, .int (nI k))]) hx hb dX0_between_104 hl (k := 6) rfl (rfl) (by decide) rfl (fun ls hl => ?_)
                      refine lv_iinc (v := nI (k + 1)) (lv' := [(8, .int (nI (k + 1))), (7, .int (cn (fun k => bt2 (rw12 rd r k) (lvl lv g r) (lvl lv u r)) k + 1)), (6, .int (cn (fun k => bt1 (rw12 rd r k) (lvl lv g r) (lvl lv u r)) k + 1)), (9, .int (rd (12 * r + k))), (0, .ref h), (1, .int (nI r)), (4, .int (lvl lv g r)), (5, .int (lvl lv u r))]) hx hb dX0_between_107 hl (k := 7) rfl (nI_1 k) (by decide) rfl (fun ls hl => ?_)
                      refine lv_goto (tgt := 37) hx hb dX0_between_110 (by decide) ?_
                      exact ih (k + 1) (by omega) ls (by rw [show cn (fun k => bt1 (rw12 rd r k) (lvl lv g r) (lvl lv u r)) (k + 1) = cn (fun k => bt1 (rw12 rd r k) (lvl lv g r) (lvl lv u r)) k + 1 from cn_s1 (by show bt1 _ _ _ = 1; rw [bt1, if_neg c_3]; exact tq1 c_6), show cn (fun k => bt2 (rw12 rd r k) (lvl lv g r) (lvl lv u r)) (k + 1) = cn (fun k => bt2 (rw12 rd r k) (lvl lv g r) (lvl lv u r)) k + 1 from cn_s1 (by show bt2 _ _ _ = 1; rw [bt2, if_pos c_9]; exact tq1 c_10)]; exact lv_sub hl [4, 5, 6, 7, 2, 1, 0] rfl)
        exact loop 12 0 (by omega) ls (by rw [show cn (fun k => bt1 (rw12 rd r k) (lvl lv g r) (lvl lv u r)) 0 = 0 from rfl, show cn (fun k => bt2 (rw12 rd r k) (lvl lv g r) (lvl lv u r)) 0 = 0 from rfl, show nI 0 = 0 from nI_0]; exact lv_sub hl [5, 6, 4, 3, 2, 1, 0] rfl)
end
section
def bc1 (x : Int32) : Int32 := x - ((x.toUInt32 >>> ((1 : Int32).toUInt32 &&& Int32.toUInt32 31)).toInt32 &&& 1431655765)
def bc2 (x : Int32) : Int32 := (x &&& 858993459) + ((x.toUInt32 >>> ((2 : Int32).toUInt32 &&& Int32.toUInt32 31)).toInt32 &&& 858993459)
def bc3 (x : Int32) : Int32 := (x + (x.toUInt32 >>> ((4 : Int32).toUInt32 &&& Int32.toUInt32 31)).toInt32) &&& 252645135
def bc4 (x : Int32) : Int32 := x + (x.toUInt32 >>> ((8 : Int32).toUInt32 &&& Int32.toUInt32 31)).toInt32
def bc5 (x : Int32) : Int32 := x + (x.toUInt32 >>> ((16 : Int32).toUInt32 &&& Int32.toUInt32 31)).toInt32
def bcn (x : Int32) : Int32 := bc5 (bc4 (bc3 (bc2 (bc1 x)))) &&& 63
set_option maxHeartbeats 4000000 in
set_option maxRecDepth 100000 in
theorem c_J6_bitCount_0f7a4 (l : Launch) (x : Int32) : Met l yJ6_bitCount_0f7a4 wsJ6_bitCount_0f7a4 ({ frames := 0, cells := 0, slots := 0, locals := 0 } : Room) (fun av _ => av = ([.int x] : List Value).toArray) (QcRead (bcn x)) 0 0 (fun _ => False) := by
  refine Met.ofW (cc := cJ6_bitCount_0f7a4) (maxL := 1) (ret := (some .int)) (by decide) rfl ?_
  intro p e s m args below meth c s₁ B hml hv
  subst hv
  have hx := B.exec
  have hb := B.bytes
  have hr := B.returns
  have hts := atoms_spec (ws := wsJ6_bitCount_0f7a4) B.pre
  have hown : s.vm.findClass RJ6 = some m.cls := findClass_of_methodNamed B.named
  have hlocks := B.notSynchronized
  have hl := lv_entry ([.int x]) (n := 1) (Nat.le_of_ble_eq_true rfl)
  rw [lg_entry_eq]
  generalize (lg_sl ([.int x]) ++ List.replicate (1 - (lg_sl ([.int x])).length) Slot.unset).toArray = ls at hl ⊢
  have hl : lv_has ls 1 [(0, .int x)] := hl
  refine lv_iload_n hx hb dJ6_bitCount_0f7a4_0 rfl (lv_at hl 0 rfl) ?_
  refine lv_iload_n hx hb dJ6_bitCount_0f7a4_1 rfl (lv_at hl 0 rfl) ?_
  refine lv_iconst (v := 1) hx hb dJ6_bitCount_0f7a4_2 (by decide) ?_
  refine lv_iushr (v := (x.toUInt32 >>> ((1 : Int32).toUInt32 &&& Int32.toUInt32 31)).toInt32) hx hb dJ6_bitCount_0f7a4_3 rfl ?_
  refine lv_ldcw (v := 1431655765) hx hb hown (hts (.constant RJ6 265 (1431655765)) (by decide +kernel)) dJ6_bitCount_0f7a4_4 ?_
  refine lv_iand hx hb dJ6_bitCount_0f7a4_7 ?_
  refine lv_isub hx hb dJ6_bitCount_0f7a4_8 ?_
  refine tv_top (bc1 x) rfl ?_
  refine lv_istore_n (lv' := [(0, .int (bc1 x))]) hx hb dJ6_bitCount_0f7a4_9 rfl hl (by decide) rfl (fun ls hl => ?_)
  refine lv_iload_n hx hb dJ6_bitCount_0f7a4_10 rfl (lv_at hl 0 rfl) ?_
  refine lv_ldcw (v := 858993459) hx hb hown (hts (.constant RJ6 266 (858993459)) (by decide +kernel)) dJ6_bitCount_0f7a4_11 ?_
  refine lv_iand hx hb dJ6_bitCount_0f7a4_14 ?_
  refine lv_iload_n hx hb dJ6_bitCount_0f7a4_15 rfl (lv_at hl 0 rfl) ?_
  refine lv_iconst (v := 2) hx hb dJ6_bitCount_0f7a4_16 (by decide) ?_
  refine lv_iushr (v := ((bc1 x).toUInt32 >>> ((2 : Int32).toUInt32 &&& Int32.toUInt32 31)).toInt32) hx hb dJ6_bitCount_0f7a4_17 rfl ?_
  refine lv_ldcw (v := 858993459) hx hb hown (hts (.constant RJ6 266 (858993459)) (by decide +kernel)) dJ6_bitCount_0f7a4_18 ?_
  refine lv_iand hx hb dJ6_bitCount_0f7a4_21 ?_
  refine lv_iadd hx hb dJ6_bitCount_0f7a4_22 ?_
  refine tv_top (bc2 (bc1 x)) rfl ?_
  refine lv_istore_n (lv' := [(0, .int (bc2 (bc1 x)))]) hx hb dJ6_bitCount_0f7a4_23 rfl hl (by decide) rfl (fun ls hl => ?_)
  refine lv_iload_n hx hb dJ6_bitCount_0f7a4_24 rfl (lv_at hl 0 rfl) ?_
  refine lv_iload_n hx hb dJ6_bitCount_0f7a4_25 rfl (lv_at hl 0 rfl) ?_
  refine lv_iconst (v := 4) hx hb dJ6_bitCount_0f7a4_26 (by decide) ?_
  refine lv_iushr (v := ((bc2 (bc1 x)).toUInt32 >>> ((4 : Int32).toUInt32 &&& Int32.toUInt32 31)).toInt32) hx hb dJ6_bitCount_0f7a4_27 rfl ?_
  refine lv_iadd hx hb dJ6_bitCount_0f7a4_28 ?_
  refine lv_ldcw (v := 252645135) hx hb hown (hts (.constant RJ6 267 (252645135)) (by decide +kernel)) dJ6_bitCount_0f7a4_29 ?_
  refine lv_iand hx hb dJ6_bitCount_0f7a4_32 ?_
  refine tv_top (bc3 (bc2 (bc1 x))) rfl ?_
  refine lv_istore_n (lv' := [(0, .int (bc3 (bc2 (bc1 x))))]) hx hb dJ6_bitCount_0f7a4_33 rfl hl (by decide) rfl (fun ls hl => ?_)
  refine lv_iload_n hx hb dJ6_bitCount_0f7a4_34 rfl (lv_at hl 0 rfl) ?_
  refine lv_iload_n hx hb dJ6_bitCount_0f7a4_35 rfl (lv_at hl 0 rfl) ?_
  refine lv_bipush (v := 8) hx hb dJ6_bitCount_0f7a4_36 (by decide) ?_
  refine lv_iushr (v := ((bc3 (bc2 (bc1 x))).toUInt32 >>> ((8 : Int32).toUInt32 &&& Int32.toUInt32 31)).toInt32) hx hb dJ6_bitCount_0f7a4_38 rfl ?_
  refine lv_iadd hx hb dJ6_bitCount_0f7a4_39 ?_
  refine tv_top (bc4 (bc3 (bc2 (bc1 x)))) rfl ?_
  refine lv_istore_n (lv' := [(0, .int (bc4 (bc3 (bc2 (bc1 x)))))]) hx hb dJ6_bitCount_0f7a4_40 rfl hl (by decide) rfl (fun ls hl => ?_)
  refine lv_iload_n hx hb dJ6_bitCount_0f7a4_41 rfl (lv_at hl 0 rfl) ?_
  refine lv_iload_n hx hb dJ6_bitCount_0f7a4_42 rfl (lv_at hl 0 rfl) ?_
  refine lv_bipush (v := 16) hx hb dJ6_bitCount_0f7a4_43 (by decide) ?_
  refine lv_iushr (v := ((bc4 (bc3 (bc2 (bc1 x)))).toUInt32 >>> ((16 : Int32).toUInt32 &&& Int32.toUInt32 31)).toInt32) hx hb dJ6_bitCount_0f7a4_45 rfl ?_
  refine lv_iadd hx hb dJ6_bitCount_0f7a4_46 ?_
  refine tv_top (bc5 (bc4 (bc3 (bc2 (bc1 x))))) rfl ?_
  refine lv_istore_n (lv' := [(0, .int (bc5 (bc4 (bc3 (bc2 (bc1 x))))))]) hx hb dJ6_bitCount_0f7a4_47 rfl hl (by decide) rfl (fun ls hl => ?_)
  refine lv_iload_n hx hb dJ6_bitCount_0f7a4_48 rfl (lv_at hl 0 rfl) ?_
  refine lv_bipush (v := 63) hx hb dJ6_bitCount_0f7a4_49 (by decide) ?_
  refine lv_iand hx hb dJ6_bitCount_0f7a4_51 ?_
  refine tv_top (bcn x) rfl ?_
  exact W.iret (v := bcn x) hx hb hr (fun t ht hW => ⟨rfl, ht⟩) (fun q h => nomatch h) dJ6_bitCount_0f7a4_52
/-- the bits that stand, as a number -/
def kn (p : Nat → Int32) : Nat → Nat
  | 0 => 0
  | k + 1 => if p k = 0 then kn p k else kn p k + 2 ^ k
theorem kn_lt (p : Nat → Int32) : ∀ k : Nat, kn p k < 2 ^ k
  | 0 => by rw [kn]; decide
  | k + 1 => by
    have h := kn_lt p k
    rw [kn, Nat.pow_succ]
    split <;> omega
theorem kb_or : ∀ k : Fin 11, ∀ n : Fin 1024, n.val < 2 ^ k.val → nI n.val ||| ((1 : Int32) <<< (nI k.val &&& 31)) = nI (n.val + 2 ^ k.val) := by decide +kernel
theorem kb_kn (p : Nat → Int32) : ∀ k : Nat, k ≤ 11 → kb p k = nI (kn p k)
  | 0, _ => rfl
  | k + 1, h => by
    rw [kb, kn, kb_kn p k (by omega)]
    split
    · rfl
    · have h2 := kn_lt p k
      have h3 : 2 ^ k ≤ 1024 := Nat.pow_le_pow_right (by decide) (show k ≤ 10 by omega)
      exact kb_or ⟨k, by omega⟩ ⟨kn p k, by omega⟩ h2
def pop : Nat → Nat → Nat
  | 0, _ => 0
  | k + 1, n => pop k n + n / 2 ^ k % 2
theorem bcn_pop : ∀ n : Fin 2048, bcn (nI n.val) = nI (pop 11 n.val) := by decide +kernel
theorem pop_add : ∀ (k n c : Nat), n < 2 ^ k → pop k (n + c * 2 ^ k) = pop k n
  | 0, _, _, _ => rfl
  | k + 1, n, c, h => by
    have e1 : n + c * 2 ^ (k + 1) = (n % 2 ^ k) + (n / 2 ^ k + 2 * c) * 2 ^ k := by
      have := Nat.div_add_mod n (2 ^ k)
      rw [Nat.pow_succ, Nat.add_mul]
      have e2 : c * (2 ^ k * 2) = 2 * c * 2 ^ k := by rw [Nat.mul_comm (2 ^ k) 2, ← Nat.mul_assoc, Nat.mul_comm c 2]
      rw [e2, Nat.mul_comm (n / 2 ^ k)]
      omega
    have hl : n % 2 ^ k < 2 ^ k := Nat.mod_lt _ (Nat.two_pow_pos k)
    have e3 : n = n % 2 ^ k + n / 2 ^ k * 2 ^ k := by
      have := Nat.div_add_mod n (2 ^ k)
      rw [Nat.mul_comm] at this
      omega
    rw [pop, pop]
    have a1 : pop k (n + c * 2 ^ (k + 1)) = pop k (n % 2 ^ k) := by rw [e1]; exact pop_add k _ _ hl
    have a2 : pop k n = pop k (n % 2 ^ k) := by
      conv => lhs; rw [e3]
      exact pop_add k _ _ hl
    have a3 : (n + c * 2 ^ (k + 1)) / 2 ^ k % 2 = n / 2 ^ k % 2 := by
      rw [Nat.pow_succ, Nat.mul_comm (2 ^ k) 2, ← Nat.mul_assoc, Nat.add_mul_div_right _ _ (Nat.two_pow_pos k), Nat.add_mul_mod_self_right]
    rw [a1, a2, a3]
theorem pop_kn (p : Nat → Int32) (h01 : ∀ k, p k = 0 ∨ p k = 1) : ∀ k : Nat, nI (pop k (kn p k)) = cn p k
  | 0 => rfl
  | k + 1 => by
    have h := kn_lt p k
    have ih := pop_kn p h01 k
    rw [cn, kn, pop]
    rcases h01 k with e | e
    · rw [if_pos e, Nat.div_eq_of_lt h, e, ← ih]
      simp
    · rw [if_neg (by rw [e]; decide), e, ← ih]
      have a1 : pop k (kn p k + 2 ^ k) = pop k (kn p k) := by
        have := pop_add k (kn p k) 1 h
        rwa [Nat.one_mul] at this
      have a2 : (kn p k + 2 ^ k) / 2 ^ k % 2 = 1 := by rw [Nat.add_div_right _ (Nat.two_pow_pos k), Nat.div_eq_of_lt h]
      rw [a1, a2, nI_1]
theorem bcn_kb (p : Nat → Int32) (h01 : ∀ k, p k = 0 ∨ p k = 1) : bcn (kb p 11) = cn p 11 := by
  rw [kb_kn p 11 (Nat.le_refl _), ← pop_kn p h01 11]
  exact bcn_pop ⟨kn p 11, kn_lt p 11⟩
theorem iX0_copy : ∀ w ∈ wsX00, w ∈ wsX0_copy := by decide +kernel
set_option maxHeartbeats 4000000 in
set_option maxRecDepth 100000 in
theorem c_X0_copy (l : Launch) (hT : l.stackTraces = false) (D : va_G) (cI cZ cL : ClassId) (h a1 a2 a3 a4 : Nat) (rd lv op nt : Nat → Int32) (sz : Nat) (x1 x2 : Int32) (V : TV) (hV : V = sp_copy x1 x2 (rd, lv, op, nt)) : vx_Met l yX0_copy wsX0_copy tv_rmP (tv_PP D cI cZ cL (tv_cw cI cZ h a1 a2 a3 a4 (rd, lv, op, nt)) sz [.ref h, .int x1, .int x2]) (tv_QP D cI cZ cL (tv_cw cI cZ h a1 a2 a3 a4) (tv_cw cI cZ h a1 a2 a3 a4 (rd, lv, op, nt)) sz V) (tv_XP V) 1 6 (va_A (tv_cw cI cZ h a1 a2 a3 a4 (rd, lv, op, nt)) sz) := by
  refine vx_ofW (cc := cX0_copy) (maxL := 4) (ret := (some .int)) (by decide) rfl ?_
  intro p e s m args below meth c s₁ B hml htab hv
  obtain ⟨rfl, hsz, hP, hK, hD0, hE⟩ := hv
  subst hsz
  have hx := B.exec
  have hb := B.bytes
  have hr := B.returns
  have hts := atoms_spec (ws := wsX0_copy) B.pre
  have hown : s.vm.findClass RX0 = some m.cls := findClass_of_methodNamed B.named
  have hlocks := B.notSynchronized
  have hD := hD0.self (sz := s.heap.size)
  obtain ⟨A, hAe⟩ : ∃ A, A = va_A (tv_cw cI cZ h a1 a2 a3 a4 (rd, lv, op, nt)) s.heap.size := ⟨_, rfl⟩
  rw [← hAe] at hD hE
  have hA : ∀ q : Nat, s.heap.size ≤ q → A q := fun q h => by rw [hAe]; exact Or.inr h
  have hS : va_S A s.heap s.heap [] := va_S.rf
  clear hD0
  have hl := lv_entry ([.ref h, .int x1, .int x2]) (n := 4) (Nat.le_of_ble_eq_true rfl)
  rw [lg_entry_eq]
  generalize (lg_sl ([.ref h, .int x1, .int x2]) ++ List.replicate (4 - (lg_sl ([.ref h, .int x1, .int x2])).length) Slot.unset).toArray = ls at hl ⊢
  have hl : lv_has ls 4 [(0, .ref h), (1, .int x1), (2, .int x2)] := hl
  refine lv_iload_n hx hb dX0_copy_0 rfl (lv_at hl 1 rfl) ?_
  cases g1 : tv_in 8 x1 with
  | false =>
    have hV1 : V = (1, 0, (rd, lv, op, nt)) := by rw [hV]; simp only [sp_copy, g1, Bool.and_false, Bool.false_and, Bool.and_true, Bool.true_and, Bool.and_self, sp_f, sp_tf, sp_tt]
    exact tv_callT (a := #[]) (vx_runS (As := [.int x1]) (rest := []) ⟨hx, hb, hml, hown, hts⟩ (t_X0_needRow l hT x1 g1) (va_cwS 1 hts gX0_copy_X0_needRow rfl rfl rfl (by decide +kernel) ⟨Nat.le_of_ble_eq_true rfl, Nat.le_of_ble_eq_true rfl⟩) (tv_preT hE hS) rfl rfl hl.1 rfl (lv_room (Nat.le_of_ble_eq_true rfl)) dX0_copy_1 ⟨Nat.le_of_ble_eq_true rfl, Nat.le_of_ble_eq_true rfl⟩) htab hlocks (fun t hz hk => ⟨(), by rw [hV1]; exact (by decide : (1 : Int32) ≠ 0), by rw [hV1]; rfl, hz, fun q hq _ => hk q hq⟩) (fun z h => nomatch h) (Nat.le_of_ble_eq_true rfl) (Nat.le_of_ble_eq_true rfl)
  | true =>
    refine tv_callN (W.runS (As := [.int x1]) (rest := []) ⟨hx, hb, hml, hown, hts⟩ (n_X0_needRow l x1 g1) (va_cwS 1 hts gX0_copy_X0_needRow rfl rfl rfl (by decide +kernel) ⟨Nat.le_of_ble_eq_true rfl, Nat.le_of_ble_eq_true rfl⟩) preEq rfl rfl hl.1 rfl (lv_room (Nat.le_of_ble_eq_true rfl)) dX0_copy_1 ⟨Nat.le_of_ble_eq_true rfl, Nat.le_of_ble_eq_true rfl⟩) ?_
    obtain ⟨r, hr8, rfl⟩ := tv_in_of (by omega) g1
    refine lv_iload_n hx hb dX0_copy_4 rfl (lv_at hl 2 rfl) ?_
    cases g2 : tv_in 8 x2 with
    | false =>
      have hV1 : V = (1, 0, (rd, lv, op, nt)) := by rw [hV]; simp only [sp_copy, g1, g2, Bool.and_false, Bool.false_and, Bool.and_true, Bool.true_and, Bool.and_self, sp_f, sp_tf, sp_tt]
      exact tv_callT (a := #[]) (vx_runS (As := [.int x2]) (rest := []) ⟨hx, hb, hml, hown, hts⟩ (t_X0_needRow l hT x2 g2) (va_cwS 1 hts gX0_copy_X0_needRow rfl rfl rfl (by decide +kernel) ⟨Nat.le_of_ble_eq_true rfl, Nat.le_of_ble_eq_true rfl⟩) (tv_preT hE hS) rfl rfl hl.1 rfl (lv_room (Nat.le_of_ble_eq_true rfl)) dX0_copy_5 ⟨Nat.le_of_ble_eq_true rfl, Nat.le_of_ble_eq_true rfl⟩) htab hlocks (fun t hz hk => ⟨(), by rw [hV1]; exact (by decide : (1 : Int32) ≠ 0), by rw [hV1]; rfl, hz, fun q hq _ => hk q hq⟩) (fun z h => nomatch h) (Nat.le_of_ble_eq_true rfl) (Nat.le_of_ble_eq_true rfl)
    | true =>
      refine tv_callN (W.runS (As := [.int x2]) (rest := []) ⟨hx, hb, hml, hown, hts⟩ (n_X0_needRow l x2 g2) (va_cwS 1 hts gX0_copy_X0_needRow rfl rfl rfl (by decide +kernel) ⟨Nat.le_of_ble_eq_true rfl, Nat.le_of_ble_eq_true rfl⟩) preEq rfl rfl hl.1 rfl (lv_room (Nat.le_of_ble_eq_true rfl)) dX0_copy_5 ⟨Nat.le_of_ble_eq_true rfl, Nat.le_of_ble_eq_true rfl⟩) ?_
      obtain ⟨q, hq8, rfl⟩ := tv_in_of (by omega) g2
      refine lv_iload_n hx hb dX0_copy_8 rfl (lv_at hl 1 rfl) ?_
      refine lv_iload_n hx hb dX0_copy_9 rfl (lv_at hl 2 rfl) ?_
      cases g3 : tv_os (nI r) (nI q) with
      | false =>
        have hV1 : V = (2, 0, (rd, lv, op, nt)) := by rw [hV]; simp only [sp_copy, g1, g2, g3, Bool.and_false, Bool.false_and, Bool.and_true, Bool.true_and, Bool.and_self, sp_f, sp_tf, sp_tt]
        exact tv_callT (a := #[]) (vx_runS (As := [.int (nI r), .int (nI q)]) (rest := []) ⟨hx, hb, hml, hown, hts⟩ (t_X0_needOneSort l hT r q g3 hr8 hq8) (va_cwS 2 hts gX0_copy_X0_needOneSort rfl rfl rfl (by decide +kernel) ⟨Nat.le_of_ble_eq_true rfl, Nat.le_of_ble_eq_true rfl⟩) (tv_preT hE hS) rfl rfl hl.1 rfl (lv_room (Nat.le_of_ble_eq_true rfl)) dX0_copy_10 ⟨Nat.le_of_ble_eq_true rfl, Nat.le_of_ble_eq_true rfl⟩) htab hlocks (fun t hz hk => ⟨(), by rw [hV1]; exact (by decide : (2 : Int32) ≠ 0), by rw [hV1]; rfl, hz, fun q hq _ => hk q hq⟩) (fun z h => nomatch h) (Nat.le_of_ble_eq_true rfl) (Nat.le_of_ble_eq_true rfl)
      | true =>
        refine tv_callN (W.runS (As := [.int (nI r), .int (nI q)]) (rest := []) ⟨hx, hb, hml, hown, hts⟩ (n_X0_needOneSort l r q g3 hr8 hq8) (va_cwS 2 hts gX0_copy_X0_needOneSort rfl rfl rfl (by decide +kernel) ⟨Nat.le_of_ble_eq_true rfl, Nat.le_of_ble_eq_true rfl⟩) preEq rfl rfl hl.1 rfl (lv_room (Nat.le_of_ble_eq_true rfl)) dX0_copy_10 ⟨Nat.le_of_ble_eq_true rfl, Nat.le_of_ble_eq_true rfl⟩) ?_
        refine lv_iconst (v := 0) hx hb dX0_copy_13 (by decide) ?_
        refine lv_istore_n (lv' := [(3, .int 0), (0, .ref h), (1, .int (nI r)), (2, .int (nI q))]) hx hb dX0_copy_14 rfl hl (by decide) rfl (fun ls hl => ?_)
        have hV0 : V = (0, cn (fun k => if rd (12 * r + k) = -2147483648 then 1 else 0) 12, (cp r q rd 12, lv, op, nt)) := by
          rw [hV]; simp only [sp_copy, tN, nI_clamp (show r < 2 ^ 31 by omega), nI_clamp (show q < 2 ^ 31 by omega), g1, g2, g3, Bool.and_false, Bool.false_and, Bool.and_true, Bool.true_and, Bool.and_self, sp_f, sp_tf, sp_tt]
        have loop : ∀ (n k : Nat), k + n = 12 → ∀ (H : Heap) (locs : List Loc), va_P D vwCl (tv_cw cI cZ h a1 a2 a3 a4 (cp r q rd k, lv, op, nt)) H → va_D A (tv_cw cI cZ h a1 a2 a3 a4 (cp r q rd k, lv, op, nt)) → va_S A s.heap H locs → ∀ ls : Array Slot, lv_has ls 4 [(0, .ref h), (1, .int (nI r)), (2, .int (nI q)), (3, .int (nI k))] → W p l e (headSpec wsX0_copy tv_rmP).room s m ([.ref h, .int (nI r), .int (nI q)] : List Value).toArray below meth c H locs 0 0 (vx_MQ below (tv_QP D cI cZ cL (tv_cw cI cZ h a1 a2 a3 a4) (tv_cw cI cZ h a1 a2 a3 a4 (rd, lv, op, nt)) s.heap.size V) (tv_XP V) ([.ref h, .int (nI r), .int (nI q)] : List Value).toArray s 1 6 (va_A (tv_cw cI cZ h a1 a2 a3 a4 (rd, lv, op, nt)) s.heap.size)) (F0 m 15 ls []) := by
          intro n
          induction n with
          | zero =>
            intro k hk H locs hP hD hS ls hl
            have hk2 : k = 12 := by omega
            subst hk2
            refine lv_iload_n hx hb dX0_copy_15 rfl (lv_at hl 3 rfl) ?_
            refine lv_bipush (v := 12) hx hb dX0_copy_16 (by decide) ?_
            refine lv_icmp_ge (tgt := 47) hx hb dX0_copy_18 (by decide) (fun c_1 => ?_) (fun c_1 => ?_)
            · skip
              refine lv_aload_n hx hb dX0_copy_47 rfl (lv_at hl 0 rfl) ?_
              refine lv_iload_n hx hb dX0_copy_48 rfl (lv_at hl 2 rfl) ?_
              refine tv_callR (W.runV (As := [.int (nI q)]) (rest := []) ⟨hx, hb, hml, hown, hts⟩ (c_X0_countMissing l D cI cZ cL h a1 a2 a3 a4 (cp r q rd 12) lv op nt q hq8) (cwV 1 hts gX0_copy_X0_countMissing rfl rfl rfl (by decide +kernel) ⟨Nat.le_of_ble_eq_true rfl, Nat.le_of_ble_eq_true rfl⟩) (tv_preV hP hK rfl 0 rfl) rfl rfl hl.1 rfl (lv_room (Nat.le_of_ble_eq_true rfl)) dX0_copy_49 ⟨Nat.le_of_ble_eq_true rfl, Nat.le_of_ble_eq_true rfl⟩) ?_
              refine tv_top (cn (fun k => if rd (12 * r + k) = -2147483648 then 1 else 0) 12) (cn_congr 12 (fun k hk => by rw [cp_in rd 12 k hk (Nat.le_refl _)])) ?_
              exact tv_iretP (wf := tv_cw cI cZ h a1 a2 a3 a4) (σ := (cp r q rd 12, lv, op, nt)) (r := cn (fun k => if rd (12 * r + k) = -2147483648 then 1 else 0) 12) hAe hV0 hx hb hr hP hK hD hS dX0_copy_52 hlocks
            · exact absurd (show nI 12 ≤ nI 12 from nI_le (Nat.le_refl _) (by omega)) c_1
          | succ n ih =>
            intro k hk H locs hP hD hS ls hl
            refine lv_iload_n hx hb dX0_copy_15 rfl (lv_at hl 3 rfl) ?_
            refine lv_bipush (v := 12) hx hb dX0_copy_16 (by decide) ?_
            refine lv_icmp_ge (tgt := 47) hx hb dX0_copy_18 (by decide) (fun c_2 => ?_) (fun c_2 => ?_)
            · exact absurd (show nI 12 ≤ nI k from c_2) (nI_ge (by omega) (by omega))
            · skip
              refine lv_aload_n hx hb dX0_copy_21 rfl (lv_at hl 0 rfl) ?_
              refine va_get (D := D) (ci := 0) (v := .ref a1) (C := RX0) (T := TX0) (N := 4) hx hb hts iX0_copy hown hK hP 0 rfl rfl 0 (by decide) (hts (.fieldLink RX0 9 "TideHouse" "readings" "[I") (by decide +kernel)) (fun _ h9 => h9) rfl dX0_copy_22 ?_
              refine lv_iload_n hx hb dX0_copy_25 rfl (lv_at hl 2 rfl) ?_
              refine lv_iload_n hx hb dX0_copy_26 rfl (lv_at hl 3 rfl) ?_
              refine tv_callR (W.runS (As := [.int (nI q), .int (nI k)]) (rest := [.ref a1]) ⟨hx, hb, hml, hown, hts⟩ (c_X0_spot l q k) (va_cwS 2 hts gX0_copy_X0_spot rfl rfl rfl (by decide +kernel) ⟨Nat.le_of_ble_eq_true rfl, Nat.le_of_ble_eq_true rfl⟩) preEq rfl rfl hl.1 rfl (lv_room (Nat.le_of_ble_eq_true rfl)) dX0_copy_27 ⟨Nat.le_of_ble_eq_true rfl, Nat.le_of_ble_eq_true rfl⟩) ?_
              refine lv_aload_n hx hb dX0_copy_30 rfl (lv_at hl 0 rfl) ?_
              refine va_get (D := D) (ci := 0) (v := .ref a1) (C := RX0) (T := TX0) (N := 4) hx hb hts iX0_copy hown hK hP 0 rfl rfl 0 (by decide) (hts (.fieldLink RX0 9 "TideHouse" "readings" "[I") (by decide +kernel)) (fun _ h9 => h9) rfl dX0_copy_31 ?_
              refine lv_iload_n hx hb dX0_copy_34 rfl (lv_at hl 1 rfl) ?_
              refine lv_iload_n hx hb dX0_copy_35 rfl (lv_at hl 3 rfl) ?_
              refine tv_callR (W.runS (As := [.int (nI r), .int (nI k)]) (rest := [.ref a1, .int (nI (12 * q + k)), .ref a1]) ⟨hx, hb, hml, hown, hts⟩ (c_X0_spot l r k) (va_cwS 2 hts gX0_copy_X0_spot rfl rfl rfl (by decide +kernel) ⟨Nat.le_of_ble_eq_true rfl, Nat.le_of_ble_eq_true rfl⟩) preEq rfl rfl hl.1 rfl (lv_room (Nat.le_of_ble_eq_true rfl)) dX0_copy_36 ⟨Nat.le_of_ble_eq_true rfl, Nat.le_of_ble_eq_true rfl⟩) ?_
              refine tv_iald (D := D) (cA := cI) (n := 96) (f := cp r q rd k) (k := (12 * r + k)) hx hb hK hP 1 0 rfl rfl (by omega) (by omega) dX0_copy_39 ?_
              refine tv_iast (D := D) (cA := cI) (n := 96) (f := cp r q rd k) (k := (12 * q + k)) (x := (cp r q rd k) (12 * r + k)) (ws1 := tv_cw cI cZ h a1 a2 a3 a4 (upd (cp r q rd k) (12 * q + k) ((cp r q rd k) (12 * r + k)), lv, op, nt)) hx hb hK hP hD hS 1 0 rfl rfl (by omega) (by omega) rfl dX0_copy_40 (fun H locs hP hD hS => ?_)
              refine lv_iinc (v := nI (k + 1)) (lv' := [(3, .int (nI (k + 1))), (0, .ref h), (1, .int (nI r)), (2, .int (nI q))]) hx hb dX0_copy_41 hl (k := 3) rfl (nI_1 k) (by decide) rfl (fun ls hl => ?_)
              refine lv_goto (tgt := 15) hx hb dX0_copy_44 (by decide) ?_
              have hP : va_P D vwCl (tv_cw cI cZ h a1 a2 a3 a4 (cp r q rd (k + 1), lv, op, nt)) H := by exact hP
              have hD : va_D A (tv_cw cI cZ h a1 a2 a3 a4 (cp r q rd (k + 1), lv, op, nt)) := by exact hD
              exact ih (k + 1) (by omega) H locs hP hD hS ls (lv_sub hl [1, 2, 3, 0] rfl)
        exact loop 12 0 (by omega) s.heap [] hP hD hS ls (by rw [show nI 0 = 0 from nI_0]; exact lv_sub hl [1, 2, 3, 0] rfl)
theorem opn01 (x v tr : Int32) : opn x v tr = 0 ∨ opn x v tr = 1 := by
  unfold opn
  split
  · exact tq01 _ _ _
  · split
    · exact Or.inr rfl
    · exact Or.inl rfl
theorem iX0_watch : ∀ w ∈ wsX00, w ∈ wsX0_watch := by decide +kernel
set_option maxHeartbeats 4000000 in
set_option maxRecDepth 100000 in
theorem c_X0_watch (l : Launch) (hT : l.stackTraces = false) (D : va_G) (cI cZ cL : ClassId) (h a1 a2 a3 a4 : Nat) (rd lv op nt : Nat → Int32) (sz : Nat) (x1 x2 x3 : Int32) (V : TV) (hV : V = sp_watch x1 x2 x3 (rd, lv, op, nt)) (hop : ∀ j, op j = 0 ∨ op j = 1) : vx_Met l yX0_watch wsX0_watch tv_rmP (tv_PP D cI cZ cL (tv_cw cI cZ h a1 a2 a3 a4 (rd, lv, op, nt)) sz [.ref h, .int x1, .int x2, .int x3]) (tv_QP D cI cZ cL (tv_cw cI cZ h a1 a2 a3 a4) (tv_cw cI cZ h a1 a2 a3 a4 (rd, lv, op, nt)) sz V) (tv_XP V) 1 6 (va_A (tv_cw cI cZ h a1 a2 a3 a4 (rd, lv, op, nt)) sz) := by
  refine vx_ofW (cc := cX0_watch) (maxL := 8) (ret := (some .int)) (by decide) rfl ?_
  intro p e s m args below meth c s₁ B hml htab hv
  obtain ⟨rfl, hsz, hP, hK, hD0, hE⟩ := hv
  subst hsz
  have hx := B.exec
  have hb := B.bytes
  have hr := B.returns
  have hts := atoms_spec (ws := wsX0_watch) B.pre
  have hown : s.vm.findClass RX0 = some m.cls := findClass_of_methodNamed B.named
  have hlocks := B.notSynchronized
  have hD := hD0.self (sz := s.heap.size)
  obtain ⟨A, hAe⟩ : ∃ A, A = va_A (tv_cw cI cZ h a1 a2 a3 a4 (rd, lv, op, nt)) s.heap.size := ⟨_, rfl⟩
  rw [← hAe] at hD hE
  have hA : ∀ q : Nat, s.heap.size ≤ q → A q := fun q h => by rw [hAe]; exact Or.inr h
  have hS : va_S A s.heap s.heap [] := va_S.rf
  clear hD0
  have hl := lv_entry ([.ref h, .int x1, .int x2, .int x3]) (n := 8) (Nat.le_of_ble_eq_true rfl)
  rw [lg_entry_eq]
  generalize (lg_sl ([.ref h, .int x1, .int x2, .int x3]) ++ List.replicate (8 - (lg_sl ([.ref h, .int x1, .int x2, .int x3])).length) Slot.unset).toArray = ls at hl ⊢
  have hl : lv_has ls 8 [(0, .ref h), (1, .int x1), (2, .int x2), (3, .int x3)] := hl
  refine lv_iload_n hx hb dX0_watch_0 rfl (lv_at hl 1 rfl) ?_
  cases g1 : tv_in 4 x1 with
  | false =>
    have hV1 : V = (1, 0, (rd, lv, op, nt)) := by rw [hV]; simp only [sp_watch, g1, Bool.and_false, Bool.false_and, Bool.and_true, Bool.true_and, Bool.and_self, sp_f, sp_tf, sp_tt]
    exact tv_callT (a := #[]) (vx_runS (As := [.int x1]) (rest := []) ⟨hx, hb, hml, hown, hts⟩ (t_X0_needGate l hT x1 g1) (va_cwS 1 hts gX0_watch_X0_needGate rfl rfl rfl (by decide +kernel) ⟨Nat.le_of_ble_eq_true rfl, Nat.le_of_ble_eq_true rfl⟩) (tv_preT hE hS) rfl rfl hl.1 rfl (lv_room (Nat.le_of_ble_eq_true rfl)) dX0_watch_1 ⟨Nat.le_of_ble_eq_true rfl, Nat.le_of_ble_eq_true rfl⟩) htab hlocks (fun t hz hk => ⟨(), by rw [hV1]; exact (by decide : (1 : Int32) ≠ 0), by rw [hV1]; rfl, hz, fun q hq _ => hk q hq⟩) (fun z h => nomatch h) (Nat.le_of_ble_eq_true rfl) (Nat.le_of_ble_eq_true rfl)
  | true =>
    refine tv_callN (W.runS (As := [.int x1]) (rest := []) ⟨hx, hb, hml, hown, hts⟩ (n_X0_needGate l x1 g1) (va_cwS 1 hts gX0_watch_X0_needGate rfl rfl rfl (by decide +kernel) ⟨Nat.le_of_ble_eq_true rfl, Nat.le_of_ble_eq_true rfl⟩) preEq rfl rfl hl.1 rfl (lv_room (Nat.le_of_ble_eq_true rfl)) dX0_watch_1 ⟨Nat.le_of_ble_eq_true rfl, Nat.le_of_ble_eq_true rfl⟩) ?_
    obtain ⟨g, hg8, rfl⟩ := tv_in_of (by omega) g1
    refine lv_iload_n hx hb dX0_watch_4 rfl (lv_at hl 2 rfl) ?_
    cases g2 : tv_in 8 x2 with
    | false =>
      have hV1 : V = (1, 0, (rd, lv, op, nt)) := by rw [hV]; simp only [sp_watch, g1, g2, Bool.and_false, Bool.false_and, Bool.and_true, Bool.true_and, Bool.and_self, sp_f, sp_tf, sp_tt]
      exact tv_callT (a := #[]) (vx_runS (As := [.int x2]) (rest := []) ⟨hx, hb, hml, hown, hts⟩ (t_X0_needRow l hT x2 g2) (va_cwS 1 hts gX0_watch_X0_needRow rfl rfl rfl (by decide +kernel) ⟨Nat.le_of_ble_eq_true rfl, Nat.le_of_ble_eq_true rfl⟩) (tv_preT hE hS) rfl rfl hl.1 rfl (lv_room (Nat.le_of_ble_eq_true rfl)) dX0_watch_5 ⟨Nat.le_of_ble_eq_true rfl, Nat.le_of_ble_eq_true rfl⟩) htab hlocks (fun t hz hk => ⟨(), by rw [hV1]; exact (by decide : (1 : Int32) ≠ 0), by rw [hV1]; rfl, hz, fun q hq _ => hk q hq⟩) (fun z h => nomatch h) (Nat.le_of_ble_eq_true rfl) (Nat.le_of_ble_eq_true rfl)
    | true =>
      refine tv_callN (W.runS (As := [.int x2]) (rest := []) ⟨hx, hb, hml, hown, hts⟩ (n_X0_needRow l x2 g2) (va_cwS 1 hts gX0_watch_X0_needRow rfl rfl rfl (by decide +kernel) ⟨Nat.le_of_ble_eq_true rfl, Nat.le_of_ble_eq_true rfl⟩) preEq rfl rfl hl.1 rfl (lv_room (Nat.le_of_ble_eq_true rfl)) dX0_watch_5 ⟨Nat.le_of_ble_eq_true rfl, Nat.le_of_ble_eq_true rfl⟩) ?_
      obtain ⟨r, hr8, rfl⟩ := tv_in_of (by omega) g2
      refine lv_aload_n hx hb dX0_watch_8 rfl (lv_at hl 0 rfl) ?_
      refine lv_iload_n hx hb dX0_watch_9 rfl (lv_at hl 1 rfl) ?_
      refine lv_iload_n hx hb dX0_watch_10 rfl (lv_at hl 2 rfl) ?_
      refine tv_callR (W.runV (As := [.int (nI g), .int (nI r)]) (rest := []) ⟨hx, hb, hml, hown, hts⟩ (c_X0_levelFor l D cI cZ cL h a1 a2 a3 a4 rd lv op nt g r hg8 hr8) (cwV 2 hts gX0_watch_X0_levelFor rfl rfl rfl (by decide +kernel) ⟨Nat.le_of_ble_eq_true rfl, Nat.le_of_ble_eq_true rfl⟩) (tv_preV hP hK rfl 0 rfl) rfl rfl hl.1 rfl (lv_room (Nat.le_of_ble_eq_true rfl)) dX0_watch_11 ⟨Nat.le_of_ble_eq_true rfl, Nat.le_of_ble_eq_true rfl⟩) ?_
      refine lv_istore (lv' := [(4, .int (lvl lv g r)), (0, .ref h), (1, .int (nI g)), (2, .int (nI r)), (3, .int x3)]) hx hb dX0_watch_14 hl (by decide) rfl (fun ls hl => ?_)
      refine lv_iconst (v := 0) hx hb dX0_watch_16 (by decide) ?_
      refine lv_istore (lv' := [(5, .int 0), (4, .int (lvl lv g r)), (0, .ref h), (1, .int (nI g)), (2, .int (nI r)), (3, .int x3)]) hx hb dX0_watch_17 hl (by decide) rfl (fun ls hl => ?_)
      refine lv_iconst (v := 0) hx hb dX0_watch_19 (by decide) ?_
      refine lv_istore (lv' := [(6, .int 0), (5, .int 0), (4, .int (lvl lv g r)), (0, .ref h), (1, .int (nI g)), (2, .int (nI r)), (3, .int x3)]) hx hb dX0_watch_20 hl (by decide) rfl (fun ls hl => ?_)
      have hV0 : V = (0, (wa g (fun k => opn (rw12 rd r k) (lvl lv g r) x3) op 12).2, (rd, lv, (wa g (fun k => opn (rw12 rd r k) (lvl lv g r) x3) op 12).1, nt)) := by
        rw [hV]; simp only [sp_watch, tN, nI_clamp (show g < 2 ^ 31 by omega), nI_clamp (show r < 2 ^ 31 by omega), g1, g2, Bool.and_false, Bool.false_and, Bool.and_true, Bool.true_and, Bool.and_self, sp_f, sp_tf, sp_tt]
      have loop : ∀ (n k : Nat), k + n = 12 → ∀ (H : Heap) (locs : List Loc), va_P D vwCl (tv_cw cI cZ h a1 a2 a3 a4 (rd, lv, (wa g (fun k => opn (rw12 rd r k) (lvl lv g r) x3) op k).1, nt)) H → va_D A (tv_cw cI cZ h a1 a2 a3 a4 (rd, lv, (wa g (fun k => opn (rw12 rd r k) (lvl lv g r) x3) op k).1, nt)) → va_S A s.heap H locs → ∀ ls : Array Slot, lv_has ls 8 [(0, .ref h), (1, .int (nI g)), (2, .int (nI r)), (3, .int x3), (4, .int (lvl lv g r)), (5, .int ((wa g (fun k => opn (rw12 rd r k) (lvl lv g r) x3) op k).2)), (6, .int (nI k))] → W p l e (headSpec wsX0_watch tv_rmP).room s m ([.ref h, .int (nI g), .int (nI r), .int x3] : List Value).toArray below meth c H locs 0 0 (vx_MQ below (tv_QP D cI cZ cL (tv_cw cI cZ h a1 a2 a3 a4) (tv_cw cI cZ h a1 a2 a3 a4 (rd, lv, op, nt)) s.heap.size V) (tv_XP V) ([.ref h, .int (nI g), .int (nI r), .int x3] : List Value).toArray s 1 6 (va_A (tv_cw cI cZ h a1 a2 a3 a4 (rd, lv, op, nt)) s.heap.size)) (F0 m 22 ls []) := by
        intro n
        induction n with
        | zero =>
          intro k hk H locs hP hD hS ls hl
          have hk2 : k = 12 := by omega
          subst hk2
          refine lv_iload hx hb dX0_watch_22 (lv_at hl 6 rfl) ?_
          refine lv_bipush (v := 12) hx hb dX0_watch_24 (by decide) ?_
          refine lv_icmp_ge (tgt := 76) hx hb dX0_watch_26 (by decide) (fun c_1 => ?_) (fun c_1 => ?_)
          · skip
            refine lv_iload hx hb dX0_watch_76 (lv_at hl 5 rfl) ?_
            exact tv_iretP (wf := tv_cw cI cZ h a1 a2 a3 a4) (σ := (rd, lv, (wa g (fun k => opn (rw12 rd r k) (lvl lv g r) x3) op 12).1, nt)) (r := (wa g (fun k => opn (rw12 rd r k) (lvl lv g r) x3) op 12).2) hAe hV0 hx hb hr hP hK hD hS dX0_watch_78 hlocks
          · exact absurd (show nI 12 ≤ nI 12 from nI_le (Nat.le_refl _) (by omega)) c_1
        | succ n ih =>
          intro k hk H locs hP hD hS ls hl
          refine lv_iload hx hb dX0_watch_22 (lv_at hl 6 rfl) ?_
          refine lv_bipush (v := 12) hx hb dX0_watch_24 (by decide) ?_
          refine lv_icmp_ge (tgt := 76) hx hb dX0_watch_26 (by decide) (fun c_2 => ?_) (fun c_2 => ?_)
          · exact absurd (show nI 12 ≤ nI k from c_2) (nI_ge (by omega) (by omega))
          · skip
            refine lv_aload_n hx hb dX0_watch_29 rfl (lv_at hl 0 rfl) ?_
            refine va_get (D := D) (ci := 0) (v := .ref a1) (C := RX0) (T := TX0) (N := 4) hx hb hts iX0_watch hown hK hP 0 rfl rfl 0 (by decide) (hts (.fieldLink RX0 9 "TideHouse" "readings" "[I") (by decide +kernel)) (fun _ h9 => h9) rfl dX0_watch_30 ?_
            refine lv_iload_n hx hb dX0_watch_33 rfl (lv_at hl 2 rfl) ?_
            refine lv_iload hx hb dX0_watch_34 (lv_at hl 6 rfl) ?_
            refine tv_callR (W.runS (As := [.int (nI r), .int (nI k)]) (rest := [.ref a1]) ⟨hx, hb, hml, hown, hts⟩ (c_X0_spot l r k) (va_cwS 2 hts gX0_watch_X0_spot rfl rfl rfl (by decide +kernel) ⟨Nat.le_of_ble_eq_true rfl, Nat.le_of_ble_eq_true rfl⟩) preEq rfl rfl hl.1 rfl (lv_room (Nat.le_of_ble_eq_true rfl)) dX0_watch_36 ⟨Nat.le_of_ble_eq_true rfl, Nat.le_of_ble_eq_true rfl⟩) ?_
            refine tv_iald (D := D) (cA := cI) (n := 96) (f := rd) (k := (12 * r + k)) hx hb hK hP 1 0 rfl rfl (by omega) (by omega) dX0_watch_39 ?_
            refine lv_iload hx hb dX0_watch_40 (lv_at hl 4 rfl) ?_
            refine lv_iload_n hx hb dX0_watch_42 rfl (lv_at hl 3 rfl) ?_
            refine tv_callR (W.runS (As := [.int (rd (12 * r + k)), .int (lvl lv g r), .int x3]) (rest := []) ⟨hx, hb, hml, hown, hts⟩ (c_X0_opens l (rd (12 * r + k)) (lvl lv g r) x3) (va_cwS 3 hts gX0_watch_X0_opens rfl rfl rfl (by decide +kernel) ⟨Nat.le_of_ble_eq_true rfl, Nat.le_of_ble_eq_true rfl⟩) preEq rfl rfl hl.1 rfl (lv_room (Nat.le_of_ble_eq_true rfl)) dX0_watch_43 ⟨Nat.le_of_ble_eq_true rfl, Nat.le_of_ble_eq_true rfl⟩) ?_
            refine lv_istore (lv' := [(7, .int (opn (rd (12 * r + k)) (lvl lv g r) x3)), (0, .ref h), (1, .int (nI g)), (2, .int (nI r)), (3, .int x3), (4, .int (lvl lv g r)), (5, .int ((wa g (fun k => opn (rw12 rd r k) (lvl lv g r) x3) op k).2)), (6, .int (nI k))]) hx hb dX0_watch_46 hl (by decide) rfl (fun ls hl => ?_)
            refine lv_iload hx hb dX0_watch_48 (lv_at hl 0 rfl) ?_
            refine lv_aload_n hx hb dX0_watch_50 rfl (lv_at hl 1 rfl) ?_
            refine va_get (D := D) (ci := 0) (v := .ref a3) (C := RX0) (T := TX0) (N := 4) hx hb hts iX0_watch hown hK hP 0 rfl rfl 2 (by decide) (hts (.fieldLink RX0 16 "TideHouse" "open" "[Z") (by decide +kernel)) (fun _ h9 => h9) rfl dX0_watch_51 ?_
            refine lv_iload_n hx hb dX0_watch_54 rfl (lv_at hl 2 rfl) ?_
            refine tv_zald (D := D) (cA := cZ) (n := 4) (f := (wa g (fun k => opn (rw12 rd r k) (lvl lv g r) x3) op k).1) (k := g) hx hb hK hP 3 1 rfl rfl (by omega) (by omega) dX0_watch_55 ?_
            refine lv_icmp_eq (tgt := 70) hx hb dX0_watch_56 (by decide) (fun c_3 => ?_) (fun c_3 => ?_)
            · skip
              refine lv_iinc (v := nI (k + 1)) (lv' := [(6, .int (nI (k + 1))), (7, .int (opn (rd (12 * r + k)) (lvl lv g r) x3)), (0, .ref h), (1, .int (nI g)), (2, .int (nI r)), (3, .int x3), (4, .int (lvl lv g r)), (5, .int ((wa g (fun k => opn (rw12 rd r k) (lvl lv g r) x3) op k).2))]) hx hb dX0_watch_70 hl (k := 7) rfl (nI_1 k) (by decide) rfl (fun ls hl => ?_)
              refine lv_goto (tgt := 22) hx hb dX0_watch_73 (by decide) ?_
              have hw1 : (wa g (fun k => opn (rw12 rd r k) (lvl lv g r) x3) op (k + 1)).1 = (wa g (fun k => opn (rw12 rd r k) (lvl lv g r) x3) op k).1 := by
                show upd (wa g (fun k => opn (rw12 rd r k) (lvl lv g r) x3) op k).1 g (opn (rd (12 * r + k)) (lvl lv g r) x3) = _
                rw [c_3]; exact upd_same _ _
              have hP : va_P D vwCl (tv_cw cI cZ h a1 a2 a3 a4 (rd, lv, (wa g (fun k => opn (rw12 rd r k) (lvl lv g r) x3) op (k + 1)).1, nt)) H := by rw [hw1]; exact hP
              have hD : va_D A (tv_cw cI cZ h a1 a2 a3 a4 (rd, lv, (wa g (fun k => opn (rw12 rd r k) (lvl lv g r) x3) op (k + 1)).1, nt)) := by rw [hw1]; exact hD
              exact ih (k + 1) (by omega) H locs hP hD hS ls (by rw [show (wa g (fun k => opn (rw12 rd r k) (lvl lv g r) x3) op (k + 1)).2 = (wa g (fun k => opn (rw12 rd r k) (lvl lv g r) x3) op k).2 from by show (wa g (fun k => opn (rw12 rd r k) (lvl lv g r) x3) op k).2 + (if _ then 0 else 1) = _; rw [if_pos c_3]; simp]; exact lv_sub hl [2, 3, 4, 5, 6, 7, 0] rfl)
            · skip
              refine lv_aload_n hx hb dX0_watch_59 rfl (lv_at hl 1 rfl) ?_
              refine va_get (D := D) (ci := 0) (v := .ref a3) (C := RX0) (T := TX0) (N := 4) hx hb hts iX0_watch hown hK hP 0 rfl rfl 2 (by decide) (hts (.fieldLink RX0 16 "TideHouse" "open" "[Z") (by decide +kernel)) (fun _ h9 => h9) rfl dX0_watch_60 ?_
              refine lv_iload_n hx hb dX0_watch_63 rfl (lv_at hl 2 rfl) ?_
              refine lv_iload hx hb dX0_watch_64 (lv_at hl 0 rfl) ?_
              refine tv_zast (D := D) (cA := cZ) (n := 4) (f := (wa g (fun k => opn (rw12 rd r k) (lvl lv g r) x3) op k).1) (k := g) (x := opn (rd (12 * r + k)) (lvl lv g r) x3) (ws1 := tv_cw cI cZ h a1 a2 a3 a4 (rd, lv, upd ((wa g (fun k => opn (rw12 rd r k) (lvl lv g r) x3) op k).1) g (opn (rd (12 * r + k)) (lvl lv g r) x3), nt)) hx hb hK hP hD hS 3 1 rfl rfl (opn01 _ _ _) (by omega) (by omega) rfl dX0_watch_66 (fun H locs hP hD hS => ?_)
              refine lv_iinc (v := (wa g (fun k => opn (rw12 rd r k) (lvl lv g r) x3) op k).2 + 1) (lv' := [(5, .int ((wa g (fun k => opn (rw12 rd r k) (lvl lv g r) x3) op k).2 + 1)), (7, .int (opn (rd (12 * r + k)) (lvl lv g r) x3)), (0, .ref h), (1, .int (nI g)), (2, .int (nI r)), (3, .int x3), (4, .int (lvl lv g r)), (6, .int (nI k))]) hx hb dX0_watch_67 hl (k := 6) rfl (rfl) (by decide) rfl (fun ls hl => ?_)
              refine lv_iinc (v := nI (k + 1)) (lv' := [(6, .int (nI (k + 1))), (5, .int ((wa g (fun k => opn (rw12 rd r k) (lvl lv g r) x3) op k).2 + 1)), (7, .int (opn (rd (12 * r + k)) (lvl lv g r) x3)), (0, .ref h), (1, .int (nI g)), (2, .int (nI r)), (3, .int x3), (4, .int (lvl lv g r))]) hx hb dX0_watch_70 hl (k := 7) rfl (nI_1 k) (by decide) rfl (fun ls hl => ?_)
              refine lv_goto (tgt := 22) hx hb dX0_watch_73 (by decide) ?_
              have hP : va_P D vwCl (tv_cw cI cZ h a1 a2 a3 a4 (rd, lv, (wa g (fun k => opn (rw12 rd r k) (lvl lv g r) x3) op (k + 1)).1, nt)) H := by exact hP
              have hD : va_D A (tv_cw cI cZ h a1 a2 a3 a4 (rd, lv, (wa g (fun k => opn (rw12 rd r k) (lvl lv g r) x3) op (k + 1)).1, nt)) := by exact hD
              exact ih (k + 1) (by omega) H locs hP hD hS ls (by rw [show (wa g (fun k => opn (rw12 rd r k) (lvl lv g r) x3) op (k + 1)).2 = (wa g (fun k => opn (rw12 rd r k) (lvl lv g r) x3) op k).2 + 1 from by show (wa g (fun k => opn (rw12 rd r k) (lvl lv g r) x3) op k).2 + (if _ then 0 else 1) = _; rw [if_neg c_3]]; exact lv_sub hl [3, 4, 5, 6, 7, 1, 0] rfl)
      exact loop 12 0 (by omega) s.heap [] hP hD hS ls (by rw [show (wa g (fun k => opn (rw12 rd r k) (lvl lv g r) x3) op 0).2 = 0 from rfl, show nI 0 = 0 from nI_0]; exact lv_sub hl [3, 4, 5, 6, 2, 1, 0] rfl)
theorem iX0_pick : ∀ w ∈ wsX00, w ∈ wsX0_pick := by decide +kernel
set_option maxHeartbeats 4000000 in
set_option maxRecDepth 100000 in
theorem c_X0_pick (l : Launch) (hT : l.stackTraces = false) (D : va_G) (cI cZ cL : ClassId) (h a1 a2 a3 a4 : Nat) (rd lv op nt : Nat → Int32) (sz : Nat) (x1 x2 : Int32) (V : TV) (hV : V = sp_pick x1 x2 (rd, lv, op, nt)) : vx_Met l yX0_pick wsX0_pick tv_rmP (tv_PP D cI cZ cL (tv_cw cI cZ h a1 a2 a3 a4 (rd, lv, op, nt)) sz [.ref h, .int x1, .int x2]) (tv_QP D cI cZ cL (tv_cw cI cZ h a1 a2 a3 a4) (tv_cw cI cZ h a1 a2 a3 a4 (rd, lv, op, nt)) sz V) (tv_XP V) 1 6 (va_A (tv_cw cI cZ h a1 a2 a3 a4 (rd, lv, op, nt)) sz) := by
  refine vx_ofW (cc := cX0_pick) (maxL := 5) (ret := (some .int)) (by decide) rfl ?_
  intro p e s m args below meth c s₁ B hml htab hv
  obtain ⟨rfl, hsz, hP, hK, hD0, hE⟩ := hv
  subst hsz
  have hx := B.exec
  have hb := B.bytes
  have hr := B.returns
  have hts := atoms_spec (ws := wsX0_pick) B.pre
  have hown : s.vm.findClass RX0 = some m.cls := findClass_of_methodNamed B.named
  have hlocks := B.notSynchronized
  have hD := hD0.self (sz := s.heap.size)
  obtain ⟨A, hAe⟩ : ∃ A, A = va_A (tv_cw cI cZ h a1 a2 a3 a4 (rd, lv, op, nt)) s.heap.size := ⟨_, rfl⟩
  rw [← hAe] at hD hE
  have hA : ∀ q : Nat, s.heap.size ≤ q → A q := fun q h => by rw [hAe]; exact Or.inr h
  have hS : va_S A s.heap s.heap [] := va_S.rf
  clear hD0
  have hl := lv_entry ([.ref h, .int x1, .int x2]) (n := 5) (Nat.le_of_ble_eq_true rfl)
  rw [lg_entry_eq]
  generalize (lg_sl ([.ref h, .int x1, .int x2]) ++ List.replicate (5 - (lg_sl ([.ref h, .int x1, .int x2])).length) Slot.unset).toArray = ls at hl ⊢
  have hl : lv_has ls 5 [(0, .ref h), (1, .int x1), (2, .int x2)] := hl
  refine lv_iload_n hx hb dX0_pick_0 rfl (lv_at hl 1 rfl) ?_
  cases g1 : tv_in 8 x1 with
  | false =>
    have hV1 : V = (1, 0, (rd, lv, op, nt)) := by rw [hV]; simp only [sp_pick, g1, Bool.and_false, Bool.false_and, Bool.and_true, Bool.true_and, Bool.and_self, sp_f, sp_tf, sp_tt]
    exact tv_callT (a := #[]) (vx_runS (As := [.int x1]) (rest := []) ⟨hx, hb, hml, hown, hts⟩ (t_X0_needRow l hT x1 g1) (va_cwS 1 hts gX0_pick_X0_needRow rfl rfl rfl (by decide +kernel) ⟨Nat.le_of_ble_eq_true rfl, Nat.le_of_ble_eq_true rfl⟩) (tv_preT hE hS) rfl rfl hl.1 rfl (lv_room (Nat.le_of_ble_eq_true rfl)) dX0_pick_1 ⟨Nat.le_of_ble_eq_true rfl, Nat.le_of_ble_eq_true rfl⟩) htab hlocks (fun t hz hk => ⟨(), by rw [hV1]; exact (by decide : (1 : Int32) ≠ 0), by rw [hV1]; rfl, hz, fun q hq _ => hk q hq⟩) (fun z h => nomatch h) (Nat.le_of_ble_eq_true rfl) (Nat.le_of_ble_eq_true rfl)
  | true =>
    refine tv_callN (W.runS (As := [.int x1]) (rest := []) ⟨hx, hb, hml, hown, hts⟩ (n_X0_needRow l x1 g1) (va_cwS 1 hts gX0_pick_X0_needRow rfl rfl rfl (by decide +kernel) ⟨Nat.le_of_ble_eq_true rfl, Nat.le_of_ble_eq_true rfl⟩) preEq rfl rfl hl.1 rfl (lv_room (Nat.le_of_ble_eq_true rfl)) dX0_pick_1 ⟨Nat.le_of_ble_eq_true rfl, Nat.le_of_ble_eq_true rfl⟩) ?_
    obtain ⟨r, hr8, rfl⟩ := tv_in_of (by omega) g1
    refine lv_iload_n hx hb dX0_pick_4 rfl (lv_at hl 2 rfl) ?_
    cases g2 : tv_sg x2 with
    | false =>
      have hV1 : V = (2, 0, (rd, lv, op, nt)) := by rw [hV]; simp only [sp_pick, g1, g2, Bool.and_false, Bool.false_and, Bool.and_true, Bool.true_and, Bool.and_self, sp_f, sp_tf, sp_tt]
      exact tv_callT (a := #[]) (vx_runS (As := [.int x2]) (rest := []) ⟨hx, hb, hml, hown, hts⟩ (t_X0_needSign l hT x2 g2) (va_cwS 1 hts gX0_pick_X0_needSign rfl rfl rfl (by decide +kernel) ⟨Nat.le_of_ble_eq_true rfl, Nat.le_of_ble_eq_true rfl⟩) (tv_preT hE hS) rfl rfl hl.1 rfl (lv_room (Nat.le_of_ble_eq_true rfl)) dX0_pick_5 ⟨Nat.le_of_ble_eq_true rfl, Nat.le_of_ble_eq_true rfl⟩) htab hlocks (fun t hz hk => ⟨(), by rw [hV1]; exact (by decide : (2 : Int32) ≠ 0), by rw [hV1]; rfl, hz, fun q hq _ => hk q hq⟩) (fun z h => nomatch h) (Nat.le_of_ble_eq_true rfl) (Nat.le_of_ble_eq_true rfl)
    | true =>
      refine tv_callN (W.runS (As := [.int x2]) (rest := []) ⟨hx, hb, hml, hown, hts⟩ (n_X0_needSign l x2 g2) (va_cwS 1 hts gX0_pick_X0_needSign rfl rfl rfl (by decide +kernel) ⟨Nat.le_of_ble_eq_true rfl, Nat.le_of_ble_eq_true rfl⟩) preEq rfl rfl hl.1 rfl (lv_room (Nat.le_of_ble_eq_true rfl)) dX0_pick_5 ⟨Nat.le_of_ble_eq_true rfl, Nat.le_of_ble_eq_true rfl⟩) ?_
      refine lv_iconst (v := 0) hx hb dX0_pick_8 (by decide) ?_
      refine lv_istore_n (lv' := [(3, .int 0), (0, .ref h), (1, .int (nI r)), (2, .int x2)]) hx hb dX0_pick_9 rfl hl (by decide) rfl (fun ls hl => ?_)
      refine lv_iconst (v := 1) hx hb dX0_pick_10 (by decide) ?_
      refine lv_istore (lv' := [(4, .int 1), (3, .int 0), (0, .ref h), (1, .int (nI r)), (2, .int x2)]) hx hb dX0_pick_11 hl (by decide) rfl (fun ls hl => ?_)
      have hV0 : V = (0, nI (pck x2 (rw12 rd r) 11), (rd, lv, op, nt)) := by
        rw [hV]; simp only [sp_pick, tN, nI_clamp (show r < 2 ^ 31 by omega), g1, g2, Bool.and_false, Bool.false_and, Bool.and_true, Bool.true_and, Bool.and_self, sp_f, sp_tf, sp_tt]
      have loop : ∀ (n k : Nat), k + n = 11 → ∀ ls : Array Slot, lv_has ls 5 [(0, .ref h), (1, .int (nI r)), (2, .int x2), (3, .int (nI (pck x2 (rw12 rd r) k))), (4, .int (nI (k + 1)))] → W p l e (headSpec wsX0_pick tv_rmP).room s m ([.ref h, .int (nI r), .int x2] : List Value).toArray below meth c s.heap [] 0 0 (vx_MQ below (tv_QP D cI cZ cL (tv_cw cI cZ h a1 a2 a3 a4) (tv_cw cI cZ h a1 a2 a3 a4 (rd, lv, op, nt)) s.heap.size V) (tv_XP V) ([.ref h, .int (nI r), .int x2] : List Value).toArray s 1 6 (va_A (tv_cw cI cZ h a1 a2 a3 a4 (rd, lv, op, nt)) s.heap.size)) (F0 m 13 ls []) := by
        intro n
        induction n with
        | zero =>
          intro k hk ls hl
          have hk2 : k = 11 := by omega
          subst hk2
          refine lv_iload hx hb dX0_pick_13 (lv_at hl 4 rfl) ?_
          refine lv_bipush (v := 12) hx hb dX0_pick_15 (by decide) ?_
          refine lv_icmp_ge (tgt := 57) hx hb dX0_pick_17 (by decide) (fun c_1 => ?_) (fun c_1 => ?_)
          · skip
            refine lv_iload_n hx hb dX0_pick_57 rfl (lv_at hl 3 rfl) ?_
            exact tv_iretP (wf := tv_cw cI cZ h a1 a2 a3 a4) (σ := (rd, lv, op, nt)) (r := nI (pck x2 (rw12 rd r) 11)) hAe hV0 hx hb hr hP hK hD hS dX0_pick_58 hlocks
          · exact absurd (show nI 12 ≤ nI 12 from nI_le (Nat.le_refl _) (by omega)) c_1
        | succ n ih =>
          intro k hk ls hl
          have hp1 := pck_le x2 (rw12 rd r) k
          refine lv_iload hx hb dX0_pick_13 (lv_at hl 4 rfl) ?_
          refine lv_bipush (v := 12) hx hb dX0_pick_15 (by decide) ?_
          refine lv_icmp_ge (tgt := 57) hx hb dX0_pick_17 (by decide) (fun c_2 => ?_) (fun c_2 => ?_)
          · exact absurd (show nI 12 ≤ nI (k + 1) from c_2) (nI_ge (by omega) (by omega))
          · skip
            refine lv_iload_n hx hb dX0_pick_20 rfl (lv_at hl 2 rfl) ?_
            refine lv_aload_n hx hb dX0_pick_21 rfl (lv_at hl 0 rfl) ?_
            refine va_get (D := D) (ci := 0) (v := .ref a1) (C := RX0) (T := TX0) (N := 4) hx hb hts iX0_pick hown hK hP 0 rfl rfl 0 (by decide) (hts (.fieldLink RX0 9 "TideHouse" "readings" "[I") (by decide +kernel)) (fun _ h9 => h9) rfl dX0_pick_22 ?_
            refine lv_iload_n hx hb dX0_pick_25 rfl (lv_at hl 1 rfl) ?_
            refine lv_iload hx hb dX0_pick_26 (lv_at hl 4 rfl) ?_
            refine tv_callR (W.runS (As := [.int (nI r), .int (nI (k + 1))]) (rest := [.ref a1, .int x2]) ⟨hx, hb, hml, hown, hts⟩ (c_X0_spot l r (k + 1)) (va_cwS 2 hts gX0_pick_X0_spot rfl rfl rfl (by decide +kernel) ⟨Nat.le_of_ble_eq_true rfl, Nat.le_of_ble_eq_true rfl⟩) preEq rfl rfl hl.1 rfl (lv_room (Nat.le_of_ble_eq_true rfl)) dX0_pick_28 ⟨Nat.le_of_ble_eq_true rfl, Nat.le_of_ble_eq_true rfl⟩) ?_
            refine tv_iald (D := D) (cA := cI) (n := 96) (f := rd) (k := (12 * r + (k + 1))) hx hb hK hP 1 0 rfl rfl (by omega) (by omega) dX0_pick_31 ?_
            refine lv_aload_n hx hb dX0_pick_32 rfl (lv_at hl 0 rfl) ?_
            refine va_get (D := D) (ci := 0) (v := .ref a1) (C := RX0) (T := TX0) (N := 4) hx hb hts iX0_pick hown hK hP 0 rfl rfl 0 (by decide) (hts (.fieldLink RX0 9 "TideHouse" "readings" "[I") (by decide +kernel)) (fun _ h9 => h9) rfl dX0_pick_33 ?_
            refine lv_iload_n hx hb dX0_pick_36 rfl (lv_at hl 1 rfl) ?_
            refine lv_iload_n hx hb dX0_pick_37 rfl (lv_at hl 3 rfl) ?_
            refine tv_callR (W.runS (As := [.int (nI r), .int (nI (pck x2 (rw12 rd r) k))]) (rest := [.ref a1, .int (rd (12 * r + (k + 1))), .int x2]) ⟨hx, hb, hml, hown, hts⟩ (c_X0_spot l r (pck x2 (rw12 rd r) k)) (va_cwS 2 hts gX0_pick_X0_spot rfl rfl rfl (by decide +kernel) ⟨Nat.le_of_ble_eq_true rfl, Nat.le_of_ble_eq_true rfl⟩) preEq rfl rfl hl.1 rfl (lv_room (Nat.le_of_ble_eq_true rfl)) dX0_pick_38 ⟨Nat.le_of_ble_eq_true rfl, Nat.le_of_ble_eq_true rfl⟩) ?_
            refine tv_iald (D := D) (cA := cI) (n := 96) (f := rd) (k := (12 * r + (pck x2 (rw12 rd r) k))) hx hb hK hP 1 0 rfl rfl (by omega) (by omega) dX0_pick_41 ?_
            refine tv_callR (W.runS (As := [.int x2, .int (rd (12 * r + (k + 1))), .int (rd (12 * r + (pck x2 (rw12 rd r) k)))]) (rest := []) ⟨hx, hb, hml, hown, hts⟩ (c_X0_isTrue l x2 (rd (12 * r + (k + 1))) (rd (12 * r + (pck x2 (rw12 rd r) k)))) (va_cwS 3 hts gX0_pick_X0_isTrue rfl rfl rfl (by decide +kernel) ⟨Nat.le_of_ble_eq_true rfl, Nat.le_of_ble_eq_true rfl⟩) preEq rfl rfl hl.1 rfl (lv_room (Nat.le_of_ble_eq_true rfl)) dX0_pick_42 ⟨Nat.le_of_ble_eq_true rfl, Nat.le_of_ble_eq_true rfl⟩) ?_
            refine lv_if_eq (tgt := 51) hx hb dX0_pick_45 (by decide) (fun c_3 => ?_) (fun c_3 => ?_)
            · skip
              refine lv_iinc (v := nI ((k + 1) + 1)) (lv' := [(4, .int (nI ((k + 1) + 1))), (0, .ref h), (1, .int (nI r)), (2, .int x2), (3, .int (nI (pck x2 (rw12 rd r) k)))]) hx hb dX0_pick_51 hl (k := 4) rfl (nI_1 (k + 1)) (by decide) rfl (fun ls hl => ?_)
              refine lv_goto (tgt := 13) hx hb dX0_pick_54 (by decide) ?_
              exact ih (k + 1) (by omega) ls (by rw [show nI (pck x2 (rw12 rd r) (k + 1)) = nI (pck x2 (rw12 rd r) k) from by rw [pck, if_pos c_3]]; exact lv_sub hl [1, 2, 3, 4, 0] rfl)
            · skip
              refine lv_iload hx hb dX0_pick_48 (lv_at hl 4 rfl) ?_
              refine lv_istore_n (lv' := [(3, .int (nI (k + 1))), (0, .ref h), (1, .int (nI r)), (2, .int x2), (4, .int (nI (k + 1)))]) hx hb dX0_pick_50 rfl hl (by decide) rfl (fun ls hl => ?_)
              refine lv_iinc (v := nI ((k + 1) + 1)) (lv' := [(4, .int (nI ((k + 1) + 1))), (3, .int (nI (k + 1))), (0, .ref h), (1, .int (nI r)), (2, .int x2)]) hx hb dX0_pick_51 hl (k := 4) rfl (nI_1 (k + 1)) (by decide) rfl (fun ls hl => ?_)
              refine lv_goto (tgt := 13) hx hb dX0_pick_54 (by decide) ?_
              exact ih (k + 1) (by omega) ls (by rw [show nI (pck x2 (rw12 rd r) (k + 1)) = nI (k + 1) from by rw [pck, if_neg c_3]]; exact lv_sub hl [2, 3, 4, 1, 0] rfl)
      exact loop 11 0 (by omega) ls (by rw [show nI (pck x2 (rw12 rd r) 0) = 0 from rfl, show nI (0 + 1) = 1 from rfl]; exact lv_sub hl [2, 3, 4, 1, 0] rfl)
theorem iX0_keep : ∀ w ∈ wsX00, w ∈ wsX0_keep := by decide +kernel
set_option maxHeartbeats 4000000 in
set_option maxRecDepth 100000 in
theorem c_X0_keep (l : Launch) (hT : l.stackTraces = false) (D : va_G) (cI cZ cL : ClassId) (h a1 a2 a3 a4 : Nat) (rd lv op nt : Nat → Int32) (sz : Nat) (x1 x2 : Int32) (V : TV) (hV : V = sp_keep x1 x2 (rd, lv, op, nt)) : vx_Met l yX0_keep wsX0_keep tv_rmP (tv_PP D cI cZ cL (tv_cw cI cZ h a1 a2 a3 a4 (rd, lv, op, nt)) sz [.ref h, .int x1, .int x2]) (tv_QP D cI cZ cL (tv_cw cI cZ h a1 a2 a3 a4) (tv_cw cI cZ h a1 a2 a3 a4 (rd, lv, op, nt)) sz V) (tv_XP V) 1 6 (va_A (tv_cw cI cZ h a1 a2 a3 a4 (rd, lv, op, nt)) sz) := by
  refine vx_ofW (cc := cX0_keep) (maxL := 5) (ret := (some .int)) (by decide) rfl ?_
  intro p e s m args below meth c s₁ B hml htab hv
  obtain ⟨rfl, hsz, hP, hK, hD0, hE⟩ := hv
  subst hsz
  have hx := B.exec
  have hb := B.bytes
  have hr := B.returns
  have hts := atoms_spec (ws := wsX0_keep) B.pre
  have hown : s.vm.findClass RX0 = some m.cls := findClass_of_methodNamed B.named
  have hlocks := B.notSynchronized
  have hD := hD0.self (sz := s.heap.size)
  obtain ⟨A, hAe⟩ : ∃ A, A = va_A (tv_cw cI cZ h a1 a2 a3 a4 (rd, lv, op, nt)) s.heap.size := ⟨_, rfl⟩
  rw [← hAe] at hD hE
  have hA : ∀ q : Nat, s.heap.size ≤ q → A q := fun q h => by rw [hAe]; exact Or.inr h
  have hS : va_S A s.heap s.heap [] := va_S.rf
  clear hD0
  have hl := lv_entry ([.ref h, .int x1, .int x2]) (n := 5) (Nat.le_of_ble_eq_true rfl)
  rw [lg_entry_eq]
  generalize (lg_sl ([.ref h, .int x1, .int x2]) ++ List.replicate (5 - (lg_sl ([.ref h, .int x1, .int x2])).length) Slot.unset).toArray = ls at hl ⊢
  have hl : lv_has ls 5 [(0, .ref h), (1, .int x1), (2, .int x2)] := hl
  refine lv_iload_n hx hb dX0_keep_0 rfl (lv_at hl 1 rfl) ?_
  cases g1 : tv_in 8 x1 with
  | false =>
    have hV1 : V = (1, 0, (rd, lv, op, nt)) := by rw [hV]; simp only [sp_keep, g1, Bool.and_false, Bool.false_and, Bool.and_true, Bool.true_and, Bool.and_self, sp_f, sp_tf, sp_tt]
    exact tv_callT (a := #[]) (vx_runS (As := [.int x1]) (rest := []) ⟨hx, hb, hml, hown, hts⟩ (t_X0_needRow l hT x1 g1) (va_cwS 1 hts gX0_keep_X0_needRow rfl rfl rfl (by decide +kernel) ⟨Nat.le_of_ble_eq_true rfl, Nat.le_of_ble_eq_true rfl⟩) (tv_preT hE hS) rfl rfl hl.1 rfl (lv_room (Nat.le_of_ble_eq_true rfl)) dX0_keep_1 ⟨Nat.le_of_ble_eq_true rfl, Nat.le_of_ble_eq_true rfl⟩) htab hlocks (fun t hz hk => ⟨(), by rw [hV1]; exact (by decide : (1 : Int32) ≠ 0), by rw [hV1]; rfl, hz, fun q hq _ => hk q hq⟩) (fun z h => nomatch h) (Nat.le_of_ble_eq_true rfl) (Nat.le_of_ble_eq_true rfl)
  | true =>
    refine tv_callN (W.runS (As := [.int x1]) (rest := []) ⟨hx, hb, hml, hown, hts⟩ (n_X0_needRow l x1 g1) (va_cwS 1 hts gX0_keep_X0_needRow rfl rfl rfl (by decide +kernel) ⟨Nat.le_of_ble_eq_true rfl, Nat.le_of_ble_eq_true rfl⟩) preEq rfl rfl hl.1 rfl (lv_room (Nat.le_of_ble_eq_true rfl)) dX0_keep_1 ⟨Nat.le_of_ble_eq_true rfl, Nat.le_of_ble_eq_true rfl⟩) ?_
    obtain ⟨r, hr8, rfl⟩ := tv_in_of (by omega) g1
    refine lv_iload_n hx hb dX0_keep_4 rfl (lv_at hl 2 rfl) ?_
    cases g2 : tv_sg x2 with
    | false =>
      have hV1 : V = (2, 0, (rd, lv, op, nt)) := by rw [hV]; simp only [sp_keep, g1, g2, Bool.and_false, Bool.false_and, Bool.and_true, Bool.true_and, Bool.and_self, sp_f, sp_tf, sp_tt]
      exact tv_callT (a := #[]) (vx_runS (As := [.int x2]) (rest := []) ⟨hx, hb, hml, hown, hts⟩ (t_X0_needSign l hT x2 g2) (va_cwS 1 hts gX0_keep_X0_needSign rfl rfl rfl (by decide +kernel) ⟨Nat.le_of_ble_eq_true rfl, Nat.le_of_ble_eq_true rfl⟩) (tv_preT hE hS) rfl rfl hl.1 rfl (lv_room (Nat.le_of_ble_eq_true rfl)) dX0_keep_5 ⟨Nat.le_of_ble_eq_true rfl, Nat.le_of_ble_eq_true rfl⟩) htab hlocks (fun t hz hk => ⟨(), by rw [hV1]; exact (by decide : (2 : Int32) ≠ 0), by rw [hV1]; rfl, hz, fun q hq _ => hk q hq⟩) (fun z h => nomatch h) (Nat.le_of_ble_eq_true rfl) (Nat.le_of_ble_eq_true rfl)
    | true =>
      refine tv_callN (W.runS (As := [.int x2]) (rest := []) ⟨hx, hb, hml, hown, hts⟩ (n_X0_needSign l x2 g2) (va_cwS 1 hts gX0_keep_X0_needSign rfl rfl rfl (by decide +kernel) ⟨Nat.le_of_ble_eq_true rfl, Nat.le_of_ble_eq_true rfl⟩) preEq rfl rfl hl.1 rfl (lv_room (Nat.le_of_ble_eq_true rfl)) dX0_keep_5 ⟨Nat.le_of_ble_eq_true rfl, Nat.le_of_ble_eq_true rfl⟩) ?_
      refine lv_iconst (v := 0) hx hb dX0_keep_8 (by decide) ?_
      refine lv_istore_n (lv' := [(3, .int 0), (0, .ref h), (1, .int (nI r)), (2, .int x2)]) hx hb dX0_keep_9 rfl hl (by decide) rfl (fun ls hl => ?_)
      refine lv_iconst (v := 0) hx hb dX0_keep_10 (by decide) ?_
      refine lv_istore (lv' := [(4, .int 0), (3, .int 0), (0, .ref h), (1, .int (nI r)), (2, .int x2)]) hx hb dX0_keep_11 hl (by decide) rfl (fun ls hl => ?_)
      have hV0 : V = (0, cn (fun k => tq x2 (rw12 rd r k) (rw12 rd r (k + 1))) 11, (rd, lv, op, upd nt r (kb (fun k => tq x2 (rw12 rd r k) (rw12 rd r (k + 1))) 11))) := by
        rw [hV]; simp only [sp_keep, tN, nI_clamp (show r < 2 ^ 31 by omega), g1, g2, Bool.and_false, Bool.false_and, Bool.and_true, Bool.true_and, Bool.and_self, sp_f, sp_tf, sp_tt]
      have loop : ∀ (n k : Nat), k + n = 11 → ∀ ls : Array Slot, lv_has ls 5 [(0, .ref h), (1, .int (nI r)), (2, .int x2), (3, .int (kb (fun k => tq x2 (rw12 rd r k) (rw12 rd r (k + 1))) k)), (4, .int (nI k))] → W p l e (headSpec wsX0_keep tv_rmP).room s m ([.ref h, .int (nI r), .int x2] : List Value).toArray below meth c s.heap [] 0 0 (vx_MQ below (tv_QP D cI cZ cL (tv_cw cI cZ h a1 a2 a3 a4) (tv_cw cI cZ h a1 a2 a3 a4 (rd, lv, op, nt)) s.heap.size V) (tv_XP V) ([.ref h, .int (nI r), .int x2] : List Value).toArray s 1 6 (va_A (tv_cw cI cZ h a1 a2 a3 a4 (rd, lv, op, nt)) s.heap.size)) (F0 m 13 ls []) := by
        intro n
        induction n with
        | zero =>
          intro k hk ls hl
          have hk2 : k = 11 := by omega
          subst hk2
          refine lv_iload hx hb dX0_keep_13 (lv_at hl 4 rfl) ?_
          refine lv_bipush (v := 11) hx hb dX0_keep_15 (by decide) ?_
          refine lv_icmp_ge (tgt := 44) hx hb dX0_keep_17 (by decide) (fun c_1 => ?_) (fun c_1 => ?_)
          · skip
            refine lv_aload_n hx hb dX0_keep_44 rfl (lv_at hl 0 rfl) ?_
            refine va_get (D := D) (ci := 0) (v := .ref a4) (C := RX0) (T := TX0) (N := 4) hx hb hts iX0_keep hown hK hP 0 rfl rfl 3 (by decide) (hts (.fieldLink RX0 20 "TideHouse" "rowNotes" "[I") (by decide +kernel)) (fun _ h9 => h9) rfl dX0_keep_45 ?_
            refine lv_iload_n hx hb dX0_keep_48 rfl (lv_at hl 1 rfl) ?_
            refine lv_iload_n hx hb dX0_keep_49 rfl (lv_at hl 3 rfl) ?_
            refine tv_iast (D := D) (cA := cI) (n := 8) (f := nt) (k := r) (x := kb (fun k => tq x2 (rw12 rd r k) (rw12 rd r (k + 1))) 11) (ws1 := tv_cw cI cZ h a1 a2 a3 a4 (rd, lv, op, upd nt r (kb (fun k => tq x2 (rw12 rd r k) (rw12 rd r (k + 1))) 11))) hx hb hK hP hD hS 4 0 rfl rfl (by omega) (by omega) rfl dX0_keep_50 (fun H locs hP hD hS => ?_)
            refine lv_iload_n hx hb dX0_keep_51 rfl (lv_at hl 3 rfl) ?_
            refine tv_callR (W.runS (As := [.int (kb (fun k => tq x2 (rw12 rd r k) (rw12 rd r (k + 1))) 11)]) (rest := []) ⟨hx, hb, hml, hown, hts⟩ (c_J6_bitCount_0f7a4 l (kb (fun k => tq x2 (rw12 rd r k) (rw12 rd r (k + 1))) 11)) (va_cwS 1 hts gX0_keep_J6_bitCount_0f7a4 rfl rfl rfl (by decide +kernel) ⟨Nat.le_of_ble_eq_true rfl, Nat.le_of_ble_eq_true rfl⟩) preEq rfl rfl hl.1 rfl (lv_room (Nat.le_of_ble_eq_true rfl)) dX0_keep_52 ⟨Nat.le_of_ble_eq_true rfl, Nat.le_of_ble_eq_true rfl⟩) ?_
            refine tv_top (cn (fun k => tq x2 (rw12 rd r k) (rw12 rd r (k + 1))) 11) (bcn_kb _ (fun k => tq01 _ _ _)) ?_
            exact tv_iretP (wf := tv_cw cI cZ h a1 a2 a3 a4) (σ := (rd, lv, op, upd nt r (kb (fun k => tq x2 (rw12 rd r k) (rw12 rd r (k + 1))) 11))) (r := cn (fun k => tq x2 (rw12 rd r k) (rw12 rd r (k + 1))) 11) hAe hV0 hx hb hr hP hK hD hS dX0_keep_55 hlocks
          · exact absurd (show nI 11 ≤ nI 11 from nI_le (Nat.le_refl _) (by omega)) c_1
        | succ n ih =>
          intro k hk ls hl
          refine lv_iload hx hb dX0_keep_13 (lv_at hl 4 rfl) ?_
          refine lv_bipush (v := 11) hx hb dX0_keep_15 (by decide) ?_
          refine lv_icmp_ge (tgt := 44) hx hb dX0_keep_17 (by decide) (fun c_2 => ?_) (fun c_2 => ?_)
          · exact absurd (show nI 11 ≤ nI k from c_2) (nI_ge (by omega) (by omega))
          · skip
            refine lv_aload_n hx hb dX0_keep_20 rfl (lv_at hl 0 rfl) ?_
            refine lv_iload_n hx hb dX0_keep_21 rfl (lv_at hl 1 rfl) ?_
            refine lv_iload hx hb dX0_keep_22 (lv_at hl 4 rfl) ?_
            refine lv_iload_n hx hb dX0_keep_24 rfl (lv_at hl 2 rfl) ?_
            refine tv_callR (W.runV (As := [.int (nI r), .int (nI k), .int x2]) (rest := []) ⟨hx, hb, hml, hown, hts⟩ (c_X0_isTrueOfNext l D cI cZ cL h a1 a2 a3 a4 rd lv op nt r k x2 hr8 (by omega)) (cwV 3 hts gX0_keep_X0_isTrueOfNext rfl rfl rfl (by decide +kernel) ⟨Nat.le_of_ble_eq_true rfl, Nat.le_of_ble_eq_true rfl⟩) (tv_preV hP hK rfl 0 rfl) rfl rfl hl.1 rfl (lv_room (Nat.le_of_ble_eq_true rfl)) dX0_keep_25 ⟨Nat.le_of_ble_eq_true rfl, Nat.le_of_ble_eq_true rfl⟩) ?_
            refine lv_if_eq (tgt := 38) hx hb dX0_keep_28 (by decide) (fun c_3 => ?_) (fun c_3 => ?_)
            · skip
              refine lv_iinc (v := nI (k + 1)) (lv' := [(4, .int (nI (k + 1))), (0, .ref h), (1, .int (nI r)), (2, .int x2), (3, .int (kb (fun k => tq x2 (rw12 rd r k) (rw12 rd r (k + 1))) k))]) hx hb dX0_keep_38 hl (k := 4) rfl (nI_1 k) (by decide) rfl (fun ls hl => ?_)
              refine lv_goto (tgt := 13) hx hb dX0_keep_41 (by decide) ?_
              exact ih (k + 1) (by omega) ls (by rw [show kb (fun k => tq x2 (rw12 rd r k) (rw12 rd r (k + 1))) (k + 1) = kb (fun k => tq x2 (rw12 rd r k) (rw12 rd r (k + 1))) k from kb_s0 c_3]; exact lv_sub hl [1, 2, 3, 4, 0] rfl)
            · skip
              refine lv_iload_n hx hb dX0_keep_31 rfl (lv_at hl 3 rfl) ?_
              refine lv_iconst (v := 1) hx hb dX0_keep_32 (by decide) ?_
              refine lv_iload hx hb dX0_keep_33 (lv_at hl 4 rfl) ?_
              refine lv_ishl hx hb dX0_keep_35 ?_
              refine lv_ior hx hb dX0_keep_36 ?_
              refine lv_istore_n (lv' := [(3, .int ((kb (fun k => tq x2 (rw12 rd r k) (rw12 rd r (k + 1))) k) ||| (1 <<< ((nI k) &&& 31)))), (0, .ref h), (1, .int (nI r)), (2, .int x2), (4, .int (nI k))]) hx hb dX0_keep_37 rfl hl (by decide) rfl (fun ls hl => ?_)
              refine lv_iinc (v := nI (k + 1)) (lv' := [(4, .int (nI (k + 1))), (3, .int ((kb (fun k => tq x2 (rw12 rd r k) (rw12 rd r (k + 1))) k) ||| (1 <<< ((nI k) &&& 31)))), (0, .ref h), (1, .int (nI r)), (2, .int x2)]) hx hb dX0_keep_38 hl (k := 4) rfl (nI_1 k) (by decide) rfl (fun ls hl => ?_)
              refine lv_goto (tgt := 13) hx hb dX0_keep_41 (by decide) ?_
              exact ih (k + 1) (by omega) ls (by rw [show kb (fun k => tq x2 (rw12 rd r k) (rw12 rd r (k + 1))) (k + 1) = (kb (fun k => tq x2 (rw12 rd r k) (rw12 rd r (k + 1))) k) ||| (1 <<< ((nI k) &&& 31)) from kb_s1 c_3]; exact lv_sub hl [2, 3, 4, 1, 0] rfl)
      exact loop 11 0 (by omega) ls (by rw [show kb (fun k => tq x2 (rw12 rd r k) (rw12 rd r (k + 1))) 0 = 0 from rfl, show nI 0 = 0 from nI_0]; exact lv_sub hl [2, 3, 4, 1, 0] rfl)
set_option maxHeartbeats 4000000 in
set_option maxRecDepth 100000 in
theorem c_X0_settle (l : Launch) (hT : l.stackTraces = false) (D : va_G) (cI cZ cL : ClassId) (h a1 a2 a3 a4 : Nat) (rd lv op nt : Nat → Int32) (sz : Nat) (x1 x2 : Int32) (V : TV) (hV : V = sp_settle x1 x2 (rd, lv, op, nt)) : vx_Met l yX0_settle wsX0_settle tv_rmP (tv_PP D cI cZ cL (tv_cw cI cZ h a1 a2 a3 a4 (rd, lv, op, nt)) sz [.ref h, .int x1, .int x2]) (tv_QP D cI cZ cL (tv_cw cI cZ h a1 a2 a3 a4) (tv_cw cI cZ h a1 a2 a3 a4 (rd, lv, op, nt)) sz V) (tv_XP V) 1 6 (va_A (tv_cw cI cZ h a1 a2 a3 a4 (rd, lv, op, nt)) sz) := by
  refine vx_ofW (cc := cX0_settle) (maxL := 5) (ret := (some .int)) (by decide) rfl ?_
  intro p e s m args below meth c s₁ B hml htab hv
  obtain ⟨rfl, hsz, hP, hK, hD0, hE⟩ := hv
  subst hsz
  have hx := B.exec
  have hb := B.bytes
  have hr := B.returns
  have hts := atoms_spec (ws := wsX0_settle) B.pre
  have hown : s.vm.findClass RX0 = some m.cls := findClass_of_methodNamed B.named
  have hlocks := B.notSynchronized
  have hD := hD0.self (sz := s.heap.size)
  obtain ⟨A, hAe⟩ : ∃ A, A = va_A (tv_cw cI cZ h a1 a2 a3 a4 (rd, lv, op, nt)) s.heap.size := ⟨_, rfl⟩
  rw [← hAe] at hD hE
  have hA : ∀ q : Nat, s.heap.size ≤ q → A q := fun q h => by rw [hAe]; exact Or.inr h
  have hS : va_S A s.heap s.heap [] := va_S.rf
  clear hD0
  have hl := lv_entry ([.ref h, .int x1, .int x2]) (n := 5) (Nat.le_of_ble_eq_true rfl)
  rw [lg_entry_eq]
  generalize (lg_sl ([.ref h, .int x1, .int x2]) ++ List.replicate (5 - (lg_sl ([.ref h, .int x1, .int x2])).length) Slot.unset).toArray = ls at hl ⊢
  have hl : lv_has ls 5 [(0, .ref h), (1, .int x1), (2, .int x2)] := hl
  refine lv_iload_n hx hb dX0_settle_0 rfl (lv_at hl 1 rfl) ?_
  cases g1 : tv_in 8 x1 with
  | false =>
    have hV1 : V = (1, 0, (rd, lv, op, nt)) := by rw [hV]; simp only [sp_settle, g1, Bool.and_false, Bool.false_and, Bool.and_true, Bool.true_and, Bool.and_self, sp_f, sp_tf, sp_tt]
    exact tv_callT (a := #[]) (vx_runS (As := [.int x1]) (rest := []) ⟨hx, hb, hml, hown, hts⟩ (t_X0_needRow l hT x1 g1) (va_cwS 1 hts gX0_settle_X0_needRow rfl rfl rfl (by decide +kernel) ⟨Nat.le_of_ble_eq_true rfl, Nat.le_of_ble_eq_true rfl⟩) (tv_preT hE hS) rfl rfl hl.1 rfl (lv_room (Nat.le_of_ble_eq_true rfl)) dX0_settle_1 ⟨Nat.le_of_ble_eq_true rfl, Nat.le_of_ble_eq_true rfl⟩) htab hlocks (fun t hz hk => ⟨(), by rw [hV1]; exact (by decide : (1 : Int32) ≠ 0), by rw [hV1]; rfl, hz, fun q hq _ => hk q hq⟩) (fun z h => nomatch h) (Nat.le_of_ble_eq_true rfl) (Nat.le_of_ble_eq_true rfl)
  | true =>
    refine tv_callN (W.runS (As := [.int x1]) (rest := []) ⟨hx, hb, hml, hown, hts⟩ (n_X0_needRow l x1 g1) (va_cwS 1 hts gX0_settle_X0_needRow rfl rfl rfl (by decide +kernel) ⟨Nat.le_of_ble_eq_true rfl, Nat.le_of_ble_eq_true rfl⟩) preEq rfl rfl hl.1 rfl (lv_room (Nat.le_of_ble_eq_true rfl)) dX0_settle_1 ⟨Nat.le_of_ble_eq_true rfl, Nat.le_of_ble_eq_true rfl⟩) ?_
    obtain ⟨r, hr8, rfl⟩ := tv_in_of (by omega) g1
    refine lv_iload_n hx hb dX0_settle_4 rfl (lv_at hl 2 rfl) ?_
    cases g2 : tv_sg x2 with
    | false =>
      have hV1 : V = (2, 0, (rd, lv, op, nt)) := by rw [hV]; simp only [sp_settle, g1, g2, Bool.and_false, Bool.false_and, Bool.and_true, Bool.true_and, Bool.and_self, sp_f, sp_tf, sp_tt]
      exact tv_callT (a := #[]) (vx_runS (As := [.int x2]) (rest := []) ⟨hx, hb, hml, hown, hts⟩ (t_X0_needSign l hT x2 g2) (va_cwS 1 hts gX0_settle_X0_needSign rfl rfl rfl (by decide +kernel) ⟨Nat.le_of_ble_eq_true rfl, Nat.le_of_ble_eq_true rfl⟩) (tv_preT hE hS) rfl rfl hl.1 rfl (lv_room (Nat.le_of_ble_eq_true rfl)) dX0_settle_5 ⟨Nat.le_of_ble_eq_true rfl, Nat.le_of_ble_eq_true rfl⟩) htab hlocks (fun t hz hk => ⟨(), by rw [hV1]; exact (by decide : (2 : Int32) ≠ 0), by rw [hV1]; rfl, hz, fun q hq _ => hk q hq⟩) (fun z h => nomatch h) (Nat.le_of_ble_eq_true rfl) (Nat.le_of_ble_eq_true rfl)
    | true =>
      refine tv_callN (W.runS (As := [.int x2]) (rest := []) ⟨hx, hb, hml, hown, hts⟩ (n_X0_needSign l x2 g2) (va_cwS 1 hts gX0_settle_X0_needSign rfl rfl rfl (by decide +kernel) ⟨Nat.le_of_ble_eq_true rfl, Nat.le_of_ble_eq_true rfl⟩) preEq rfl rfl hl.1 rfl (lv_room (Nat.le_of_ble_eq_true rfl)) dX0_settle_5 ⟨Nat.le_of_ble_eq_true rfl, Nat.le_of_ble_eq_true rfl⟩) ?_
      refine lv_iconst (v := 0) hx hb dX0_settle_8 (by decide) ?_
      refine lv_istore_n (lv' := [(3, .int 0), (0, .ref h), (1, .int (nI r)), (2, .int x2)]) hx hb dX0_settle_9 rfl hl (by decide) rfl (fun ls hl => ?_)
      refine lv_iconst (v := 1) hx hb dX0_settle_10 (by decide) ?_
      refine lv_istore (lv' := [(4, .int 1), (3, .int 0), (0, .ref h), (1, .int (nI r)), (2, .int x2)]) hx hb dX0_settle_11 hl (by decide) rfl (fun ls hl => ?_)
      have hV0 : V = (0, (se x2 r rd 11).2, ((se x2 r rd 11).1, lv, op, nt)) := by
        rw [hV]; simp only [sp_settle, tN, nI_clamp (show r < 2 ^ 31 by omega), g1, g2, Bool.and_false, Bool.false_and, Bool.and_true, Bool.true_and, Bool.and_self, sp_f, sp_tf, sp_tt]
      have loop : ∀ (n k : Nat), k + n = 11 → ∀ (H : Heap) (locs : List Loc), va_P D vwCl (tv_cw cI cZ h a1 a2 a3 a4 ((se x2 r rd k).1, lv, op, nt)) H → va_D A (tv_cw cI cZ h a1 a2 a3 a4 ((se x2 r rd k).1, lv, op, nt)) → va_S A s.heap H locs → ∀ ls : Array Slot, lv_has ls 5 [(0, .ref h), (1, .int (nI r)), (2, .int x2), (3, .int ((se x2 r rd k).2)), (4, .int (nI (k + 1)))] → W p l e (headSpec wsX0_settle tv_rmP).room s m ([.ref h, .int (nI r), .int x2] : List Value).toArray below meth c H locs 0 0 (vx_MQ below (tv_QP D cI cZ cL (tv_cw cI cZ h a1 a2 a3 a4) (tv_cw cI cZ h a1 a2 a3 a4 (rd, lv, op, nt)) s.heap.size V) (tv_XP V) ([.ref h, .int (nI r), .int x2] : List Value).toArray s 1 6 (va_A (tv_cw cI cZ h a1 a2 a3 a4 (rd, lv, op, nt)) s.heap.size)) (F0 m 13 ls []) := by
        intro n
        induction n with
        | zero =>
          intro k hk H locs hP hD hS ls hl
          have hk2 : k = 11 := by omega
          subst hk2
          refine lv_iload hx hb dX0_settle_13 (lv_at hl 4 rfl) ?_
          refine lv_bipush (v := 12) hx hb dX0_settle_15 (by decide) ?_
          refine lv_icmp_ge (tgt := 37) hx hb dX0_settle_17 (by decide) (fun c_1 => ?_) (fun c_1 => ?_)
          · skip
            refine lv_iload_n hx hb dX0_settle_37 rfl (lv_at hl 3 rfl) ?_
            exact tv_iretP (wf := tv_cw cI cZ h a1 a2 a3 a4) (σ := ((se x2 r rd 11).1, lv, op, nt)) (r := (se x2 r rd 11).2) hAe hV0 hx hb hr hP hK hD hS dX0_settle_38 hlocks
          · exact absurd (show nI 12 ≤ nI 12 from nI_le (Nat.le_refl _) (by omega)) c_1
        | succ n ih =>
          intro k hk H locs hP hD hS ls hl
          refine lv_iload hx hb dX0_settle_13 (lv_at hl 4 rfl) ?_
          refine lv_bipush (v := 12) hx hb dX0_settle_15 (by decide) ?_
          refine lv_icmp_ge (tgt := 37) hx hb dX0_settle_17 (by decide) (fun c_2 => ?_) (fun c_2 => ?_)
          · exact absurd (show nI 12 ≤ nI (k + 1) from c_2) (nI_ge (by omega) (by omega))
          · skip
            refine lv_iload_n hx hb dX0_settle_20 rfl (lv_at hl 3 rfl) ?_
            refine lv_aload_n hx hb dX0_settle_21 rfl (lv_at hl 0 rfl) ?_
            refine lv_iload_n hx hb dX0_settle_22 rfl (lv_at hl 1 rfl) ?_
            refine lv_iload hx hb dX0_settle_23 (lv_at hl 4 rfl) ?_
            refine lv_iload_n hx hb dX0_settle_25 rfl (lv_at hl 2 rfl) ?_
            refine tv_callW (D := D) (ws := tv_cw cI cZ h a1 a2 a3 a4 ((se x2 r rd k).1, lv, op, nt)) (wc := tv_cw cI cZ h a1 a2 a3 a4 ((se x2 r rd k).1, lv, op, nt)) (wr := []) (wc' := tv_cw cI cZ h a1 a2 a3 a4 ((ml x2 r (k + 1) (se x2 r rd k).1).1, lv, op, nt)) (wsN := tv_cw cI cZ h a1 a2 a3 a4 ((ml x2 r (k + 1) (se x2 r rd k).1).1, lv, op, nt)) (r := nI (ml x2 r (k + 1) (se x2 r rd k).1).2) (va_runV (As := [.int (nI r), .int (nI (k + 1)), .int x2]) (rest := [.int ((se x2 r rd k).2)]) ⟨hx, hb, hml, hown, hts⟩ (c_X0_moveLeft l D cI cZ cL h a1 a2 a3 a4 (se x2 r rd k).1 lv op nt H.size r (k + 1) (ml x2 r (k + 1) (se x2 r rd k).1).2 x2 (ml x2 r (k + 1) (se x2 r rd k).1).1 hr8 (by omega) rfl rfl) (cwV 3 hts gX0_settle_X0_moveLeft rfl rfl rfl (by decide +kernel) ⟨Nat.le_of_ble_eq_true rfl, Nat.le_of_ble_eq_true rfl⟩) (tv_preDV hP hK hD [0, 1, 2, 3, 4] rfl rfl rfl rfl 0 rfl) rfl rfl hl.1 rfl (lv_room (Nat.le_of_ble_eq_true rfl)) dX0_settle_26 ⟨Nat.le_of_ble_eq_true rfl, Nat.le_of_ble_eq_true rfl⟩) hP hD hS hA [0, 1, 2, 3, 4] [] rfl rfl rfl (by decide) [0, 1, 2, 3, 4] rfl rfl rfl (fun H locs hP hD hS => ?_)
            refine lv_iadd hx hb dX0_settle_29 ?_
            refine lv_istore_n (lv' := [(3, .int (((se x2 r rd k).2) + (nI (ml x2 r (k + 1) (se x2 r rd k).1).2))), (0, .ref h), (1, .int (nI r)), (2, .int x2), (4, .int (nI (k + 1)))]) hx hb dX0_settle_30 rfl hl (by decide) rfl (fun ls hl => ?_)
            refine lv_iinc (v := nI ((k + 1) + 1)) (lv' := [(4, .int (nI ((k + 1) + 1))), (3, .int (((se x2 r rd k).2) + (nI (ml x2 r (k + 1) (se x2 r rd k).1).2))), (0, .ref h), (1, .int (nI r)), (2, .int x2)]) hx hb dX0_settle_31 hl (k := 4) rfl (nI_1 (k + 1)) (by decide) rfl (fun ls hl => ?_)
            refine lv_goto (tgt := 13) hx hb dX0_settle_34 (by decide) ?_
            have hP : va_P D vwCl (tv_cw cI cZ h a1 a2 a3 a4 ((se x2 r rd (k + 1)).1, lv, op, nt)) H := by exact hP
            have hD : va_D A (tv_cw cI cZ h a1 a2 a3 a4 ((se x2 r rd (k + 1)).1, lv, op, nt)) := by exact hD
            exact ih (k + 1) (by omega) H locs hP hD hS ls (by rw [show (se x2 r rd (k + 1)).2 = ((se x2 r rd k).2) + (nI (ml x2 r (k + 1) (se x2 r rd k).1).2) from rfl]; exact lv_sub hl [2, 3, 4, 1, 0] rfl)
      exact loop 11 0 (by omega) s.heap [] hP hD hS ls (by rw [show (se x2 r rd 0).2 = 0 from rfl, show nI (0 + 1) = 1 from rfl]; exact lv_sub hl [2, 3, 4, 1, 0] rfl)
theorem iX0_alike : ∀ w ∈ wsX00, w ∈ wsX0_alike := by decide +kernel
set_option maxHeartbeats 4000000 in
set_option maxRecDepth 100000 in
theorem c_X0_alike (l : Launch) (hT : l.stackTraces = false) (D : va_G) (cI cZ cL : ClassId) (h a1 a2 a3 a4 : Nat) (rd lv op nt : Nat → Int32) (sz : Nat) (x1 x2 : Int32) (V : TV) (hV : V = sp_alike x1 x2 (rd, lv, op, nt)) : vx_Met l yX0_alike wsX0_alike tv_rmP (tv_PP D cI cZ cL (tv_cw cI cZ h a1 a2 a3 a4 (rd, lv, op, nt)) sz [.ref h, .int x1, .int x2]) (tv_QP D cI cZ cL (tv_cw cI cZ h a1 a2 a3 a4) (tv_cw cI cZ h a1 a2 a3 a4 (rd, lv, op, nt)) sz V) (tv_XP V) 1 6 (va_A (tv_cw cI cZ h a1 a2 a3 a4 (rd, lv, op, nt)) sz) := by
  refine vx_ofW (cc := cX0_alike) (maxL := 4) (ret := (some .boolean)) (by decide) rfl ?_
  intro p e s m args below meth c s₁ B hml htab hv
  obtain ⟨rfl, hsz, hP, hK, hD0, hE⟩ := hv
  subst hsz
  have hx := B.exec
  have hb := B.bytes
  have hr := B.returns
  have hts := atoms_spec (ws := wsX0_alike) B.pre
  have hown : s.vm.findClass RX0 = some m.cls := findClass_of_methodNamed B.named
  have hlocks := B.notSynchronized
  have hD := hD0.self (sz := s.heap.size)
  obtain ⟨A, hAe⟩ : ∃ A, A = va_A (tv_cw cI cZ h a1 a2 a3 a4 (rd, lv, op, nt)) s.heap.size := ⟨_, rfl⟩
  rw [← hAe] at hD hE
  have hA : ∀ q : Nat, s.heap.size ≤ q → A q := fun q h => by rw [hAe]; exact Or.inr h
  have hS : va_S A s.heap s.heap [] := va_S.rf
  clear hD0
  have hl := lv_entry ([.ref h, .int x1, .int x2]) (n := 4) (Nat.le_of_ble_eq_true rfl)
  rw [lg_entry_eq]
  generalize (lg_sl ([.ref h, .int x1, .int x2]) ++ List.replicate (4 - (lg_sl ([.ref h, .int x1, .int x2])).length) Slot.unset).toArray = ls at hl ⊢
  have hl : lv_has ls 4 [(0, .ref h), (1, .int x1), (2, .int x2)] := hl
  refine lv_iload_n hx hb dX0_alike_0 rfl (lv_at hl 1 rfl) ?_
  cases g1 : tv_in 8 x1 with
  | false =>
    have hV1 : V = (1, 0, (rd, lv, op, nt)) := by rw [hV]; simp only [sp_alike, g1, Bool.and_false, Bool.false_and, Bool.and_true, Bool.true_and, Bool.and_self, sp_f, sp_tf, sp_tt]
    exact tv_callT (a := #[]) (vx_runS (As := [.int x1]) (rest := []) ⟨hx, hb, hml, hown, hts⟩ (t_X0_needRow l hT x1 g1) (va_cwS 1 hts gX0_alike_X0_needRow rfl rfl rfl (by decide +kernel) ⟨Nat.le_of_ble_eq_true rfl, Nat.le_of_ble_eq_true rfl⟩) (tv_preT hE hS) rfl rfl hl.1 rfl (lv_room (Nat.le_of_ble_eq_true rfl)) dX0_alike_1 ⟨Nat.le_of_ble_eq_true rfl, Nat.le_of_ble_eq_true rfl⟩) htab hlocks (fun t hz hk => ⟨(), by rw [hV1]; exact (by decide : (1 : Int32) ≠ 0), by rw [hV1]; rfl, hz, fun q hq _ => hk q hq⟩) (fun z h => nomatch h) (Nat.le_of_ble_eq_true rfl) (Nat.le_of_ble_eq_true rfl)
  | true =>
    refine tv_callN (W.runS (As := [.int x1]) (rest := []) ⟨hx, hb, hml, hown, hts⟩ (n_X0_needRow l x1 g1) (va_cwS 1 hts gX0_alike_X0_needRow rfl rfl rfl (by decide +kernel) ⟨Nat.le_of_ble_eq_true rfl, Nat.le_of_ble_eq_true rfl⟩) preEq rfl rfl hl.1 rfl (lv_room (Nat.le_of_ble_eq_true rfl)) dX0_alike_1 ⟨Nat.le_of_ble_eq_true rfl, Nat.le_of_ble_eq_true rfl⟩) ?_
    obtain ⟨r, hr8, rfl⟩ := tv_in_of (by omega) g1
    refine lv_iload_n hx hb dX0_alike_4 rfl (lv_at hl 2 rfl) ?_
    cases g2 : tv_in 8 x2 with
    | false =>
      have hV1 : V = (1, 0, (rd, lv, op, nt)) := by rw [hV]; simp only [sp_alike, g1, g2, Bool.and_false, Bool.false_and, Bool.and_true, Bool.true_and, Bool.and_self, sp_f, sp_tf, sp_tt]
      exact tv_callT (a := #[]) (vx_runS (As := [.int x2]) (rest := []) ⟨hx, hb, hml, hown, hts⟩ (t_X0_needRow l hT x2 g2) (va_cwS 1 hts gX0_alike_X0_needRow rfl rfl rfl (by decide +kernel) ⟨Nat.le_of_ble_eq_true rfl, Nat.le_of_ble_eq_true rfl⟩) (tv_preT hE hS) rfl rfl hl.1 rfl (lv_room (Nat.le_of_ble_eq_true rfl)) dX0_alike_5 ⟨Nat.le_of_ble_eq_true rfl, Nat.le_of_ble_eq_true rfl⟩) htab hlocks (fun t hz hk => ⟨(), by rw [hV1]; exact (by decide : (1 : Int32) ≠ 0), by rw [hV1]; rfl, hz, fun q hq _ => hk q hq⟩) (fun z h => nomatch h) (Nat.le_of_ble_eq_true rfl) (Nat.le_of_ble_eq_true rfl)
    | true =>
      refine tv_callN (W.runS (As := [.int x2]) (rest := []) ⟨hx, hb, hml, hown, hts⟩ (n_X0_needRow l x2 g2) (va_cwS 1 hts gX0_alike_X0_needRow rfl rfl rfl (by decide +kernel) ⟨Nat.le_of_ble_eq_true rfl, Nat.le_of_ble_eq_true rfl⟩) preEq rfl rfl hl.1 rfl (lv_room (Nat.le_of_ble_eq_true rfl)) dX0_alike_5 ⟨Nat.le_of_ble_eq_true rfl, Nat.le_of_ble_eq_true rfl⟩) ?_
      obtain ⟨q, hq8, rfl⟩ := tv_in_of (by omega) g2
      refine lv_iload_n hx hb dX0_alike_8 rfl (lv_at hl 1 rfl) ?_
      refine lv_iload_n hx hb dX0_alike_9 rfl (lv_at hl 2 rfl) ?_
      cases g3 : tv_os (nI r) (nI q) with
      | false =>
        have hV1 : V = (2, 0, (rd, lv, op, nt)) := by rw [hV]; simp only [sp_alike, g1, g2, g3, Bool.and_false, Bool.false_and, Bool.and_true, Bool.true_and, Bool.and_self, sp_f, sp_tf, sp_tt]
        exact tv_callT (a := #[]) (vx_runS (As := [.int (nI r), .int (nI q)]) (rest := []) ⟨hx, hb, hml, hown, hts⟩ (t_X0_needOneSort l hT r q g3 hr8 hq8) (va_cwS 2 hts gX0_alike_X0_needOneSort rfl rfl rfl (by decide +kernel) ⟨Nat.le_of_ble_eq_true rfl, Nat.le_of_ble_eq_true rfl⟩) (tv_preT hE hS) rfl rfl hl.1 rfl (lv_room (Nat.le_of_ble_eq_true rfl)) dX0_alike_10 ⟨Nat.le_of_ble_eq_true rfl, Nat.le_of_ble_eq_true rfl⟩) htab hlocks (fun t hz hk => ⟨(), by rw [hV1]; exact (by decide : (2 : Int32) ≠ 0), by rw [hV1]; rfl, hz, fun q hq _ => hk q hq⟩) (fun z h => nomatch h) (Nat.le_of_ble_eq_true rfl) (Nat.le_of_ble_eq_true rfl)
      | true =>
        refine tv_callN (W.runS (As := [.int (nI r), .int (nI q)]) (rest := []) ⟨hx, hb, hml, hown, hts⟩ (n_X0_needOneSort l r q g3 hr8 hq8) (va_cwS 2 hts gX0_alike_X0_needOneSort rfl rfl rfl (by decide +kernel) ⟨Nat.le_of_ble_eq_true rfl, Nat.le_of_ble_eq_true rfl⟩) preEq rfl rfl hl.1 rfl (lv_room (Nat.le_of_ble_eq_true rfl)) dX0_alike_10 ⟨Nat.le_of_ble_eq_true rfl, Nat.le_of_ble_eq_true rfl⟩) ?_
        refine lv_iconst (v := 0) hx hb dX0_alike_13 (by decide) ?_
        refine lv_istore_n (lv' := [(3, .int 0), (0, .ref h), (1, .int (nI r)), (2, .int (nI q))]) hx hb dX0_alike_14 rfl hl (by decide) rfl (fun ls hl => ?_)
        have hV0 : V = (0, al (fun k => rw12 rd r k = rw12 rd q k) (fun _ => inferInstance) 12, (rd, lv, op, nt)) := by
          rw [hV]; simp only [sp_alike, tN, nI_clamp (show r < 2 ^ 31 by omega), nI_clamp (show q < 2 ^ 31 by omega), g1, g2, g3, Bool.and_false, Bool.false_and, Bool.and_true, Bool.true_and, Bool.and_self, sp_f, sp_tf, sp_tt]; rw [nI_clamp (show r < 2 ^ 31 by omega), nI_clamp (show q < 2 ^ 31 by omega)]
        have loop : ∀ (n k : Nat), k + n = 12 → al (fun k => rw12 rd r k = rw12 rd q k) (fun _ => inferInstance) k = 1 → ∀ ls : Array Slot, lv_has ls 4 [(0, .ref h), (1, .int (nI r)), (2, .int (nI q)), (3, .int (nI k))] → W p l e (headSpec wsX0_alike tv_rmP).room s m ([.ref h, .int (nI r), .int (nI q)] : List Value).toArray below meth c s.heap [] 0 0 (vx_MQ below (tv_QP D cI cZ cL (tv_cw cI cZ h a1 a2 a3 a4) (tv_cw cI cZ h a1 a2 a3 a4 (rd, lv, op, nt)) s.heap.size V) (tv_XP V) ([.ref h, .int (nI r), .int (nI q)] : List Value).toArray s 1 6 (va_A (tv_cw cI cZ h a1 a2 a3 a4 (rd, lv, op, nt)) s.heap.size)) (F0 m 15 ls []) := by
          intro n
          induction n with
          | zero =>
            intro k hk hp ls hl
            have hk2 : k = 12 := by omega
            subst hk2
            refine lv_iload_n hx hb dX0_alike_15 rfl (lv_at hl 3 rfl) ?_
            refine lv_bipush (v := 12) hx hb dX0_alike_16 (by decide) ?_
            refine lv_icmp_ge (tgt := 52) hx hb dX0_alike_18 (by decide) (fun c_1 => ?_) (fun c_1 => ?_)
            · skip
              refine lv_iconst (v := 1) hx hb dX0_alike_52 (by decide) ?_
              refine tv_top (al (fun k => rw12 rd r k = rw12 rd q k) (fun _ => inferInstance) 12) hp.symm ?_
              exact tv_zretP (al01 12) (wf := tv_cw cI cZ h a1 a2 a3 a4) (σ := (rd, lv, op, nt)) (r := al (fun k => rw12 rd r k = rw12 rd q k) (fun _ => inferInstance) 12) hAe hV0 hx hb hr hP hK hD hS dX0_alike_53 hlocks
            · exact absurd (show nI 12 ≤ nI 12 from nI_le (Nat.le_refl _) (by omega)) c_1
          | succ n ih =>
            intro k hk hp ls hl
            refine lv_iload_n hx hb dX0_alike_15 rfl (lv_at hl 3 rfl) ?_
            refine lv_bipush (v := 12) hx hb dX0_alike_16 (by decide) ?_
            refine lv_icmp_ge (tgt := 52) hx hb dX0_alike_18 (by decide) (fun c_2 => ?_) (fun c_2 => ?_)
            · exact absurd (show nI 12 ≤ nI k from c_2) (nI_ge (by omega) (by omega))
            · skip
              refine lv_aload_n hx hb dX0_alike_21 rfl (lv_at hl 0 rfl) ?_
              refine va_get (D := D) (ci := 0) (v := .ref a1) (C := RX0) (T := TX0) (N := 4) hx hb hts iX0_alike hown hK hP 0 rfl rfl 0 (by decide) (hts (.fieldLink RX0 9 "TideHouse" "readings" "[I") (by decide +kernel)) (fun _ h9 => h9) rfl dX0_alike_22 ?_
              refine lv_iload_n hx hb dX0_alike_25 rfl (lv_at hl 1 rfl) ?_
              refine lv_iload_n hx hb dX0_alike_26 rfl (lv_at hl 3 rfl) ?_
              refine tv_callR (W.runS (As := [.int (nI r), .int (nI k)]) (rest := [.ref a1]) ⟨hx, hb, hml, hown, hts⟩ (c_X0_spot l r k) (va_cwS 2 hts gX0_alike_X0_spot rfl rfl rfl (by decide +kernel) ⟨Nat.le_of_ble_eq_true rfl, Nat.le_of_ble_eq_true rfl⟩) preEq rfl rfl hl.1 rfl (lv_room (Nat.le_of_ble_eq_true rfl)) dX0_alike_27 ⟨Nat.le_of_ble_eq_true rfl, Nat.le_of_ble_eq_true rfl⟩) ?_
              refine tv_iald (D := D) (cA := cI) (n := 96) (f := rd) (k := (12 * r + k)) hx hb hK hP 1 0 rfl rfl (by omega) (by omega) dX0_alike_30 ?_
              refine lv_aload_n hx hb dX0_alike_31 rfl (lv_at hl 0 rfl) ?_
              refine va_get (D := D) (ci := 0) (v := .ref a1) (C := RX0) (T := TX0) (N := 4) hx hb hts iX0_alike hown hK hP 0 rfl rfl 0 (by decide) (hts (.fieldLink RX0 9 "TideHouse" "readings" "[I") (by decide +kernel)) (fun _ h9 => h9) rfl dX0_alike_32 ?_
              refine lv_iload_n hx hb dX0_alike_35 rfl (lv_at hl 2 rfl) ?_
              refine lv_iload_n hx hb dX0_alike_36 rfl (lv_at hl 3 rfl) ?_
              refine tv_callR (W.runS (As := [.int (nI q), .int (nI k)]) (rest := [.ref a1, .int (rd (12 * r + k))]) ⟨hx, hb, hml, hown, hts⟩ (c_X0_spot l q k) (va_cwS 2 hts gX0_alike_X0_spot rfl rfl rfl (by decide +kernel) ⟨Nat.le_of_ble_eq_true rfl, Nat.le_of_ble_eq_true rfl⟩) preEq rfl rfl hl.1 rfl (lv_room (Nat.le_of_ble_eq_true rfl)) dX0_alike_37 ⟨Nat.le_of_ble_eq_true rfl, Nat.le_of_ble_eq_true rfl⟩) ?_
              refine tv_iald (D := D) (cA := cI) (n := 96) (f := rd) (k := (12 * q + k)) hx hb hK hP 1 0 rfl rfl (by omega) (by omega) dX0_alike_40 ?_
              refine lv_icmp_eq (tgt := 46) hx hb dX0_alike_41 (by decide) (fun c_3 => ?_) (fun c_3 => ?_)
              · skip
                refine lv_iinc (v := nI (k + 1)) (lv' := [(3, .int (nI (k + 1))), (0, .ref h), (1, .int (nI r)), (2, .int (nI q))]) hx hb dX0_alike_46 hl (k := 3) rfl (nI_1 k) (by decide) rfl (fun ls hl => ?_)
                refine lv_goto (tgt := 15) hx hb dX0_alike_49 (by decide) ?_
                exact ih (k + 1) (by omega) (al_s hp c_3) ls (lv_sub hl [1, 2, 3, 0] rfl)
              · skip
                refine lv_iconst (v := 0) hx hb dX0_alike_44 (by decide) ?_
                refine tv_top (al (fun k => rw12 rd r k = rw12 rd q k) (fun _ => inferInstance) 12) (((show 12 = k + 1 + (11 - k) by omega) ▸ (al_f (p := (fun k => rw12 rd r k = rw12 rd q k)) c_3 (11 - k))).symm) ?_
                exact tv_zretP (al01 12) (wf := tv_cw cI cZ h a1 a2 a3 a4) (σ := (rd, lv, op, nt)) (r := al (fun k => rw12 rd r k = rw12 rd q k) (fun _ => inferInstance) 12) hAe hV0 hx hb hr hP hK hD hS dX0_alike_45 hlocks
        exact loop 12 0 (by omega) rfl ls (by rw [show nI 0 = 0 from nI_0]; exact lv_sub hl [1, 2, 3, 0] rfl)
theorem iX0_merge : ∀ w ∈ wsX00, w ∈ wsX0_merge := by decide +kernel
set_option maxHeartbeats 4000000 in
set_option maxRecDepth 100000 in
theorem c_X0_merge (l : Launch) (hT : l.stackTraces = false) (D : va_G) (cI cZ cL : ClassId) (h a1 a2 a3 a4 : Nat) (rd lv op nt : Nat → Int32) (sz : Nat) (x1 x2 x3 x4 : Int32) (V : TV) (hV : V = sp_merge x1 x2 x3 x4 (rd, lv, op, nt)) : vx_Met l yX0_merge wsX0_merge tv_rmP (tv_PP D cI cZ cL (tv_cw cI cZ h a1 a2 a3 a4 (rd, lv, op, nt)) sz [.ref h, .int x1, .int x2, .int x3, .int x4]) (tv_QP D cI cZ cL (tv_cw cI cZ h a1 a2 a3 a4) (tv_cw cI cZ h a1 a2 a3 a4 (rd, lv, op, nt)) sz V) (tv_XP V) 1 6 (va_A (tv_cw cI cZ h a1 a2 a3 a4 (rd, lv, op, nt)) sz) := by
  refine vx_ofW (cc := cX0_merge) (maxL := 10) (ret := (some .int)) (by decide) rfl ?_
  intro p e s m args below meth c s₁ B hml htab hv
  obtain ⟨rfl, hsz, hP, hK, hD0, hE⟩ := hv
  subst hsz
  have hx := B.exec
  have hb := B.bytes
  have hr := B.returns
  have hts := atoms_spec (ws := wsX0_merge) B.pre
  have hown : s.vm.findClass RX0 = some m.cls := findClass_of_methodNamed B.named
  have hlocks := B.notSynchronized
  have hD := hD0.self (sz := s.heap.size)
  obtain ⟨A, hAe⟩ : ∃ A, A = va_A (tv_cw cI cZ h a1 a2 a3 a4 (rd, lv, op, nt)) s.heap.size := ⟨_, rfl⟩
  rw [← hAe] at hD hE
  have hA : ∀ q : Nat, s.heap.size ≤ q → A q := fun q h => by rw [hAe]; exact Or.inr h
  have hS : va_S A s.heap s.heap [] := va_S.rf
  clear hD0
  have hl := lv_entry ([.ref h, .int x1, .int x2, .int x3, .int x4]) (n := 10) (Nat.le_of_ble_eq_true rfl)
  rw [lg_entry_eq]
  generalize (lg_sl ([.ref h, .int x1, .int x2, .int x3, .int x4]) ++ List.replicate (10 - (lg_sl ([.ref h, .int x1, .int x2, .int x3, .int x4])).length) Slot.unset).toArray = ls at hl ⊢
  have hl : lv_has ls 10 [(0, .ref h), (1, .int x1), (2, .int x2), (3, .int x3), (4, .int x4)] := hl
  refine lv_iload_n hx hb dX0_merge_0 rfl (lv_at hl 1 rfl) ?_
  cases g1 : tv_in 8 x1 with
  | false =>
    have hV1 : V = (1, 0, (rd, lv, op, nt)) := by rw [hV]; simp only [sp_merge, g1, Bool.and_false, Bool.false_and, Bool.and_true, Bool.true_and, Bool.and_self, sp_f, sp_tf, sp_tt]
    exact tv_callT (a := #[]) (vx_runS (As := [.int x1]) (rest := []) ⟨hx, hb, hml, hown, hts⟩ (t_X0_needRow l hT x1 g1) (va_cwS 1 hts gX0_merge_X0_needRow rfl rfl rfl (by decide +kernel) ⟨Nat.le_of_ble_eq_true rfl, Nat.le_of_ble_eq_true rfl⟩) (tv_preT hE hS) rfl rfl hl.1 rfl (lv_room (Nat.le_of_ble_eq_true rfl)) dX0_merge_1 ⟨Nat.le_of_ble_eq_true rfl, Nat.le_of_ble_eq_true rfl⟩) htab hlocks (fun t hz hk => ⟨(), by rw [hV1]; exact (by decide : (1 : Int32) ≠ 0), by rw [hV1]; rfl, hz, fun q hq _ => hk q hq⟩) (fun z h => nomatch h) (Nat.le_of_ble_eq_true rfl) (Nat.le_of_ble_eq_true rfl)
  | true =>
    refine tv_callN (W.runS (As := [.int x1]) (rest := []) ⟨hx, hb, hml, hown, hts⟩ (n_X0_needRow l x1 g1) (va_cwS 1 hts gX0_merge_X0_needRow rfl rfl rfl (by decide +kernel) ⟨Nat.le_of_ble_eq_true rfl, Nat.le_of_ble_eq_true rfl⟩) preEq rfl rfl hl.1 rfl (lv_room (Nat.le_of_ble_eq_true rfl)) dX0_merge_1 ⟨Nat.le_of_ble_eq_true rfl, Nat.le_of_ble_eq_true rfl⟩) ?_
    obtain ⟨r, hr8, rfl⟩ := tv_in_of (by omega) g1
    refine lv_iload_n hx hb dX0_merge_4 rfl (lv_at hl 2 rfl) ?_
    cases g2 : tv_in 8 x2 with
    | false =>
      have hV1 : V = (1, 0, (rd, lv, op, nt)) := by rw [hV]; simp only [sp_merge, g1, g2, Bool.and_false, Bool.false_and, Bool.and_true, Bool.true_and, Bool.and_self, sp_f, sp_tf, sp_tt]
      exact tv_callT (a := #[]) (vx_runS (As := [.int x2]) (rest := []) ⟨hx, hb, hml, hown, hts⟩ (t_X0_needRow l hT x2 g2) (va_cwS 1 hts gX0_merge_X0_needRow rfl rfl rfl (by decide +kernel) ⟨Nat.le_of_ble_eq_true rfl, Nat.le_of_ble_eq_true rfl⟩) (tv_preT hE hS) rfl rfl hl.1 rfl (lv_room (Nat.le_of_ble_eq_true rfl)) dX0_merge_5 ⟨Nat.le_of_ble_eq_true rfl, Nat.le_of_ble_eq_true rfl⟩) htab hlocks (fun t hz hk => ⟨(), by rw [hV1]; exact (by decide : (1 : Int32) ≠ 0), by rw [hV1]; rfl, hz, fun q hq _ => hk q hq⟩) (fun z h => nomatch h) (Nat.le_of_ble_eq_true rfl) (Nat.le_of_ble_eq_true rfl)
    | true =>
      refine tv_callN (W.runS (As := [.int x2]) (rest := []) ⟨hx, hb, hml, hown, hts⟩ (n_X0_needRow l x2 g2) (va_cwS 1 hts gX0_merge_X0_needRow rfl rfl rfl (by decide +kernel) ⟨Nat.le_of_ble_eq_true rfl, Nat.le_of_ble_eq_true rfl⟩) preEq rfl rfl hl.1 rfl (lv_room (Nat.le_of_ble_eq_true rfl)) dX0_merge_5 ⟨Nat.le_of_ble_eq_true rfl, Nat.le_of_ble_eq_true rfl⟩) ?_
      obtain ⟨q, hq8, rfl⟩ := tv_in_of (by omega) g2
      refine lv_iload_n hx hb dX0_merge_8 rfl (lv_at hl 3 rfl) ?_
      cases g3 : tv_in 8 x3 with
      | false =>
        have hV1 : V = (1, 0, (rd, lv, op, nt)) := by rw [hV]; simp only [sp_merge, g1, g2, g3, Bool.and_false, Bool.false_and, Bool.and_true, Bool.true_and, Bool.and_self, sp_f, sp_tf, sp_tt]
        exact tv_callT (a := #[]) (vx_runS (As := [.int x3]) (rest := []) ⟨hx, hb, hml, hown, hts⟩ (t_X0_needRow l hT x3 g3) (va_cwS 1 hts gX0_merge_X0_needRow rfl rfl rfl (by decide +kernel) ⟨Nat.le_of_ble_eq_true rfl, Nat.le_of_ble_eq_true rfl⟩) (tv_preT hE hS) rfl rfl hl.1 rfl (lv_room (Nat.le_of_ble_eq_true rfl)) dX0_merge_9 ⟨Nat.le_of_ble_eq_true rfl, Nat.le_of_ble_eq_true rfl⟩) htab hlocks (fun t hz hk => ⟨(), by rw [hV1]; exact (by decide : (1 : Int32) ≠ 0), by rw [hV1]; rfl, hz, fun q hq _ => hk q hq⟩) (fun z h => nomatch h) (Nat.le_of_ble_eq_true rfl) (Nat.le_of_ble_eq_true rfl)
      | true =>
        refine tv_callN (W.runS (As := [.int x3]) (rest := []) ⟨hx, hb, hml, hown, hts⟩ (n_X0_needRow l x3 g3) (va_cwS 1 hts gX0_merge_X0_needRow rfl rfl rfl (by decide +kernel) ⟨Nat.le_of_ble_eq_true rfl, Nat.le_of_ble_eq_true rfl⟩) preEq rfl rfl hl.1 rfl (lv_room (Nat.le_of_ble_eq_true rfl)) dX0_merge_9 ⟨Nat.le_of_ble_eq_true rfl, Nat.le_of_ble_eq_true rfl⟩) ?_
        obtain ⟨t, ht8, rfl⟩ := tv_in_of (by omega) g3
        refine lv_iload hx hb dX0_merge_12 (lv_at hl 4 rfl) ?_
        cases g4 : tv_sg x4 with
        | false =>
          have hV1 : V = (2, 0, (rd, lv, op, nt)) := by rw [hV]; simp only [sp_merge, g1, g2, g3, g4, Bool.and_false, Bool.false_and, Bool.and_true, Bool.true_and, Bool.and_self, sp_f, sp_tf, sp_tt]
          exact tv_callT (a := #[]) (vx_runS (As := [.int x4]) (rest := []) ⟨hx, hb, hml, hown, hts⟩ (t_X0_needSign l hT x4 g4) (va_cwS 1 hts gX0_merge_X0_needSign rfl rfl rfl (by decide +kernel) ⟨Nat.le_of_ble_eq_true rfl, Nat.le_of_ble_eq_true rfl⟩) (tv_preT hE hS) rfl rfl hl.1 rfl (lv_room (Nat.le_of_ble_eq_true rfl)) dX0_merge_14 ⟨Nat.le_of_ble_eq_true rfl, Nat.le_of_ble_eq_true rfl⟩) htab hlocks (fun t hz hk => ⟨(), by rw [hV1]; exact (by decide : (2 : Int32) ≠ 0), by rw [hV1]; rfl, hz, fun q hq _ => hk q hq⟩) (fun z h => nomatch h) (Nat.le_of_ble_eq_true rfl) (Nat.le_of_ble_eq_true rfl)
        | true =>
          refine tv_callN (W.runS (As := [.int x4]) (rest := []) ⟨hx, hb, hml, hown, hts⟩ (n_X0_needSign l x4 g4) (va_cwS 1 hts gX0_merge_X0_needSign rfl rfl rfl (by decide +kernel) ⟨Nat.le_of_ble_eq_true rfl, Nat.le_of_ble_eq_true rfl⟩) preEq rfl rfl hl.1 rfl (lv_room (Nat.le_of_ble_eq_true rfl)) dX0_merge_14 ⟨Nat.le_of_ble_eq_true rfl, Nat.le_of_ble_eq_true rfl⟩) ?_
          refine lv_iload_n hx hb dX0_merge_17 rfl (lv_at hl 1 rfl) ?_
          refine lv_iload_n hx hb dX0_merge_18 rfl (lv_at hl 2 rfl) ?_
          cases g5 : tv_os (nI r) (nI q) with
          | false =>
            have hV1 : V = (2, 0, (rd, lv, op, nt)) := by rw [hV]; simp only [sp_merge, g1, g2, g3, g4, g5, Bool.and_false, Bool.false_and, Bool.and_true, Bool.true_and, Bool.and_self, sp_f, sp_tf, sp_tt]
            exact tv_callT (a := #[]) (vx_runS (As := [.int (nI r), .int (nI q)]) (rest := []) ⟨hx, hb, hml, hown, hts⟩ (t_X0_needOneSort l hT r q g5 hr8 hq8) (va_cwS 2 hts gX0_merge_X0_needOneSort rfl rfl rfl (by decide +kernel) ⟨Nat.le_of_ble_eq_true rfl, Nat.le_of_ble_eq_true rfl⟩) (tv_preT hE hS) rfl rfl hl.1 rfl (lv_room (Nat.le_of_ble_eq_true rfl)) dX0_merge_19 ⟨Nat.le_of_ble_eq_true rfl, Nat.le_of_ble_eq_true rfl⟩) htab hlocks (fun t hz hk => ⟨(), by rw [hV1]; exact (by decide : (2 : Int32) ≠ 0), by rw [hV1]; rfl, hz, fun q hq _ => hk q hq⟩) (fun z h => nomatch h) (Nat.le_of_ble_eq_true rfl) (Nat.le_of_ble_eq_true rfl)
          | true =>
            refine tv_callN (W.runS (As := [.int (nI r), .int (nI q)]) (rest := []) ⟨hx, hb, hml, hown, hts⟩ (n_X0_needOneSort l r q g5 hr8 hq8) (va_cwS 2 hts gX0_merge_X0_needOneSort rfl rfl rfl (by decide +kernel) ⟨Nat.le_of_ble_eq_true rfl, Nat.le_of_ble_eq_true rfl⟩) preEq rfl rfl hl.1 rfl (lv_room (Nat.le_of_ble_eq_true rfl)) dX0_merge_19 ⟨Nat.le_of_ble_eq_true rfl, Nat.le_of_ble_eq_true rfl⟩) ?_
            refine lv_iload_n hx hb dX0_merge_22 rfl (lv_at hl 1 rfl) ?_
            refine lv_iload_n hx hb dX0_merge_23 rfl (lv_at hl 3 rfl) ?_
            cases g6 : tv_os (nI r) (nI t) with
            | false =>
              have hV1 : V = (2, 0, (rd, lv, op, nt)) := by rw [hV]; simp only [sp_merge, g1, g2, g3, g4, g5, g6, Bool.and_false, Bool.false_and, Bool.and_true, Bool.true_and, Bool.and_self, sp_f, sp_tf, sp_tt]
              exact tv_callT (a := #[]) (vx_runS (As := [.int (nI r), .int (nI t)]) (rest := []) ⟨hx, hb, hml, hown, hts⟩ (t_X0_needOneSort l hT r t g6 hr8 ht8) (va_cwS 2 hts gX0_merge_X0_needOneSort rfl rfl rfl (by decide +kernel) ⟨Nat.le_of_ble_eq_true rfl, Nat.le_of_ble_eq_true rfl⟩) (tv_preT hE hS) rfl rfl hl.1 rfl (lv_room (Nat.le_of_ble_eq_true rfl)) dX0_merge_24 ⟨Nat.le_of_ble_eq_true rfl, Nat.le_of_ble_eq_true rfl⟩) htab hlocks (fun t hz hk => ⟨(), by rw [hV1]; exact (by decide : (2 : Int32) ≠ 0), by rw [hV1]; rfl, hz, fun q hq _ => hk q hq⟩) (fun z h => nomatch h) (Nat.le_of_ble_eq_true rfl) (Nat.le_of_ble_eq_true rfl)
            | true =>
              refine tv_callN (W.runS (As := [.int (nI r), .int (nI t)]) (rest := []) ⟨hx, hb, hml, hown, hts⟩ (n_X0_needOneSort l r t g6 hr8 ht8) (va_cwS 2 hts gX0_merge_X0_needOneSort rfl rfl rfl (by decide +kernel) ⟨Nat.le_of_ble_eq_true rfl, Nat.le_of_ble_eq_true rfl⟩) preEq rfl rfl hl.1 rfl (lv_room (Nat.le_of_ble_eq_true rfl)) dX0_merge_24 ⟨Nat.le_of_ble_eq_true rfl, Nat.le_of_ble_eq_true rfl⟩) ?_
              refine lv_iload_n hx hb dX0_merge_27 rfl (lv_at hl 3 rfl) ?_
              refine lv_iload_n hx hb dX0_merge_28 rfl (lv_at hl 1 rfl) ?_
              cases g7 : (!(decide (nI t = nI r))) with
              | false =>
                have hV1 : V = (2, 0, (rd, lv, op, nt)) := by rw [hV]; simp only [sp_merge, g1, g2, g3, g4, g5, g6, g7, Bool.and_false, Bool.false_and, Bool.and_true, Bool.true_and, Bool.and_self, sp_f, sp_tf, sp_tt]
                exact tv_callT (a := #[]) (vx_runS (As := [.int (nI t), .int (nI r)]) (rest := []) ⟨hx, hb, hml, hown, hts⟩ (t_X0_needApart l hT (nI t) (nI r) g7) (va_cwS 2 hts gX0_merge_X0_needApart rfl rfl rfl (by decide +kernel) ⟨Nat.le_of_ble_eq_true rfl, Nat.le_of_ble_eq_true rfl⟩) (tv_preT hE hS) rfl rfl hl.1 rfl (lv_room (Nat.le_of_ble_eq_true rfl)) dX0_merge_29 ⟨Nat.le_of_ble_eq_true rfl, Nat.le_of_ble_eq_true rfl⟩) htab hlocks (fun t hz hk => ⟨(), by rw [hV1]; exact (by decide : (2 : Int32) ≠ 0), by rw [hV1]; rfl, hz, fun q hq _ => hk q hq⟩) (fun z h => nomatch h) (Nat.le_of_ble_eq_true rfl) (Nat.le_of_ble_eq_true rfl)
              | true =>
                refine tv_callN (W.runS (As := [.int (nI t), .int (nI r)]) (rest := []) ⟨hx, hb, hml, hown, hts⟩ (n_X0_needApart l (nI t) (nI r) g7) (va_cwS 2 hts gX0_merge_X0_needApart rfl rfl rfl (by decide +kernel) ⟨Nat.le_of_ble_eq_true rfl, Nat.le_of_ble_eq_true rfl⟩) preEq rfl rfl hl.1 rfl (lv_room (Nat.le_of_ble_eq_true rfl)) dX0_merge_29 ⟨Nat.le_of_ble_eq_true rfl, Nat.le_of_ble_eq_true rfl⟩) ?_
                refine lv_iload_n hx hb dX0_merge_32 rfl (lv_at hl 3 rfl) ?_
                refine lv_iload_n hx hb dX0_merge_33 rfl (lv_at hl 2 rfl) ?_
                cases g8 : (!(decide (nI t = nI q))) with
                | false =>
                  have hV1 : V = (2, 0, (rd, lv, op, nt)) := by rw [hV]; simp only [sp_merge, g1, g2, g3, g4, g5, g6, g7, g8, Bool.and_false, Bool.false_and, Bool.and_true, Bool.true_and, Bool.and_self, sp_f, sp_tf, sp_tt]
                  exact tv_callT (a := #[]) (vx_runS (As := [.int (nI t), .int (nI q)]) (rest := []) ⟨hx, hb, hml, hown, hts⟩ (t_X0_needApart l hT (nI t) (nI q) g8) (va_cwS 2 hts gX0_merge_X0_needApart rfl rfl rfl (by decide +kernel) ⟨Nat.le_of_ble_eq_true rfl, Nat.le_of_ble_eq_true rfl⟩) (tv_preT hE hS) rfl rfl hl.1 rfl (lv_room (Nat.le_of_ble_eq_true rfl)) dX0_merge_34 ⟨Nat.le_of_ble_eq_true rfl, Nat.le_of_ble_eq_true rfl⟩) htab hlocks (fun t hz hk => ⟨(), by rw [hV1]; exact (by decide : (2 : Int32) ≠ 0), by rw [hV1]; rfl, hz, fun q hq _ => hk q hq⟩) (fun z h => nomatch h) (Nat.le_of_ble_eq_true rfl) (Nat.le_of_ble_eq_true rfl)
                | true =>
                  refine tv_callN (W.runS (As := [.int (nI t), .int (nI q)]) (rest := []) ⟨hx, hb, hml, hown, hts⟩ (n_X0_needApart l (nI t) (nI q) g8) (va_cwS 2 hts gX0_merge_X0_needApart rfl rfl rfl (by decide +kernel) ⟨Nat.le_of_ble_eq_true rfl, Nat.le_of_ble_eq_true rfl⟩) preEq rfl rfl hl.1 rfl (lv_room (Nat.le_of_ble_eq_true rfl)) dX0_merge_34 ⟨Nat.le_of_ble_eq_true rfl, Nat.le_of_ble_eq_true rfl⟩) ?_
                  refine lv_iconst (v := 0) hx hb dX0_merge_37 (by decide) ?_
                  refine lv_istore (lv' := [(5, .int 0), (0, .ref h), (1, .int (nI r)), (2, .int (nI q)), (3, .int (nI t)), (4, .int x4)]) hx hb dX0_merge_38 hl (by decide) rfl (fun ls hl => ?_)
                  refine lv_iconst (v := 0) hx hb dX0_merge_40 (by decide) ?_
                  refine lv_istore (lv' := [(6, .int 0), (5, .int 0), (0, .ref h), (1, .int (nI r)), (2, .int (nI q)), (3, .int (nI t)), (4, .int x4)]) hx hb dX0_merge_41 hl (by decide) rfl (fun ls hl => ?_)
                  have hV0 : V = (0, nI (mg x4 r q t rd 12).2, ((mg x4 r q t rd 12).1, lv, op, nt)) := by
                    rw [hV]; simp only [sp_merge, tN, nI_clamp (show r < 2 ^ 31 by omega), nI_clamp (show q < 2 ^ 31 by omega), nI_clamp (show t < 2 ^ 31 by omega), g1, g2, g3, g4, g5, g6, g7, g8, Bool.and_false, Bool.false_and, Bool.and_true, Bool.true_and, Bool.and_self, sp_f, sp_tf, sp_tt]
                  have loop : ∀ (n k : Nat), k + n = 12 → ∀ (H : Heap) (locs : List Loc), va_P D vwCl (tv_cw cI cZ h a1 a2 a3 a4 ((mg x4 r q t rd k).1, lv, op, nt)) H → va_D A (tv_cw cI cZ h a1 a2 a3 a4 ((mg x4 r q t rd k).1, lv, op, nt)) → va_S A s.heap H locs → ∀ ls : Array Slot, lv_has ls 10 [(0, .ref h), (1, .int (nI r)), (2, .int (nI q)), (3, .int (nI t)), (4, .int x4), (5, .int (nI (mg x4 r q t rd k).2)), (6, .int (nI k))] → W p l e (headSpec wsX0_merge tv_rmP).room s m ([.ref h, .int (nI r), .int (nI q), .int (nI t), .int x4] : List Value).toArray below meth c H locs 0 0 (vx_MQ below (tv_QP D cI cZ cL (tv_cw cI cZ h a1 a2 a3 a4) (tv_cw cI cZ h a1 a2 a3 a4 (rd, lv, op, nt)) s.heap.size V) (tv_XP V) ([.ref h, .int (nI r), .int (nI q), .int (nI t), .int x4] : List Value).toArray s 1 6 (va_A (tv_cw cI cZ h a1 a2 a3 a4 (rd, lv, op, nt)) s.heap.size)) (F0 m 43 ls []) := by
                    intro n
                    induction n with
                    | zero =>
                      intro k hk H locs hP hD hS ls hl
                      have hk2 : k = 12 := by omega
                      subst hk2
                      refine lv_iload hx hb dX0_merge_43 (lv_at hl 6 rfl) ?_
                      refine lv_bipush (v := 12) hx hb dX0_merge_45 (by decide) ?_
                      refine lv_icmp_ge (tgt := 127) hx hb dX0_merge_47 (by decide) (fun c_1 => ?_) (fun c_1 => ?_)
                      · skip
                        refine lv_iload hx hb dX0_merge_127 (lv_at hl 5 rfl) ?_
                        exact tv_iretP (wf := tv_cw cI cZ h a1 a2 a3 a4) (σ := ((mg x4 r q t rd 12).1, lv, op, nt)) (r := nI (mg x4 r q t rd 12).2) hAe hV0 hx hb hr hP hK hD hS dX0_merge_129 hlocks
                      · exact absurd (show nI 12 ≤ nI 12 from nI_le (Nat.le_refl _) (by omega)) c_1
                    | succ n ih =>
                      intro k hk H locs hP hD hS ls hl
                      have hm1 := mg_le x4 r q t rd k
                      refine lv_iload hx hb dX0_merge_43 (lv_at hl 6 rfl) ?_
                      refine lv_bipush (v := 12) hx hb dX0_merge_45 (by decide) ?_
                      refine lv_icmp_ge (tgt := 127) hx hb dX0_merge_47 (by decide) (fun c_2 => ?_) (fun c_2 => ?_)
                      · exact absurd (show nI 12 ≤ nI k from c_2) (nI_ge (by omega) (by omega))
                      · skip
                        refine lv_aload_n hx hb dX0_merge_50 rfl (lv_at hl 0 rfl) ?_
                        refine va_get (D := D) (ci := 0) (v := .ref a1) (C := RX0) (T := TX0) (N := 4) hx hb hts iX0_merge hown hK hP 0 rfl rfl 0 (by decide) (hts (.fieldLink RX0 9 "TideHouse" "readings" "[I") (by decide +kernel)) (fun _ h9 => h9) rfl dX0_merge_51 ?_
                        refine lv_iload_n hx hb dX0_merge_54 rfl (lv_at hl 1 rfl) ?_
                        refine lv_iload hx hb dX0_merge_55 (lv_at hl 5 rfl) ?_
                        refine tv_callR (W.runS (As := [.int (nI r), .int (nI (mg x4 r q t rd k).2)]) (rest := [.ref a1]) ⟨hx, hb, hml, hown, hts⟩ (c_X0_spot l r ((mg x4 r q t rd k).2)) (va_cwS 2 hts gX0_merge_X0_spot rfl rfl rfl (by decide +kernel) ⟨Nat.le_of_ble_eq_true rfl, Nat.le_of_ble_eq_true rfl⟩) preEq rfl rfl hl.1 rfl (lv_room (Nat.le_of_ble_eq_true rfl)) dX0_merge_57 ⟨Nat.le_of_ble_eq_true rfl, Nat.le_of_ble_eq_true rfl⟩) ?_
                        refine tv_iald (D := D) (cA := cI) (n := 96) (f := (mg x4 r q t rd k).1) (k := (12 * r + ((mg x4 r q t rd k).2))) hx hb hK hP 1 0 rfl rfl (by omega) (by omega) dX0_merge_60 ?_
                        refine lv_istore (lv' := [(7, .int (((mg x4 r q t rd k).1) (12 * r + ((mg x4 r q t rd k).2)))), (0, .ref h), (1, .int (nI r)), (2, .int (nI q)), (3, .int (nI t)), (4, .int x4), (5, .int (nI (mg x4 r q t rd k).2)), (6, .int (nI k))]) hx hb dX0_merge_61 hl (by decide) rfl (fun ls hl => ?_)
                        refine lv_aload_n hx hb dX0_merge_63 rfl (lv_at hl 1 rfl) ?_
                        refine va_get (D := D) (ci := 0) (v := .ref a1) (C := RX0) (T := TX0) (N := 4) hx hb hts iX0_merge hown hK hP 0 rfl rfl 0 (by decide) (hts (.fieldLink RX0 9 "TideHouse" "readings" "[I") (by decide +kernel)) (fun _ h9 => h9) rfl dX0_merge_64 ?_
                        refine lv_iload_n hx hb dX0_merge_67 rfl (lv_at hl 3 rfl) ?_
                        refine lv_iload hx hb dX0_merge_68 (lv_at hl 7 rfl) ?_
                        refine lv_iload hx hb dX0_merge_70 (lv_at hl 6 rfl) ?_
                        refine lv_isub hx hb dX0_merge_72 ?_
                        refine tv_top (nI (k - (mg x4 r q t rd k).2)) (pk_sub hm1) ?_
                        refine tv_callR (W.runS (As := [.int (nI q), .int (nI (k - (mg x4 r q t rd k).2))]) (rest := [.ref a1]) ⟨hx, hb, hml, hown, hts⟩ (c_X0_spot l q (k - (mg x4 r q t rd k).2)) (va_cwS 2 hts gX0_merge_X0_spot rfl rfl rfl (by decide +kernel) ⟨Nat.le_of_ble_eq_true rfl, Nat.le_of_ble_eq_true rfl⟩) preEq rfl rfl hl.1 rfl (lv_room (Nat.le_of_ble_eq_true rfl)) dX0_merge_73 ⟨Nat.le_of_ble_eq_true rfl, Nat.le_of_ble_eq_true rfl⟩) ?_
                        refine tv_iald (D := D) (cA := cI) (n := 96) (f := (mg x4 r q t rd k).1) (k := (12 * q + (k - (mg x4 r q t rd k).2))) hx hb hK hP 1 0 rfl rfl (by omega) (by omega) dX0_merge_76 ?_
                        refine lv_istore (lv' := [(8, .int (((mg x4 r q t rd k).1) (12 * q + (k - (mg x4 r q t rd k).2)))), (7, .int (((mg x4 r q t rd k).1) (12 * r + ((mg x4 r q t rd k).2)))), (0, .ref h), (1, .int (nI r)), (2, .int (nI q)), (3, .int (nI t)), (4, .int x4), (5, .int (nI (mg x4 r q t rd k).2)), (6, .int (nI k))]) hx hb dX0_merge_77 hl (by decide) rfl (fun ls hl => ?_)
                        refine lv_iload hx hb dX0_merge_79 (lv_at hl 6 rfl) ?_
                        refine lv_iload hx hb dX0_merge_81 (lv_at hl 1 rfl) ?_
                        refine lv_iload hx hb dX0_merge_83 (lv_at hl 0 rfl) ?_
                        refine tv_callR (W.runS (As := [.int x4, .int (((mg x4 r q t rd k).1) (12 * r + ((mg x4 r q t rd k).2))), .int (((mg x4 r q t rd k).1) (12 * q + (k - (mg x4 r q t rd k).2)))]) (rest := []) ⟨hx, hb, hml, hown, hts⟩ (c_X0_isTrue l x4 (((mg x4 r q t rd k).1) (12 * r + ((mg x4 r q t rd k).2))) (((mg x4 r q t rd k).1) (12 * q + (k - (mg x4 r q t rd k).2)))) (va_cwS 3 hts gX0_merge_X0_isTrue rfl rfl rfl (by decide +kernel) ⟨Nat.le_of_ble_eq_true rfl, Nat.le_of_ble_eq_true rfl⟩) preEq rfl rfl hl.1 rfl (lv_room (Nat.le_of_ble_eq_true rfl)) dX0_merge_85 ⟨Nat.le_of_ble_eq_true rfl, Nat.le_of_ble_eq_true rfl⟩) ?_
                        refine lv_istore (lv' := [(9, .int (tq x4 (((mg x4 r q t rd k).1) (12 * r + ((mg x4 r q t rd k).2))) (((mg x4 r q t rd k).1) (12 * q + (k - (mg x4 r q t rd k).2))))), (8, .int (((mg x4 r q t rd k).1) (12 * q + (k - (mg x4 r q t rd k).2)))), (7, .int (((mg x4 r q t rd k).1) (12 * r + ((mg x4 r q t rd k).2)))), (0, .ref h), (1, .int (nI r)), (2, .int (nI q)), (3, .int (nI t)), (4, .int x4), (5, .int (nI (mg x4 r q t rd k).2)), (6, .int (nI k))]) hx hb dX0_merge_88 hl (by decide) rfl (fun ls hl => ?_)
                        refine lv_aload_n hx hb dX0_merge_90 rfl (lv_at hl 3 rfl) ?_
                        refine va_get (D := D) (ci := 0) (v := .ref a1) (C := RX0) (T := TX0) (N := 4) hx hb hts iX0_merge hown hK hP 0 rfl rfl 0 (by decide) (hts (.fieldLink RX0 9 "TideHouse" "readings" "[I") (by decide +kernel)) (fun _ h9 => h9) rfl dX0_merge_91 ?_
                        refine lv_iload_n hx hb dX0_merge_94 rfl (lv_at hl 6 rfl) ?_
                        refine lv_iload hx hb dX0_merge_95 (lv_at hl 9 rfl) ?_
                        refine tv_callR (W.runS (As := [.int (nI t), .int (nI k)]) (rest := [.ref a1]) ⟨hx, hb, hml, hown, hts⟩ (c_X0_spot l t k) (va_cwS 2 hts gX0_merge_X0_spot rfl rfl rfl (by decide +kernel) ⟨Nat.le_of_ble_eq_true rfl, Nat.le_of_ble_eq_true rfl⟩) preEq rfl rfl hl.1 rfl (lv_room (Nat.le_of_ble_eq_true rfl)) dX0_merge_97 ⟨Nat.le_of_ble_eq_true rfl, Nat.le_of_ble_eq_true rfl⟩) ?_
                        refine lv_iload hx hb dX0_merge_100 (lv_at hl 0 rfl) ?_
                        refine lv_if_eq (tgt := 110) hx hb dX0_merge_102 (by decide) (fun c_3 => ?_) (fun c_3 => ?_)
                        · have hm2 : (mg x4 r q t rd (k + 1)) = (upd (mg x4 r q t rd k).1 (12 * t + k) ((mg x4 r q t rd k).1 (12 * q + (k - (mg x4 r q t rd k).2))), (mg x4 r q t rd k).2) := by
                            rw [mg, if_pos c_3, if_pos c_3]
                          refine lv_iload hx hb dX0_merge_110 (lv_at hl 1 rfl) ?_
                          refine tv_iast (D := D) (cA := cI) (n := 96) (f := (mg x4 r q t rd k).1) (k := (12 * t + k)) (x := ((mg x4 r q t rd k).1) (12 * q + (k - (mg x4 r q t rd k).2))) (ws1 := tv_cw cI cZ h a1 a2 a3 a4 (upd ((mg x4 r q t rd k).1) (12 * t + k) (((mg x4 r q t rd k).1) (12 * q + (k - (mg x4 r q t rd k).2))), lv, op, nt)) hx hb hK hP hD hS 1 0 rfl rfl (by omega) (by omega) rfl dX0_merge_112 (fun H locs hP hD hS => ?_)
                          refine lv_iload hx hb dX0_merge_113 (lv_at hl 0 rfl) ?_
                          refine lv_if_eq (tgt := 121) hx hb dX0_merge_115 (by decide) (fun c_4 => ?_) (fun c_4 => ?_)
                          · skip
                            refine lv_iinc (v := nI (k + 1)) (lv' := [(6, .int (nI (k + 1))), (9, .int (tq x4 (((mg x4 r q t rd k).1) (12 * r + ((mg x4 r q t rd k).2))) (((mg x4 r q t rd k).1) (12 * q + (k - (mg x4 r q t rd k).2))))), (8, .int (((mg x4 r q t rd k).1) (12 * q + (k - (mg x4 r q t rd k).2)))), (7, .int (((mg x4 r q t rd k).1) (12 * r + ((mg x4 r q t rd k).2)))), (0, .ref h), (1, .int (nI r)), (2, .int (nI q)), (3, .int (nI t)), (4, .int x4), (5, .int (nI (mg x4 r q t rd k).2))]) hx hb dX0_merge_121 hl (k := 9) rfl (nI_1 k) (by decide) rfl (fun ls hl => ?_)
                            refine lv_goto (tgt := 43) hx hb dX0_merge_124 (by decide) ?_
                            have hP : va_P D vwCl (tv_cw cI cZ h a1 a2 a3 a4 ((mg x4 r q t rd (k + 1)).1, lv, op, nt)) H := by rw [hm2]; exact hP
                            have hD : va_D A (tv_cw cI cZ h a1 a2 a3 a4 ((mg x4 r q t rd (k + 1)).1, lv, op, nt)) := by rw [hm2]; exact hD
                            exact ih (k + 1) (by omega) H locs hP hD hS ls (by rw [show nI (mg x4 r q t rd (k + 1)).2 = nI (mg x4 r q t rd k).2 from by rw [hm2]]; exact lv_sub hl [4, 5, 6, 7, 8, 9, 0] rfl)
                          · exact absurd c_3 c_4
                        · have hm2 : (mg x4 r q t rd (k + 1)) = (upd (mg x4 r q t rd k).1 (12 * t + k) ((mg x4 r q t rd k).1 (12 * r + (mg x4 r q t rd k).2)), (mg x4 r q t rd k).2 + 1) := by
                            rw [mg, if_neg c_3, if_neg c_3]
                          refine lv_iload hx hb dX0_merge_105 (lv_at hl 2 rfl) ?_
                          refine lv_goto (tgt := 112) hx hb dX0_merge_107 (by decide) ?_
                          refine tv_iast (D := D) (cA := cI) (n := 96) (f := (mg x4 r q t rd k).1) (k := (12 * t + k)) (x := ((mg x4 r q t rd k).1) (12 * r + ((mg x4 r q t rd k).2))) (ws1 := tv_cw cI cZ h a1 a2 a3 a4 (upd ((mg x4 r q t rd k).1) (12 * t + k) (((mg x4 r q t rd k).1) (12 * r + ((mg x4 r q t rd k).2))), lv, op, nt)) hx hb hK hP hD hS 1 0 rfl rfl (by omega) (by omega) rfl dX0_merge_112 (fun H locs hP hD hS => ?_)
                          refine lv_iload hx hb dX0_merge_113 (lv_at hl 0 rfl) ?_
                          refine lv_if_eq (tgt := 121) hx hb dX0_merge_115 (by decide) (fun c_5 => ?_) (fun c_5 => ?_)
                          · exact absurd c_5 c_3
                          · skip
                            refine lv_iinc (v := nI ((mg x4 r q t rd k).2 + 1)) (lv' := [(5, .int (nI ((mg x4 r q t rd k).2 + 1))), (9, .int (tq x4 (((mg x4 r q t rd k).1) (12 * r + ((mg x4 r q t rd k).2))) (((mg x4 r q t rd k).1) (12 * q + (k - (mg x4 r q t rd k).2))))), (8, .int (((mg x4 r q t rd k).1) (12 * q + (k - (mg x4 r q t rd k).2)))), (7, .int (((mg x4 r q t rd k).1) (12 * r + ((mg x4 r q t rd k).2)))), (0, .ref h), (1, .int (nI r)), (2, .int (nI q)), (3, .int (nI t)), (4, .int x4), (6, .int (nI k))]) hx hb dX0_merge_118 hl (k := 8) rfl (nI_1 ((mg x4 r q t rd k).2)) (by decide) rfl (fun ls hl => ?_)
                            refine lv_iinc (v := nI (k + 1)) (lv' := [(6, .int (nI (k + 1))), (5, .int (nI ((mg x4 r q t rd k).2 + 1))), (9, .int (tq x4 (((mg x4 r q t rd k).1) (12 * r + ((mg x4 r q t rd k).2))) (((mg x4 r q t rd k).1) (12 * q + (k - (mg x4 r q t rd k).2))))), (8, .int (((mg x4 r q t rd k).1) (12 * q + (k - (mg x4 r q t rd k).2)))), (7, .int (((mg x4 r q t rd k).1) (12 * r + ((mg x4 r q t rd k).2)))), (0, .ref h), (1, .int (nI r)), (2, .int (nI q)), (3, .int (nI t)), (4, .int x4)]) hx hb dX0_merge_121 hl (k := 9) rfl (nI_1 k) (by decide) rfl (fun ls hl => ?_)
                            refine lv_goto (tgt := 43) hx hb dX0_merge_124 (by decide) ?_
                            have hP : va_P D vwCl (tv_cw cI cZ h a1 a2 a3 a4 ((mg x4 r q t rd (k + 1)).1, lv, op, nt)) H := by rw [hm2]; exact hP
                            have hD : va_D A (tv_cw cI cZ h a1 a2 a3 a4 ((mg x4 r q t rd (k + 1)).1, lv, op, nt)) := by rw [hm2]; exact hD
                            exact ih (k + 1) (by omega) H locs hP hD hS ls (by rw [show nI (mg x4 r q t rd (k + 1)).2 = nI ((mg x4 r q t rd k).2 + 1) from by rw [hm2]]; exact lv_sub hl [5, 6, 7, 8, 9, 1, 0] rfl)
                  exact loop 12 0 (by omega) s.heap [] hP hD hS ls (by rw [show nI (mg x4 r q t rd 0).2 = 0 from rfl, show nI 0 = 0 from nI_0]; exact lv_sub hl [2, 3, 4, 5, 6, 1, 0] rfl)
end
section
/-! A METHOD OF THE REFERENCE: it returns; thrown tells what the class throws. -/
theorem tv_ix2 (r k : Nat) : 12 * nI r + nI k = nI (12 * r + k) := by rw [tv_12, pk_mul, nI_add]
theorem tv_lx2 (g k : Nat) : 2 * nI g + nI k = nI (2 * g + k) := by rw [show (2 : Int32) = nI 2 from rfl, pk_mul, nI_add]
theorem sp_cd {A B : Bool} {f : TV} {σ : TS} (h : (A && B) = false) : sp A B f σ = (tv_cd A B, 0, σ) := by cases A <;> cases B <;> first | rfl | cases h
abbrev tv_QM (D : va_G) (cI cZ cL : ClassId) (wf : Int32 → TS → va_W) (ws : va_W) (sz : Nat) (V : TV) : Array Value → State → Outcome → State → Prop :=
  va_Qi (S := Unit) (fun r _ => V.1 = 0 → r = V.2.1) (fun _ t => va_P D vwCl (wf V.1 V.2.2) t.heap ∧ va_K D vwCl (tv_ty cI cZ cL) t ∧ va_D (va_A ws sz) (wf V.1 V.2.2)) (va_A ws sz)
section TVM
variable {p : Program} {l : Launch} {e : Env} {R : Room} {s : State} {m : MethodId} {args : Array Value} {below : List Frame} {meth : Method} {c : Code} {H : Heap} {locs : List Loc} {Q : State → Prop} {pc : Nat} {ls : Array Slot} {st0 rest : List Value} {a : Array Value} {D : va_G} {cI cZ cL : ClassId} {ws0 : va_W} {wf : Int32 → TS → va_W} {σ : TS} {V : TV} {sz : Nat} {cc : ByteArray} {A : Nat → Prop} {r th z : Int32} {cells slots : Nat}
theorem tv_iretM (hA : A = va_A ws0 sz) (hV : V = (th, z, σ)) (hz : th = 0 → r = z) (hexec : p.tables.exec = Jvm.exec) (hb : c.code = cc) (hr : meth.sig.returnType = some .int) (hP : va_P D vwCl (wf th σ) H) (hK : va_K D vwCl (tv_ty cI cZ cL) s) (hD : va_D A (wf th σ)) (hS : va_S A s.heap H locs) (hdg : decode cc pc = .ok (.ireturn, 1)) (hlocks : meth.locks = false) :
    W p l e R s m args below meth c H locs cells slots (MQ below (tv_QM D cI cZ cL wf ws0 sz V) args s cells slots (va_A ws0 sz)) (F0 m pc ls [.int r]) := by
  subst hA
  subst hV
  exact W.iret (v := r) hexec hb hr (fun t ht hW => ⟨⟨r, (), rfl, hz, by rw [ht]; exact hP, va_K.moved hW.alike hK, hD⟩, hS.F ht⟩) hS.2.2 hdg hlocks
theorem tv_zretM (h01 : r = 0 ∨ r = 1) (hA : A = va_A ws0 sz) (hV : V = (th, z, σ)) (hz : th = 0 → r = z) (hexec : p.tables.exec = Jvm.exec) (hb : c.code = cc) (hr : meth.sig.returnType = some .boolean) (hP : va_P D vwCl (wf th σ) H) (hK : va_K D vwCl (tv_ty cI cZ cL) s) (hD : va_D A (wf th σ)) (hS : va_S A s.heap H locs) (hdg : decode cc pc = .ok (.ireturn, 1)) (hlocks : meth.locks = false) :
    W p l e R s m args below meth c H locs cells slots (MQ below (tv_QM D cI cZ cL wf ws0 sz V) args s cells slots (va_A ws0 sz)) (F0 m pc ls [.int r]) := by
  subst hA
  subst hV
  exact tv_zret (v := r) hexec hb hr h01 (fun t ht hW => ⟨⟨r, (), rfl, hz, by rw [ht]; exact hP, va_K.moved hW.alike hK, hD⟩, hS.F ht⟩) hS.2.2 hdg hlocks
/-- behind a call of a method of the reference -/
theorem tv_callM {wc wr wsN wc' ws : va_W} {A0 : Nat → Prop} {H0 : Heap} {mc ms : Nat} (hr : va_Run p l e R s m args below meth c H locs cells slots mc ms (F0 m pc ls st0) rest (tv_QM D cI cZ cL wf wc H.size V a) (va_A wc H.size)) (hP : va_P D vwCl ws H) (hD : va_D A0 ws) (hS : va_S A0 H0 H locs) (hA : ∀ q, H0.size ≤ q → A0 q)
    (isC isR : List Nat) (hC : isC.map (fun i => ws[i]?) = wc.map some) (hR : isR.map (fun i => ws[i]?) = wr.map some) (hn : va_nd isR = true) (hdis : ∀ i ∈ isR, i ∉ isC) (is : List Nat) (hw' : wf V.1 V.2.2 = wc') (hi1 : is.filterMap (fun i => (wr ++ wc')[i]?) = wsN) (hi2 : is.map (fun i => (wr ++ wc')[i]?) = wsN.map some) (hin : va_nd is = true)
    (kk : ∀ (r : Int32) (H : Heap) (locs : List Loc), (V.1 = 0 → r = V.2.1) → va_P D vwCl wsN H → va_D A0 wsN → va_S A0 H0 H locs → W p l e R s m args below meth c H locs (cells + mc) (slots + ms) Q (F0 m (pc + 3) ls (.int r :: rest))) : W p l e R s m args below meth c H locs cells slots Q (F0 m pc ls st0) := by
  have hFc := va_free (wc := wc) hD hS hA isC hC
  refine va_calli hr hS (fun q _ h => hFc q h) hFc (fun r_2 u t H1 locs1 ht hvm hw hB hz1 hk1 hS1 => ?_)
  obtain ⟨hP1, hK1, hD1⟩ := hB
  rw [ht] at hP1
  rw [hw'] at hP1 hD1
  obtain ⟨hP2, hD2⟩ := va_join (wr := wr) (w1 := wc') hP hD isC isR hC hR hn hdis hk1 hFc hP1 hD1
  exact kk r_2 H1 locs1 hw (hP2.sub is hi1) (hD2.sub is hin hi2) hS1
end TVM
end
section
set_option maxHeartbeats 4000000 in
set_option maxRecDepth 100000 in
theorem c_X1_isTrue (l : Launch) (sg x y : Int32) : Met l yX1_isTrue wsX1_isTrue ({ frames := 0, cells := 0, slots := 0, locals := 0 } : Room) (fun v _ => v = ([.int sg, .int x, .int y] : List Value).toArray) (QcRead (tq sg x y)) 0 0 (fun _ => False) := by
  refine Met.ofW (cc := cX1_isTrue) (maxL := 3) (ret := (some .boolean)) (by decide) rfl ?_
  intro p e s m args below meth c s₁ B hml hv
  subst hv
  have hx := B.exec
  have hb := B.bytes
  have hr := B.returns
  have hts := atoms_spec (ws := wsX1_isTrue) B.pre
  have hown : s.vm.findClass RX1 = some m.cls := findClass_of_methodNamed B.named
  have hlocks := B.notSynchronized
  have hl := lv_entry ([.int sg, .int x, .int y]) (n := 3) (Nat.le_of_ble_eq_true rfl)
  rw [lg_entry_eq]
  generalize (lg_sl ([.int sg, .int x, .int y]) ++ List.replicate (3 - (lg_sl ([.int sg, .int x, .int y])).length) Slot.unset).toArray = ls at hl ⊢
  have hl : lv_has ls 3 [(0, .int sg), (1, .int x), (2, .int y)] := hl
  refine lv_iload_n hx hb dX1_isTrue_0 rfl (lv_at hl 1 rfl) ?_
  refine lv_ldc (v := -2147483648) hx hb hown (hts (.constant RX1 23 (-2147483648)) (by decide +kernel)) dX1_isTrue_1 ?_
  refine lv_icmp_eq (tgt := 12) hx hb dX1_isTrue_3 (by decide) (fun c_1 => ?_) (fun c_1 => ?_)
  · skip
    refine lv_iload_n hx hb dX1_isTrue_12 rfl (lv_at hl 0 rfl) ?_
    refine lv_iconst (v := 5) hx hb dX1_isTrue_13 (by decide) ?_
    refine lv_icmp_ne (tgt := 21) hx hb dX1_isTrue_14 (by decide) (fun c_2 => ?_) (fun c_2 => ?_)
    · skip
      refine lv_iconst (v := 0) hx hb dX1_isTrue_21 (by decide) ?_
      exact tv_zret (v := 0) hx hb hr (by decide) (fun t ht hW => ⟨by rw [show tq sg x y = 0 from by simp [tq, c_1, c_2]], ht⟩) (fun q h => nomatch h) dX1_isTrue_22 hlocks
    · skip
      refine lv_iconst (v := 1) hx hb dX1_isTrue_17 (by decide) ?_
      refine lv_goto (tgt := 22) hx hb dX1_isTrue_18 (by decide) ?_
      exact tv_zret (v := 1) hx hb hr (by decide) (fun t ht hW => ⟨by rw [show tq sg x y = 1 from by simp [tq, c_1, c_2]], ht⟩) (fun q h => nomatch h) dX1_isTrue_22 hlocks
  · skip
    refine lv_iload_n hx hb dX1_isTrue_6 rfl (lv_at hl 2 rfl) ?_
    refine lv_ldc (v := -2147483648) hx hb hown (hts (.constant RX1 23 (-2147483648)) (by decide +kernel)) dX1_isTrue_7 ?_
    refine lv_icmp_ne (tgt := 23) hx hb dX1_isTrue_9 (by decide) (fun c_3 => ?_) (fun c_3 => ?_)
    · skip
      refine lv_iload_n hx hb dX1_isTrue_23 rfl (lv_at hl 0 rfl) ?_
      by_cases k0 : sg = 0
      · subst k0
        refine lv_tableIn (off := 36) (tgt := 60) hx hb dX1_isTrue_24 (by decide) (by decide) (by decide) (by decide) ?_
        refine lv_iload_n hx hb dX1_isTrue_60 rfl (lv_at hl 1 rfl) ?_
        refine lv_iload_n hx hb dX1_isTrue_61 rfl (lv_at hl 2 rfl) ?_
        refine lv_icmp_ge (tgt := 69) hx hb dX1_isTrue_62 (by decide) (fun c_4 => ?_) (fun c_4 => ?_)
        · skip
          refine lv_iconst (v := 0) hx hb dX1_isTrue_69 (by decide) ?_
          exact tv_zret (v := 0) hx hb hr (by decide) (fun t ht hW => ⟨by rw [show tq 0 x y = 0 from by simp [tq, c_1, c_3, c_4]], ht⟩) (fun q h => nomatch h) dX1_isTrue_70 hlocks
        · skip
          refine lv_iconst (v := 1) hx hb dX1_isTrue_65 (by decide) ?_
          refine lv_goto (tgt := 70) hx hb dX1_isTrue_66 (by decide) ?_
          exact tv_zret (v := 1) hx hb hr (by decide) (fun t ht hW => ⟨by rw [show tq 0 x y = 1 from by simp [tq, c_1, c_3, c_4]], ht⟩) (fun q h => nomatch h) dX1_isTrue_70 hlocks
      · skip
        by_cases k1 : sg = 1
        · subst k1
          refine lv_tableIn (off := 47) (tgt := 71) hx hb dX1_isTrue_24 (by decide) (by decide) (by decide) (by decide) ?_
          refine lv_iload_n hx hb dX1_isTrue_71 rfl (lv_at hl 1 rfl) ?_
          refine lv_iload_n hx hb dX1_isTrue_72 rfl (lv_at hl 2 rfl) ?_
          refine lv_icmp_gt (tgt := 80) hx hb dX1_isTrue_73 (by decide) (fun c_5 => ?_) (fun c_5 => ?_)
          · skip
            refine lv_iconst (v := 0) hx hb dX1_isTrue_80 (by decide) ?_
            exact tv_zret (v := 0) hx hb hr (by decide) (fun t ht hW => ⟨by rw [show tq 1 x y = 0 from by simp [tq, c_1, c_3, c_5]], ht⟩) (fun q h => nomatch h) dX1_isTrue_81 hlocks
          · skip
            refine lv_iconst (v := 1) hx hb dX1_isTrue_76 (by decide) ?_
            refine lv_goto (tgt := 81) hx hb dX1_isTrue_77 (by decide) ?_
            exact tv_zret (v := 1) hx hb hr (by decide) (fun t ht hW => ⟨by rw [show tq 1 x y = 1 from by simp [tq, c_1, c_3, c_5]], ht⟩) (fun q h => nomatch h) dX1_isTrue_81 hlocks
        · skip
          by_cases k2 : sg = 2
          · subst k2
            refine lv_tableIn (off := 58) (tgt := 82) hx hb dX1_isTrue_24 (by decide) (by decide) (by decide) (by decide) ?_
            refine lv_iload_n hx hb dX1_isTrue_82 rfl (lv_at hl 1 rfl) ?_
            refine lv_iload_n hx hb dX1_isTrue_83 rfl (lv_at hl 2 rfl) ?_
            refine lv_icmp_le (tgt := 91) hx hb dX1_isTrue_84 (by decide) (fun c_6 => ?_) (fun c_6 => ?_)
            · skip
              refine lv_iconst (v := 0) hx hb dX1_isTrue_91 (by decide) ?_
              exact tv_zret (v := 0) hx hb hr (by decide) (fun t ht hW => ⟨by rw [show tq 2 x y = 0 from by simp [tq, c_1, c_3, c_6]], ht⟩) (fun q h => nomatch h) dX1_isTrue_92 hlocks
            · skip
              refine lv_iconst (v := 1) hx hb dX1_isTrue_87 (by decide) ?_
              refine lv_goto (tgt := 92) hx hb dX1_isTrue_88 (by decide) ?_
              exact tv_zret (v := 1) hx hb hr (by decide) (fun t ht hW => ⟨by rw [show tq 2 x y = 1 from by simp [tq, c_1, c_3, c_6]], ht⟩) (fun q h => nomatch h) dX1_isTrue_92 hlocks
          · skip
            by_cases k3 : sg = 3
            · subst k3
              refine lv_tableIn (off := 69) (tgt := 93) hx hb dX1_isTrue_24 (by decide) (by decide) (by decide) (by decide) ?_
              refine lv_iload_n hx hb dX1_isTrue_93 rfl (lv_at hl 1 rfl) ?_
              refine lv_iload_n hx hb dX1_isTrue_94 rfl (lv_at hl 2 rfl) ?_
              refine lv_icmp_lt (tgt := 102) hx hb dX1_isTrue_95 (by decide) (fun c_7 => ?_) (fun c_7 => ?_)
              · skip
                refine lv_iconst (v := 0) hx hb dX1_isTrue_102 (by decide) ?_
                exact tv_zret (v := 0) hx hb hr (by decide) (fun t ht hW => ⟨by rw [show tq 3 x y = 0 from by simp [tq, c_1, c_3, c_7]], ht⟩) (fun q h => nomatch h) dX1_isTrue_103 hlocks
              · skip
                refine lv_iconst (v := 1) hx hb dX1_isTrue_98 (by decide) ?_
                refine lv_goto (tgt := 103) hx hb dX1_isTrue_99 (by decide) ?_
                exact tv_zret (v := 1) hx hb hr (by decide) (fun t ht hW => ⟨by rw [show tq 3 x y = 1 from by simp [tq, c_1, c_3, c_7]], ht⟩) (fun q h => nomatch h) dX1_isTrue_103 hlocks
            · skip
              by_cases k4 : sg = 4
              · subst k4
                refine lv_tableIn (off := 80) (tgt := 104) hx hb dX1_isTrue_24 (by decide) (by decide) (by decide) (by decide) ?_
                refine lv_iload_n hx hb dX1_isTrue_104 rfl (lv_at hl 1 rfl) ?_
                refine lv_iload_n hx hb dX1_isTrue_105 rfl (lv_at hl 2 rfl) ?_
                refine lv_icmp_ne (tgt := 113) hx hb dX1_isTrue_106 (by decide) (fun c_8 => ?_) (fun c_8 => ?_)
                · skip
                  refine lv_iconst (v := 0) hx hb dX1_isTrue_113 (by decide) ?_
                  exact tv_zret (v := 0) hx hb hr (by decide) (fun t ht hW => ⟨by rw [show tq 4 x y = 0 from by simp [tq, c_1, c_3, c_8]], ht⟩) (fun q h => nomatch h) dX1_isTrue_114 hlocks
                · skip
                  refine lv_iconst (v := 1) hx hb dX1_isTrue_109 (by decide) ?_
                  refine lv_goto (tgt := 114) hx hb dX1_isTrue_110 (by decide) ?_
                  exact tv_zret (v := 1) hx hb hr (by decide) (fun t ht hW => ⟨by rw [show tq 4 x y = 1 from by simp [tq, c_1, c_3, c_8]], ht⟩) (fun q h => nomatch h) dX1_isTrue_114 hlocks
              · skip
                have z0 := lv_neT (a := 0) k0 rfl
                have z1 := lv_neT (a := 1) k1 rfl
                have z2 := lv_neT (a := 2) k2 rfl
                have z3 := lv_neT (a := 3) k3 rfl
                have z4 := lv_neT (a := 4) k4 rfl
                refine lv_tableOut (tgt := 115) hx hb dX1_isTrue_24 (by omega) (by decide) ?_
                refine lv_iload_n hx hb dX1_isTrue_115 rfl (lv_at hl 1 rfl) ?_
                refine lv_iload_n hx hb dX1_isTrue_116 rfl (lv_at hl 2 rfl) ?_
                refine lv_icmp_eq (tgt := 124) hx hb dX1_isTrue_117 (by decide) (fun c_9 => ?_) (fun c_9 => ?_)
                · skip
                  refine lv_iconst (v := 0) hx hb dX1_isTrue_124 (by decide) ?_
                  exact tv_zret (v := 0) hx hb hr (by decide) (fun t ht hW => ⟨by rw [show tq sg x y = 0 from by simp [tq, c_1, c_3, k0, k1, k2, k3, k4, c_9]], ht⟩) (fun q h => nomatch h) dX1_isTrue_125 hlocks
                · skip
                  refine lv_iconst (v := 1) hx hb dX1_isTrue_120 (by decide) ?_
                  refine lv_goto (tgt := 125) hx hb dX1_isTrue_121 (by decide) ?_
                  exact tv_zret (v := 1) hx hb hr (by decide) (fun t ht hW => ⟨by rw [show tq sg x y = 1 from by simp [tq, c_1, c_3, k0, k1, k2, k3, k4, c_9]], ht⟩) (fun q h => nomatch h) dX1_isTrue_125 hlocks
    · skip
      refine lv_iload_n hx hb dX1_isTrue_12 rfl (lv_at hl 0 rfl) ?_
      refine lv_iconst (v := 5) hx hb dX1_isTrue_13 (by decide) ?_
      refine lv_icmp_ne (tgt := 21) hx hb dX1_isTrue_14 (by decide) (fun c_10 => ?_) (fun c_10 => ?_)
      · skip
        refine lv_iconst (v := 0) hx hb dX1_isTrue_21 (by decide) ?_
        exact tv_zret (v := 0) hx hb hr (by decide) (fun t ht hW => ⟨by rw [show tq sg x y = 0 from by simp [tq, c_1, c_3, c_10]], ht⟩) (fun q h => nomatch h) dX1_isTrue_22 hlocks
      · skip
        refine lv_iconst (v := 1) hx hb dX1_isTrue_17 (by decide) ?_
        refine lv_goto (tgt := 22) hx hb dX1_isTrue_18 (by decide) ?_
        exact tv_zret (v := 1) hx hb hr (by decide) (fun t ht hW => ⟨by rw [show tq sg x y = 1 from by simp [tq, c_1, c_3, c_10]], ht⟩) (fun q h => nomatch h) dX1_isTrue_22 hlocks
set_option maxHeartbeats 4000000 in
set_option maxRecDepth 100000 in
theorem c_X1_isRow (l : Launch) (x : Int32) : Met l yX1_isRow wsX1_isRow ({ frames := 0, cells := 0, slots := 0, locals := 0 } : Room) (fun v _ => v = ([.int x] : List Value).toArray) (QcRead (tv_b (tv_in 8 x))) 0 0 (fun _ => False) := by
  refine Met.ofW (cc := cX1_isRow) (maxL := 1) (ret := (some .boolean)) (by decide) rfl ?_
  intro p e s m args below meth c s₁ B hml hv
  subst hv
  have hx := B.exec
  have hb := B.bytes
  have hr := B.returns
  have hts := atoms_spec (ws := wsX1_isRow) B.pre
  have hown : s.vm.findClass RX1 = some m.cls := findClass_of_methodNamed B.named
  have hlocks := B.notSynchronized
  have hl := lv_entry ([.int x]) (n := 1) (Nat.le_of_ble_eq_true rfl)
  rw [lg_entry_eq]
  generalize (lg_sl ([.int x]) ++ List.replicate (1 - (lg_sl ([.int x])).length) Slot.unset).toArray = ls at hl ⊢
  have hl : lv_has ls 1 [(0, .int x)] := hl
  refine lv_iload_n hx hb dX1_isRow_0 rfl (lv_at hl 0 rfl) ?_
  refine lv_if_lt (tgt := 14) hx hb dX1_isRow_1 (by decide) (fun c_1 => ?_) (fun c_1 => ?_)
  · have q : (tv_in 8 x) = false := by rw [tv_in, decide_eq_true c_1]; rfl
    refine lv_iconst (v := 0) hx hb dX1_isRow_14 (by decide) ?_
    exact tv_zret (v := 0) hx hb hr (by decide) (fun t ht hW => ⟨by rw [q]; rfl, ht⟩) (fun q h => nomatch h) dX1_isRow_15 hlocks
  · skip
    refine lv_iload_n hx hb dX1_isRow_4 rfl (lv_at hl 0 rfl) ?_
    refine lv_bipush (v := 8) hx hb dX1_isRow_5 (by decide) ?_
    refine lv_icmp_ge (tgt := 14) hx hb dX1_isRow_7 (by decide) (fun c_2 => ?_) (fun c_2 => ?_)
    · have q : (tv_in 8 x) = false := by rw [tv_in, decide_eq_false (show ¬ x < nI 8 from fun z => absurd c_2 (Int32.not_le.mpr z)), Bool.and_false]
      refine lv_iconst (v := 0) hx hb dX1_isRow_14 (by decide) ?_
      exact tv_zret (v := 0) hx hb hr (by decide) (fun t ht hW => ⟨by rw [q]; rfl, ht⟩) (fun q h => nomatch h) dX1_isRow_15 hlocks
    · have q : (tv_in 8 x) = true := by simp only [tv_in, Bool.and_eq_true, Bool.not_eq_true', decide_eq_false_iff_not, decide_eq_true_eq]; exact ⟨c_1, Int32.not_le.mp c_2⟩
      refine lv_iconst (v := 1) hx hb dX1_isRow_10 (by decide) ?_
      refine lv_goto (tgt := 15) hx hb dX1_isRow_11 (by decide) ?_
      exact tv_zret (v := 1) hx hb hr (by decide) (fun t ht hW => ⟨by rw [q]; rfl, ht⟩) (fun q h => nomatch h) dX1_isRow_15 hlocks
set_option maxHeartbeats 4000000 in
set_option maxRecDepth 100000 in
theorem c_X1_isPlace (l : Launch) (x : Int32) : Met l yX1_isPlace wsX1_isPlace ({ frames := 0, cells := 0, slots := 0, locals := 0 } : Room) (fun v _ => v = ([.int x] : List Value).toArray) (QcRead (tv_b (tv_in 12 x))) 0 0 (fun _ => False) := by
  refine Met.ofW (cc := cX1_isPlace) (maxL := 1) (ret := (some .boolean)) (by decide) rfl ?_
  intro p e s m args below meth c s₁ B hml hv
  subst hv
  have hx := B.exec
  have hb := B.bytes
  have hr := B.returns
  have hts := atoms_spec (ws := wsX1_isPlace) B.pre
  have hown : s.vm.findClass RX1 = some m.cls := findClass_of_methodNamed B.named
  have hlocks := B.notSynchronized
  have hl := lv_entry ([.int x]) (n := 1) (Nat.le_of_ble_eq_true rfl)
  rw [lg_entry_eq]
  generalize (lg_sl ([.int x]) ++ List.replicate (1 - (lg_sl ([.int x])).length) Slot.unset).toArray = ls at hl ⊢
  have hl : lv_has ls 1 [(0, .int x)] := hl
  refine lv_iload_n hx hb dX1_isPlace_0 rfl (lv_at hl 0 rfl) ?_
  refine lv_if_lt (tgt := 14) hx hb dX1_isPlace_1 (by decide) (fun c_1 => ?_) (fun c_1 => ?_)
  · have q : (tv_in 12 x) = false := by rw [tv_in, decide_eq_true c_1]; rfl
    refine lv_iconst (v := 0) hx hb dX1_isPlace_14 (by decide) ?_
    exact tv_zret (v := 0) hx hb hr (by decide) (fun t ht hW => ⟨by rw [q]; rfl, ht⟩) (fun q h => nomatch h) dX1_isPlace_15 hlocks
  · skip
    refine lv_iload_n hx hb dX1_isPlace_4 rfl (lv_at hl 0 rfl) ?_
    refine lv_bipush (v := 12) hx hb dX1_isPlace_5 (by decide) ?_
    refine lv_icmp_ge (tgt := 14) hx hb dX1_isPlace_7 (by decide) (fun c_2 => ?_) (fun c_2 => ?_)
    · have q : (tv_in 12 x) = false := by rw [tv_in, decide_eq_false (show ¬ x < nI 12 from fun z => absurd c_2 (Int32.not_le.mpr z)), Bool.and_false]
      refine lv_iconst (v := 0) hx hb dX1_isPlace_14 (by decide) ?_
      exact tv_zret (v := 0) hx hb hr (by decide) (fun t ht hW => ⟨by rw [q]; rfl, ht⟩) (fun q h => nomatch h) dX1_isPlace_15 hlocks
    · have q : (tv_in 12 x) = true := by simp only [tv_in, Bool.and_eq_true, Bool.not_eq_true', decide_eq_false_iff_not, decide_eq_true_eq]; exact ⟨c_1, Int32.not_le.mp c_2⟩
      refine lv_iconst (v := 1) hx hb dX1_isPlace_10 (by decide) ?_
      refine lv_goto (tgt := 15) hx hb dX1_isPlace_11 (by decide) ?_
      exact tv_zret (v := 1) hx hb hr (by decide) (fun t ht hW => ⟨by rw [q]; rfl, ht⟩) (fun q h => nomatch h) dX1_isPlace_15 hlocks
set_option maxHeartbeats 4000000 in
set_option maxRecDepth 100000 in
theorem c_X1_isGate (l : Launch) (x : Int32) : Met l yX1_isGate wsX1_isGate ({ frames := 0, cells := 0, slots := 0, locals := 0 } : Room) (fun v _ => v = ([.int x] : List Value).toArray) (QcRead (tv_b (tv_in 4 x))) 0 0 (fun _ => False) := by
  refine Met.ofW (cc := cX1_isGate) (maxL := 1) (ret := (some .boolean)) (by decide) rfl ?_
  intro p e s m args below meth c s₁ B hml hv
  subst hv
  have hx := B.exec
  have hb := B.bytes
  have hr := B.returns
  have hts := atoms_spec (ws := wsX1_isGate) B.pre
  have hown : s.vm.findClass RX1 = some m.cls := findClass_of_methodNamed B.named
  have hlocks := B.notSynchronized
  have hl := lv_entry ([.int x]) (n := 1) (Nat.le_of_ble_eq_true rfl)
  rw [lg_entry_eq]
  generalize (lg_sl ([.int x]) ++ List.replicate (1 - (lg_sl ([.int x])).length) Slot.unset).toArray = ls at hl ⊢
  have hl : lv_has ls 1 [(0, .int x)] := hl
  refine lv_iload_n hx hb dX1_isGate_0 rfl (lv_at hl 0 rfl) ?_
  refine lv_if_lt (tgt := 13) hx hb dX1_isGate_1 (by decide) (fun c_1 => ?_) (fun c_1 => ?_)
  · have q : (tv_in 4 x) = false := by rw [tv_in, decide_eq_true c_1]; rfl
    refine lv_iconst (v := 0) hx hb dX1_isGate_13 (by decide) ?_
    exact tv_zret (v := 0) hx hb hr (by decide) (fun t ht hW => ⟨by rw [q]; rfl, ht⟩) (fun q h => nomatch h) dX1_isGate_14 hlocks
  · skip
    refine lv_iload_n hx hb dX1_isGate_4 rfl (lv_at hl 0 rfl) ?_
    refine lv_iconst (v := 4) hx hb dX1_isGate_5 (by decide) ?_
    refine lv_icmp_ge (tgt := 13) hx hb dX1_isGate_6 (by decide) (fun c_2 => ?_) (fun c_2 => ?_)
    · have q : (tv_in 4 x) = false := by rw [tv_in, decide_eq_false (show ¬ x < nI 4 from fun z => absurd c_2 (Int32.not_le.mpr z)), Bool.and_false]
      refine lv_iconst (v := 0) hx hb dX1_isGate_13 (by decide) ?_
      exact tv_zret (v := 0) hx hb hr (by decide) (fun t ht hW => ⟨by rw [q]; rfl, ht⟩) (fun q h => nomatch h) dX1_isGate_14 hlocks
    · have q : (tv_in 4 x) = true := by simp only [tv_in, Bool.and_eq_true, Bool.not_eq_true', decide_eq_false_iff_not, decide_eq_true_eq]; exact ⟨c_1, Int32.not_le.mp c_2⟩
      refine lv_iconst (v := 1) hx hb dX1_isGate_9 (by decide) ?_
      refine lv_goto (tgt := 14) hx hb dX1_isGate_10 (by decide) ?_
      exact tv_zret (v := 1) hx hb hr (by decide) (fun t ht hW => ⟨by rw [q]; rfl, ht⟩) (fun q h => nomatch h) dX1_isGate_14 hlocks
set_option maxHeartbeats 4000000 in
set_option maxRecDepth 100000 in
theorem c_X1_isSign (l : Launch) (x : Int32) : Met l yX1_isSign wsX1_isSign ({ frames := 0, cells := 0, slots := 0, locals := 0 } : Room) (fun v _ => v = ([.int x] : List Value).toArray) (QcRead (tv_b (tv_sg x))) 0 0 (fun _ => False) := by
  refine Met.ofW (cc := cX1_isSign) (maxL := 1) (ret := (some .boolean)) (by decide) rfl ?_
  intro p e s m args below meth c s₁ B hml hv
  subst hv
  have hx := B.exec
  have hb := B.bytes
  have hr := B.returns
  have hts := atoms_spec (ws := wsX1_isSign) B.pre
  have hown : s.vm.findClass RX1 = some m.cls := findClass_of_methodNamed B.named
  have hlocks := B.notSynchronized
  have hl := lv_entry ([.int x]) (n := 1) (Nat.le_of_ble_eq_true rfl)
  rw [lg_entry_eq]
  generalize (lg_sl ([.int x]) ++ List.replicate (1 - (lg_sl ([.int x])).length) Slot.unset).toArray = ls at hl ⊢
  have hl : lv_has ls 1 [(0, .int x)] := hl
  refine lv_iload_n hx hb dX1_isSign_0 rfl (lv_at hl 0 rfl) ?_
  refine lv_if_lt (tgt := 13) hx hb dX1_isSign_1 (by decide) (fun c_1 => ?_) (fun c_1 => ?_)
  · have q : (tv_sg x) = false := by rw [tv_sg, decide_eq_true c_1]; rfl
    refine lv_iconst (v := 0) hx hb dX1_isSign_13 (by decide) ?_
    exact tv_zret (v := 0) hx hb hr (by decide) (fun t ht hW => ⟨by rw [q]; rfl, ht⟩) (fun q h => nomatch h) dX1_isSign_14 hlocks
  · skip
    refine lv_iload_n hx hb dX1_isSign_4 rfl (lv_at hl 0 rfl) ?_
    refine lv_iconst (v := 5) hx hb dX1_isSign_5 (by decide) ?_
    refine lv_icmp_gt (tgt := 13) hx hb dX1_isSign_6 (by decide) (fun c_2 => ?_) (fun c_2 => ?_)
    · have q : (tv_sg x) = false := by rw [tv_sg, decide_eq_false (show ¬ x ≤ 5 from Int32.not_le.mpr c_2), Bool.and_false]
      refine lv_iconst (v := 0) hx hb dX1_isSign_13 (by decide) ?_
      exact tv_zret (v := 0) hx hb hr (by decide) (fun t ht hW => ⟨by rw [q]; rfl, ht⟩) (fun q h => nomatch h) dX1_isSign_14 hlocks
    · have q : (tv_sg x) = true := by simp only [tv_sg, Bool.and_eq_true, Bool.not_eq_true', decide_eq_false_iff_not, decide_eq_true_eq]; exact ⟨c_1, Int32.not_lt.mp c_2⟩
      refine lv_iconst (v := 1) hx hb dX1_isSign_9 (by decide) ?_
      refine lv_goto (tgt := 14) hx hb dX1_isSign_10 (by decide) ?_
      exact tv_zret (v := 1) hx hb hr (by decide) (fun t ht hW => ⟨by rw [q]; rfl, ht⟩) (fun q h => nomatch h) dX1_isSign_14 hlocks
set_option maxHeartbeats 4000000 in
set_option maxRecDepth 100000 in
theorem c_X1_isNumber (l : Launch) (x : Int32) : Met l yX1_isNumber wsX1_isNumber ({ frames := 0, cells := 0, slots := 0, locals := 0 } : Room) (fun v _ => v = ([.int x] : List Value).toArray) (QcRead (tv_b (tv_num x))) 0 0 (fun _ => False) := by
  refine Met.ofW (cc := cX1_isNumber) (maxL := 1) (ret := (some .boolean)) (by decide) rfl ?_
  intro p e s m args below meth c s₁ B hml hv
  subst hv
  have hx := B.exec
  have hb := B.bytes
  have hr := B.returns
  have hts := atoms_spec (ws := wsX1_isNumber) B.pre
  have hown : s.vm.findClass RX1 = some m.cls := findClass_of_methodNamed B.named
  have hlocks := B.notSynchronized
  have hl := lv_entry ([.int x]) (n := 1) (Nat.le_of_ble_eq_true rfl)
  rw [lg_entry_eq]
  generalize (lg_sl ([.int x]) ++ List.replicate (1 - (lg_sl ([.int x])).length) Slot.unset).toArray = ls at hl ⊢
  have hl : lv_has ls 1 [(0, .int x)] := hl
  refine lv_iload_n hx hb dX1_isNumber_0 rfl (lv_at hl 0 rfl) ?_
  refine lv_ldc (v := -2147483648) hx hb hown (hts (.constant RX1 23 (-2147483648)) (by decide +kernel)) dX1_isNumber_1 ?_
  refine lv_icmp_eq (tgt := 18) hx hb dX1_isNumber_3 (by decide) (fun c_1 => ?_) (fun c_1 => ?_)
  · have q : tv_num x = true := by simp only [tv_num, Bool.or_eq_true, Bool.and_eq_true, Bool.not_eq_true', decide_eq_false_iff_not, decide_eq_true_eq]; exact Or.inl c_1
    refine lv_iconst (v := 1) hx hb dX1_isNumber_18 (by decide) ?_
    refine lv_goto (tgt := 23) hx hb dX1_isNumber_19 (by decide) ?_
    exact tv_zret (v := 1) hx hb hr (by decide) (fun t ht hW => ⟨by rw [q]; rfl, ht⟩) (fun q h => nomatch h) dX1_isNumber_23 hlocks
  · skip
    refine lv_iload_n hx hb dX1_isNumber_6 rfl (lv_at hl 0 rfl) ?_
    refine lv_ldc (v := -8000000) hx hb hown (hts (.constant RX1 24 (-8000000)) (by decide +kernel)) dX1_isNumber_7 ?_
    refine lv_icmp_lt (tgt := 22) hx hb dX1_isNumber_9 (by decide) (fun c_2 => ?_) (fun c_2 => ?_)
    · have q : tv_num x = false := by rw [tv_num, decide_eq_false c_1, decide_eq_true c_2]; rfl
      refine lv_iconst (v := 0) hx hb dX1_isNumber_22 (by decide) ?_
      exact tv_zret (v := 0) hx hb hr (by decide) (fun t ht hW => ⟨by rw [q]; rfl, ht⟩) (fun q h => nomatch h) dX1_isNumber_23 hlocks
    · skip
      refine lv_iload_n hx hb dX1_isNumber_12 rfl (lv_at hl 0 rfl) ?_
      refine lv_ldc (v := 8000000) hx hb hown (hts (.constant RX1 25 (8000000)) (by decide +kernel)) dX1_isNumber_13 ?_
      refine lv_icmp_gt (tgt := 22) hx hb dX1_isNumber_15 (by decide) (fun c_3 => ?_) (fun c_3 => ?_)
      · have q : tv_num x = false := by rw [tv_num, decide_eq_false c_1, decide_eq_false (show ¬ x ≤ 8000000 from Int32.not_le.mpr c_3), Bool.and_false]; rfl
        refine lv_iconst (v := 0) hx hb dX1_isNumber_22 (by decide) ?_
        exact tv_zret (v := 0) hx hb hr (by decide) (fun t ht hW => ⟨by rw [q]; rfl, ht⟩) (fun q h => nomatch h) dX1_isNumber_23 hlocks
      · have q : tv_num x = true := by simp only [tv_num, Bool.or_eq_true, Bool.and_eq_true, Bool.not_eq_true', decide_eq_false_iff_not, decide_eq_true_eq]; exact Or.inr ⟨c_2, Int32.not_lt.mp c_3⟩
        refine lv_iconst (v := 1) hx hb dX1_isNumber_18 (by decide) ?_
        refine lv_goto (tgt := 23) hx hb dX1_isNumber_19 (by decide) ?_
        exact tv_zret (v := 1) hx hb hr (by decide) (fun t ht hW => ⟨by rw [q]; rfl, ht⟩) (fun q h => nomatch h) dX1_isNumber_23 hlocks
set_option maxHeartbeats 4000000 in
set_option maxRecDepth 100000 in
theorem c_X1_areOneSort (l : Launch) (x y : Int32) : Met l yX1_areOneSort wsX1_areOneSort ({ frames := 0, cells := 0, slots := 0, locals := 0 } : Room) (fun v _ => v = ([.int x, .int y] : List Value).toArray) (QcRead (tv_b (tv_os x y))) 0 0 (fun _ => False) := by
  refine Met.ofW (cc := cX1_areOneSort) (maxL := 2) (ret := (some .boolean)) (by decide) rfl ?_
  intro p e s m args below meth c s₁ B hml hv
  subst hv
  have hx := B.exec
  have hb := B.bytes
  have hr := B.returns
  have hts := atoms_spec (ws := wsX1_areOneSort) B.pre
  have hown : s.vm.findClass RX1 = some m.cls := findClass_of_methodNamed B.named
  have hlocks := B.notSynchronized
  have hl := lv_entry ([.int x, .int y]) (n := 2) (Nat.le_of_ble_eq_true rfl)
  rw [lg_entry_eq]
  generalize (lg_sl ([.int x, .int y]) ++ List.replicate (2 - (lg_sl ([.int x, .int y])).length) Slot.unset).toArray = ls at hl ⊢
  have hl : lv_has ls 2 [(0, .int x), (1, .int y)] := hl
  refine lv_iload_n hx hb dX1_areOneSort_0 rfl (lv_at hl 0 rfl) ?_
  refine lv_iconst (v := 4) hx hb dX1_areOneSort_1 (by decide) ?_
  refine lv_idiv hx hb dX1_areOneSort_2 (by decide) ?_
  refine lv_iload_n hx hb dX1_areOneSort_3 rfl (lv_at hl 1 rfl) ?_
  refine lv_iconst (v := 4) hx hb dX1_areOneSort_4 (by decide) ?_
  refine lv_idiv hx hb dX1_areOneSort_5 (by decide) ?_
  refine lv_icmp_ne (tgt := 13) hx hb dX1_areOneSort_6 (by decide) (fun c_1 => ?_) (fun c_1 => ?_)
  · have q : tv_os x y = false := decide_eq_false c_1
    refine lv_iconst (v := 0) hx hb dX1_areOneSort_13 (by decide) ?_
    exact tv_zret (v := 0) hx hb hr (by decide) (fun t ht hW => ⟨by rw [q]; rfl, ht⟩) (fun q h => nomatch h) dX1_areOneSort_14 hlocks
  · have q : tv_os x y = true := decide_eq_true c_1
    refine lv_iconst (v := 1) hx hb dX1_areOneSort_9 (by decide) ?_
    refine lv_goto (tgt := 14) hx hb dX1_areOneSort_10 (by decide) ?_
    exact tv_zret (v := 1) hx hb hr (by decide) (fun t ht hW => ⟨by rw [q]; rfl, ht⟩) (fun q h => nomatch h) dX1_areOneSort_14 hlocks
theorem iX1_thrown : ∀ w ∈ wsX10, w ∈ wsX1_thrown := by decide +kernel
set_option maxHeartbeats 4000000 in
set_option maxRecDepth 100000 in
theorem c_X1_thrown (l : Launch) (D : va_G) (cI cZ cL : ClassId) (h a1 a2 a3 a4 : Nat) (rd lv op nt : Nat → Int32) (th : Int32)  : Met l yX1_thrown wsX1_thrown ({ frames := 0, cells := 0, slots := 0, locals := 0 } : Room) (tv_Pw D cI cZ cL (tv_mw cI cZ h a1 a2 a3 a4 th (rd, lv, op, nt)) [.ref h]) (QcRead th) 0 0 (fun _ => False) := by
  refine Met.ofW (cc := cX1_thrown) (maxL := 1) (ret := (some .int)) (by decide) rfl ?_
  intro p e s m args below meth c s₁ B hml hv
  obtain ⟨rfl, hP, hK⟩ := hv
  have hx := B.exec
  have hb := B.bytes
  have hr := B.returns
  have hts := atoms_spec (ws := wsX1_thrown) B.pre
  have hown : s.vm.findClass RX1 = some m.cls := findClass_of_methodNamed B.named
  have hlocks := B.notSynchronized
  have hl := lv_entry ([.ref h]) (n := 1) (Nat.le_of_ble_eq_true rfl)
  rw [lg_entry_eq]
  generalize (lg_sl ([.ref h]) ++ List.replicate (1 - (lg_sl ([.ref h])).length) Slot.unset).toArray = ls at hl ⊢
  have hl : lv_has ls 1 [(0, .ref h)] := hl
  refine lv_aload_n hx hb dX1_thrown_0 rfl (lv_at hl 0 rfl) ?_
  refine va_get (D := D) (ci := 1) (v := .int th) (C := RX1) (T := TX1) (N := 5) hx hb hts iX1_thrown hown hK hP 0 rfl rfl 4 (by decide) (hts (.fieldLink RX1 26 "TideHouseModel" "thrown" "I") (by decide +kernel)) (fun _ h9 => h9) rfl dX1_thrown_1 ?_
  exact W.iret (v := th) hx hb hr (fun t ht hW => ⟨rfl, ht⟩) (fun q h => nomatch h) dX1_thrown_4
theorem iX1_at : ∀ w ∈ wsX10, w ∈ wsX1_at := by decide +kernel
set_option maxHeartbeats 4000000 in
set_option maxRecDepth 100000 in
theorem c_X1_at (l : Launch) (D : va_G) (cI cZ cL : ClassId) (h a1 a2 a3 a4 : Nat) (rd lv op nt : Nat → Int32) (th : Int32) (r k : Nat) (hr8 : r < 8) (hk12 : k < 12) : Met l yX1_at wsX1_at ({ frames := 0, cells := 0, slots := 0, locals := 0 } : Room) (tv_Pw D cI cZ cL (tv_mw cI cZ h a1 a2 a3 a4 th (rd, lv, op, nt)) [.ref h, .int (nI r), .int (nI k)]) (QcRead (rd (12 * r + k))) 0 0 (fun _ => False) := by
  refine Met.ofW (cc := cX1_at) (maxL := 3) (ret := (some .int)) (by decide) rfl ?_
  intro p e s m args below meth c s₁ B hml hv
  obtain ⟨rfl, hP, hK⟩ := hv
  have hx := B.exec
  have hb := B.bytes
  have hr := B.returns
  have hts := atoms_spec (ws := wsX1_at) B.pre
  have hown : s.vm.findClass RX1 = some m.cls := findClass_of_methodNamed B.named
  have hlocks := B.notSynchronized
  have hl := lv_entry ([.ref h, .int (nI r), .int (nI k)]) (n := 3) (Nat.le_of_ble_eq_true rfl)
  rw [lg_entry_eq]
  generalize (lg_sl ([.ref h, .int (nI r), .int (nI k)]) ++ List.replicate (3 - (lg_sl ([.ref h, .int (nI r), .int (nI k)])).length) Slot.unset).toArray = ls at hl ⊢
  have hl : lv_has ls 3 [(0, .ref h), (1, .int (nI r)), (2, .int (nI k))] := hl
  refine lv_aload_n hx hb dX1_at_0 rfl (lv_at hl 0 rfl) ?_
  refine va_get (D := D) (ci := 1) (v := .ref a1) (C := RX1) (T := TX1) (N := 5) hx hb hts iX1_at hown hK hP 0 rfl rfl 0 (by decide) (hts (.fieldLink RX1 7 "TideHouseModel" "readings" "[I") (by decide +kernel)) (fun _ h9 => h9) rfl dX1_at_1 ?_
  refine lv_bipush (v := 12) hx hb dX1_at_4 (by decide) ?_
  refine lv_iload_n hx hb dX1_at_6 rfl (lv_at hl 1 rfl) ?_
  refine lv_imul hx hb dX1_at_7 ?_
  refine lv_iload_n hx hb dX1_at_8 rfl (lv_at hl 2 rfl) ?_
  refine lv_iadd hx hb dX1_at_9 ?_
  refine tv_top (nI (12 * r + k)) (tv_ix2 r k) ?_
  refine tv_iald (D := D) (cA := cI) (n := 96) (f := rd) (k := (12 * r + k)) hx hb hK hP 1 0 rfl rfl (by omega) (by omega) dX1_at_10 ?_
  exact W.iret (v := rd (12 * r + k)) hx hb hr (fun t ht hW => ⟨rfl, ht⟩) (fun q h => nomatch h) dX1_at_11
theorem iX1_levelFor : ∀ w ∈ wsX10, w ∈ wsX1_levelFor := by decide +kernel
set_option maxHeartbeats 4000000 in
set_option maxRecDepth 100000 in
theorem c_X1_levelFor (l : Launch) (D : va_G) (cI cZ cL : ClassId) (h a1 a2 a3 a4 : Nat) (rd lv op nt : Nat → Int32) (th : Int32) (g r : Nat) (hg4 : g < 4) (hr8 : r < 8) : Met l yX1_levelFor wsX1_levelFor ({ frames := 0, cells := 0, slots := 0, locals := 0 } : Room) (tv_Pw D cI cZ cL (tv_mw cI cZ h a1 a2 a3 a4 th (rd, lv, op, nt)) [.ref h, .int (nI g), .int (nI r)]) (QcRead (lvl lv g r)) 0 0 (fun _ => False) := by
  refine Met.ofW (cc := cX1_levelFor) (maxL := 3) (ret := (some .int)) (by decide) rfl ?_
  intro p e s m args below meth c s₁ B hml hv
  obtain ⟨rfl, hP, hK⟩ := hv
  have hx := B.exec
  have hb := B.bytes
  have hr := B.returns
  have hts := atoms_spec (ws := wsX1_levelFor) B.pre
  have hown : s.vm.findClass RX1 = some m.cls := findClass_of_methodNamed B.named
  have hlocks := B.notSynchronized
  have hl := lv_entry ([.ref h, .int (nI g), .int (nI r)]) (n := 3) (Nat.le_of_ble_eq_true rfl)
  rw [lg_entry_eq]
  generalize (lg_sl ([.ref h, .int (nI g), .int (nI r)]) ++ List.replicate (3 - (lg_sl ([.ref h, .int (nI g), .int (nI r)])).length) Slot.unset).toArray = ls at hl ⊢
  have hl : lv_has ls 3 [(0, .ref h), (1, .int (nI g)), (2, .int (nI r))] := hl
  refine lv_aload_n hx hb dX1_levelFor_0 rfl (lv_at hl 0 rfl) ?_
  refine va_get (D := D) (ci := 1) (v := .ref a2) (C := RX1) (T := TX1) (N := 5) hx hb hts iX1_levelFor hown hK hP 0 rfl rfl 1 (by decide) (hts (.fieldLink RX1 13 "TideHouseModel" "levels" "[I") (by decide +kernel)) (fun _ h9 => h9) rfl dX1_levelFor_1 ?_
  refine lv_iconst (v := 2) hx hb dX1_levelFor_4 (by decide) ?_
  refine lv_iload_n hx hb dX1_levelFor_5 rfl (lv_at hl 1 rfl) ?_
  refine lv_imul hx hb dX1_levelFor_6 ?_
  refine lv_iload_n hx hb dX1_levelFor_7 rfl (lv_at hl 2 rfl) ?_
  refine lv_iconst (v := 4) hx hb dX1_levelFor_8 (by decide) ?_
  refine lv_idiv hx hb dX1_levelFor_9 (by decide) ?_
  refine tv_top (nI (r / 4)) (tv_div4 hr8) ?_
  refine lv_iadd hx hb dX1_levelFor_10 ?_
  refine tv_top (nI (2 * g + (r / 4))) (tv_lx2 g (r / 4)) ?_
  refine tv_iald (D := D) (cA := cI) (n := 8) (f := lv) (k := (2 * g + (r / 4))) hx hb hK hP 2 0 rfl rfl (by omega) (by omega) dX1_levelFor_11 ?_
  exact W.iret (v := lv (2 * g + (r / 4))) hx hb hr (fun t ht hW => ⟨rfl, ht⟩) (fun q h => nomatch h) dX1_levelFor_12
theorem iX1_may : ∀ w ∈ wsX10, w ∈ wsX1_may := by decide +kernel
set_option maxHeartbeats 4000000 in
set_option maxRecDepth 100000 in
theorem c_X1_may (l : Launch) (D : va_G) (cI cZ cL : ClassId) (h a1 a2 a3 a4 : Nat) (th : Int32) (sz : Nat) (X Y : Bool) : Met l yX1_may wsX1_may ({ frames := 0, cells := 0, slots := 0, locals := 0 } : Room) (tv_Pd D cI cZ cL [(h, .inr (1, [.ref a1, .ref a2, .ref a3, .ref a4, .int th]))] sz [.ref h, .int (tv_b X), .int (tv_b Y)]) (tv_Qw D cI cZ cL [(h, .inr (1, [.ref a1, .ref a2, .ref a3, .ref a4, .int th]))] sz (tv_b (X && Y)) [(h, .inr (1, [.ref a1, .ref a2, .ref a3, .ref a4, .int (tv_cd X Y)]))]) 0 0 (va_A [(h, .inr (1, [.ref a1, .ref a2, .ref a3, .ref a4, .int th]))] sz) := by
  refine Met.ofW (cc := cX1_may) (maxL := 3) (ret := (some .boolean)) (by decide) rfl ?_
  intro p e s m args below meth c s₁ B hml hv
  obtain ⟨rfl, hsz, hP, hK, hD0⟩ := hv
  subst hsz
  have hx := B.exec
  have hb := B.bytes
  have hr := B.returns
  have hts := atoms_spec (ws := wsX1_may) B.pre
  have hown : s.vm.findClass RX1 = some m.cls := findClass_of_methodNamed B.named
  have hlocks := B.notSynchronized
  have hD := hD0.self (sz := s.heap.size)
  obtain ⟨A, hAe⟩ : ∃ A, A = va_A [(h, .inr (1, [.ref a1, .ref a2, .ref a3, .ref a4, .int th]))] s.heap.size := ⟨_, rfl⟩
  rw [← hAe] at hD
  have hA : ∀ q : Nat, s.heap.size ≤ q → A q := fun q h => by rw [hAe]; exact Or.inr h
  have hS : va_S A s.heap s.heap [] := va_S.rf
  clear hD0
  have hl := lv_entry ([.ref h, .int (tv_b X), .int (tv_b Y)]) (n := 3) (Nat.le_of_ble_eq_true rfl)
  rw [lg_entry_eq]
  generalize (lg_sl ([.ref h, .int (tv_b X), .int (tv_b Y)]) ++ List.replicate (3 - (lg_sl ([.ref h, .int (tv_b X), .int (tv_b Y)])).length) Slot.unset).toArray = ls at hl ⊢
  have hl : lv_has ls 3 [(0, .ref h), (1, .int (tv_b X)), (2, .int (tv_b Y))] := hl
  cases X with
  | false =>
    have hl : lv_has ls 3 [(0, .ref h), (1, .int 0), (2, .int (tv_b Y))] := hl
    refine lv_aload_n hx hb dX1_may_0 rfl (lv_at hl 0 rfl) ?_
    refine lv_iload_n hx hb dX1_may_1 rfl (lv_at hl 1 rfl) ?_
    refine lv_if_eq (tgt := 17) hx hb dX1_may_2 (by decide) (fun c_1 => ?_) (fun c_1 => ?_)
    · have hQ : ∀ Y : Bool, tv_b (false && Y) = tv_b false ∧ tv_cd false Y = 1 := fun Y => by cases Y <;> exact ⟨rfl, rfl⟩
      rw [(hQ Y).1, (hQ Y).2]
      refine lv_iconst (v := 1) hx hb dX1_may_17 (by decide) ?_
      refine va_put (D := D) (ci := 1) (v := .int 1) (ty := .int) (C := RX1) (T := TX1) (N := 5) hx hb hts iX1_may tyX1 tyX1_ok nmX1 hown hK hP hD hS 0 rfl rfl 4 (by decide) (hts (.fieldLink RX1 26 "TideHouseModel" "thrown" "I") (by decide +kernel)) (fun _ h9 => h9) rfl (by decide +kernel) rfl rfl (Nat.le_of_ble_eq_true rfl) dX1_may_18 (fun H locs hP hD hS => ?_)
      have hP : va_P D vwCl [(h, .inr (1, [.ref a1, .ref a2, .ref a3, .ref a4, .int 1]))] H := hP
      have hD : va_D A [(h, .inr (1, [.ref a1, .ref a2, .ref a3, .ref a4, .int 1]))] := hD
      refine lv_aload_n hx hb dX1_may_21 rfl (lv_at hl 0 rfl) ?_
      refine va_get (D := D) (ci := 1) (v := .int 1) (C := RX1) (T := TX1) (N := 5) hx hb hts iX1_may hown hK hP 0 rfl rfl 4 (by decide) (hts (.fieldLink RX1 26 "TideHouseModel" "thrown" "I") (by decide +kernel)) (fun _ h9 => h9) rfl dX1_may_22 ?_
      refine lv_if_ne (tgt := 32) hx hb dX1_may_25 (by decide) (fun c_2 => ?_) (fun c_2 => ?_)
      · skip
        refine lv_iconst (v := 0) hx hb dX1_may_32 (by decide) ?_
        refine tv_top (tv_b false) rfl ?_
        exact tv_zretW (tv_b01 _) hAe hx hb hr hP hK hD hS dX1_may_33 hlocks
      · exact absurd c_2 (by decide)
    · exact absurd rfl c_1
  | true =>
    cases Y with
    | false =>
      have hl : lv_has ls 3 [(0, .ref h), (1, .int 1), (2, .int 0)] := hl
      refine lv_aload_n hx hb dX1_may_0 rfl (lv_at hl 0 rfl) ?_
      refine lv_iload_n hx hb dX1_may_1 rfl (lv_at hl 1 rfl) ?_
      refine lv_if_eq (tgt := 17) hx hb dX1_may_2 (by decide) (fun c_3 => ?_) (fun c_3 => ?_)
      · exact absurd c_3 (by decide)
      · skip
        refine lv_iload_n hx hb dX1_may_5 rfl (lv_at hl 2 rfl) ?_
        refine lv_if_eq (tgt := 13) hx hb dX1_may_6 (by decide) (fun c_4 => ?_) (fun c_4 => ?_)
        · skip
          refine lv_iconst (v := 2) hx hb dX1_may_13 (by decide) ?_
          refine lv_goto (tgt := 18) hx hb dX1_may_14 (by decide) ?_
          refine va_put (D := D) (ci := 1) (v := .int 2) (ty := .int) (C := RX1) (T := TX1) (N := 5) hx hb hts iX1_may tyX1 tyX1_ok nmX1 hown hK hP hD hS 0 rfl rfl 4 (by decide) (hts (.fieldLink RX1 26 "TideHouseModel" "thrown" "I") (by decide +kernel)) (fun _ h9 => h9) rfl (by decide +kernel) rfl rfl (Nat.le_of_ble_eq_true rfl) dX1_may_18 (fun H locs hP hD hS => ?_)
          have hP : va_P D vwCl [(h, .inr (1, [.ref a1, .ref a2, .ref a3, .ref a4, .int 2]))] H := hP
          have hD : va_D A [(h, .inr (1, [.ref a1, .ref a2, .ref a3, .ref a4, .int 2]))] := hD
          refine lv_aload_n hx hb dX1_may_21 rfl (lv_at hl 0 rfl) ?_
          refine va_get (D := D) (ci := 1) (v := .int 2) (C := RX1) (T := TX1) (N := 5) hx hb hts iX1_may hown hK hP 0 rfl rfl 4 (by decide) (hts (.fieldLink RX1 26 "TideHouseModel" "thrown" "I") (by decide +kernel)) (fun _ h9 => h9) rfl dX1_may_22 ?_
          refine lv_if_ne (tgt := 32) hx hb dX1_may_25 (by decide) (fun c_5 => ?_) (fun c_5 => ?_)
          · skip
            refine lv_iconst (v := 0) hx hb dX1_may_32 (by decide) ?_
            refine tv_top (tv_b false) rfl ?_
            exact tv_zretW (tv_b01 _) hAe hx hb hr hP hK hD hS dX1_may_33 hlocks
          · exact absurd c_5 (by decide)
        · exact absurd rfl c_4
    | true =>
      have hl : lv_has ls 3 [(0, .ref h), (1, .int 1), (2, .int 1)] := hl
      refine lv_aload_n hx hb dX1_may_0 rfl (lv_at hl 0 rfl) ?_
      refine lv_iload_n hx hb dX1_may_1 rfl (lv_at hl 1 rfl) ?_
      refine lv_if_eq (tgt := 17) hx hb dX1_may_2 (by decide) (fun c_6 => ?_) (fun c_6 => ?_)
      · exact absurd c_6 (by decide)
      · skip
        refine lv_iload_n hx hb dX1_may_5 rfl (lv_at hl 2 rfl) ?_
        refine lv_if_eq (tgt := 13) hx hb dX1_may_6 (by decide) (fun c_7 => ?_) (fun c_7 => ?_)
        · exact absurd c_7 (by decide)
        · skip
          refine lv_iconst (v := 0) hx hb dX1_may_9 (by decide) ?_
          refine lv_goto (tgt := 18) hx hb dX1_may_10 (by decide) ?_
          refine va_put (D := D) (ci := 1) (v := .int 0) (ty := .int) (C := RX1) (T := TX1) (N := 5) hx hb hts iX1_may tyX1 tyX1_ok nmX1 hown hK hP hD hS 0 rfl rfl 4 (by decide) (hts (.fieldLink RX1 26 "TideHouseModel" "thrown" "I") (by decide +kernel)) (fun _ h9 => h9) rfl (by decide +kernel) rfl rfl (Nat.le_of_ble_eq_true rfl) dX1_may_18 (fun H locs hP hD hS => ?_)
          have hP : va_P D vwCl [(h, .inr (1, [.ref a1, .ref a2, .ref a3, .ref a4, .int 0]))] H := hP
          have hD : va_D A [(h, .inr (1, [.ref a1, .ref a2, .ref a3, .ref a4, .int 0]))] := hD
          refine lv_aload_n hx hb dX1_may_21 rfl (lv_at hl 0 rfl) ?_
          refine va_get (D := D) (ci := 1) (v := .int 0) (C := RX1) (T := TX1) (N := 5) hx hb hts iX1_may hown hK hP 0 rfl rfl 4 (by decide) (hts (.fieldLink RX1 26 "TideHouseModel" "thrown" "I") (by decide +kernel)) (fun _ h9 => h9) rfl dX1_may_22 ?_
          refine lv_if_ne (tgt := 32) hx hb dX1_may_25 (by decide) (fun c_8 => ?_) (fun c_8 => ?_)
          · exact absurd rfl c_8
          · skip
            refine lv_iconst (v := 1) hx hb dX1_may_28 (by decide) ?_
            refine lv_goto (tgt := 33) hx hb dX1_may_29 (by decide) ?_
            refine tv_top (tv_b true) rfl ?_
            exact tv_zretW (tv_b01 _) hAe hx hb hr hP hK hD hS dX1_may_33 hlocks
end
