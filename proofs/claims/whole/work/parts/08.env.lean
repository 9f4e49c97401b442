/-! WHAT A THROW STANDS ON: two statics of Throwable, words of the tables that are not good ones, the texts. -/
def tv_nw : List Cond := [.declares ⟨"java/lang/RuntimeException", "<init>", "(Ljava/lang/String;)V"⟩, .declares ⟨"java/lang/Exception", "<init>", "(Ljava/lang/String;)V"⟩, .declares ⟨"java/lang/Throwable", "<init>", "(Ljava/lang/String;)V"⟩, .castable "java/lang/IndexOutOfBoundsException" "java/lang/IndexOutOfBoundsException", .castable "java/lang/IllegalArgumentException" "java/lang/IllegalArgumentException", .castable "java/lang/IllegalStateException" "java/lang/IllegalStateException"]
def tv_str : List (Nat × String) := [(109, "no such row"), (112, "no such place"), (114, "no such gate"), (118, "no such sign"), (123, "the number is beyond"), (125, "the rows are not of one sort"), (127, "the third row is the first or the second"), (75, "the question is not true")]
def tv_E (A : Nat → Prop) (U : State) (H : Heap) : Prop :=
  vx_Zq Bundle.tN "UNASSIGNED_STACK" Bundle.steD A U H ∧ vx_Zq Bundle.tN "SUPPRESSED_SENTINEL" Bundle.listD A U H ∧ (∀ w ∈ tv_nw, va_Nw w U) ∧ ∀ q ∈ tv_str, ∃ a : Nat, vk_R RX0 q.1 q.2 a U
theorem tv_E.warm {A : Nat → Prop} {s U : State} {H : Heap} (hW : s.WarmedH U.vm) (h : tv_E A s H) : tv_E A U H := by
  obtain ⟨h1, h2, h3, h4⟩ := h
  refine ⟨vx_Zq.moved hW.alike h1, vx_Zq.moved hW.alike h2, fun w hw => ?_, fun q hq => ?_⟩
  · have h5 := h3 w hw
    simp only [tv_nw, List.mem_cons, List.not_mem_nil, or_false] at hw
    rcases hw with rfl | rfl | rfl | rfl | rfl | rfl
    · exact va_Nw.warmD hW h5
    · exact va_Nw.warmD hW h5
    · exact va_Nw.warmD hW h5
    · exact va_Nw.warmC hW h5
    · exact va_Nw.warmC hW h5
    · exact va_Nw.warmC hW h5
  · obtain ⟨a, ha⟩ := h4 q hq
    exact ⟨a, vk_R.warm hW ha⟩
theorem tv_E.kept {A : Nat → Prop} {U : State} {H H1 : Heap} (h : tv_E A U H) (hq : ∀ a : Nat, a < H.size → ¬ A a → H1[a]? = H[a]?) : tv_E A U H1 := ⟨h.1.kept hq, h.2.1.kept hq, h.2.2⟩
theorem tv_E.narrow {A B : Nat → Prop} {U : State} {H : Heap} (h : tv_E A U H) (hAB : ∀ q, B q → A q) : tv_E B U H := ⟨h.1.narrow hAB, h.2.1.narrow hAB, h.2.2⟩
theorem tv_nw_on : ∀ w ∈ tv_nw, w.onTables = true := by decide +kernel
def tv_names : List String := ["java/lang/RuntimeException", "java/lang/Exception"]
/-- what a method that throws at once is given; how it ends -/
def tv_PT (As : List Value) : Array Value → State → Prop := fun v U => v = As.toArray ∧ tv_E (fun _ => False) U U.heap
theorem tv_PT.blind {As : List Value} : FrameBlind (tv_PT As) := fun a U g mk q => ⟨q.1, tv_E.warm (s := U) (U := U.calling g mk a) (State.WarmedH.refl U) q.2⟩
abbrev tv_XT (E : String) : String → State → State → Prop := vx_X (S := Unit) (fun _ => True) (fun E' _ _ => E' = E) (fun _ => False)
abbrev tv_rm0 : Room := { frames := 0, cells := 0, slots := 0, locals := 0 }
abbrev tv_rmT : Room := { frames := 6, cells := 1, slots := 6, locals := 82 }
theorem tv_fit3 : ∀ n ∈ tv_names, Bundle.fit n = true := by decide +kernel
section TVT
variable {p : Program} {l : Launch} {e : Env} {R : Room} {s : State} {m : MethodId} {args : Array Value} {below : List Frame} {meth : Method} {c : Code} {H : Heap} {locs : List Loc} {cells slots : Nat} {Q : State → Prop}
variable {cc : ByteArray} {pc : Nat} {ls : Array Slot} {rest st0 : List Value} {Qc : Array Value → State → Outcome → State → Prop} {XC : String → State → State → Prop} {free : Addr → Prop} {mc ms : Nat}
/-- 'throw new E(text)' in the class -/
theorem tv_thr (hexec : p.tables.exec = Jvm.exec) (hb : c.code = cc) (hT : l.stackTraces = false) {cls text : String} {ik is ic : Nat} {A : Nat → Prop} {ws : List Cond} (hts : ∀ w ∈ ws, w.before args s = true)
    (hown : s.vm.findClass RX0 = some m.cls) (hcls : Bundle.fit cls = true) (hk : Cond.classLink RX0 ik cls ∈ ws) (hini : Cond.initialized cls ∈ ws) (hg : ∀ w ∈ (vx_atS RX0 ic cls tv_names).filter goodWord, w ∈ ws) (hng : ∀ w ∈ (vx_atS RX0 ic cls tv_names).filter (fun w => !goodWord w), w ∈ tv_nw) (hot : ∀ w ∈ Cond.classLink RX0 ik cls :: Cond.initialized cls :: vx_atS RX0 ic cls tv_names, vx_ot w = true) (hstr : (is, text) ∈ tv_str)
    (hE : tv_E A s s.heap) (hS : va_S A s.heap H locs) (hsize : ls.size = c.maxLocals)
    (d0 : decode cc pc = .ok (.new ik, 3)) (d3 : decode cc (pc + 3) = .ok (.dup, 1)) (d4 : decode cc (pc + 4) = .ok (.ldc is, 2)) (d6 : decode cc (pc + 6) = .ok (.invokespecial ic, 3)) (d9 : decode cc (pc + 9) = .ok (.athrow, 1))
    (htab : ∀ x ∈ c.exceptionTable.toList, False) (hRf : 5 < R.frames) (hRl : (rest.map fun v => v.category).sum + 82 ≤ R.locals) (hRc : cells + 1 ≤ R.cells) (hRs : slots + 6 ≤ R.slots) (hlocks : meth.locks = false)
    (hx : ∀ t : State, s.vm.Alike t.vm → H.size ≤ t.heap.size → (∀ q : Nat, q < H.size → t.heap[q]? = H[q]?) → XC cls s t) (hf : ∀ z ∈ locs, free z.base) (hc : cells + 1 ≤ mc) (hs : slots + 6 ≤ ms) :
    W p l e R s m args below meth c H locs cells slots (vx_MQ below Qc XC args s mc ms free) (F0 m pc ls rest) := by
  obtain ⟨sa, hsa⟩ := hE.2.2.2 _ hstr
  exact vx_throwS (own := RX0) (cls := cls) (text := text) (names := tv_names) (ik := ik) (is := is) (ic := ic) (A := A) (sa := sa) hexec hb hT hown hcls tv_fit3 (hts _ hk) (hts _ hini) hsa
    (vx_hat (B := tv_nw) (fun w hw => hts w (hg w hw)) hng (fun w hw => va_Nw.use (tv_nw_on w hw) (hE.2.2.1 w hw))) hot hE.1 hE.2.1 hS hsize d0 d3 d4 d6 d9 (fun x hx => (htab x hx).elim) hRf hRl hRc hRs hlocks hx hf hc hs
/-- a call of a method that throws, not caught here -/
theorem tv_callT {E : String} {a : Array Value} (hr : vx_Run p l e R s m args below meth c H locs cells slots 1 6 (F0 m pc ls st0) rest (fun _ _ _ => False) (tv_XT E) (fun _ => False)) (htab : ∀ x ∈ c.exceptionTable.toList, False) (hlocks : meth.locks = false)
    (hx : ∀ t : State, H.size ≤ t.heap.size → (∀ q : Nat, q < H.size → t.heap[q]? = H[q]?) → XC E s t) (hf : ∀ z ∈ locs, free z.base) (hc : cells + 1 ≤ mc) (hs : slots + 6 ≤ ms) :
    W p l e R s m args below meth c H locs cells slots (vx_MQ below Qc XC args s mc ms free) (F0 m pc ls st0) := by
  intro T hT X
  rcases hr T hT X with ⟨v, st₀, t, T', L, h0, X', hL, e1, e2, hq, st⟩ | ⟨q, st₀, t, T', L, E', ce, h0, X', hL, e1, e2, ⟨u, hp, hb, hF⟩, hce, hcv, hcl, st⟩
  · exact hq.elim
  · subst hb
    have X2 := Stand.forget (extra := L) X' (fun z h => (hL z h).elim)
    obtain ⟨hz, hk⟩ := hF
    rw [h0] at hz hk
    obtain ⟨t2, a1, b1⟩ := vx_out (p := p) (l := l) (e := e) (R := R) (s := s) (m := m) (args := args) (below := below) (meth := meth) (c := c) (H := T'.heap) (locs := locs) (cells := cells + 1) (slots := slots + 6) (ls := ls) (rest := rest) (Qc := Qc) (XC := XC) (pc := pc) (q := q) (mc := mc) (ms := ms) (free := free)
      (fun x hx => (htab x hx).elim) hlocks (by rw [e1]; exact hce) hcv hcl (fun t' ht' _ => hx t' (by rw [ht', e1]; exact hz) (fun q hq => by rw [ht', e1]; exact hk q hq (fun h => h))) hf hc hs T' rfl X2
    exact ⟨t2, st.trans a1, b1⟩
theorem tv_preT {As : List Value} {A : Nat → Prop} (hE : tv_E A s s.heap) (hS : va_S A s.heap H locs) : PreS s H (tv_PT As) As := ⟨tv_PT.blind, fun U hU hW => ⟨rfl, by rw [hU]; exact tv_E.warm hW ((hE.kept hS.2.1).narrow (fun _ h => h.elim))⟩⟩
theorem tv_top {x : Int32} (y : Int32) (h : x = y) (k : W p l e R s m args below meth c H locs cells slots Q (F0 m pc ls (.int y :: rest))) : W p l e R s m args below meth c H locs cells slots Q (F0 m pc ls (.int x :: rest)) := by rw [h]; exact k
end TVT
theorem tv_io_g : ∀ w ∈ (vx_atS RX0 111 "java/lang/IndexOutOfBoundsException" tv_names).filter (fun w => !goodWord w), w ∈ tv_nw := by decide +kernel
theorem tv_io_o : ∀ w ∈ Cond.classLink RX0 107 "java/lang/IndexOutOfBoundsException" :: Cond.initialized "java/lang/IndexOutOfBoundsException" :: vx_atS RX0 111 "java/lang/IndexOutOfBoundsException" tv_names, vx_ot w = true := by decide +kernel
theorem tv_ia_g : ∀ w ∈ (vx_atS RX0 120 "java/lang/IllegalArgumentException" tv_names).filter (fun w => !goodWord w), w ∈ tv_nw := by decide +kernel
theorem tv_ia_o : ∀ w ∈ Cond.classLink RX0 116 "java/lang/IllegalArgumentException" :: Cond.initialized "java/lang/IllegalArgumentException" :: vx_atS RX0 120 "java/lang/IllegalArgumentException" tv_names, vx_ot w = true := by decide +kernel
theorem tv_is_g : ∀ w ∈ (vx_atS RX0 77 "java/lang/IllegalStateException" tv_names).filter (fun w => !goodWord w), w ∈ tv_nw := by decide +kernel
theorem tv_is_o : ∀ w ∈ Cond.classLink RX0 73 "java/lang/IllegalStateException" :: Cond.initialized "java/lang/IllegalStateException" :: vx_atS RX0 77 "java/lang/IllegalStateException" tv_names, vx_ot w = true := by decide +kernel
