/-! THE LAW'S OWN METHODS: they call the class, put the answer into a row of one long, tell which exception came. -/
def tv_C (U : State) : Prop := va_Nc "java/lang/IllegalArgumentException" "java/lang/IndexOutOfBoundsException" U ∧ va_Nc "java/lang/IllegalStateException" "java/lang/IndexOutOfBoundsException" U ∧ va_Nc "java/lang/IllegalStateException" "java/lang/IllegalArgumentException" U
theorem tv_C.moved {u U : State} (hvm : u.vm.Alike U.vm) (h : tv_C u) : tv_C U := ⟨va_Nc.moved hvm h.1, va_Nc.moved hvm h.2.1, va_Nc.moved hvm h.2.2⟩
abbrev tv_hw (cI cZ cL : ClassId) (h a1 a2 a3 a4 ol : Nat) (σ : TS) (f : Nat → Int64) : va_W := [(h, .inr (0, [.ref a1, .ref a2, .ref a3, .ref a4])), (a1, .inl (cI, 96, .inl σ.1)), (a2, .inl (cI, 8, .inl σ.2.1)), (a3, .inl (cZ, 4, .inl σ.2.2.1)), (a4, .inl (cI, 8, .inl σ.2.2.2)), (ol, .inl (cL, 1, .inr (.inl f)))]
def tv_PH (D : va_G) (cI cZ cL : ClassId) (ws : va_W) (sz : Nat) (As : List Value) : Array Value → State → Prop := fun v U => v = As.toArray ∧ U.heap.size = sz ∧ va_P D vwCl ws U.heap ∧ va_K D vwCl (tv_ty cI cZ cL) U ∧ va_D (fun _ => True) ws ∧ tv_E (va_A ws sz) U U.heap ∧ tv_C U
theorem tv_PH.blind {D : va_G} {cI cZ cL : ClassId} {ws : va_W} {sz : Nat} {As : List Value} : FrameBlind (tv_PH D cI cZ cL ws sz As) := fun a U g mk q => ⟨q.1, q.2.1, q.2.2.1, va_K.moved (u := U) (U := U.calling g mk a) (Vm.Alike.refl U.vm) q.2.2.2.1, q.2.2.2.2.1, tv_E.warm (s := U) (U := U.calling g mk a) (State.WarmedH.refl U) q.2.2.2.2.2.1, tv_C.moved (u := U) (U := U.calling g mk a) (Vm.Alike.refl U.vm) q.2.2.2.2.2.2⟩
abbrev tv_QH (D : va_G) (cI cZ cL : ClassId) (wf : TS → (Nat → Int64) → va_W) (ws : va_W) (sz : Nat) (V : TV) (R64 : Int32 → Int64) : Array Value → State → Outcome → State → Prop :=
  va_Qi (S := Nat → Int64) (fun r f => r = V.1 ∧ (V.1 = 0 → f 0 = R64 V.2.1)) (fun f t => va_P D vwCl (wf V.2.2 f) t.heap ∧ va_K D vwCl (tv_ty cI cZ cL) t ∧ va_D (va_A ws sz) (wf V.2.2 f)) (va_A ws sz)
abbrev tv_rmH : Room := { frames := 9, cells := 1, slots := 6, locals := 150 }
def R64i (x : Int32) : Int64 := x.toInt64
def R64z (x : Int32) : Int64 := if x = 0 then 0 else 1
theorem sp_k {a b : Bool} {f : TV} {σ : TS} (hf : f.1 = 0) : (sp a b f σ).1 = 0 ∨ sp a b f σ = (1, 0, σ) ∨ sp a b f σ = (2, 0, σ) := by
  cases a <;> cases b <;> first | exact Or.inl hf | exact Or.inr (Or.inl rfl) | exact Or.inr (Or.inr rfl)
theorem sp_k1 {a : Bool} {f : TV} {σ : TS} (hf : f.1 = 0) : (sp a true f σ).1 = 0 ∨ sp a true f σ = (1, 0, σ) := by
  cases a <;> first | exact Or.inl hf | exact Or.inr rfl
theorem sp_k3 {a b : Bool} {c : Prop} [Decidable c] {x : Int32} {σ : TS} : (sp a b (if c then (3, 0, σ) else (0, x, σ)) σ).1 = 0 ∨ sp a b (if c then (3, 0, σ) else (0, x, σ)) σ = (1, 0, σ) ∨ sp a b (if c then (3, 0, σ) else (0, x, σ)) σ = (2, 0, σ) ∨ sp a b (if c then (3, 0, σ) else (0, x, σ)) σ = (3, 0, σ) := by
  cases a
  · exact Or.inr (Or.inl rfl)
  · cases b
    · exact Or.inr (Or.inr (Or.inl rfl))
    · by_cases h : c
      · refine Or.inr (Or.inr (Or.inr ?_)); rw [sp_tt, if_pos h]
      · refine Or.inl ?_; rw [sp_tt, if_neg h]
section TVH
variable {p : Program} {l : Launch} {e : Env} {R : Room} {s : State} {m : MethodId} {args : Array Value} {below : List Frame} {meth : Method} {c : Code} {H : Heap} {locs : List Loc} {cells slots : Nat} {Q : State → Prop} {pc : Nat} {ls : Array Slot} {st0 rest : List Value} {a : Array Value} {D : va_G} {cI cZ cL : ClassId} {A0 A : Nat → Prop} {H0 : Heap} {ws ws0 wc wr wsN : va_W} {V : TV} {cc : ByteArray} {sz : Nat}
theorem tv_prePV {As : List Value} {b ci : Nat} {C : String} {T : u_T} {N : Nat} {fs : List Value} (hP : va_P D vwCl ws H) (hK : va_K D vwCl (tv_ty cI cZ cL) s) (hD : va_D A0 ws) (hS : va_S A0 s.heap H locs) (hA : ∀ q, s.heap.size ≤ q → A0 q) (hE : tv_E A0 s s.heap) (isC : List Nat) (h1 : isC.filterMap (fun i => ws[i]?) = wc) (h2 : isC.map (fun i => ws[i]?) = wc.map some) (hn : va_nd isC = true) (hc : vwCl[ci]? = some (C, T, N)) (q0 : Nat) (he : ws[q0]? = some (b, .inr (ci, fs))) : PreV s H C b (tv_PP D cI cZ cL wc H.size (.ref b :: As)) As :=
  ⟨tv_PP.blind, va_recv hK hP hc he, fun U hU hW => ⟨rfl, by rw [hU], by rw [hU]; exact hP.sub isC h1, va_K.moved hW.alike hK, (hD.sub isC hn h2).weaken (fun _ _ _ _ => trivial), by rw [hU]; exact tv_E.warm hW ((hE.kept hS.2.1).narrow (va_free (wc := wc) hD hS hA isC h2))⟩⟩
theorem tv_preH {As : List Value} (hP : va_P D vwCl ws H) (hK : va_K D vwCl (tv_ty cI cZ cL) s) (hD : va_D A0 ws) (hS : va_S A0 s.heap H locs) (hA : ∀ q, s.heap.size ≤ q → A0 q) (hE : tv_E A0 s s.heap) (hC : tv_C s) (isC : List Nat) (h1 : isC.filterMap (fun i => ws[i]?) = wc) (h2 : isC.map (fun i => ws[i]?) = wc.map some) (hn : va_nd isC = true) : PreS s H (tv_PH D cI cZ cL wc H.size As) As :=
  ⟨tv_PH.blind, fun U hU hW => ⟨rfl, by rw [hU], by rw [hU]; exact hP.sub isC h1, va_K.moved hW.alike hK, (hD.sub isC hn h2).weaken (fun _ _ _ _ => trivial), by rw [hU]; exact tv_E.warm hW ((hE.kept hS.2.1).narrow (va_free (wc := wc) hD hS hA isC h2)), tv_C.moved hW.alike hC⟩⟩
/-- a call of a public method of the class -/
theorem tv_callP {wf : TS → va_W} (hr : vx_Run p l e R s m args below meth c H locs cells slots 1 6 (F0 m pc ls st0) rest (tv_QP D cI cZ cL wf wc H.size V a) (tv_XP V) (va_A wc H.size)) (hP : va_P D vwCl ws H) (hD : va_D A0 ws) (hS : va_S A0 H0 H locs) (hA : ∀ q, H0.size ≤ q → A0 q)
    (isC isR : List Nat) (hC : isC.map (fun i => ws[i]?) = wc.map some) (hR : isR.map (fun i => ws[i]?) = wr.map some) (hn : va_nd isR = true) (hdis : ∀ i ∈ isR, i ∉ isC) (is : List Nat) (hi1 : is.filterMap (fun i => (wr ++ wf V.2.2)[i]?) = wsN) (hi2 : is.map (fun i => (wr ++ wf V.2.2)[i]?) = wsN.map some) (hin : va_nd is = true)
    (kx : ∀ (ce : Cell) (q9 : Addr) (H : Heap) (locs : List Loc), V.1 ≠ 0 → va_P D vwCl ws H → va_S A0 H0 H locs → H[q9]? = some ce → ce.vm = .none → s.vm.findClass (tv_en V.1) = some ce.cls → vx_W p l e R s m args below meth c H locs (cells + 1) (slots + 6) Q (F0 m pc ls rest) q9)
    (kk : ∀ (H : Heap) (locs : List Loc), V.1 = 0 → va_P D vwCl wsN H → va_D A0 wsN → va_S A0 H0 H locs → W p l e R s m args below meth c H locs (cells + 1) (slots + 6) Q (F0 m (pc + 3) ls (.int V.2.1 :: rest))) : W p l e R s m args below meth c H locs cells slots Q (F0 m pc ls st0) := by
  have hFc := va_free (wc := wc) hD hS hA isC hC
  refine vx_calli hr hS (fun q _ h => hFc q h) hFc (fun q _ h => h.elim) (fun E ce q9 u t H1 locs1 ht hvm hx hB hz1 hk1 hS1 hce hcv hcl => ?_) (fun r_2 u t H1 locs1 ht hvm hw hB hz1 hk1 hS1 => ?_)
  · subst hB
    exact kx ce q9 H1 locs1 hx (hP.kept (fun k q hk => hk1 q.1 (hP k q hk).lt (fun h => h))) hS1 hce hcv hcl
  · obtain ⟨hP1, hK1, hD1⟩ := hB
    rw [ht] at hP1
    obtain ⟨h0, rfl, rfl⟩ := hw
    obtain ⟨hP2, hD2⟩ := va_join (wr := wr) (w1 := wf V.2.2) hP hD isC isR hC hR hn hdis hk1 hFc hP1 hD1
    exact kk H1 locs1 h0 (hP2.sub is hi1) (hD2.sub is hin hi2) hS1
theorem tv_last (hexec : p.tables.exec = Jvm.exec) (hb : c.code = cc) (hK : va_K D vwCl (tv_ty cI cZ cL) s) (hP : va_P D vwCl ws H) (hD : va_D A ws) (hS : va_S A H0 H locs) (q0 : Nat) {ol : Nat} {f : Nat → Int64} (ha : ws[q0]? = some (ol, .inl (cL, 1, .inr (.inl f)))) {x : Int64} (hw : ws.set q0 (ol, .inl (cL, 1, .inr (.inl (vp_updL f 0 x)))) = wsN) (hdg : decode cc pc = .ok (.lastore, 1))
    (kk : ∀ (H1 : Heap) (locs1 : List Loc), va_P D vwCl wsN H1 → va_D A wsN → va_S A H0 H1 locs1 → W p l e R s m args below meth c H1 locs1 cells slots Q (F0 m (pc + 1) ls rest)) : W p l e R s m args below meth c H locs cells slots Q (F0 m pc ls (.long x :: .int 0 :: .ref ol :: rest)) := by
  refine va_last hexec hb hK hP hD hS q0 2 ha rfl (vp_in_nI (n := 0) (by omega) (by omega)) hdg fun H1 locs1 h1 h2 h3 => ?_
  rw [sb_cl0, hw] at h1 h2
  exact kk H1 locs1 h1 h2 h3
theorem tv_iretH {wf : TS → (Nat → Int64) → va_W} {R64 : Int32 → Int64} {r : Int32} {f : Nat → Int64} (hA : A = va_A ws0 sz) (h1 : r = V.1) (h2 : V.1 = 0 → f 0 = R64 V.2.1) (hexec : p.tables.exec = Jvm.exec) (hb : c.code = cc) (hr : meth.sig.returnType = some .int) (hP : va_P D vwCl (wf V.2.2 f) H) (hK : va_K D vwCl (tv_ty cI cZ cL) s) (hD : va_D A (wf V.2.2 f)) (hS : va_S A s.heap H locs) (hdg : decode cc pc = .ok (.ireturn, 1)) (hlocks : meth.locks = false) :
    W p l e R s m args below meth c H locs 1 6 (MQ below (tv_QH D cI cZ cL wf ws0 sz V R64) args s 1 6 (va_A ws0 sz)) (F0 m pc ls [.int r]) := by
  subst hA
  exact W.iret (v := r) hexec hb hr (fun t ht hW => ⟨⟨r, f, rfl, ⟨h1, h2⟩, by rw [ht]; exact hP, va_K.moved hW.alike hK, hD⟩, hS.F ht⟩) hS.2.2 hdg hlocks
/-- behind a call of a method of the law -/
theorem tv_callH {wf : TS → (Nat → Int64) → va_W} {R64 : Int32 → Int64} {wN : (Nat → Int64) → va_W} (hr : va_Run p l e R s m args below meth c H locs cells slots 1 6 (F0 m pc ls st0) rest (tv_QH D cI cZ cL wf wc H.size V R64 a) (va_A wc H.size)) (hP : va_P D vwCl ws H) (hD : va_D A0 ws) (hS : va_S A0 H0 H locs) (hA : ∀ q, H0.size ≤ q → A0 q)
    (isC isR : List Nat) (hC : isC.map (fun i => ws[i]?) = wc.map some) (hR : isR.map (fun i => ws[i]?) = wr.map some) (hn : va_nd isR = true) (hdis : ∀ i ∈ isR, i ∉ isC) (is : List Nat) (hi1 : ∀ f, is.filterMap (fun i => (wr ++ wf V.2.2 f)[i]?) = wN f) (hi2 : ∀ f, is.map (fun i => (wr ++ wf V.2.2 f)[i]?) = (wN f).map some) (hin : va_nd is = true)
    (kk : ∀ (f : Nat → Int64) (H : Heap) (locs : List Loc), (V.1 = 0 → f 0 = R64 V.2.1) → va_P D vwCl (wN f) H → va_D A0 (wN f) → va_S A0 H0 H locs → W p l e R s m args below meth c H locs (cells + 1) (slots + 6) Q (F0 m (pc + 3) ls (.int V.1 :: rest))) : W p l e R s m args below meth c H locs cells slots Q (F0 m pc ls st0) := by
  have hFc := va_free (wc := wc) hD hS hA isC hC
  refine va_calli hr hS (fun q _ h => hFc q h) hFc (fun r_2 f t H1 locs1 ht hvm hw hB hz1 hk1 hS1 => ?_)
  obtain ⟨hP1, hK1, hD1⟩ := hB
  rw [ht] at hP1
  obtain ⟨rfl, hf⟩ := hw
  obtain ⟨hP2, hD2⟩ := va_join (wr := wr) (w1 := wf V.2.2 f) hP hD isC isR hC hR hn hdis hk1 hFc hP1 hD1
  exact kk f H1 locs1 hf (hP2.sub is (hi1 f)) (hD2.sub is hin (hi2 f)) hS1
end TVH
