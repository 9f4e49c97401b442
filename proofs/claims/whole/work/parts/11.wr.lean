/-! A METHOD THAT WRITES IN ITS WORLD: what it is given, how it ends, a call of it. -/
def tv_Pd (D : va_G) (cI cZ cL : ClassId) (ws : va_W) (sz : Nat) (As : List Value) : Array Value → State → Prop := fun v U => v = As.toArray ∧ U.heap.size = sz ∧ va_P D vwCl ws U.heap ∧ va_K D vwCl (tv_ty cI cZ cL) U ∧ va_D (fun _ => True) ws
theorem tv_Pd.blind {D : va_G} {cI cZ cL : ClassId} {ws : va_W} {sz : Nat} {As : List Value} : FrameBlind (tv_Pd D cI cZ cL ws sz As) := fun a U g mk q => ⟨q.1, q.2.1, q.2.2.1, va_K.moved (u := U) (U := U.calling g mk a) (Vm.Alike.refl U.vm) q.2.2.2.1, q.2.2.2.2⟩
abbrev tv_Qw (D : va_G) (cI cZ cL : ClassId) (ws : va_W) (sz : Nat) (r : Int32) (ws' : va_W) : Array Value → State → Outcome → State → Prop :=
  va_Qi (S := Unit) (fun r' _ => r' = r) (fun _ t => va_P D vwCl ws' t.heap ∧ va_K D vwCl (tv_ty cI cZ cL) t ∧ va_D (va_A ws sz) ws') (va_A ws sz)
abbrev tv_Qwv (D : va_G) (cI cZ cL : ClassId) (ws : va_W) (sz : Nat) (ws' : va_W) : Array Value → State → Outcome → State → Prop :=
  va_Qv (S := Unit) (fun _ => True) (fun _ t => va_P D vwCl ws' t.heap ∧ va_K D vwCl (tv_ty cI cZ cL) t ∧ va_D (va_A ws sz) ws') (va_A ws sz)
section TVX
variable {p : Program} {l : Launch} {e : Env} {R : Room} {s : State} {m : MethodId} {args : Array Value} {below : List Frame} {meth : Method} {c : Code} {H : Heap} {locs : List Loc} {cells slots : Nat} {Q : State → Prop} {pc : Nat} {ls : Array Slot} {st0 rest : List Value} {a : Array Value} {D : va_G} {cI cZ cL : ClassId} {A0 : Nat → Prop} {H0 : Heap} {ws wc wr wc' wsN : va_W} {mc ms : Nat}
theorem tv_preD {As : List Value} (hP : va_P D vwCl ws H) (hK : va_K D vwCl (tv_ty cI cZ cL) s) (hD : va_D A0 ws) (isC : List Nat) (h1 : isC.filterMap (fun i => ws[i]?) = wc) (h2 : isC.map (fun i => ws[i]?) = wc.map some) (hn : va_nd isC = true) : PreS s H (tv_Pd D cI cZ cL wc H.size As) As :=
  ⟨tv_Pd.blind, fun U hU hW => ⟨rfl, by rw [hU], by rw [hU]; exact hP.sub isC h1, va_K.moved hW.alike hK, (hD.sub isC hn h2).weaken (fun _ _ _ _ => trivial)⟩⟩
theorem tv_preDV {As : List Value} {b ci : Nat} {C : String} {T : u_T} {N : Nat} {fs : List Value} (hP : va_P D vwCl ws H) (hK : va_K D vwCl (tv_ty cI cZ cL) s) (hD : va_D A0 ws) (isC : List Nat) (h1 : isC.filterMap (fun i => ws[i]?) = wc) (h2 : isC.map (fun i => ws[i]?) = wc.map some) (hn : va_nd isC = true) (hc : vwCl[ci]? = some (C, T, N)) (q0 : Nat) (he : ws[q0]? = some (b, .inr (ci, fs))) : PreV s H C b (tv_Pd D cI cZ cL wc H.size (.ref b :: As)) As :=
  ⟨tv_Pd.blind, va_recv hK hP hc he, fun U hU hW => ⟨rfl, by rw [hU], by rw [hU]; exact hP.sub isC h1, va_K.moved hW.alike hK, (hD.sub isC hn h2).weaken (fun _ _ _ _ => trivial)⟩⟩
theorem tv_callW {r : Int32} (hr : va_Run p l e R s m args below meth c H locs cells slots mc ms (F0 m pc ls st0) rest (tv_Qw D cI cZ cL wc H.size r wc' a) (va_A wc H.size)) (hP : va_P D vwCl ws H) (hD : va_D A0 ws) (hS : va_S A0 H0 H locs) (hA : ∀ q, H0.size ≤ q → A0 q)
    (isC isR : List Nat) (hC : isC.map (fun i => ws[i]?) = wc.map some) (hR : isR.map (fun i => ws[i]?) = wr.map some) (hn : va_nd isR = true) (hdis : ∀ i ∈ isR, i ∉ isC) (is : List Nat) (hi1 : is.filterMap (fun i => (wr ++ wc')[i]?) = wsN) (hi2 : is.map (fun i => (wr ++ wc')[i]?) = wsN.map some) (hin : va_nd is = true)
    (kk : ∀ (H : Heap) (locs : List Loc), va_P D vwCl wsN H → va_D A0 wsN → va_S A0 H0 H locs → W p l e R s m args below meth c H locs (cells + mc) (slots + ms) Q (F0 m (pc + 3) ls (.int r :: rest))) : W p l e R s m args below meth c H locs cells slots Q (F0 m pc ls st0) := by
  have hFc := va_free (wc := wc) hD hS hA isC hC
  refine va_calli hr hS (fun q _ h => hFc q h) hFc (fun r_2 u t H1 locs1 ht hvm hw hB hz1 hk1 hS1 => ?_)
  obtain ⟨hP1, hK1, hD1⟩ := hB
  rw [ht] at hP1
  subst hw
  obtain ⟨hP2, hD2⟩ := va_join (wr := wr) (w1 := wc') hP hD isC isR hC hR hn hdis hk1 hFc hP1 hD1
  exact kk H1 locs1 (hP2.sub is hi1) (hD2.sub is hin hi2) hS1
theorem tv_callWv (hr : va_Run p l e R s m args below meth c H locs cells slots mc ms (F0 m pc ls st0) rest (tv_Qwv D cI cZ cL wc H.size wc' a) (va_A wc H.size)) (hP : va_P D vwCl ws H) (hD : va_D A0 ws) (hS : va_S A0 H0 H locs) (hA : ∀ q, H0.size ≤ q → A0 q)
    (isC isR : List Nat) (hC : isC.map (fun i => ws[i]?) = wc.map some) (hR : isR.map (fun i => ws[i]?) = wr.map some) (hn : va_nd isR = true) (hdis : ∀ i ∈ isR, i ∉ isC) (is : List Nat) (hi1 : is.filterMap (fun i => (wr ++ wc')[i]?) = wsN) (hi2 : is.map (fun i => (wr ++ wc')[i]?) = wsN.map some) (hin : va_nd is = true)
    (kk : ∀ (H : Heap) (locs : List Loc), va_P D vwCl wsN H → va_D A0 wsN → va_S A0 H0 H locs → W p l e R s m args below meth c H locs (cells + mc) (slots + ms) Q (F0 m (pc + 3) ls rest)) : W p l e R s m args below meth c H locs cells slots Q (F0 m pc ls st0) := by
  have hFc := va_free (wc := wc) hD hS hA isC hC
  refine va_callv hr hS (fun q _ h => hFc q h) hFc (fun u t H1 locs1 ht hvm hw hB hz1 hk1 hS1 => ?_)
  obtain ⟨hP1, hK1, hD1⟩ := hB
  rw [ht] at hP1
  obtain ⟨hP2, hD2⟩ := va_join (wr := wr) (w1 := wc') hP hD isC isR hC hR hn hdis hk1 hFc hP1 hD1
  exact kk H1 locs1 (hP2.sub is hi1) (hD2.sub is hin hi2) hS1
/-- the end of a method that writes -/
theorem tv_iretW {cc : ByteArray} {A : Nat → Prop} {sz : Nat} {ws0 : va_W} {r : Int32} (hA : A = va_A ws0 sz) (hexec : p.tables.exec = Jvm.exec) (hb : c.code = cc) (hr : meth.sig.returnType = some .int) (hP : va_P D vwCl ws H) (hK : va_K D vwCl (tv_ty cI cZ cL) s) (hD : va_D A ws) (hS : va_S A s.heap H locs) (hdg : decode cc pc = .ok (.ireturn, 1)) (hlocks : meth.locks = false) :
    W p l e R s m args below meth c H locs cells slots (MQ below (tv_Qw D cI cZ cL ws0 sz r ws) args s cells slots (va_A ws0 sz)) (F0 m pc ls [.int r]) := by
  subst hA
  exact W.iret (v := r) hexec hb hr (fun t ht hW => ⟨⟨r, (), rfl, rfl, by rw [ht]; exact hP, va_K.moved hW.alike hK, hD⟩, hS.F ht⟩) hS.2.2 hdg hlocks
theorem tv_zretW {cc : ByteArray} {A : Nat → Prop} {sz : Nat} {ws0 : va_W} {r : Int32} (h01 : r = 0 ∨ r = 1) (hA : A = va_A ws0 sz) (hexec : p.tables.exec = Jvm.exec) (hb : c.code = cc) (hr : meth.sig.returnType = some .boolean) (hP : va_P D vwCl ws H) (hK : va_K D vwCl (tv_ty cI cZ cL) s) (hD : va_D A ws) (hS : va_S A s.heap H locs) (hdg : decode cc pc = .ok (.ireturn, 1)) (hlocks : meth.locks = false) :
    W p l e R s m args below meth c H locs cells slots (MQ below (tv_Qw D cI cZ cL ws0 sz r ws) args s cells slots (va_A ws0 sz)) (F0 m pc ls [.int r]) := by
  subst hA
  exact tv_zret (v := r) hexec hb hr h01 (fun t ht hW => ⟨⟨r, (), rfl, rfl, by rw [ht]; exact hP, va_K.moved hW.alike hK, hD⟩, hS.F ht⟩) hS.2.2 hdg hlocks
theorem tv_vretW {cc : ByteArray} {A : Nat → Prop} {sz : Nat} {ws0 : va_W} (hA : A = va_A ws0 sz) (hexec : p.tables.exec = Jvm.exec) (hb : c.code = cc) (hr : meth.sig.returnType = none) (hP : va_P D vwCl ws H) (hK : va_K D vwCl (tv_ty cI cZ cL) s) (hD : va_D A ws) (hS : va_S A s.heap H locs) (hdg : decode cc pc = .ok (.return_, 1)) (hlocks : meth.locks = false) :
    W p l e R s m args below meth c H locs cells slots (MQ below (tv_Qwv D cI cZ cL ws0 sz ws) args s cells slots (va_A ws0 sz)) (F0 m pc ls []) := by
  subst hA
  exact W.vret hexec hb hr (fun t ht hW => ⟨⟨(), rfl, trivial, by rw [ht]; exact hP, va_K.moved hW.alike hK, hD⟩, hS.F ht⟩) hS.2.2 hdg hlocks
end TVX
