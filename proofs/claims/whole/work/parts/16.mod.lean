/-! A METHOD OF THE REFERENCE: it returns; thrown tells what the class throws. -/
theorem tv_ix2 (r k : Nat) : 12 * nI r + nI k = nI (12 * r + k) := by rw [tv_12, pk_mul, nI_add]
theorem tv_lx2 (g k : Nat) : 2 * nI g + nI k = nI (2 * g + k) := by rw [show (2 : Int32) = nI 2 from rfl, pk_mul, nI_add]
theorem sp_cd {A B : Bool} {f : TV} {σ : TS} (h : (A && B) = false) : sp A B f σ = (tv_cd A B, 0, σ) := by cases A <;> cases B <;> first | rfl | cases h
abbrev tv_QM (D : va_G) (cI cZ cL : ClassId) (wf : Int32 → TS → va_W) (ws : va_W) (sz : Nat) (V : TV) : Array Value → State → Outcome → State → Prop :=
  va_Qi (S := Unit) (fun r _ => V.1 = 0 → r = V.2.1) (fun _ t => va_P D vwCl (wf V.1 V.2.2) t.heap ∧ va_K D vwCl (tv_ty cI cZ cL) t ∧ va_D (va_A ws sz) (wf V.1 V.2.2)) (va_A ws sz)
section TVM
variable {p : Program} {l : Launch} {e : Env} {R : Room} {s : State} {m : MethodId} {args : Array Value} {below : List Frame} {meth : Method} {c : Code} {H : Heap} {locs : List Loc} {Q : State → Prop} {pc : Nat} {ls : Array Slot} {st0 rest : List Value} {a : Array Value} {D : va_G} {cI cZ cL : ClassId} {ws0 : va_W} {wf : Int32 → TS → va_W} {σ : TS} {V : TV} {sz : Nat} {cc : ByteArray} {A : Nat → Prop} {r th z : Int32} {cells slots : Nat}
theorem tv_iretM (hA : A = va_A ws0 sz) (hV : V = (th, z, σ)) (hz : th = 0 → r = z) (hexec : p.tables.exec = Jvm.exec) (hb : c.code = cc) (hr : meth.sig.returnType = some .int) (hP : va_P D vwCl (wf th σ) H) (hK : va_K D vwCl (tv_ty cI cZ cL) s) (hD : va_D A (wf th σ)) (hS : va_S A s.heap H locs) (hdg : decode cc pc = .ok (.ireturn, 1)) (hlocks : meth.locks = false) :
    W p l e R s m args below meth c H locs cells slots (MQ below (tv_QM D cI cZ cL wf ws0 sz V) args s cells slots (va_A ws0 sz)) (F0 m pc ls [.int r]) := by
  subst hA
  subst hV
  exact W.iret (v := r) hexec hb hr (fun t ht hW => ⟨⟨r, (), rfl, hz, by rw [ht]; exact hP, va_K.moved hW.alike hK, hD⟩, hS.F ht⟩) hS.2.2 hdg hlocks
theorem tv_zretM (h01 : r = 0 ∨ r = 1) (hA : A = va_A ws0 sz) (hV : V = (th, z, σ)) (hz : th = 0 → r = z) (hexec : p.tables.exec = Jvm.exec) (hb : c.code = cc) (hr : meth.sig.returnType = some .boolean) (hP : va_P D vwCl (wf th σ) H) (hK : va_K D vwCl (tv_ty cI cZ cL) s) (hD : va_D A (wf th σ)) (hS : va_S A s.heap H locs) (hdg : decode cc pc = .ok (.ireturn, 1)) (hlocks : meth.locks = false) :
    W p l e R s m args below meth c H locs cells slots (MQ below (tv_QM D cI cZ cL wf ws0 sz V) args s cells slots (va_A ws0 sz)) (F0 m pc ls [.int r]) := by
  subst hA
  subst hV
  exact tv_zret (v := r) hexec hb hr h01 (fun t ht hW => ⟨⟨r, (), rfl, hz, by rw [ht]; exact hP, va_K.moved hW.alike hK, hD⟩, hS.F ht⟩) hS.2.2 hdg hlocks
/-- behind a call of a method of the reference -/
theorem tv_callM {wc wr wsN wc' ws : va_W} {A0 : Nat → Prop} {H0 : Heap} {mc ms : Nat} (hr : va_Run p l e R s m args below meth c H locs cells slots mc ms (F0 m pc ls st0) rest (tv_QM D cI cZ cL wf wc H.size V a) (va_A wc H.size)) (hP : va_P D vwCl ws H) (hD : va_D A0 ws) (hS : va_S A0 H0 H locs) (hA : ∀ q, H0.size ≤ q → A0 q)
    (isC isR : List Nat) (hC : isC.map (fun i => ws[i]?) = wc.map some) (hR : isR.map (fun i => ws[i]?) = wr.map some) (hn : va_nd isR = true) (hdis : ∀ i ∈ isR, i ∉ isC) (is : List Nat) (hw' : wf V.1 V.2.2 = wc') (hi1 : is.filterMap (fun i => (wr ++ wc')[i]?) = wsN) (hi2 : is.map (fun i => (wr ++ wc')[i]?) = wsN.map some) (hin : va_nd is = true)
    (kk : ∀ (r : Int32) (H : Heap) (locs : List Loc), (V.1 = 0 → r = V.2.1) → va_P D vwCl wsN H → va_D A0 wsN → va_S A0 H0 H locs → W p l e R s m args below meth c H locs (cells + mc) (slots + ms) Q (F0 m (pc + 3) ls (.int r :: rest))) : W p l e R s m args below meth c H locs cells slots Q (F0 m pc ls st0) := by
  have hFc := va_free (wc := wc) hD hS hA isC hC
  refine va_calli hr hS (fun q _ h => hFc q h) hFc (fun r_2 u t H1 locs1 ht hvm hw hB hz1 hk1 hS1 => ?_)
  obtain ⟨hP1, hK1, hD1⟩ := hB
  rw [ht] at hP1
  rw [hw'] at hP1 hD1
  obtain ⟨hP2, hD2⟩ := va_join (wr := wr) (w1 := wc') hP hD isC isR hC hR hn hdis hk1 hFc hP1 hD1
  exact kk r_2 H1 locs1 hw (hP2.sub is hi1) (hD2.sub is hin hi2) hS1
end TVM
