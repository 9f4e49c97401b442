/-! THE STATE, AND WHAT EACH CALL ANSWERS: one mathematical value for the class and for the reference. A state: readings, levels, open, notes. An answer: (which exception, 0 for none; the number that is returned; the state behind it). -/
abbrev vwCl : List vw_C := [(RX0, TX0, 4), (RX1, TX1, 5)]
abbrev TS : Type := (Nat → Int32) × (Nat → Int32) × (Nat → Int32) × (Nat → Int32)
abbrev TV : Type := Int32 × Int32 × TS
/-- the question of x and y with a sign -/
def tq (sg x y : Int32) : Int32 := if x = -2147483648 then (if sg = 5 then 1 else 0) else if y = -2147483648 then (if sg = 5 then 1 else 0) else if sg = 0 then (if y ≤ x then 0 else 1) else if sg = 1 then (if y < x then 0 else 1) else if sg = 2 then (if x ≤ y then 0 else 1) else if sg = 3 then (if x < y then 0 else 1) else if sg = 4 then (if x = y then 1 else 0) else (if x = y then 0 else 1)
theorem tq01 (sg x y : Int32) : tq sg x y = 0 ∨ tq sg x y = 1 := by
  unfold tq
  repeat' split
  all_goals simp
theorem tq_self (x : Int32) : tq 5 x x = if x = -2147483648 then 1 else 0 := by
  unfold tq
  by_cases h : x = -2147483648
  · rw [if_pos h, if_pos h]; rfl
  · rw [if_neg h, if_neg h, if_neg h]; simp
def tv_in (n : Nat) (x : Int32) : Bool := !(decide (x < 0)) && decide (x < nI n)
def tv_num (x : Int32) : Bool := decide (x = -2147483648) || (!(decide (x < -8000000)) && decide (x ≤ 8000000))
def tv_sg (x : Int32) : Bool := !(decide (x < 0)) && decide (x ≤ 5)
theorem tv_in_of {n : Nat} {x : Int32} (hn : n < 2 ^ 31) (h : tv_in n x = true) : ∃ r : Nat, r < n ∧ x = nI r := by
  simp only [tv_in, Bool.and_eq_true, Bool.not_eq_true', decide_eq_false_iff_not, decide_eq_true_eq] at h
  obtain ⟨j, hj, rfl⟩ := nI_of h.1
  exact ⟨j, (nI_ltI hj hn).mp h.2, rfl⟩
theorem tv_in_nI {n r : Nat} (hn : n < 2 ^ 31) (h : r < n) : tv_in n (nI r) = true := by
  simp only [tv_in, Bool.and_eq_true, Bool.not_eq_true', decide_eq_false_iff_not, decide_eq_true_eq]
  exact ⟨nI_pos (by omega), nI_lt h hn⟩
def tv_b (b : Bool) : Int32 := if b = true then 1 else 0
theorem tv_b01 (b : Bool) : tv_b b = 0 ∨ tv_b b = 1 := by cases b <;> simp [tv_b]
/-- thrown is 0, 1 or 2 by what holds -/
def tv_cd (a b : Bool) : Int32 := if a = true then (if b = true then 0 else 2) else 1
def sp (a b : Bool) (f : TV) (σ : TS) : TV := if a = true then (if b = true then f else (2, 0, σ)) else (1, 0, σ)
theorem sp_tt {f : TV} {σ : TS} : sp true true f σ = f := rfl
theorem sp_tf {f : TV} {σ : TS} : sp true false f σ = (2, 0, σ) := rfl
theorem sp_f {b : Bool} {f : TV} {σ : TS} : sp false b f σ = (1, 0, σ) := rfl
/-- the exception's name -/
def tv_en (k : Int32) : String := if k = 1 then "java/lang/IndexOutOfBoundsException" else if k = 2 then "java/lang/IllegalArgumentException" else "java/lang/IllegalStateException"
abbrev tN (x : Int32) : Nat := x.toNatClampNeg
/-- sums of 0s and 1s -/
def cn (p : Nat → Int32) : Nat → Int32
  | 0 => 0
  | k + 1 => cn p k + p k
def tv_os (x y : Int32) : Bool := decide (x / 4 = y / 4)
/-- the readings of row x -/
abbrev rw12 (rd : Nat → Int32) (r : Nat) : Nat → Int32 := fun k => rd (12 * r + k)
/-- the level of gate g for row r -/
abbrev lvl (lv : Nat → Int32) (g r : Nat) : Int32 := lv (2 * g + r / 4)
def sp_put (x1 x2 x3 : Int32) (σ : TS) : TV := sp (tv_in 8 x1 && tv_in 12 x2) (tv_num x3) (0, (if σ.1 (12 * tN x1 + tN x2) = x3 then 0 else 1), (upd σ.1 (12 * tN x1 + tN x2) x3, σ.2)) σ
def sp_reading (x1 x2 : Int32) (σ : TS) : TV := sp (tv_in 8 x1 && tv_in 12 x2) true (0, σ.1 (12 * tN x1 + tN x2), σ) σ
def sp_level (x1 x2 x3 : Int32) (σ : TS) : TV := sp (tv_in 4 x1) (tv_num x3) (0, (if σ.2.1 (2 * tN x1 + (if x2 = 0 then 0 else 1)) = x3 then 0 else 1), (σ.1, upd σ.2.1 (2 * tN x1 + (if x2 = 0 then 0 else 1)) x3, σ.2.2)) σ
/-- k places copied from row f to row t -/
def cp (f t : Nat) (rd : Nat → Int32) : Nat → Nat → Int32
  | 0 => rd
  | k + 1 => upd (cp f t rd k) (12 * t + k) (cp f t rd k (12 * f + k))
def sp_copy (x1 x2 : Int32) (σ : TS) : TV := sp (tv_in 8 x1 && tv_in 8 x2) (tv_os x1 x2) (0, cn (fun k => if σ.1 (12 * tN x1 + k) = -2147483648 then 1 else 0) 12, (cp (tN x1) (tN x2) σ.1 12, σ.2)) σ
def sp_straight (x1 x2 x3 : Int32) (σ : TS) : TV := sp (tv_in 8 x1 && tv_in 4 x3) (tv_sg x2) (0, cn (fun k => tq x2 (rw12 σ.1 (tN x1) k) (lvl σ.2.1 (tN x3) (tN x1))) 12, σ) σ
def sp_turned (x1 x2 x3 : Int32) (σ : TS) : TV := sp (tv_in 8 x1 && tv_in 4 x3) (tv_sg x2) (0, cn (fun k => if tq x2 (lvl σ.2.1 (tN x3) (tN x1)) (rw12 σ.1 (tN x1) k) = 0 then 1 else 0) 12, σ) σ
def bt1 (x a b : Int32) : Int32 := if tq 3 x a = 0 then 0 else tq 1 x b
def bt2 (x a b : Int32) : Int32 := if tq 0 x a = 0 then tq 2 x b else 1
def sp_between (x1 x2 x3 : Int32) (σ : TS) : TV := sp (tv_in 8 x1 && tv_in 4 x2 && tv_in 4 x3) true (0, 16 * cn (fun k => bt1 (rw12 σ.1 (tN x1) k) (lvl σ.2.1 (tN x2) (tN x1)) (lvl σ.2.1 (tN x3) (tN x1))) 12 + cn (fun k => bt2 (rw12 σ.1 (tN x1) k) (lvl σ.2.1 (tN x2) (tN x1)) (lvl σ.2.1 (tN x3) (tN x1))) 12, σ) σ
def sp_must (x1 x2 x3 x4 : Int32) (σ : TS) : TV := sp (tv_in 8 x1 && tv_in 12 x2 && tv_in 4 x4) (tv_sg x3) (if tq x3 (σ.1 (12 * tN x1 + tN x2)) (lvl σ.2.1 (tN x4) (tN x1)) = 0 then (3, 0, σ) else (0, σ.1 (12 * tN x1 + tN x2), σ)) σ
/-- open or shut, by a reading and a level -/
def opn (x v tr : Int32) : Int32 := if tr = 0 then tq 3 x v else (if tq 0 x v = 0 then 1 else 0)
def wa (g : Nat) (p : Nat → Int32) (op : Nat → Int32) : Nat → (Nat → Int32) × Int32
  | 0 => (op, 0)
  | k + 1 => (upd (wa g p op k).1 g (p k), (wa g p op k).2 + (if p k = (wa g p op k).1 g then 0 else 1))
def sp_watch (x1 x2 x3 : Int32) (σ : TS) : TV := sp (tv_in 4 x1 && tv_in 8 x2) true (0, (wa (tN x1) (fun k => opn (rw12 σ.1 (tN x2) k) (lvl σ.2.1 (tN x1) (tN x2)) x3) σ.2.2.1 12).2, (σ.1, σ.2.1, (wa (tN x1) (fun k => opn (rw12 σ.1 (tN x2) k) (lvl σ.2.1 (tN x1) (tN x2)) x3) σ.2.2.1 12).1, σ.2.2.2)) σ
def sp_isOpen (x1 : Int32) (σ : TS) : TV := sp (tv_in 4 x1) true (0, σ.2.2.1 (tN x1), σ) σ
/-- from place p on, n steps at most -/
def wk (sg w : Int32) (rw : Nat → Int32) : Nat → Nat → Nat
  | 0, p => p
  | n + 1, p => if p < 11 ∧ tq sg (rw p) (rw (p + 1)) = w then wk sg w rw n (p + 1) else p
def sp_climb (x1 x2 x3 : Int32) (σ : TS) : TV := sp (tv_in 8 x1 && tv_in 12 x2) (tv_sg x3) (0, nI (wk x3 1 (rw12 σ.1 (tN x1)) 12 (tN x2)), σ) σ
def sp_drift (x1 x2 x3 : Int32) (σ : TS) : TV := sp (tv_in 8 x1 && tv_in 12 x2) (tv_sg x3) (0, nI (wk x3 0 (rw12 σ.1 (tN x1)) 12 (tN x2)), σ) σ
/-- the place held when k places behind place 0 have been looked at -/
def pck (sg : Int32) (rw : Nat → Int32) : Nat → Nat
  | 0 => 0
  | k + 1 => if tq sg (rw (k + 1)) (rw (pck sg rw k)) = 0 then pck sg rw k else k + 1
def sp_pick (x1 x2 : Int32) (σ : TS) : TV := sp (tv_in 8 x1) (tv_sg x2) (0, nI (pck x2 (rw12 σ.1 (tN x1)) 11), σ) σ
def kb (p : Nat → Int32) : Nat → Int32
  | 0 => 0
  | k + 1 => if p k = 0 then kb p k else kb p k ||| (1 <<< (nI k &&& 31))
def sp_keep (x1 x2 : Int32) (σ : TS) : TV := sp (tv_in 8 x1) (tv_sg x2) (0, cn (fun k => tq x2 (rw12 σ.1 (tN x1) k) (rw12 σ.1 (tN x1) (k + 1))) 11, (σ.1, σ.2.1, σ.2.2.1, upd σ.2.2.2 (tN x1) (kb (fun k => tq x2 (rw12 σ.1 (tN x1) k) (rw12 σ.1 (tN x1) (k + 1))) 11))) σ
def sp_notes (x1 : Int32) (σ : TS) : TV := sp (tv_in 8 x1) true (0, σ.2.2.2 (tN x1), σ) σ
def sp_gaps (x1 : Int32) (σ : TS) : TV := sp (tv_in 8 x1) true (0, cn (fun k => if rw12 σ.1 (tN x1) k = -2147483648 then 1 else 0) 12, σ) σ
/-- place p of row r goes to the left: the readings, and how often -/
def ml (sg : Int32) (r : Nat) : Nat → (Nat → Int32) → (Nat → Int32) × Nat
  | 0, rd => (rd, 0)
  | p + 1, rd => if tq sg (rd (12 * r + (p + 1))) (rd (12 * r + p)) = 0 then (rd, 0) else ((ml sg r p (upd (upd rd (12 * r + (p + 1)) (rd (12 * r + p))) (12 * r + p) (rd (12 * r + (p + 1))))).1, (ml sg r p (upd (upd rd (12 * r + (p + 1)) (rd (12 * r + p))) (12 * r + p) (rd (12 * r + (p + 1))))).2 + 1)
def se (sg : Int32) (r : Nat) (rd : Nat → Int32) : Nat → (Nat → Int32) × Int32
  | 0 => (rd, 0)
  | k + 1 => ((ml sg r (k + 1) (se sg r rd k).1).1, (se sg r rd k).2 + nI (ml sg r (k + 1) (se sg r rd k).1).2)
def sp_settle (x1 x2 : Int32) (σ : TS) : TV := sp (tv_in 8 x1) (tv_sg x2) (0, (se x2 (tN x1) σ.1 11).2, ((se x2 (tN x1) σ.1 11).1, σ.2)) σ
def sp_meet (x1 x2 x3 : Int32) (σ : TS) : TV := sp (tv_in 8 x1 && tv_in 8 x2) (tv_sg x3 && tv_os x1 x2) (0, cn (fun k => tq x3 (rw12 σ.1 (tN x1) k) (rw12 σ.1 (tN x2) k)) 12, σ) σ
def al (p : Nat → Prop) (d : ∀ k, Decidable (p k)) : Nat → Int32
  | 0 => 1
  | k + 1 => if al p d k = 0 then 0 else (if p k then 1 else 0)
def sp_alike (x1 x2 : Int32) (σ : TS) : TV := sp (tv_in 8 x1 && tv_in 8 x2) (tv_os x1 x2) (0, al (fun k => rw12 σ.1 (tN x1) k = rw12 σ.1 (tN x2) k) (fun _ => inferInstance) 12, σ) σ
def mg (sg : Int32) (r o t : Nat) (rd : Nat → Int32) : Nat → (Nat → Int32) × Nat
  | 0 => (rd, 0)
  | k + 1 => (upd (mg sg r o t rd k).1 (12 * t + k) (if tq sg ((mg sg r o t rd k).1 (12 * r + (mg sg r o t rd k).2)) ((mg sg r o t rd k).1 (12 * o + (k - (mg sg r o t rd k).2))) = 0 then (mg sg r o t rd k).1 (12 * o + (k - (mg sg r o t rd k).2)) else (mg sg r o t rd k).1 (12 * r + (mg sg r o t rd k).2)),
      if tq sg ((mg sg r o t rd k).1 (12 * r + (mg sg r o t rd k).2)) ((mg sg r o t rd k).1 (12 * o + (k - (mg sg r o t rd k).2))) = 0 then (mg sg r o t rd k).2 else (mg sg r o t rd k).2 + 1)
def sp_merge (x1 x2 x3 x4 : Int32) (σ : TS) : TV := sp (tv_in 8 x1 && tv_in 8 x2 && tv_in 8 x3) (tv_sg x4 && tv_os x1 x2 && tv_os x1 x3 && !(decide (x3 = x1)) && !(decide (x3 = x2))) (0, nI (mg x4 (tN x1) (tN x2) (tN x3) σ.1 12).2, ((mg x4 (tN x1) (tN x2) (tN x3) σ.1 12).1, σ.2)) σ
/-! THE WORLDS -/
abbrev tv_ty (cI cZ cL : ClassId) : List (ClassId × FieldType) := [(cI, .int), (cZ, .boolean), (cL, .long)]
/-- the cells of a TideHouse -/
abbrev tv_cw (cI cZ : ClassId) (h a1 a2 a3 a4 : Nat) (σ : TS) : va_W := [(h, .inr (0, [.ref a1, .ref a2, .ref a3, .ref a4])), (a1, .inl (cI, 96, .inl σ.1)), (a2, .inl (cI, 8, .inl σ.2.1)), (a3, .inl (cZ, 4, .inl σ.2.2.1)), (a4, .inl (cI, 8, .inl σ.2.2.2))]
/-- the cells of a TideHouseModel -/
abbrev tv_mw (cI cZ : ClassId) (h a1 a2 a3 a4 : Nat) (th : Int32) (σ : TS) : va_W := [(h, .inr (1, [.ref a1, .ref a2, .ref a3, .ref a4, .int th])), (a1, .inl (cI, 96, .inl σ.1)), (a2, .inl (cI, 8, .inl σ.2.1)), (a3, .inl (cZ, 4, .inl σ.2.2.1)), (a4, .inl (cI, 8, .inl σ.2.2.2))]
/-- what a method that only reads is given -/
def tv_Pw (D : va_G) (cI cZ cL : ClassId) (ws : va_W) (As : List Value) : Array Value → State → Prop := fun v U => v = As.toArray ∧ va_P D vwCl ws U.heap ∧ va_K D vwCl (tv_ty cI cZ cL) U
theorem tv_Pw.blind {D : va_G} {cI cZ cL : ClassId} {ws : va_W} {As : List Value} : FrameBlind (tv_Pw D cI cZ cL ws As) := fun a U g mk q => ⟨q.1, q.2.1, va_K.moved (u := U) (U := U.calling g mk a) (Vm.Alike.refl U.vm) q.2.2⟩
/-- nothing is returned, nothing changes -/
def tv_Void : Array Value → State → Outcome → State → Prop := fun _ st o t => o = .returned none ∧ t.heap = st.heap
section TVR
variable {p : Program} {l : Launch} {e : Env} {R : Room} {s : State} {m : MethodId} {args : Array Value} {below : List Frame} {meth : Method} {c : Code} {H : Heap} {locs : List Loc} {cells slots : Nat} {Q : State → Prop}
variable {cc : ByteArray} {pc : Nat} {ls : Array Slot} {rest : List Value} {D : va_G} {cl : List vw_C} {A : Nat → Prop} {a : Nat} {tys : List (ClassId × FieldType)} {ws : va_W} {H0 : Heap} {cI cZ cL : ClassId}
theorem tv_preS {As : List Value} (hP : va_P D vwCl ws H) (hK : va_K D vwCl (tv_ty cI cZ cL) s) : PreS s H (tv_Pw D cI cZ cL ws As) As := ⟨tv_Pw.blind, fun U hU hW => ⟨rfl, by rw [hU]; exact hP, va_K.moved hW.alike hK⟩⟩
theorem tv_preV {As : List Value} {b ci : Nat} {C : String} {T : u_T} {N : Nat} {fs : List Value} (hP : va_P D vwCl ws H) (hK : va_K D vwCl (tv_ty cI cZ cL) s) (hc : vwCl[ci]? = some (C, T, N)) (q0 : Nat) (he : ws[q0]? = some (b, .inr (ci, fs))) : PreV s H C b (tv_Pw D cI cZ cL ws (.ref b :: As)) As := ⟨tv_Pw.blind, va_recv hK hP hc he, fun U hU hW => ⟨rfl, by rw [hU]; exact hP, va_K.moved hW.alike hK⟩⟩
theorem tv_callv {g : JFrame} {a : Array Value} (hr : CallRun p l e R s m args below meth c H locs cells slots 0 0 g rest (tv_Void a) (fun _ => False)) (kk : W p l e R s m args below meth c H locs cells slots Q { g with pc := g.pc + 3, stack := rest }) : W p l e R s m args below meth c H locs cells slots Q g := by
  intro T hT X
  obtain ⟨v, st₀, t, T', L, h0, X', hL, e1, ⟨hv, hh⟩, st⟩ := hr T hT X
  cases hv
  obtain ⟨t2, a1, b1⟩ := kk T' (by rw [e1, hh, h0]) (Stand.forget X' (fun q h => (hL q h).elim))
  exact ⟨t2, st t2 a1, b1⟩
/-- an array's place, told as a natural number -/
theorem tv_iald (hexec : p.tables.exec = Jvm.exec) (hb : c.code = cc) (hK : va_K D cl tys s) (hP : va_P D cl ws H) (q0 t0 : Nat) {cA : ClassId} {n : Nat} {f : Nat → Int32} (ha : ws[q0]? = some (a, .inl (cA, n, .inl f))) (ht : tys[t0]? = some (cA, .int)) {k : Nat} (hk : k < n) (hn : n < 2 ^ 31) (hdg : decode cc pc = .ok (.iaload, 1))
    (kk : W p l e R s m args below meth c H locs cells slots Q (F0 m (pc + 1) ls (.int (f k) :: rest))) : W p l e R s m args below meth c H locs cells slots Q (F0 m pc ls (.int (nI k) :: .ref a :: rest)) :=
  va_iald hexec hb hK hP q0 t0 ha ht (vp_in_nI hk hn) hdg (by rw [nI_clamp (by omega)]; exact kk)
theorem tv_zald (hexec : p.tables.exec = Jvm.exec) (hb : c.code = cc) (hK : va_K D cl tys s) (hP : va_P D cl ws H) (q0 t0 : Nat) {cA : ClassId} {n : Nat} {f : Nat → Int32} (ha : ws[q0]? = some (a, .inl (cA, n, .inl f))) (ht : tys[t0]? = some (cA, .boolean)) {k : Nat} (hk : k < n) (hn : n < 2 ^ 31) (hdg : decode cc pc = .ok (.baload, 1))
    (kk : W p l e R s m args below meth c H locs cells slots Q (F0 m (pc + 1) ls (.int (f k) :: rest))) : W p l e R s m args below meth c H locs cells slots Q (F0 m pc ls (.int (nI k) :: .ref a :: rest)) :=
  va_zald hexec hb hK hP q0 t0 ha ht (vp_in_nI hk hn) hdg (by rw [nI_clamp (by omega)]; exact kk)
theorem tv_iast (hexec : p.tables.exec = Jvm.exec) (hb : c.code = cc) (hK : va_K D cl tys s) (hP : va_P D cl ws H) (hD : va_D A ws) (hS : va_S A H0 H locs) (q0 t0 : Nat) {cA : ClassId} {n : Nat} {f : Nat → Int32} (ha : ws[q0]? = some (a, .inl (cA, n, .inl f))) (ht : tys[t0]? = some (cA, .int)) {k : Nat} {x : Int32} (hk : k < n) (hn : n < 2 ^ 31) {ws1 : va_W} (hw : ws.set q0 (a, .inl (cA, n, .inl (upd f k x))) = ws1) (hdg : decode cc pc = .ok (.iastore, 1))
    (kk : ∀ (H1 : Heap) (locs1 : List Loc), va_P D cl ws1 H1 → va_D A ws1 → va_S A H0 H1 locs1 → W p l e R s m args below meth c H1 locs1 cells slots Q (F0 m (pc + 1) ls rest)) : W p l e R s m args below meth c H locs cells slots Q (F0 m pc ls (.int x :: .int (nI k) :: .ref a :: rest)) := by
  refine va_iast hexec hb hK hP hD hS q0 t0 ha ht (vp_in_nI hk hn) hdg fun H1 locs1 h1 h2 h3 => ?_
  rw [nI_clamp (by omega), hw] at h1 h2
  exact kk H1 locs1 h1 h2 h3
theorem tv_zast (hexec : p.tables.exec = Jvm.exec) (hb : c.code = cc) (hK : va_K D cl tys s) (hP : va_P D cl ws H) (hD : va_D A ws) (hS : va_S A H0 H locs) (q0 t0 : Nat) {cA : ClassId} {n : Nat} {f : Nat → Int32} (ha : ws[q0]? = some (a, .inl (cA, n, .inl f))) (ht : tys[t0]? = some (cA, .boolean)) {k : Nat} {x : Int32} (hx : x = 0 ∨ x = 1) (hk : k < n) (hn : n < 2 ^ 31) {ws1 : va_W} (hw : ws.set q0 (a, .inl (cA, n, .inl (upd f k x))) = ws1) (hdg : decode cc pc = .ok (.bastore, 1))
    (kk : ∀ (H1 : Heap) (locs1 : List Loc), va_P D cl ws1 H1 → va_D A ws1 → va_S A H0 H1 locs1 → W p l e R s m args below meth c H1 locs1 cells slots Q (F0 m (pc + 1) ls rest)) : W p l e R s m args below meth c H locs cells slots Q (F0 m pc ls (.int x :: .int (nI k) :: .ref a :: rest)) := by
  refine va_zast hexec hb hK hP hD hS q0 t0 ha ht (vp_in_nI hk hn) hdg fun H1 locs1 h1 h2 h3 => ?_
  have hx2 : vp_nar .boolean x = x := by rcases hx with rfl | rfl <;> rfl
  rw [nI_clamp (by omega), hx2, hw] at h1 h2
  exact kk H1 locs1 h1 h2 h3
/-- a boolean is returned -/
theorem tv_zret {Qc : Array Value → State → Outcome → State → Prop} {free : Addr → Prop} {v : Int32} (hexec : p.tables.exec = Jvm.exec) (hb : c.code = cc) (hr : meth.sig.returnType = some .boolean) (hv : v = 0 ∨ v = 1)
    (hq : ∀ t : State, t.heap = H → s.WarmedH t.vm → Qc args s (.returned (some (.int v))) t) (hf : ∀ q ∈ locs, free q.base) (hdg : decode cc pc = .ok (.ireturn, 1)) (hlocks : meth.locks = false) : W p l e R s m args below meth c H locs cells slots (MQ below Qc args s cells slots free) (F0 m pc ls [.int v]) :=
  W.zret hexec hb hr (by rcases hv with rfl | rfl <;> rfl) hq hf hdg hlocks
end TVR
