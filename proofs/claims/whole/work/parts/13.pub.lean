/-! A PUBLIC METHOD OF THE CLASS: it returns, or throws and changes nothing. -/
def tv_PP (D : va_G) (cI cZ cL : ClassId) (ws : va_W) (sz : Nat) (As : List Value) : Array Value → State → Prop := fun v U => v = As.toArray ∧ U.heap.size = sz ∧ va_P D vwCl ws U.heap ∧ va_K D vwCl (tv_ty cI cZ cL) U ∧ va_D (fun _ => True) ws ∧ tv_E (va_A ws sz) U U.heap
theorem tv_PP.blind {D : va_G} {cI cZ cL : ClassId} {ws : va_W} {sz : Nat} {As : List Value} : FrameBlind (tv_PP D cI cZ cL ws sz As) := fun a U g mk q => ⟨q.1, q.2.1, q.2.2.1, va_K.moved (u := U) (U := U.calling g mk a) (Vm.Alike.refl U.vm) q.2.2.2.1, q.2.2.2.2.1, tv_E.warm (s := U) (U := U.calling g mk a) (State.WarmedH.refl U) q.2.2.2.2.2⟩
abbrev tv_QP (D : va_G) (cI cZ cL : ClassId) (wf : TS → va_W) (ws : va_W) (sz : Nat) (V : TV) : Array Value → State → Outcome → State → Prop :=
  va_Qi (S := TS) (fun r u => V.1 = 0 ∧ r = V.2.1 ∧ u = V.2.2) (fun u t => va_P D vwCl (wf u) t.heap ∧ va_K D vwCl (tv_ty cI cZ cL) t ∧ va_D (va_A ws sz) (wf u)) (va_A ws sz)
abbrev tv_XP (V : TV) : String → State → State → Prop := vx_X (S := Unit) (fun _ => V.1 ≠ 0) (fun E _ _ => E = tv_en V.1) (fun _ => False)
abbrev tv_rmP : Room := { frames := 8, cells := 1, slots := 6, locals := 120 }
section TVP
variable {p : Program} {l : Launch} {e : Env} {R : Room} {s : State} {m : MethodId} {args : Array Value} {below : List Frame} {meth : Method} {c : Code} {H : Heap} {locs : List Loc} {Q : State → Prop} {pc : Nat} {ls : Array Slot} {st0 rest : List Value} {a : Array Value} {D : va_G} {cI cZ cL : ClassId} {ws0 : va_W} {wf : TS → va_W} {σ : TS} {V : TV} {sz : Nat} {cc : ByteArray} {A : Nat → Prop} {r : Int32}
theorem tv_iretP (hA : A = va_A ws0 sz) (hV : V = (0, r, σ)) (hexec : p.tables.exec = Jvm.exec) (hb : c.code = cc) (hr : meth.sig.returnType = some .int) (hP : va_P D vwCl (wf σ) H) (hK : va_K D vwCl (tv_ty cI cZ cL) s) (hD : va_D A (wf σ)) (hS : va_S A s.heap H locs) (hdg : decode cc pc = .ok (.ireturn, 1)) (hlocks : meth.locks = false) :
    W p l e R s m args below meth c H locs 0 0 (vx_MQ below (tv_QP D cI cZ cL wf ws0 sz V) (tv_XP V) args s 1 6 (va_A ws0 sz)) (F0 m pc ls [.int r]) := by
  subst hA
  subst hV
  refine vx_ret (W.widen (k := 1) (n := 6) (by omega) (by omega) ?_)
  exact W.iret (v := r) hexec hb hr (fun t ht hW => ⟨⟨r, σ, rfl, ⟨rfl, rfl, rfl⟩, by rw [ht]; exact hP, va_K.moved hW.alike hK, hD⟩, hS.F ht⟩) hS.2.2 hdg hlocks
theorem tv_zretP (h01 : r = 0 ∨ r = 1) (hA : A = va_A ws0 sz) (hV : V = (0, r, σ)) (hexec : p.tables.exec = Jvm.exec) (hb : c.code = cc) (hr : meth.sig.returnType = some .boolean) (hP : va_P D vwCl (wf σ) H) (hK : va_K D vwCl (tv_ty cI cZ cL) s) (hD : va_D A (wf σ)) (hS : va_S A s.heap H locs) (hdg : decode cc pc = .ok (.ireturn, 1)) (hlocks : meth.locks = false) :
    W p l e R s m args below meth c H locs 0 0 (vx_MQ below (tv_QP D cI cZ cL wf ws0 sz V) (tv_XP V) args s 1 6 (va_A ws0 sz)) (F0 m pc ls [.int r]) := by
  subst hA
  subst hV
  refine vx_ret (W.widen (k := 1) (n := 6) (by omega) (by omega) ?_)
  exact tv_zret (v := r) hexec hb hr h01 (fun t ht hW => ⟨⟨r, σ, rfl, ⟨rfl, rfl, rfl⟩, by rw [ht]; exact hP, va_K.moved hW.alike hK, hD⟩, hS.F ht⟩) hS.2.2 hdg hlocks
end TVP
theorem cn_s0 {p : Nat → Int32} {k : Nat} (h : p k = 0) : cn p (k + 1) = cn p k := by rw [cn, h]; simp
theorem cn_s1 {p : Nat → Int32} {k : Nat} (h : p k = 1) : cn p (k + 1) = cn p k + 1 := by rw [cn, h]
theorem kb_s0 {p : Nat → Int32} {k : Nat} (h : p k = 0) : kb p (k + 1) = kb p k := by rw [kb, if_pos h]
theorem kb_s1 {p : Nat → Int32} {k : Nat} (h : ¬ p k = 0) : kb p (k + 1) = kb p k ||| (1 <<< (nI k &&& 31)) := by rw [kb, if_neg h]
theorem tq1 {sg x y : Int32} (h : ¬ tq sg x y = 0) : tq sg x y = 1 := (tq01 sg x y).resolve_left h
theorem upd_same (f : Nat → Int32) (k : Nat) : upd f k (f k) = f := by
  funext j
  by_cases h : j = k
  · subst h; exact pk_us
  · exact pk_un h
theorem cn_congr {p q : Nat → Int32} : ∀ n : Nat, (∀ k, k < n → p k = q k) → cn p n = cn q n
  | 0, _ => rfl
  | n + 1, h => by rw [cn, cn, cn_congr n (fun k hk => h k (by omega)), h n (by omega)]
theorem cp_out (f t : Nat) (rd : Nat → Int32) : ∀ (k j : Nat), (j < 12 * t ∨ 12 * t + k ≤ j) → cp f t rd k j = rd j
  | 0, _, _ => rfl
  | k + 1, j, h => by rw [cp, pk_un (by omega)]; exact cp_out f t rd k j (by omega)
theorem cp_self (t : Nat) (rd : Nat → Int32) : ∀ k : Nat, cp t t rd k = rd
  | 0 => rfl
  | k + 1 => by rw [cp, upd_same]; exact cp_self t rd k
theorem cp_src {f t : Nat} (rd : Nat → Int32) {k : Nat} (h : k < 12) : cp f t rd k (12 * f + k) = rd (12 * f + k) := by
  by_cases e : f = t
  · subst e; rw [cp_self]
  · rcases Nat.lt_or_gt_of_ne e with q | q
    · exact cp_out f t rd k _ (Or.inl (by omega))
    · exact cp_out f t rd k _ (Or.inr (by omega))
theorem cp_in {f t : Nat} (rd : Nat → Int32) : ∀ (m j : Nat), j < m → m ≤ 12 → cp f t rd m (12 * t + j) = rd (12 * f + j)
  | 0, j, h, _ => absurd h (Nat.not_lt_zero j)
  | m + 1, j, h, h2 => by
    by_cases e : j = m
    · subst e; rw [cp, pk_us]; exact cp_src rd (by omega)
    · rw [cp, pk_un (by omega)]; exact cp_in rd m j (by omega) (by omega)
theorem pck_le (sg : Int32) (rw : Nat → Int32) : ∀ k : Nat, pck sg rw k ≤ k
  | 0 => Nat.le_refl 0
  | k + 1 => by
    rw [pck]
    split
    · exact Nat.le_succ_of_le (pck_le sg rw k)
    · exact Nat.le_refl _
theorem mg_le (sg : Int32) (r o t : Nat) (rd : Nat → Int32) : ∀ k : Nat, (mg sg r o t rd k).2 ≤ k
  | 0 => Nat.le_refl 0
  | k + 1 => by
    have h := mg_le sg r o t rd k
    rw [mg]
    dsimp only
    split <;> omega
theorem al_s {p : Nat → Prop} {d : ∀ k, Decidable (p k)} {k : Nat} (h : al p d k = 1) (hp : p k) : al p d (k + 1) = 1 := by rw [al, h, if_neg (by decide), if_pos hp]
theorem al_f {p : Nat → Prop} {d : ∀ k, Decidable (p k)} {k : Nat} (hp : ¬ p k) : ∀ n : Nat, al p d (k + 1 + n) = 0
  | 0 => by
    show al p d (k + 1) = 0
    rw [al, if_neg hp]
    split <;> rfl
  | n + 1 => by rw [show k + 1 + (n + 1) = (k + 1 + n) + 1 from rfl, al, al_f hp n, if_pos rfl]
theorem al01 {p : Nat → Prop} {d : ∀ k, Decidable (p k)} : ∀ n : Nat, al p d n = 0 ∨ al p d n = 1
  | 0 => Or.inr rfl
  | n + 1 => by
    rw [al]
    split
    · exact Or.inl rfl
    · split
      · exact Or.inr rfl
      · exact Or.inl rfl
