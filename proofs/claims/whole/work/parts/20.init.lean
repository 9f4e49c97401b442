/-- k places filled -/
def fl (x : Int32) (f : Nat → Int32) : Nat → Nat → Int32
  | 0 => f
  | k + 1 => upd (fl x f k) k x
abbrev tv_Qn (D : va_G) (cI cZ cL : ClassId) (wf : Nat × Nat × Nat × Nat → va_W) (ws : va_W) (sz : Nat) : Array Value → State → Outcome → State → Prop :=
  va_Qv (S := Nat × Nat × Nat × Nat) (fun _ => True) (fun u t => va_P D vwCl (wf u) t.heap ∧ va_K D vwCl (tv_ty cI cZ cL) t ∧ va_D (va_A ws sz) (wf u)) (va_A ws sz)
section TVN
variable {p : Program} {l : Launch} {e : Env} {R : Room} {s : State} {m : MethodId} {args : Array Value} {below : List Frame} {meth : Method} {c : Code} {H : Heap} {locs : List Loc} {cells slots : Nat} {Q : State → Prop}
variable {cc : ByteArray} {pc : Nat} {ls : Array Slot} {rest : List Value} {D : va_G} {cl : List vw_C} {A : Nat → Prop} {a : Nat} {tys : List (ClassId × FieldType)} {ws : va_W} {H0 : Heap}
theorem tv_newa (hexec : p.tables.exec = Jvm.exec) (hb : c.code = cc) {atype : ArrayType} (harr : (Cond.arrayClass (newarray.typeOf atype)).before args s = true) {ty : FieldType} (hty : newarray.typeOf atype = ty) (hK : va_K D cl tys s) (hP : va_P D cl ws H) (hD : va_D A ws) (hS : va_S A H0 H locs) (hA : ∀ q, H0.size ≤ q → A q)
    {n : Int32} {N' : Nat} {a0 : vp_A} (ha : ∀ cA : ClassId, vp_cell cA a0 = arrV cA N' (fun _ => defaultValue ty)) (hn : ¬ n < 0) (hN : n.toNatClampNeg = N') (hbytes : N' * componentBytes ty ≤ 536870912) (hcells : cells + 1 ≤ R.cells) (hslots : slots + N' ≤ R.slots) (hdg : decode cc pc = .ok (.newarray atype, 2))
    (t0 : Nat) {cA : ClassId} (ht : tys[t0]? = some (cA, ty)) (hu : ∀ c1 c2 : ClassId, va_RA s c1 ty → va_RA s c2 ty → c1 = c2)
    (kk : ∀ (q : Nat) (H1 : Heap), va_P D cl (ws ++ [(q, .inl (cA, a0))]) H1 → va_D A (ws ++ [(q, .inl (cA, a0))]) → va_S A H0 H1 locs →
      W p l e R s m args below meth c H1 locs (cells + 1) (slots + N') Q (F0 m (pc + 2) ls (.ref q :: rest))) : W p l e R s m args below meth c H locs cells slots Q (F0 m pc ls (.int n :: rest)) := by
  refine va_newa hexec hb harr hty hK hP hD hS hA ha hn hN hbytes hcells hslots hdg (fun q cB H1 hK1 hP1 hD1 hS1 => ?_)
  have e9 : cB = cA := hu _ _ (hK1.2 tys.length (cB, ty) (by simp)).2 (hK.2 t0 _ ht).2
  subst e9
  exact kk q H1 hP1 hD1 hS1
end TVN
theorem tv_u {s : State} {ty : FieldType} (h : ∀ c : ClassId, va_RA s c ty = (s.vm.findClass ("[" ++ ty.toString) = some c)) : ∀ c1 c2 : ClassId, va_RA s c1 ty → va_RA s c2 ty → c1 = c2 := fun c1 c2 h1 h2 => by
  rw [h] at h1 h2
  exact Option.some.inj (h1.symm.trans h2)
set_option maxHeartbeats 4000000 in
set_option maxRecDepth 100000 in
theorem c_J7_fill_53178 (l : Launch) (D : va_G) (cI cZ cL : ClassId) (a n : Nat) (sz : Nat) (f F : Nat → Int32) (x : Int32) (hn : n < 2 ^ 31) (hF : fl x f n = F) : Met l yJ7_fill_53178 wsJ7_fill_53178 ({ frames := 0, cells := 0, slots := 0, locals := 0 } : Room) (tv_Pd D cI cZ cL [(a, .inl (cI, n, .inl f))] sz [.ref a, .int x]) (tv_Qwv D cI cZ cL [(a, .inl (cI, n, .inl f))] sz [(a, .inl (cI, n, .inl F))]) 0 0 (va_A [(a, .inl (cI, n, .inl f))] sz) := by
  refine Met.ofW (cc := cJ7_fill_53178) (maxL := 4) (ret := none) (by decide) rfl ?_
  intro p e s m args below meth c s₁ B hml hv
  obtain ⟨rfl, hsz, hP, hK, hD0⟩ := hv
  subst hsz
  have hx := B.exec
  have hb := B.bytes
  have hr := B.returns
  have hts := atoms_spec (ws := wsJ7_fill_53178) B.pre
  have hown : s.vm.findClass RJ7 = some m.cls := findClass_of_methodNamed B.named
  have hlocks := B.notSynchronized
  have hD := hD0.self (sz := s.heap.size)
  obtain ⟨A, hAe⟩ : ∃ A, A = va_A [(a, .inl (cI, n, .inl f))] s.heap.size := ⟨_, rfl⟩
  rw [← hAe] at hD
  have hA : ∀ q : Nat, s.heap.size ≤ q → A q := fun q h => by rw [hAe]; exact Or.inr h
  have hS : va_S A s.heap s.heap [] := va_S.rf
  clear hD0
  have hl := lv_entry ([.ref a, .int x]) (n := 4) (Nat.le_of_ble_eq_true rfl)
  rw [lg_entry_eq]
  generalize (lg_sl ([.ref a, .int x]) ++ List.replicate (4 - (lg_sl ([.ref a, .int x])).length) Slot.unset).toArray = ls at hl ⊢
  have hl : lv_has ls 4 [(0, .ref a), (1, .int x)] := hl
  refine lv_iconst (v := 0) hx hb dJ7_fill_53178_0 (by decide) ?_
  refine lv_istore_n (lv' := [(2, .int 0), (0, .ref a), (1, .int x)]) hx hb dJ7_fill_53178_1 rfl hl (by decide) rfl (fun ls hl => ?_)
  refine lv_aload_n hx hb dJ7_fill_53178_2 rfl (lv_at hl 1 rfl) ?_
  refine va_alen (D := D) (v := nI n) hx hb hK hP 0 0 rfl rfl rfl dJ7_fill_53178_3 ?_
  refine lv_istore_n (lv' := [(3, .int (nI n)), (2, .int 0), (0, .ref a), (1, .int x)]) hx hb dJ7_fill_53178_4 rfl hl (by decide) rfl (fun ls hl => ?_)
  have loop : ∀ (j k : Nat), k + j = n → ∀ (H : Heap) (locs : List Loc), va_P D vwCl [(a, .inl (cI, n, .inl (fl x f k)))] H → va_D A [(a, .inl (cI, n, .inl (fl x f k)))] → va_S A s.heap H locs → ∀ ls : Array Slot, lv_has ls 4 [(0, .ref a), (1, .int x), (2, .int (nI k)), (3, .int (nI n))] → W p l e (headSpec wsJ7_fill_53178 ({ frames := 0, cells := 0, slots := 0, locals := 0 } : Room)).room s m ([.ref a, .int x] : List Value).toArray below meth c H locs 0 0 (MQ below (tv_Qwv D cI cZ cL [(a, .inl (cI, n, .inl f))] s.heap.size [(a, .inl (cI, n, .inl F))]) ([.ref a, .int x] : List Value).toArray s 0 0 (va_A [(a, .inl (cI, n, .inl f))] s.heap.size)) (F0 m 5 ls []) := by
    intro j
    induction j with
    | zero =>
      intro k hk H locs hP hD hS ls hl
      have hk2 : k = n := by omega
      rw [hk2] at hP hD hl
      refine lv_iload_n hx hb dJ7_fill_53178_5 rfl (lv_at hl 2 rfl) ?_
      refine lv_iload_n hx hb dJ7_fill_53178_6 rfl (lv_at hl 3 rfl) ?_
      refine lv_icmp_ge (tgt := 20) hx hb dJ7_fill_53178_7 (by decide) (fun c_1 => ?_) (fun c_1 => ?_)
      · rw [hF] at hP hD
        exact tv_vretW hAe hx hb hr hP hK hD hS dJ7_fill_53178_20 hlocks
      · exact absurd (nI_le (Nat.le_refl _) (by omega)) c_1
    | succ j ih =>
      intro k hk H locs hP hD hS ls hl
      refine lv_iload_n hx hb dJ7_fill_53178_5 rfl (lv_at hl 2 rfl) ?_
      refine lv_iload_n hx hb dJ7_fill_53178_6 rfl (lv_at hl 3 rfl) ?_
      refine lv_icmp_ge (tgt := 20) hx hb dJ7_fill_53178_7 (by decide) (fun c_2 => ?_) (fun c_2 => ?_)
      · exact absurd c_2 (nI_ge (by omega) (by omega))
      · skip
        refine lv_aload_n hx hb dJ7_fill_53178_10 rfl (lv_at hl 0 rfl) ?_
        refine lv_iload_n hx hb dJ7_fill_53178_11 rfl (lv_at hl 2 rfl) ?_
        refine lv_iload_n hx hb dJ7_fill_53178_12 rfl (lv_at hl 1 rfl) ?_
        refine tv_iast (D := D) (cA := cI) (n := n) (f := fl x f k) (k := k) (x := x) (ws1 := [(a, .inl (cI, n, .inl (upd (fl x f k) k x)))]) hx hb hK hP hD hS 0 0 rfl rfl (by omega) (by omega) rfl dJ7_fill_53178_13 (fun H locs hP hD hS => ?_)
        refine lv_iinc (v := nI (k + 1)) (lv' := [(2, .int (nI (k + 1))), (0, .ref a), (1, .int x), (3, .int (nI n))]) hx hb dJ7_fill_53178_14 hl (k := 2) rfl (nI_1 k) (by decide) rfl (fun ls hl => ?_)
        refine lv_goto (tgt := 5) hx hb dJ7_fill_53178_17 (by decide) ?_
        exact ih (k + 1) (by omega) H locs hP hD hS ls (lv_sub hl [1, 2, 0, 3] rfl)
  exact loop n 0 (by omega) s.heap [] hP hD hS ls (by rw [show nI 0 = 0 from nI_0]; exact lv_sub hl [2, 3, 1, 0] rfl)
theorem iX0_init : ∀ w ∈ wsX00, w ∈ wsX0_init := by decide +kernel
set_option maxHeartbeats 1000000 in
set_option maxRecDepth 100000 in
theorem c_X0_init (l : Launch) (D : va_G) (cI cZ cL : ClassId) (h sz : Nat) (F1 F2 : Nat → Int32) (hF1 : fl (-2147483648) (fun _ => 0) 96 = F1) (hF2 : fl (-2147483648) (fun _ => 0) 8 = F2) : Met l yX0_init wsX0_init ({ frames := 2, cells := 4, slots := 116, locals := 40 } : Room) (tv_Pd D cI cZ cL [(h, .inr (0, [.null, .null, .null, .null]))] sz [.ref h]) (tv_Qn D cI cZ cL (fun u : Nat × Nat × Nat × Nat => tv_cw cI cZ h u.1 u.2.1 u.2.2.1 u.2.2.2 (F1, F2, fun _ => 0, fun _ => 0)) [(h, .inr (0, [.null, .null, .null, .null]))] sz) 4 116 (va_A [(h, .inr (0, [.null, .null, .null, .null]))] sz) := by
  refine Met.ofW (cc := cX0_init) (maxL := 1) (ret := none) (by decide) rfl ?_
  intro p e s m args below meth c s₁ B hml hv
  obtain ⟨rfl, hsz, hP, hK, hD0⟩ := hv
  subst hsz
  have hx := B.exec
  have hb := B.bytes
  have hr := B.returns
  have hts := atoms_spec (ws := wsX0_init) B.pre
  have hown : s.vm.findClass RX0 = some m.cls := findClass_of_methodNamed B.named
  have hlocks := B.notSynchronized
  have hin : meth.name = "<init>" := (name_of_methodNamed B.named B.method).1
  have hD := hD0.self (sz := s.heap.size)
  obtain ⟨A, hAe⟩ : ∃ A, A = va_A [(h, .inr (0, [.null, .null, .null, .null]))] s.heap.size := ⟨_, rfl⟩
  rw [← hAe] at hD
  have hA : ∀ q : Nat, s.heap.size ≤ q → A q := fun q h => by rw [hAe]; exact Or.inr h
  have hS : va_S A s.heap s.heap [] := va_S.rf
  clear hD0
  have hl := lv_entry ([.ref h]) (n := 1) (Nat.le_of_ble_eq_true rfl)
  rw [lg_entry_eq]
  generalize (lg_sl ([.ref h]) ++ List.replicate (1 - (lg_sl ([.ref h])).length) Slot.unset).toArray = ls at hl ⊢
  have hl : lv_has ls 1 [(0, .ref h)] := hl
  refine lv_aload_n hx hb dX0_init_0 rfl (lv_at hl 0 rfl) ?_
  refine W.objInit hx hb hown (hts (.methodLink RX0 1 objectInit) (by decide +kernel)) (hts (.instanceMethod objectInit) (by decide +kernel)) (hts (.code objectInit ⟨#[0xb1]⟩ 1 none) (by decide +kernel)) rfl (by rw [hml]; exact hl.1) rfl dX0_init_1 (Nat.le_of_ble_eq_true rfl) (Nat.le_of_ble_eq_true rfl) ?_
  refine W.eq (g2 := F0 m 4 ls []) rfl ?_
  refine lv_aload_n hx hb dX0_init_4 rfl (lv_at hl 0 rfl) ?_
  refine lv_bipush (v := 96) hx hb dX0_init_5 (by decide) ?_
  refine tv_newa (D := D) (atype := .int) (cA := cI) (n := 96) (N' := 96) (a0 := (96, .inl (fun _ => 0))) (ty := .int) hx hb (hts (.arrayClass .int) (by decide +kernel)) rfl hK hP hD hS hA (fun cA => vp_cell_i cA 96 (fun _ => 0)) (by decide +kernel) (by decide +kernel) (by decide +kernel) (show 0 + 1 ≤ 4 from by omega) (show 0 + 96 ≤ 116 from by omega) dX0_init_7 0 rfl (tv_u (fun _ => rfl)) (fun q1 H hP hD hS => ?_)
  have hP : va_P D vwCl [(h, .inr (0, [.null, .null, .null, .null])), (q1, .inl (cI, 96, .inl (fun _ => 0)))] H := hP
  have hD : va_D A [(h, .inr (0, [.null, .null, .null, .null])), (q1, .inl (cI, 96, .inl (fun _ => 0)))] := hD
  refine W.widen (k := 1) (n := 96) (by omega) (by omega) ?_
  refine va_putF (D := D) (ci := 0) (v := .ref q1) (ty := .array .int) (C := RX0) (T := TX0) (N := 4) hx hb hts iX0_init tyX0 tyX0_ok nmX0 hown hK hP hD hS 0 rfl rfl 0 (by decide) (hts (.fieldLink RX0 9 "TideHouse" "readings" "[I") (by decide +kernel)) (fun _ h9 => h9) rfl hin rfl (by decide +kernel) rfl rfl (Nat.le_of_ble_eq_true rfl) dX0_init_9 (fun H locs hP hD hS => ?_)
  have hP : va_P D vwCl [(h, .inr (0, [.ref q1, .null, .null, .null])), (q1, .inl (cI, 96, .inl (fun _ => 0)))] H := hP
  have hD : va_D A [(h, .inr (0, [.ref q1, .null, .null, .null])), (q1, .inl (cI, 96, .inl (fun _ => 0)))] := hD
  refine lv_aload_n hx hb dX0_init_12 rfl (lv_at hl 0 rfl) ?_
  refine lv_bipush (v := 8) hx hb dX0_init_13 (by decide) ?_
  refine tv_newa (D := D) (atype := .int) (cA := cI) (n := 8) (N' := 8) (a0 := (8, .inl (fun _ => 0))) (ty := .int) hx hb (hts (.arrayClass .int) (by decide +kernel)) rfl hK hP hD hS hA (fun cA => vp_cell_i cA 8 (fun _ => 0)) (by decide +kernel) (by decide +kernel) (by decide +kernel) (show 1 + 1 ≤ 4 from by omega) (show 96 + 8 ≤ 116 from by omega) dX0_init_15 0 rfl (tv_u (fun _ => rfl)) (fun q2 H hP hD hS => ?_)
  have hP : va_P D vwCl [(h, .inr (0, [.ref q1, .null, .null, .null])), (q1, .inl (cI, 96, .inl (fun _ => 0))), (q2, .inl (cI, 8, .inl (fun _ => 0)))] H := hP
  have hD : va_D A [(h, .inr (0, [.ref q1, .null, .null, .null])), (q1, .inl (cI, 96, .inl (fun _ => 0))), (q2, .inl (cI, 8, .inl (fun _ => 0)))] := hD
  refine W.widen (k := 2) (n := 104) (by omega) (by omega) ?_
  refine va_putF (D := D) (ci := 0) (v := .ref q2) (ty := .array .int) (C := RX0) (T := TX0) (N := 4) hx hb hts iX0_init tyX0 tyX0_ok nmX0 hown hK hP hD hS 0 rfl rfl 1 (by decide) (hts (.fieldLink RX0 13 "TideHouse" "levels" "[I") (by decide +kernel)) (fun _ h9 => h9) rfl hin rfl (by decide +kernel) rfl rfl (Nat.le_of_ble_eq_true rfl) dX0_init_17 (fun H locs hP hD hS => ?_)
  have hP : va_P D vwCl [(h, .inr (0, [.ref q1, .ref q2, .null, .null])), (q1, .inl (cI, 96, .inl (fun _ => 0))), (q2, .inl (cI, 8, .inl (fun _ => 0)))] H := hP
  have hD : va_D A [(h, .inr (0, [.ref q1, .ref q2, .null, .null])), (q1, .inl (cI, 96, .inl (fun _ => 0))), (q2, .inl (cI, 8, .inl (fun _ => 0)))] := hD
  refine lv_aload_n hx hb dX0_init_20 rfl (lv_at hl 0 rfl) ?_
  refine lv_iconst (v := 4) hx hb dX0_init_21 (by decide) ?_
  refine tv_newa (D := D) (atype := .boolean) (cA := cZ) (n := 4) (N' := 4) (a0 := (4, .inl (fun _ => 0))) (ty := .boolean) hx hb (hts (.arrayClass .boolean) (by decide +kernel)) rfl hK hP hD hS hA (fun cA => vp_cell_i cA 4 (fun _ => 0)) (by decide +kernel) (by decide +kernel) (by decide +kernel) (show 2 + 1 ≤ 4 from by omega) (show 104 + 4 ≤ 116 from by omega) dX0_init_22 1 rfl (tv_u (fun _ => rfl)) (fun q3 H hP hD hS => ?_)
  have hP : va_P D vwCl [(h, .inr (0, [.ref q1, .ref q2, .null, .null])), (q1, .inl (cI, 96, .inl (fun _ => 0))), (q2, .inl (cI, 8, .inl (fun _ => 0))), (q3, .inl (cZ, 4, .inl (fun _ => 0)))] H := hP
  have hD : va_D A [(h, .inr (0, [.ref q1, .ref q2, .null, .null])), (q1, .inl (cI, 96, .inl (fun _ => 0))), (q2, .inl (cI, 8, .inl (fun _ => 0))), (q3, .inl (cZ, 4, .inl (fun _ => 0)))] := hD
  refine W.widen (k := 3) (n := 108) (by omega) (by omega) ?_
  refine va_putF (D := D) (ci := 0) (v := .ref q3) (ty := .array .boolean) (C := RX0) (T := TX0) (N := 4) hx hb hts iX0_init tyX0 tyX0_ok nmX0 hown hK hP hD hS 0 rfl rfl 2 (by decide) (hts (.fieldLink RX0 16 "TideHouse" "open" "[Z") (by decide +kernel)) (fun _ h9 => h9) rfl hin rfl (by decide +kernel) rfl rfl (Nat.le_of_ble_eq_true rfl) dX0_init_24 (fun H locs hP hD hS => ?_)
  have hP : va_P D vwCl [(h, .inr (0, [.ref q1, .ref q2, .ref q3, .null])), (q1, .inl (cI, 96, .inl (fun _ => 0))), (q2, .inl (cI, 8, .inl (fun _ => 0))), (q3, .inl (cZ, 4, .inl (fun _ => 0)))] H := hP
  have hD : va_D A [(h, .inr (0, [.ref q1, .ref q2, .ref q3, .null])), (q1, .inl (cI, 96, .inl (fun _ => 0))), (q2, .inl (cI, 8, .inl (fun _ => 0))), (q3, .inl (cZ, 4, .inl (fun _ => 0)))] := hD
  refine lv_aload_n hx hb dX0_init_27 rfl (lv_at hl 0 rfl) ?_
  refine lv_bipush (v := 8) hx hb dX0_init_28 (by decide) ?_
  refine tv_newa (D := D) (atype := .int) (cA := cI) (n := 8) (N' := 8) (a0 := (8, .inl (fun _ => 0))) (ty := .int) hx hb (hts (.arrayClass .int) (by decide +kernel)) rfl hK hP hD hS hA (fun cA => vp_cell_i cA 8 (fun _ => 0)) (by decide +kernel) (by decide +kernel) (by decide +kernel) (show 3 + 1 ≤ 4 from by omega) (show 108 + 8 ≤ 116 from by omega) dX0_init_30 0 rfl (tv_u (fun _ => rfl)) (fun q4 H hP hD hS => ?_)
  have hP : va_P D vwCl [(h, .inr (0, [.ref q1, .ref q2, .ref q3, .null])), (q1, .inl (cI, 96, .inl (fun _ => 0))), (q2, .inl (cI, 8, .inl (fun _ => 0))), (q3, .inl (cZ, 4, .inl (fun _ => 0))), (q4, .inl (cI, 8, .inl (fun _ => 0)))] H := hP
  have hD : va_D A [(h, .inr (0, [.ref q1, .ref q2, .ref q3, .null])), (q1, .inl (cI, 96, .inl (fun _ => 0))), (q2, .inl (cI, 8, .inl (fun _ => 0))), (q3, .inl (cZ, 4, .inl (fun _ => 0))), (q4, .inl (cI, 8, .inl (fun _ => 0)))] := hD
  refine W.widen (k := 4) (n := 116) (by omega) (by omega) ?_
  refine va_putF (D := D) (ci := 0) (v := .ref q4) (ty := .array .int) (C := RX0) (T := TX0) (N := 4) hx hb hts iX0_init tyX0 tyX0_ok nmX0 hown hK hP hD hS 0 rfl rfl 3 (by decide) (hts (.fieldLink RX0 20 "TideHouse" "rowNotes" "[I") (by decide +kernel)) (fun _ h9 => h9) rfl hin rfl (by decide +kernel) rfl rfl (Nat.le_of_ble_eq_true rfl) dX0_init_32 (fun H locs hP hD hS => ?_)
  have hP : va_P D vwCl [(h, .inr (0, [.ref q1, .ref q2, .ref q3, .ref q4])), (q1, .inl (cI, 96, .inl (fun _ => 0))), (q2, .inl (cI, 8, .inl (fun _ => 0))), (q3, .inl (cZ, 4, .inl (fun _ => 0))), (q4, .inl (cI, 8, .inl (fun _ => 0)))] H := hP
  have hD : va_D A [(h, .inr (0, [.ref q1, .ref q2, .ref q3, .ref q4])), (q1, .inl (cI, 96, .inl (fun _ => 0))), (q2, .inl (cI, 8, .inl (fun _ => 0))), (q3, .inl (cZ, 4, .inl (fun _ => 0))), (q4, .inl (cI, 8, .inl (fun _ => 0)))] := hD
  have hP : va_P D vwCl (tv_cw cI cZ h q1 q2 q3 q4 ((fun _ => 0 : Nat → Int32), (fun _ => 0 : Nat → Int32), (fun _ => 0 : Nat → Int32), (fun _ => 0 : Nat → Int32))) H := hP
  have hD : va_D A (tv_cw cI cZ h q1 q2 q3 q4 ((fun _ => 0 : Nat → Int32), (fun _ => 0 : Nat → Int32), (fun _ => 0 : Nat → Int32), (fun _ => 0 : Nat → Int32))) := hD
  refine lv_aload_n hx hb dX0_init_35 rfl (lv_at hl 0 rfl) ?_
  refine va_get (D := D) (ci := 0) (v := .ref q1) (C := RX0) (T := TX0) (N := 4) hx hb hts iX0_init hown hK hP 0 rfl rfl 0 (by decide) (hts (.fieldLink RX0 9 "TideHouse" "readings" "[I") (by decide +kernel)) (fun _ h9 => h9) rfl dX0_init_36 ?_
  refine lv_ldc (v := -2147483648) hx hb hown (hts (.constant RX0 23 (-2147483648)) (by decide +kernel)) dX0_init_39 ?_
  refine tv_callWv (D := D) (mc := 0) (ms := 0) (ws := tv_cw cI cZ h q1 q2 q3 q4 ((fun _ => 0 : Nat → Int32), (fun _ => 0 : Nat → Int32), (fun _ => 0 : Nat → Int32), (fun _ => 0 : Nat → Int32))) (wc := [(q1, .inl (cI, 96, .inl ((fun _ => 0 : Nat → Int32))))]) (wr := [(h, .inr (0, [.ref q1, .ref q2, .ref q3, .ref q4])), (q2, .inl (cI, 8, .inl ((fun _ => 0 : Nat → Int32)))), (q3, .inl (cZ, 4, .inl ((fun _ => 0 : Nat → Int32)))), (q4, .inl (cI, 8, .inl ((fun _ => 0 : Nat → Int32))))]) (wc' := [(q1, .inl (cI, 96, .inl (F1)))]) (wsN := tv_cw cI cZ h q1 q2 q3 q4 (F1, (fun _ => 0 : Nat → Int32), (fun _ => 0 : Nat → Int32), (fun _ => 0 : Nat → Int32))) (va_runS (As := [.ref q1, .int (-2147483648)]) (rest := []) ⟨hx, hb, hml, hown, hts⟩ (c_J7_fill_53178 l D cI cZ cL q1 96 H.size (fun _ => 0 : Nat → Int32) F1 (-2147483648) (by omega) hF1) (va_cwS 2 hts gX0_init_J7_fill_53178 rfl rfl rfl (by decide +kernel) ⟨Nat.le_of_ble_eq_true rfl, Nat.le_of_ble_eq_true rfl⟩) (tv_preD hP hK hD [1] rfl rfl rfl) rfl rfl hl.1 rfl (lv_room (Nat.le_of_ble_eq_true rfl)) dX0_init_41 ⟨Nat.le_of_ble_eq_true rfl, Nat.le_of_ble_eq_true rfl⟩) hP hD hS hA [1] [0, 2, 3, 4] rfl rfl rfl (by decide) [0, 4, 1, 2, 3] rfl rfl rfl (fun H locs hP hD hS => ?_)
  refine lv_aload_n hx hb dX0_init_44 rfl (lv_at hl 0 rfl) ?_
  refine va_get (D := D) (ci := 0) (v := .ref q2) (C := RX0) (T := TX0) (N := 4) hx hb hts iX0_init hown hK hP 0 rfl rfl 1 (by decide) (hts (.fieldLink RX0 13 "TideHouse" "levels" "[I") (by decide +kernel)) (fun _ h9 => h9) rfl dX0_init_45 ?_
  refine lv_ldc (v := -2147483648) hx hb hown (hts (.constant RX0 23 (-2147483648)) (by decide +kernel)) dX0_init_48 ?_
  refine tv_callWv (D := D) (mc := 0) (ms := 0) (ws := tv_cw cI cZ h q1 q2 q3 q4 (F1, (fun _ => 0 : Nat → Int32), (fun _ => 0 : Nat → Int32), (fun _ => 0 : Nat → Int32))) (wc := [(q2, .inl (cI, 8, .inl ((fun _ => 0 : Nat → Int32))))]) (wr := [(h, .inr (0, [.ref q1, .ref q2, .ref q3, .ref q4])), (q1, .inl (cI, 96, .inl (F1))), (q3, .inl (cZ, 4, .inl ((fun _ => 0 : Nat → Int32)))), (q4, .inl (cI, 8, .inl ((fun _ => 0 : Nat → Int32))))]) (wc' := [(q2, .inl (cI, 8, .inl (F2)))]) (wsN := tv_cw cI cZ h q1 q2 q3 q4 (F1, F2, (fun _ => 0 : Nat → Int32), (fun _ => 0 : Nat → Int32))) (va_runS (As := [.ref q2, .int (-2147483648)]) (rest := []) ⟨hx, hb, hml, hown, hts⟩ (c_J7_fill_53178 l D cI cZ cL q2 8 H.size (fun _ => 0 : Nat → Int32) F2 (-2147483648) (by omega) hF2) (va_cwS 2 hts gX0_init_J7_fill_53178 rfl rfl rfl (by decide +kernel) ⟨Nat.le_of_ble_eq_true rfl, Nat.le_of_ble_eq_true rfl⟩) (tv_preD hP hK hD [2] rfl rfl rfl) rfl rfl hl.1 rfl (lv_room (Nat.le_of_ble_eq_true rfl)) dX0_init_50 ⟨Nat.le_of_ble_eq_true rfl, Nat.le_of_ble_eq_true rfl⟩) hP hD hS hA [2] [0, 1, 3, 4] rfl rfl rfl (by decide) [0, 1, 4, 2, 3] rfl rfl rfl (fun H locs hP hD hS => ?_)
  refine W.vret hx hb hr (fun t ht hW => ⟨⟨(q1, q2, q3, q4), rfl, trivial, by rw [ht]; exact hP, va_K.moved hW.alike hK, by rw [← hAe]; exact hD⟩, by rw [← hAe]; exact hS.F ht⟩) (by rw [← hAe]; exact hS.2.2) dX0_init_53 hlocks
theorem iX1_init : ∀ w ∈ wsX10, w ∈ wsX1_init := by decide +kernel
set_option maxHeartbeats 1000000 in
set_option maxRecDepth 100000 in
theorem c_X1_init (l : Launch) (D : va_G) (cI cZ cL : ClassId) (h sz : Nat) (F1 F2 : Nat → Int32) (hF1 : fl (-2147483648) (fun _ => 0) 96 = F1) (hF2 : fl (-2147483648) (fun _ => 0) 8 = F2) : Met l yX1_init wsX1_init ({ frames := 2, cells := 4, slots := 116, locals := 40 } : Room) (tv_Pd D cI cZ cL [(h, .inr (1, [.null, .null, .null, .null, .int 0]))] sz [.ref h]) (tv_Qn D cI cZ cL (fun u : Nat × Nat × Nat × Nat => tv_mw cI cZ h u.1 u.2.1 u.2.2.1 u.2.2.2 0 (F1, F2, fun _ => 0, fun _ => 0)) [(h, .inr (1, [.null, .null, .null, .null, .int 0]))] sz) 4 116 (va_A [(h, .inr (1, [.null, .null, .null, .null, .int 0]))] sz) := by
  refine Met.ofW (cc := cX1_init) (maxL := 2) (ret := none) (by decide) rfl ?_
  intro p e s m args below meth c s₁ B hml hv
  obtain ⟨rfl, hsz, hP, hK, hD0⟩ := hv
  subst hsz
  have hx := B.exec
  have hb := B.bytes
  have hr := B.returns
  have hts := atoms_spec (ws := wsX1_init) B.pre
  have hown : s.vm.findClass RX1 = some m.cls := findClass_of_methodNamed B.named
  have hlocks := B.notSynchronized
  have hin : meth.name = "<init>" := (name_of_methodNamed B.named B.method).1
  have hD := hD0.self (sz := s.heap.size)
  obtain ⟨A, hAe⟩ : ∃ A, A = va_A [(h, .inr (1, [.null, .null, .null, .null, .int 0]))] s.heap.size := ⟨_, rfl⟩
  rw [← hAe] at hD
  have hA : ∀ q : Nat, s.heap.size ≤ q → A q := fun q h => by rw [hAe]; exact Or.inr h
  have hS : va_S A s.heap s.heap [] := va_S.rf
  clear hD0
  have hl := lv_entry ([.ref h]) (n := 2) (Nat.le_of_ble_eq_true rfl)
  rw [lg_entry_eq]
  generalize (lg_sl ([.ref h]) ++ List.replicate (2 - (lg_sl ([.ref h])).length) Slot.unset).toArray = ls at hl ⊢
  have hl : lv_has ls 2 [(0, .ref h)] := hl
  refine lv_aload_n hx hb dX1_init_0 rfl (lv_at hl 0 rfl) ?_
  refine W.objInit hx hb hown (hts (.methodLink RX1 1 objectInit) (by decide +kernel)) (hts (.instanceMethod objectInit) (by decide +kernel)) (hts (.code objectInit ⟨#[0xb1]⟩ 1 none) (by decide +kernel)) rfl (by rw [hml]; exact hl.1) rfl dX1_init_1 (Nat.le_of_ble_eq_true rfl) (Nat.le_of_ble_eq_true rfl) ?_
  refine W.eq (g2 := F0 m 4 ls []) rfl ?_
  refine lv_aload_n hx hb dX1_init_4 rfl (lv_at hl 0 rfl) ?_
  refine lv_bipush (v := 96) hx hb dX1_init_5 (by decide) ?_
  refine tv_newa (D := D) (atype := .int) (cA := cI) (n := 96) (N' := 96) (a0 := (96, .inl (fun _ => 0))) (ty := .int) hx hb (hts (.arrayClass .int) (by decide +kernel)) rfl hK hP hD hS hA (fun cA => vp_cell_i cA 96 (fun _ => 0)) (by decide +kernel) (by decide +kernel) (by decide +kernel) (show 0 + 1 ≤ 4 from by omega) (show 0 + 96 ≤ 116 from by omega) dX1_init_7 0 rfl (tv_u (fun _ => rfl)) (fun q1 H hP hD hS => ?_)
  have hP : va_P D vwCl [(h, .inr (1, [.null, .null, .null, .null, .int 0])), (q1, .inl (cI, 96, .inl (fun _ => 0)))] H := hP
  have hD : va_D A [(h, .inr (1, [.null, .null, .null, .null, .int 0])), (q1, .inl (cI, 96, .inl (fun _ => 0)))] := hD
  refine W.widen (k := 1) (n := 96) (by omega) (by omega) ?_
  refine va_putF (D := D) (ci := 1) (v := .ref q1) (ty := .array .int) (C := RX1) (T := TX1) (N := 5) hx hb hts iX1_init tyX1 tyX1_ok nmX1 hown hK hP hD hS 0 rfl rfl 0 (by decide) (hts (.fieldLink RX1 7 "TideHouseModel" "readings" "[I") (by decide +kernel)) (fun _ h9 => h9) rfl hin rfl (by decide +kernel) rfl rfl (Nat.le_of_ble_eq_true rfl) dX1_init_9 (fun H locs hP hD hS => ?_)
  have hP : va_P D vwCl [(h, .inr (1, [.ref q1, .null, .null, .null, .int 0])), (q1, .inl (cI, 96, .inl (fun _ => 0)))] H := hP
  have hD : va_D A [(h, .inr (1, [.ref q1, .null, .null, .null, .int 0])), (q1, .inl (cI, 96, .inl (fun _ => 0)))] := hD
  refine lv_aload_n hx hb dX1_init_12 rfl (lv_at hl 0 rfl) ?_
  refine lv_bipush (v := 8) hx hb dX1_init_13 (by decide) ?_
  refine tv_newa (D := D) (atype := .int) (cA := cI) (n := 8) (N' := 8) (a0 := (8, .inl (fun _ => 0))) (ty := .int) hx hb (hts (.arrayClass .int) (by decide +kernel)) rfl hK hP hD hS hA (fun cA => vp_cell_i cA 8 (fun _ => 0)) (by decide +kernel) (by decide +kernel) (by decide +kernel) (show 1 + 1 ≤ 4 from by omega) (show 96 + 8 ≤ 116 from by omega) dX1_init_15 0 rfl (tv_u (fun _ => rfl)) (fun q2 H hP hD hS => ?_)
  have hP : va_P D vwCl [(h, .inr (1, [.ref q1, .null, .null, .null, .int 0])), (q1, .inl (cI, 96, .inl (fun _ => 0))), (q2, .inl (cI, 8, .inl (fun _ => 0)))] H := hP
  have hD : va_D A [(h, .inr (1, [.ref q1, .null, .null, .null, .int 0])), (q1, .inl (cI, 96, .inl (fun _ => 0))), (q2, .inl (cI, 8, .inl (fun _ => 0)))] := hD
  refine W.widen (k := 2) (n := 104) (by omega) (by omega) ?_
  refine va_putF (D := D) (ci := 1) (v := .ref q2) (ty := .array .int) (C := RX1) (T := TX1) (N := 5) hx hb hts iX1_init tyX1 tyX1_ok nmX1 hown hK hP hD hS 0 rfl rfl 1 (by decide) (hts (.fieldLink RX1 13 "TideHouseModel" "levels" "[I") (by decide +kernel)) (fun _ h9 => h9) rfl hin rfl (by decide +kernel) rfl rfl (Nat.le_of_ble_eq_true rfl) dX1_init_17 (fun H locs hP hD hS => ?_)
  have hP : va_P D vwCl [(h, .inr (1, [.ref q1, .ref q2, .null, .null, .int 0])), (q1, .inl (cI, 96, .inl (fun _ => 0))), (q2, .inl (cI, 8, .inl (fun _ => 0)))] H := hP
  have hD : va_D A [(h, .inr (1, [.ref q1, .ref q2, .null, .null, .int 0])), (q1, .inl (cI, 96, .inl (fun _ => 0))), (q2, .inl (cI, 8, .inl (fun _ => 0)))] := hD
  refine lv_aload_n hx hb dX1_init_20 rfl (lv_at hl 0 rfl) ?_
  refine lv_iconst (v := 4) hx hb dX1_init_21 (by decide) ?_
  refine tv_newa (D := D) (atype := .boolean) (cA := cZ) (n := 4) (N' := 4) (a0 := (4, .inl (fun _ => 0))) (ty := .boolean) hx hb (hts (.arrayClass .boolean) (by decide +kernel)) rfl hK hP hD hS hA (fun cA => vp_cell_i cA 4 (fun _ => 0)) (by decide +kernel) (by decide +kernel) (by decide +kernel) (show 2 + 1 ≤ 4 from by omega) (show 104 + 4 ≤ 116 from by omega) dX1_init_22 1 rfl (tv_u (fun _ => rfl)) (fun q3 H hP hD hS => ?_)
  have hP : va_P D vwCl [(h, .inr (1, [.ref q1, .ref q2, .null, .null, .int 0])), (q1, .inl (cI, 96, .inl (fun _ => 0))), (q2, .inl (cI, 8, .inl (fun _ => 0))), (q3, .inl (cZ, 4, .inl (fun _ => 0)))] H := hP
  have hD : va_D A [(h, .inr (1, [.ref q1, .ref q2, .null, .null, .int 0])), (q1, .inl (cI, 96, .inl (fun _ => 0))), (q2, .inl (cI, 8, .inl (fun _ => 0))), (q3, .inl (cZ, 4, .inl (fun _ => 0)))] := hD
  refine W.widen (k := 3) (n := 108) (by omega) (by omega) ?_
  refine va_putF (D := D) (ci := 1) (v := .ref q3) (ty := .array .boolean) (C := RX1) (T := TX1) (N := 5) hx hb hts iX1_init tyX1 tyX1_ok nmX1 hown hK hP hD hS 0 rfl rfl 2 (by decide) (hts (.fieldLink RX1 16 "TideHouseModel" "open" "[Z") (by decide +kernel)) (fun _ h9 => h9) rfl hin rfl (by decide +kernel) rfl rfl (Nat.le_of_ble_eq_true rfl) dX1_init_24 (fun H locs hP hD hS => ?_)
  have hP : va_P D vwCl [(h, .inr (1, [.ref q1, .ref q2, .ref q3, .null, .int 0])), (q1, .inl (cI, 96, .inl (fun _ => 0))), (q2, .inl (cI, 8, .inl (fun _ => 0))), (q3, .inl (cZ, 4, .inl (fun _ => 0)))] H := hP
  have hD : va_D A [(h, .inr (1, [.ref q1, .ref q2, .ref q3, .null, .int 0])), (q1, .inl (cI, 96, .inl (fun _ => 0))), (q2, .inl (cI, 8, .inl (fun _ => 0))), (q3, .inl (cZ, 4, .inl (fun _ => 0)))] := hD
  refine lv_aload_n hx hb dX1_init_27 rfl (lv_at hl 0 rfl) ?_
  refine lv_bipush (v := 8) hx hb dX1_init_28 (by decide) ?_
  refine tv_newa (D := D) (atype := .int) (cA := cI) (n := 8) (N' := 8) (a0 := (8, .inl (fun _ => 0))) (ty := .int) hx hb (hts (.arrayClass .int) (by decide +kernel)) rfl hK hP hD hS hA (fun cA => vp_cell_i cA 8 (fun _ => 0)) (by decide +kernel) (by decide +kernel) (by decide +kernel) (show 3 + 1 ≤ 4 from by omega) (show 108 + 8 ≤ 116 from by omega) dX1_init_30 0 rfl (tv_u (fun _ => rfl)) (fun q4 H hP hD hS => ?_)
  have hP : va_P D vwCl [(h, .inr (1, [.ref q1, .ref q2, .ref q3, .null, .int 0])), (q1, .inl (cI, 96, .inl (fun _ => 0))), (q2, .inl (cI, 8, .inl (fun _ => 0))), (q3, .inl (cZ, 4, .inl (fun _ => 0))), (q4, .inl (cI, 8, .inl (fun _ => 0)))] H := hP
  have hD : va_D A [(h, .inr (1, [.ref q1, .ref q2, .ref q3, .null, .int 0])), (q1, .inl (cI, 96, .inl (fun _ => 0))), (q2, .inl (cI, 8, .inl (fun _ => 0))), (q3, .inl (cZ, 4, .inl (fun _ => 0))), (q4, .inl (cI, 8, .inl (fun _ => 0)))] := hD
  refine W.widen (k := 4) (n := 116) (by omega) (by omega) ?_
  refine va_putF (D := D) (ci := 1) (v := .ref q4) (ty := .array .int) (C := RX1) (T := TX1) (N := 5) hx hb hts iX1_init tyX1 tyX1_ok nmX1 hown hK hP hD hS 0 rfl rfl 3 (by decide) (hts (.fieldLink RX1 20 "TideHouseModel" "notes" "[I") (by decide +kernel)) (fun _ h9 => h9) rfl hin rfl (by decide +kernel) rfl rfl (Nat.le_of_ble_eq_true rfl) dX1_init_32 (fun H locs hP hD hS => ?_)
  have hP : va_P D vwCl [(h, .inr (1, [.ref q1, .ref q2, .ref q3, .ref q4, .int 0])), (q1, .inl (cI, 96, .inl (fun _ => 0))), (q2, .inl (cI, 8, .inl (fun _ => 0))), (q3, .inl (cZ, 4, .inl (fun _ => 0))), (q4, .inl (cI, 8, .inl (fun _ => 0)))] H := hP
  have hD : va_D A [(h, .inr (1, [.ref q1, .ref q2, .ref q3, .ref q4, .int 0])), (q1, .inl (cI, 96, .inl (fun _ => 0))), (q2, .inl (cI, 8, .inl (fun _ => 0))), (q3, .inl (cZ, 4, .inl (fun _ => 0))), (q4, .inl (cI, 8, .inl (fun _ => 0)))] := hD
  have hP : va_P D vwCl (tv_mw cI cZ h q1 q2 q3 q4 0 ((fun _ => 0 : Nat → Int32), (fun _ => 0 : Nat → Int32), (fun _ => 0 : Nat → Int32), (fun _ => 0 : Nat → Int32))) H := hP
  have hD : va_D A (tv_mw cI cZ h q1 q2 q3 q4 0 ((fun _ => 0 : Nat → Int32), (fun _ => 0 : Nat → Int32), (fun _ => 0 : Nat → Int32), (fun _ => 0 : Nat → Int32))) := hD
  refine lv_iconst (v := 0) hx hb dX1_init_35 (by decide) ?_
  refine lv_istore_n (lv' := [(1, .int 0), (0, .ref h)]) hx hb dX1_init_36 rfl hl (by decide) rfl (fun ls hl => ?_)
  have loop1 : ∀ (j k : Nat), k + j = 96 → ∀ (H : Heap) (locs : List Loc), va_P D vwCl (tv_mw cI cZ h q1 q2 q3 q4 0 (fl (-2147483648) (fun _ => 0 : Nat → Int32) k, (fun _ => 0 : Nat → Int32), (fun _ => 0 : Nat → Int32), (fun _ => 0 : Nat → Int32))) H → va_D A (tv_mw cI cZ h q1 q2 q3 q4 0 (fl (-2147483648) (fun _ => 0 : Nat → Int32) k, (fun _ => 0 : Nat → Int32), (fun _ => 0 : Nat → Int32), (fun _ => 0 : Nat → Int32))) → va_S A s.heap H locs → ∀ ls : Array Slot, lv_has ls 2 [(0, .ref h), (1, .int (nI k))] → W p l e (headSpec wsX1_init ({ frames := 2, cells := 4, slots := 116, locals := 40 } : Room)).room s m ([.ref h] : List Value).toArray below meth c H locs 4 116 (MQ below (tv_Qn D cI cZ cL (fun u : Nat × Nat × Nat × Nat => tv_mw cI cZ h u.1 u.2.1 u.2.2.1 u.2.2.2 0 (F1, F2, fun _ => 0, fun _ => 0)) [(h, .inr (1, [.null, .null, .null, .null, .int 0]))] s.heap.size) ([.ref h] : List Value).toArray s 4 116 (va_A [(h, .inr (1, [.null, .null, .null, .null, .int 0]))] s.heap.size)) (F0 m 37 ls []) := by
    intro j
    induction j with
    | zero =>
      intro k hk H locs hP hD hS ls hl
      have hk2 : k = 96 := by omega
      rw [hk2] at hP hD hl
      rw [hF1] at hP hD
      refine lv_iload_n hx hb dX1_init_37 rfl (lv_at hl 1 rfl) ?_
      refine lv_bipush (v := 96) hx hb dX1_init_38 (by decide) ?_
      refine lv_icmp_ge (tgt := 57) hx hb dX1_init_40 (by decide) (fun c_1 => ?_) (fun c_1 => ?_)
      · skip
        refine lv_iconst (v := 0) hx hb dX1_init_57 (by decide) ?_
        refine lv_istore_n (lv' := [(1, .int 0), (0, .ref h)]) hx hb dX1_init_58 rfl hl (by decide) rfl (fun ls hl => ?_)
        have loop2 : ∀ (j k : Nat), k + j = 8 → ∀ (H : Heap) (locs : List Loc), va_P D vwCl (tv_mw cI cZ h q1 q2 q3 q4 0 (F1, fl (-2147483648) (fun _ => 0 : Nat → Int32) k, (fun _ => 0 : Nat → Int32), (fun _ => 0 : Nat → Int32))) H → va_D A (tv_mw cI cZ h q1 q2 q3 q4 0 (F1, fl (-2147483648) (fun _ => 0 : Nat → Int32) k, (fun _ => 0 : Nat → Int32), (fun _ => 0 : Nat → Int32))) → va_S A s.heap H locs → ∀ ls : Array Slot, lv_has ls 2 [(0, .ref h), (1, .int (nI k))] → W p l e (headSpec wsX1_init ({ frames := 2, cells := 4, slots := 116, locals := 40 } : Room)).room s m ([.ref h] : List Value).toArray below meth c H locs 4 116 (MQ below (tv_Qn D cI cZ cL (fun u : Nat × Nat × Nat × Nat => tv_mw cI cZ h u.1 u.2.1 u.2.2.1 u.2.2.2 0 (F1, F2, fun _ => 0, fun _ => 0)) [(h, .inr (1, [.null, .null, .null, .null, .int 0]))] s.heap.size) ([.ref h] : List Value).toArray s 4 116 (va_A [(h, .inr (1, [.null, .null, .null, .null, .int 0]))] s.heap.size)) (F0 m 59 ls []) := by
          intro j
          induction j with
          | zero =>
            intro k hk H locs hP hD hS ls hl
            have hk2 : k = 8 := by omega
            rw [hk2] at hP hD hl
            rw [hF2] at hP hD
            refine lv_iload_n hx hb dX1_init_59 rfl (lv_at hl 1 rfl) ?_
            refine lv_bipush (v := 8) hx hb dX1_init_60 (by decide) ?_
            refine lv_icmp_ge (tgt := 79) hx hb dX1_init_62 (by decide) (fun c_2 => ?_) (fun c_2 => ?_)
            · skip
              refine W.vret hx hb hr (fun t ht hW => ⟨⟨(q1, q2, q3, q4), rfl, trivial, by rw [ht]; exact hP, va_K.moved hW.alike hK, by rw [← hAe]; exact hD⟩, by rw [← hAe]; exact hS.F ht⟩) (by rw [← hAe]; exact hS.2.2) dX1_init_79 hlocks
            · exact absurd (show nI 8 ≤ nI 8 from nI_le (Nat.le_refl _) (by omega)) c_2
          | succ j ih =>
            intro k hk H locs hP hD hS ls hl
            refine lv_iload_n hx hb dX1_init_59 rfl (lv_at hl 1 rfl) ?_
            refine lv_bipush (v := 8) hx hb dX1_init_60 (by decide) ?_
            refine lv_icmp_ge (tgt := 79) hx hb dX1_init_62 (by decide) (fun c_3 => ?_) (fun c_3 => ?_)
            · exact absurd (show nI 8 ≤ nI k from c_3) (nI_ge (by omega) (by omega))
            · skip
              refine lv_aload_n hx hb dX1_init_65 rfl (lv_at hl 0 rfl) ?_
              refine va_get (D := D) (ci := 1) (v := .ref q2) (C := RX1) (T := TX1) (N := 5) hx hb hts iX1_init hown hK hP 0 rfl rfl 1 (by decide) (hts (.fieldLink RX1 13 "TideHouseModel" "levels" "[I") (by decide +kernel)) (fun _ h9 => h9) rfl dX1_init_66 ?_
              refine lv_iload_n hx hb dX1_init_69 rfl (lv_at hl 1 rfl) ?_
              refine lv_ldc (v := -2147483648) hx hb hown (hts (.constant RX1 23 (-2147483648)) (by decide +kernel)) dX1_init_70 ?_
              refine tv_iast (D := D) (cA := cI) (n := 8) (f := fl (-2147483648) (fun _ => 0 : Nat → Int32) k) (k := k) (x := -2147483648) (ws1 := tv_mw cI cZ h q1 q2 q3 q4 0 (F1, upd (fl (-2147483648) (fun _ => 0 : Nat → Int32) k) k (-2147483648), (fun _ => 0 : Nat → Int32), (fun _ => 0 : Nat → Int32))) hx hb hK hP hD hS 2 0 rfl rfl (by omega) (by omega) rfl dX1_init_72 (fun H locs hP hD hS => ?_)
              refine lv_iinc (v := nI (k + 1)) (lv' := [(1, .int (nI (k + 1))), (0, .ref h)]) hx hb dX1_init_73 hl (k := 1) rfl (nI_1 k) (by decide) rfl (fun ls hl => ?_)
              refine lv_goto (tgt := 59) hx hb dX1_init_76 (by decide) ?_
              exact ih (k + 1) (by omega) H locs hP hD hS ls (lv_sub hl [1, 0] rfl)
        exact loop2 8 0 (by omega) H locs hP hD hS ls (by rw [show nI 0 = 0 from nI_0]; exact lv_sub hl [1, 0] rfl)
      · exact absurd (show nI 96 ≤ nI 96 from nI_le (Nat.le_refl _) (by omega)) c_1
    | succ j ih =>
      intro k hk H locs hP hD hS ls hl
      refine lv_iload_n hx hb dX1_init_37 rfl (lv_at hl 1 rfl) ?_
      refine lv_bipush (v := 96) hx hb dX1_init_38 (by decide) ?_
      refine lv_icmp_ge (tgt := 57) hx hb dX1_init_40 (by decide) (fun c_4 => ?_) (fun c_4 => ?_)
      · exact absurd (show nI 96 ≤ nI k from c_4) (nI_ge (by omega) (by omega))
      · skip
        refine lv_aload_n hx hb dX1_init_43 rfl (lv_at hl 0 rfl) ?_
        refine va_get (D := D) (ci := 1) (v := .ref q1) (C := RX1) (T := TX1) (N := 5) hx hb hts iX1_init hown hK hP 0 rfl rfl 0 (by decide) (hts (.fieldLink RX1 7 "TideHouseModel" "readings" "[I") (by decide +kernel)) (fun _ h9 => h9) rfl dX1_init_44 ?_
        refine lv_iload_n hx hb dX1_init_47 rfl (lv_at hl 1 rfl) ?_
        refine lv_ldc (v := -2147483648) hx hb hown (hts (.constant RX1 23 (-2147483648)) (by decide +kernel)) dX1_init_48 ?_
        refine tv_iast (D := D) (cA := cI) (n := 96) (f := fl (-2147483648) (fun _ => 0 : Nat → Int32) k) (k := k) (x := -2147483648) (ws1 := tv_mw cI cZ h q1 q2 q3 q4 0 (upd (fl (-2147483648) (fun _ => 0 : Nat → Int32) k) k (-2147483648), (fun _ => 0 : Nat → Int32), (fun _ => 0 : Nat → Int32), (fun _ => 0 : Nat → Int32))) hx hb hK hP hD hS 1 0 rfl rfl (by omega) (by omega) rfl dX1_init_50 (fun H locs hP hD hS => ?_)
        refine lv_iinc (v := nI (k + 1)) (lv' := [(1, .int (nI (k + 1))), (0, .ref h)]) hx hb dX1_init_51 hl (k := 1) rfl (nI_1 k) (by decide) rfl (fun ls hl => ?_)
        refine lv_goto (tgt := 37) hx hb dX1_init_54 (by decide) ?_
        exact ih (k + 1) (by omega) H locs hP hD hS ls (lv_sub hl [1, 0] rfl)
  exact loop1 96 0 (by omega) H locs hP hD hS ls (by rw [show nI 0 = 0 from nI_0]; exact lv_sub hl [1, 0] rfl)
