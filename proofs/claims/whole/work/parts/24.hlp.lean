set_option maxHeartbeats 4000000 in
set_option maxRecDepth 100000 in
theorem c_L_put (l : Launch) (hT : l.stackTraces = false) (D : va_G) (cI cZ cL : ClassId) (h a1 a2 a3 a4 : Nat) (rd lv op nt : Nat → Int32) (ol : Nat) (f : Nat → Int64) (sz : Nat) (x1 x2 x3 : Int32) (V : TV) (hV : V = sp_put x1 x2 x3 (rd, lv, op, nt)) : Met l yL_put wsL_put tv_rmH (tv_PH D cI cZ cL (tv_hw cI cZ cL h a1 a2 a3 a4 ol (rd, lv, op, nt) f) sz [.ref h, .int x1, .int x2, .int x3, .ref ol]) (tv_QH D cI cZ cL (tv_hw cI cZ cL h a1 a2 a3 a4 ol) (tv_hw cI cZ cL h a1 a2 a3 a4 ol (rd, lv, op, nt) f) sz V R64z) 1 6 (va_A (tv_hw cI cZ cL h a1 a2 a3 a4 ol (rd, lv, op, nt) f) sz) := by
  refine va_MetW (cc := cL_put) (maxL := 6) (ret := some .int) (hh := [(0, 19, 22, 13), (0, 19, 26, 15)]) (by decide) rfl ?_
  intro p e s m args below meth c s₁ B hml hv
  obtain ⟨rfl, hsz, hP, hK, hD0, hE, hC⟩ := hv
  subst hsz
  have hx := B.exec
  have hb := B.bytes
  have hr := B.returns
  have hts := atoms_spec (ws := wsL_put) B.pre
  have hown : s.vm.findClass RL = some m.cls := findClass_of_methodNamed B.named
  have hlocks := B.notSynchronized
  have htab := vx_table (x := yL_put) B (hts (.codeWith yL_put cL_put 6 (some .int) [(0, 19, 22, 13), (0, 19, 26, 15)]) (by decide +kernel))
  have hD := hD0.self (sz := s.heap.size)
  obtain ⟨A, hAe⟩ : ∃ A, A = va_A (tv_hw cI cZ cL h a1 a2 a3 a4 ol (rd, lv, op, nt) f) s.heap.size := ⟨_, rfl⟩
  rw [← hAe] at hD hE
  have hA : ∀ q : Nat, s.heap.size ≤ q → A q := fun q h => by rw [hAe]; exact Or.inr h
  have hS : va_S A s.heap s.heap [] := va_S.rf
  clear hD0
  have hk : V.1 = 0 ∨ V = (1, 0, (rd, lv, op, nt)) ∨ V = (2, 0, (rd, lv, op, nt)) := by rw [hV]; exact sp_k rfl
  have hl := lv_entry ([.ref h, .int x1, .int x2, .int x3, .ref ol]) (n := 6) (Nat.le_of_ble_eq_true rfl)
  rw [lg_entry_eq]
  generalize (lg_sl ([.ref h, .int x1, .int x2, .int x3, .ref ol]) ++ List.replicate (6 - (lg_sl ([.ref h, .int x1, .int x2, .int x3, .ref ol])).length) Slot.unset).toArray = ls at hl ⊢
  have hl : lv_has ls 6 [(0, .ref h), (1, .int x1), (2, .int x2), (3, .int x3), (4, .ref ol)] := hl
  refine lv_aload hx hb dL_put_0 (lv_at hl 4 rfl) ?_
  refine lv_iconst (v := 0) hx hb dL_put_2 (by decide) ?_
  refine lv_aload_n hx hb dL_put_3 rfl (lv_at hl 0 rfl) ?_
  refine lv_iload_n hx hb dL_put_4 rfl (lv_at hl 1 rfl) ?_
  refine lv_iload_n hx hb dL_put_5 rfl (lv_at hl 2 rfl) ?_
  refine lv_iload_n hx hb dL_put_6 rfl (lv_at hl 3 rfl) ?_
  refine tv_callP (D := D) (V := V) (wf := tv_cw cI cZ h a1 a2 a3 a4) (ws := (tv_hw cI cZ cL h a1 a2 a3 a4 ol (rd, lv, op, nt) f)) (wc := (tv_cw cI cZ h a1 a2 a3 a4 (rd, lv, op, nt))) (wr := [(ol, .inl (cL, 1, .inr (.inl f)))]) (wsN := tv_hw cI cZ cL h a1 a2 a3 a4 ol V.2.2 f) (vx_runV (As := [.int x1, .int x2, .int x3]) (rest := [.int 0, .ref ol]) ⟨hx, hb, hml, hown, hts⟩ (c_X0_put l hT D cI cZ cL h a1 a2 a3 a4 rd lv op nt s.heap.size x1 x2 x3 V hV) (cwV 3 hts gL_put_X0_put rfl rfl rfl (by decide +kernel) ⟨Nat.le_of_ble_eq_true rfl, Nat.le_of_ble_eq_true rfl⟩) (tv_prePV hP hK hD hS hA hE [0, 1, 2, 3, 4] rfl rfl rfl rfl 0 rfl) rfl rfl hl.1 rfl (lv_room (Nat.le_of_ble_eq_true rfl)) dL_put_7 ⟨Nat.le_of_ble_eq_true rfl, Nat.le_of_ble_eq_true rfl⟩) hP hD hS hA [0, 1, 2, 3, 4] [5] rfl rfl rfl (by decide) [1, 2, 3, 4, 5, 0] rfl rfl rfl (fun ce q9 H locs h9 hP hS hce hcv hcl => ?_) (fun H locs h0 hP hD hS => ?_)
  · rcases hk with hk | hk | hk
    · exact absurd hk h9
    · have hcl : s.vm.findClass "java/lang/IndexOutOfBoundsException" = some ce.cls := by rw [hk] at hcl; exact hcl
      refine vx_catch (own := RL) (name := "java/lang/IndexOutOfBoundsException") (E := "java/lang/IndexOutOfBoundsException") hown [] ⟨0, 19, 22, 13⟩ [⟨0, 19, 26, 15⟩] htab (fun z hz => nomatch hz) (by decide) (by decide) (hts (.classLink RL 13 "java/lang/IndexOutOfBoundsException") (by decide +kernel)) (va_Nw.use rfl (hE.2.2.1 (.castable "java/lang/IndexOutOfBoundsException" "java/lang/IndexOutOfBoundsException") (by decide +kernel))) hce hcv hcl ?_
      refine lv_astore (lv' := [(5, .ref q9), (0, .ref h), (1, .int x1), (2, .int x2), (3, .int x3), (4, .ref ol)]) hx hb dL_put_22 hl (by decide) rfl (fun ls hl => ?_)
      refine lv_iconst (v := 1) hx hb dL_put_24 (by decide) ?_
      have hP : va_P D vwCl (tv_hw cI cZ cL h a1 a2 a3 a4 ol V.2.2 f) H := by rw [hk]; exact hP
      have hD : va_D A (tv_hw cI cZ cL h a1 a2 a3 a4 ol V.2.2 f) := by rw [hk]; exact hD
      exact tv_iretH (wf := (tv_hw cI cZ cL h a1 a2 a3 a4 ol)) (R64 := R64z) (r := 1) (f := f) hAe (by rw [hk]) (fun z => absurd z h9) hx hb hr hP hK hD hS dL_put_25 hlocks
    · have hcl : s.vm.findClass "java/lang/IllegalArgumentException" = some ce.cls := by rw [hk] at hcl; exact hcl
      refine vx_catch (own := RL) (name := "java/lang/IllegalArgumentException") (E := "java/lang/IllegalArgumentException") hown [⟨0, 19, 22, 13⟩] ⟨0, 19, 26, 15⟩ [] htab (fun z hz => by cases List.mem_singleton.mp hz; exact Or.inr ⟨by decide, "java/lang/IndexOutOfBoundsException", hts (.classLink RL 13 "java/lang/IndexOutOfBoundsException") (by decide +kernel), hC.1⟩) (by decide) (by decide) (hts (.classLink RL 15 "java/lang/IllegalArgumentException") (by decide +kernel)) (va_Nw.use rfl (hE.2.2.1 (.castable "java/lang/IllegalArgumentException" "java/lang/IllegalArgumentException") (by decide +kernel))) hce hcv hcl ?_
      refine lv_astore (lv' := [(5, .ref q9), (0, .ref h), (1, .int x1), (2, .int x2), (3, .int x3), (4, .ref ol)]) hx hb dL_put_26 hl (by decide) rfl (fun ls hl => ?_)
      refine lv_iconst (v := 2) hx hb dL_put_28 (by decide) ?_
      have hP : va_P D vwCl (tv_hw cI cZ cL h a1 a2 a3 a4 ol V.2.2 f) H := by rw [hk]; exact hP
      have hD : va_D A (tv_hw cI cZ cL h a1 a2 a3 a4 ol V.2.2 f) := by rw [hk]; exact hD
      exact tv_iretH (wf := (tv_hw cI cZ cL h a1 a2 a3 a4 ol)) (R64 := R64z) (r := 2) (f := f) hAe (by rw [hk]) (fun z => absurd z h9) hx hb hr hP hK hD hS dL_put_29 hlocks
  · skip
    refine lv_if_eq (tgt := 17) hx hb dL_put_10 (by decide) (fun c_1 => ?_) (fun c_1 => ?_)
    · skip
      refine lv_lconst (v := 0) hx hb dL_put_17 (by decide) ?_
      refine tv_last (D := D) (f := f) (x := 0) (wsN := tv_hw cI cZ cL h a1 a2 a3 a4 ol V.2.2 (vp_updL f 0 0)) hx hb hK hP hD hS 5 rfl rfl dL_put_18 (fun H locs hP hD hS => ?_)
      refine lv_goto (tgt := 30) hx hb dL_put_19 (by decide) ?_
      refine lv_iconst (v := 0) hx hb dL_put_30 (by decide) ?_
      exact tv_iretH (wf := (tv_hw cI cZ cL h a1 a2 a3 a4 ol)) (R64 := R64z) (r := 0) (f := vp_updL f 0 0) hAe h0.symm (fun _ => by rw [R64z, if_pos c_1]; exact pk_uLs) hx hb hr hP hK hD hS dL_put_31 hlocks
    · skip
      refine lv_lconst (v := 1) hx hb dL_put_13 (by decide) ?_
      refine lv_goto (tgt := 18) hx hb dL_put_14 (by decide) ?_
      refine tv_last (D := D) (f := f) (x := 1) (wsN := tv_hw cI cZ cL h a1 a2 a3 a4 ol V.2.2 (vp_updL f 0 1)) hx hb hK hP hD hS 5 rfl rfl dL_put_18 (fun H locs hP hD hS => ?_)
      refine lv_goto (tgt := 30) hx hb dL_put_19 (by decide) ?_
      refine lv_iconst (v := 0) hx hb dL_put_30 (by decide) ?_
      exact tv_iretH (wf := (tv_hw cI cZ cL h a1 a2 a3 a4 ol)) (R64 := R64z) (r := 0) (f := vp_updL f 0 1) hAe h0.symm (fun _ => by rw [R64z, if_neg c_1]; exact pk_uLs) hx hb hr hP hK hD hS dL_put_31 hlocks
set_option maxHeartbeats 4000000 in
set_option maxRecDepth 100000 in
theorem c_L_reading (l : Launch) (hT : l.stackTraces = false) (D : va_G) (cI cZ cL : ClassId) (h a1 a2 a3 a4 : Nat) (rd lv op nt : Nat → Int32) (ol : Nat) (f : Nat → Int64) (sz : Nat) (x1 x2 : Int32) (V : TV) (hV : V = sp_reading x1 x2 (rd, lv, op, nt)) : Met l yL_reading wsL_reading tv_rmH (tv_PH D cI cZ cL (tv_hw cI cZ cL h a1 a2 a3 a4 ol (rd, lv, op, nt) f) sz [.ref h, .int x1, .int x2, .ref ol]) (tv_QH D cI cZ cL (tv_hw cI cZ cL h a1 a2 a3 a4 ol) (tv_hw cI cZ cL h a1 a2 a3 a4 ol (rd, lv, op, nt) f) sz V R64i) 1 6 (va_A (tv_hw cI cZ cL h a1 a2 a3 a4 ol (rd, lv, op, nt) f) sz) := by
  refine va_MetW (cc := cL_reading) (maxL := 5) (ret := some .int) (hh := [(0, 10, 13, 13)]) (by decide) rfl ?_
  intro p e s m args below meth c s₁ B hml hv
  obtain ⟨rfl, hsz, hP, hK, hD0, hE, hC⟩ := hv
  subst hsz
  have hx := B.exec
  have hb := B.bytes
  have hr := B.returns
  have hts := atoms_spec (ws := wsL_reading) B.pre
  have hown : s.vm.findClass RL = some m.cls := findClass_of_methodNamed B.named
  have hlocks := B.notSynchronized
  have htab := vx_table (x := yL_reading) B (hts (.codeWith yL_reading cL_reading 5 (some .int) [(0, 10, 13, 13)]) (by decide +kernel))
  have hD := hD0.self (sz := s.heap.size)
  obtain ⟨A, hAe⟩ : ∃ A, A = va_A (tv_hw cI cZ cL h a1 a2 a3 a4 ol (rd, lv, op, nt) f) s.heap.size := ⟨_, rfl⟩
  rw [← hAe] at hD hE
  have hA : ∀ q : Nat, s.heap.size ≤ q → A q := fun q h => by rw [hAe]; exact Or.inr h
  have hS : va_S A s.heap s.heap [] := va_S.rf
  clear hD0
  have hk : V.1 = 0 ∨ V = (1, 0, (rd, lv, op, nt)) := by rw [hV]; exact sp_k1 rfl
  have hl := lv_entry ([.ref h, .int x1, .int x2, .ref ol]) (n := 5) (Nat.le_of_ble_eq_true rfl)
  rw [lg_entry_eq]
  generalize (lg_sl ([.ref h, .int x1, .int x2, .ref ol]) ++ List.replicate (5 - (lg_sl ([.ref h, .int x1, .int x2, .ref ol])).length) Slot.unset).toArray = ls at hl ⊢
  have hl : lv_has ls 5 [(0, .ref h), (1, .int x1), (2, .int x2), (3, .ref ol)] := hl
  refine lv_aload_n hx hb dL_reading_0 rfl (lv_at hl 3 rfl) ?_
  refine lv_iconst (v := 0) hx hb dL_reading_1 (by decide) ?_
  refine lv_aload_n hx hb dL_reading_2 rfl (lv_at hl 0 rfl) ?_
  refine lv_iload_n hx hb dL_reading_3 rfl (lv_at hl 1 rfl) ?_
  refine lv_iload_n hx hb dL_reading_4 rfl (lv_at hl 2 rfl) ?_
  refine tv_callP (D := D) (V := V) (wf := tv_cw cI cZ h a1 a2 a3 a4) (ws := (tv_hw cI cZ cL h a1 a2 a3 a4 ol (rd, lv, op, nt) f)) (wc := (tv_cw cI cZ h a1 a2 a3 a4 (rd, lv, op, nt))) (wr := [(ol, .inl (cL, 1, .inr (.inl f)))]) (wsN := tv_hw cI cZ cL h a1 a2 a3 a4 ol V.2.2 f) (vx_runV (As := [.int x1, .int x2]) (rest := [.int 0, .ref ol]) ⟨hx, hb, hml, hown, hts⟩ (c_X0_reading l hT D cI cZ cL h a1 a2 a3 a4 rd lv op nt s.heap.size x1 x2 V hV) (cwV 2 hts gL_reading_X0_reading rfl rfl rfl (by decide +kernel) ⟨Nat.le_of_ble_eq_true rfl, Nat.le_of_ble_eq_true rfl⟩) (tv_prePV hP hK hD hS hA hE [0, 1, 2, 3, 4] rfl rfl rfl rfl 0 rfl) rfl rfl hl.1 rfl (lv_room (Nat.le_of_ble_eq_true rfl)) dL_reading_5 ⟨Nat.le_of_ble_eq_true rfl, Nat.le_of_ble_eq_true rfl⟩) hP hD hS hA [0, 1, 2, 3, 4] [5] rfl rfl rfl (by decide) [1, 2, 3, 4, 5, 0] rfl rfl rfl (fun ce q9 H locs h9 hP hS hce hcv hcl => ?_) (fun H locs h0 hP hD hS => ?_)
  · rcases hk with hk | hk
    · exact absurd hk h9
    · have hcl : s.vm.findClass "java/lang/IndexOutOfBoundsException" = some ce.cls := by rw [hk] at hcl; exact hcl
      refine vx_catch (own := RL) (name := "java/lang/IndexOutOfBoundsException") (E := "java/lang/IndexOutOfBoundsException") hown [] ⟨0, 10, 13, 13⟩ [] htab (fun z hz => nomatch hz) (by decide) (by decide) (hts (.classLink RL 13 "java/lang/IndexOutOfBoundsException") (by decide +kernel)) (va_Nw.use rfl (hE.2.2.1 (.castable "java/lang/IndexOutOfBoundsException" "java/lang/IndexOutOfBoundsException") (by decide +kernel))) hce hcv hcl ?_
      refine lv_astore (lv' := [(4, .ref q9), (0, .ref h), (1, .int x1), (2, .int x2), (3, .ref ol)]) hx hb dL_reading_13 hl (by decide) rfl (fun ls hl => ?_)
      refine lv_iconst (v := 1) hx hb dL_reading_15 (by decide) ?_
      have hP : va_P D vwCl (tv_hw cI cZ cL h a1 a2 a3 a4 ol V.2.2 f) H := by rw [hk]; exact hP
      have hD : va_D A (tv_hw cI cZ cL h a1 a2 a3 a4 ol V.2.2 f) := by rw [hk]; exact hD
      exact tv_iretH (wf := (tv_hw cI cZ cL h a1 a2 a3 a4 ol)) (R64 := R64i) (r := 1) (f := f) hAe (by rw [hk]) (fun z => absurd z h9) hx hb hr hP hK hD hS dL_reading_16 hlocks
  · skip
    refine lv_i2l hx hb dL_reading_8 rfl ?_
    refine tv_last (D := D) (f := f) (x := V.2.1.toInt64) (wsN := tv_hw cI cZ cL h a1 a2 a3 a4 ol V.2.2 (vp_updL f 0 V.2.1.toInt64)) hx hb hK hP hD hS 5 rfl rfl dL_reading_9 (fun H locs hP hD hS => ?_)
    refine lv_goto (tgt := 17) hx hb dL_reading_10 (by decide) ?_
    refine lv_iconst (v := 0) hx hb dL_reading_17 (by decide) ?_
    exact tv_iretH (wf := (tv_hw cI cZ cL h a1 a2 a3 a4 ol)) (R64 := R64i) (r := 0) (f := vp_updL f 0 V.2.1.toInt64) hAe h0.symm (fun _ => pk_uLs) hx hb hr hP hK hD hS dL_reading_18 hlocks
set_option maxHeartbeats 4000000 in
set_option maxRecDepth 100000 in
theorem c_L_level (l : Launch) (hT : l.stackTraces = false) (D : va_G) (cI cZ cL : ClassId) (h a1 a2 a3 a4 : Nat) (rd lv op nt : Nat → Int32) (ol : Nat) (f : Nat → Int64) (sz : Nat) (x1 x2 x3 : Int32) (V : TV) (hV : V = sp_level x1 x2 x3 (rd, lv, op, nt)) : Met l yL_level wsL_level tv_rmH (tv_PH D cI cZ cL (tv_hw cI cZ cL h a1 a2 a3 a4 ol (rd, lv, op, nt) f) sz [.ref h, .int x1, .int x2, .int x3, .ref ol]) (tv_QH D cI cZ cL (tv_hw cI cZ cL h a1 a2 a3 a4 ol) (tv_hw cI cZ cL h a1 a2 a3 a4 ol (rd, lv, op, nt) f) sz V R64z) 1 6 (va_A (tv_hw cI cZ cL h a1 a2 a3 a4 ol (rd, lv, op, nt) f) sz) := by
  refine va_MetW (cc := cL_level) (maxL := 6) (ret := some .int) (hh := [(0, 19, 22, 13), (0, 19, 26, 15)]) (by decide) rfl ?_
  intro p e s m args below meth c s₁ B hml hv
  obtain ⟨rfl, hsz, hP, hK, hD0, hE, hC⟩ := hv
  subst hsz
  have hx := B.exec
  have hb := B.bytes
  have hr := B.returns
  have hts := atoms_spec (ws := wsL_level) B.pre
  have hown : s.vm.findClass RL = some m.cls := findClass_of_methodNamed B.named
  have hlocks := B.notSynchronized
  have htab := vx_table (x := yL_level) B (hts (.codeWith yL_level cL_level 6 (some .int) [(0, 19, 22, 13), (0, 19, 26, 15)]) (by decide +kernel))
  have hD := hD0.self (sz := s.heap.size)
  obtain ⟨A, hAe⟩ : ∃ A, A = va_A (tv_hw cI cZ cL h a1 a2 a3 a4 ol (rd, lv, op, nt) f) s.heap.size := ⟨_, rfl⟩
  rw [← hAe] at hD hE
  have hA : ∀ q : Nat, s.heap.size ≤ q → A q := fun q h => by rw [hAe]; exact Or.inr h
  have hS : va_S A s.heap s.heap [] := va_S.rf
  clear hD0
  have hk : V.1 = 0 ∨ V = (1, 0, (rd, lv, op, nt)) ∨ V = (2, 0, (rd, lv, op, nt)) := by rw [hV]; exact sp_k rfl
  have hl := lv_entry ([.ref h, .int x1, .int x2, .int x3, .ref ol]) (n := 6) (Nat.le_of_ble_eq_true rfl)
  rw [lg_entry_eq]
  generalize (lg_sl ([.ref h, .int x1, .int x2, .int x3, .ref ol]) ++ List.replicate (6 - (lg_sl ([.ref h, .int x1, .int x2, .int x3, .ref ol])).length) Slot.unset).toArray = ls at hl ⊢
  have hl : lv_has ls 6 [(0, .ref h), (1, .int x1), (2, .int x2), (3, .int x3), (4, .ref ol)] := hl
  refine lv_aload hx hb dL_level_0 (lv_at hl 4 rfl) ?_
  refine lv_iconst (v := 0) hx hb dL_level_2 (by decide) ?_
  refine lv_aload_n hx hb dL_level_3 rfl (lv_at hl 0 rfl) ?_
  refine lv_iload_n hx hb dL_level_4 rfl (lv_at hl 1 rfl) ?_
  refine lv_iload_n hx hb dL_level_5 rfl (lv_at hl 2 rfl) ?_
  refine lv_iload_n hx hb dL_level_6 rfl (lv_at hl 3 rfl) ?_
  refine tv_callP (D := D) (V := V) (wf := tv_cw cI cZ h a1 a2 a3 a4) (ws := (tv_hw cI cZ cL h a1 a2 a3 a4 ol (rd, lv, op, nt) f)) (wc := (tv_cw cI cZ h a1 a2 a3 a4 (rd, lv, op, nt))) (wr := [(ol, .inl (cL, 1, .inr (.inl f)))]) (wsN := tv_hw cI cZ cL h a1 a2 a3 a4 ol V.2.2 f) (vx_runV (As := [.int x1, .int x2, .int x3]) (rest := [.int 0, .ref ol]) ⟨hx, hb, hml, hown, hts⟩ (c_X0_level l hT D cI cZ cL h a1 a2 a3 a4 rd lv op nt s.heap.size x1 x2 x3 V hV) (cwV 3 hts gL_level_X0_level rfl rfl rfl (by decide +kernel) ⟨Nat.le_of_ble_eq_true rfl, Nat.le_of_ble_eq_true rfl⟩) (tv_prePV hP hK hD hS hA hE [0, 1, 2, 3, 4] rfl rfl rfl rfl 0 rfl) rfl rfl hl.1 rfl (lv_room (Nat.le_of_ble_eq_true rfl)) dL_level_7 ⟨Nat.le_of_ble_eq_true rfl, Nat.le_of_ble_eq_true rfl⟩) hP hD hS hA [0, 1, 2, 3, 4] [5] rfl rfl rfl (by decide) [1, 2, 3, 4, 5, 0] rfl rfl rfl (fun ce q9 H locs h9 hP hS hce hcv hcl => ?_) (fun H locs h0 hP hD hS => ?_)
  · rcases hk with hk | hk | hk
    · exact absurd hk h9
    · have hcl : s.vm.findClass "java/lang/IndexOutOfBoundsException" = some ce.cls := by rw [hk] at hcl; exact hcl
      refine vx_catch (own := RL) (name := "java/lang/IndexOutOfBoundsException") (E := "java/lang/IndexOutOfBoundsException") hown [] ⟨0, 19, 22, 13⟩ [⟨0, 19, 26, 15⟩] htab (fun z hz => nomatch hz) (by decide) (by decide) (hts (.classLink RL 13 "java/lang/IndexOutOfBoundsException") (by decide +kernel)) (va_Nw.use rfl (hE.2.2.1 (.castable "java/lang/IndexOutOfBoundsException" "java/lang/IndexOutOfBoundsException") (by decide +kernel))) hce hcv hcl ?_
      refine lv_astore (lv' := [(5, .ref q9), (0, .ref h), (1, .int x1), (2, .int x2), (3, .int x3), (4, .ref ol)]) hx hb dL_level_22 hl (by decide) rfl (fun ls hl => ?_)
      refine lv_iconst (v := 1) hx hb dL_level_24 (by decide) ?_
      have hP : va_P D vwCl (tv_hw cI cZ cL h a1 a2 a3 a4 ol V.2.2 f) H := by rw [hk]; exact hP
      have hD : va_D A (tv_hw cI cZ cL h a1 a2 a3 a4 ol V.2.2 f) := by rw [hk]; exact hD
      exact tv_iretH (wf := (tv_hw cI cZ cL h a1 a2 a3 a4 ol)) (R64 := R64z) (r := 1) (f := f) hAe (by rw [hk]) (fun z => absurd z h9) hx hb hr hP hK hD hS dL_level_25 hlocks
    · have hcl : s.vm.findClass "java/lang/IllegalArgumentException" = some ce.cls := by rw [hk] at hcl; exact hcl
      refine vx_catch (own := RL) (name := "java/lang/IllegalArgumentException") (E := "java/lang/IllegalArgumentException") hown [⟨0, 19, 22, 13⟩] ⟨0, 19, 26, 15⟩ [] htab (fun z hz => by cases List.mem_singleton.mp hz; exact Or.inr ⟨by decide, "java/lang/IndexOutOfBoundsException", hts (.classLink RL 13 "java/lang/IndexOutOfBoundsException") (by decide +kernel), hC.1⟩) (by decide) (by decide) (hts (.classLink RL 15 "java/lang/IllegalArgumentException") (by decide +kernel)) (va_Nw.use rfl (hE.2.2.1 (.castable "java/lang/IllegalArgumentException" "java/lang/IllegalArgumentException") (by decide +kernel))) hce hcv hcl ?_
      refine lv_astore (lv' := [(5, .ref q9), (0, .ref h), (1, .int x1), (2, .int x2), (3, .int x3), (4, .ref ol)]) hx hb dL_level_26 hl (by decide) rfl (fun ls hl => ?_)
      refine lv_iconst (v := 2) hx hb dL_level_28 (by decide) ?_
      have hP : va_P D vwCl (tv_hw cI cZ cL h a1 a2 a3 a4 ol V.2.2 f) H := by rw [hk]; exact hP
      have hD : va_D A (tv_hw cI cZ cL h a1 a2 a3 a4 ol V.2.2 f) := by rw [hk]; exact hD
      exact tv_iretH (wf := (tv_hw cI cZ cL h a1 a2 a3 a4 ol)) (R64 := R64z) (r := 2) (f := f) hAe (by rw [hk]) (fun z => absurd z h9) hx hb hr hP hK hD hS dL_level_29 hlocks
  · skip
    refine lv_if_eq (tgt := 17) hx hb dL_level_10 (by decide) (fun c_1 => ?_) (fun c_1 => ?_)
    · skip
      refine lv_lconst (v := 0) hx hb dL_level_17 (by decide) ?_
      refine tv_last (D := D) (f := f) (x := 0) (wsN := tv_hw cI cZ cL h a1 a2 a3 a4 ol V.2.2 (vp_updL f 0 0)) hx hb hK hP hD hS 5 rfl rfl dL_level_18 (fun H locs hP hD hS => ?_)
      refine lv_goto (tgt := 30) hx hb dL_level_19 (by decide) ?_
      refine lv_iconst (v := 0) hx hb dL_level_30 (by decide) ?_
      exact tv_iretH (wf := (tv_hw cI cZ cL h a1 a2 a3 a4 ol)) (R64 := R64z) (r := 0) (f := vp_updL f 0 0) hAe h0.symm (fun _ => by rw [R64z, if_pos c_1]; exact pk_uLs) hx hb hr hP hK hD hS dL_level_31 hlocks
    · skip
      refine lv_lconst (v := 1) hx hb dL_level_13 (by decide) ?_
      refine lv_goto (tgt := 18) hx hb dL_level_14 (by decide) ?_
      refine tv_last (D := D) (f := f) (x := 1) (wsN := tv_hw cI cZ cL h a1 a2 a3 a4 ol V.2.2 (vp_updL f 0 1)) hx hb hK hP hD hS 5 rfl rfl dL_level_18 (fun H locs hP hD hS => ?_)
      refine lv_goto (tgt := 30) hx hb dL_level_19 (by decide) ?_
      refine lv_iconst (v := 0) hx hb dL_level_30 (by decide) ?_
      exact tv_iretH (wf := (tv_hw cI cZ cL h a1 a2 a3 a4 ol)) (R64 := R64z) (r := 0) (f := vp_updL f 0 1) hAe h0.symm (fun _ => by rw [R64z, if_neg c_1]; exact pk_uLs) hx hb hr hP hK hD hS dL_level_31 hlocks
set_option maxHeartbeats 4000000 in
set_option maxRecDepth 100000 in
theorem c_L_copy (l : Launch) (hT : l.stackTraces = false) (D : va_G) (cI cZ cL : ClassId) (h a1 a2 a3 a4 : Nat) (rd lv op nt : Nat → Int32) (ol : Nat) (f : Nat → Int64) (sz : Nat) (x1 x2 : Int32) (V : TV) (hV : V = sp_copy x1 x2 (rd, lv, op, nt)) : Met l yL_copy wsL_copy tv_rmH (tv_PH D cI cZ cL (tv_hw cI cZ cL h a1 a2 a3 a4 ol (rd, lv, op, nt) f) sz [.ref h, .int x1, .int x2, .ref ol]) (tv_QH D cI cZ cL (tv_hw cI cZ cL h a1 a2 a3 a4 ol) (tv_hw cI cZ cL h a1 a2 a3 a4 ol (rd, lv, op, nt) f) sz V R64i) 1 6 (va_A (tv_hw cI cZ cL h a1 a2 a3 a4 ol (rd, lv, op, nt) f) sz) := by
  refine va_MetW (cc := cL_copy) (maxL := 5) (ret := some .int) (hh := [(0, 10, 13, 13), (0, 10, 17, 15)]) (by decide) rfl ?_
  intro p e s m args below meth c s₁ B hml hv
  obtain ⟨rfl, hsz, hP, hK, hD0, hE, hC⟩ := hv
  subst hsz
  have hx := B.exec
  have hb := B.bytes
  have hr := B.returns
  have hts := atoms_spec (ws := wsL_copy) B.pre
  have hown : s.vm.findClass RL = some m.cls := findClass_of_methodNamed B.named
  have hlocks := B.notSynchronized
  have htab := vx_table (x := yL_copy) B (hts (.codeWith yL_copy cL_copy 5 (some .int) [(0, 10, 13, 13), (0, 10, 17, 15)]) (by decide +kernel))
  have hD := hD0.self (sz := s.heap.size)
  obtain ⟨A, hAe⟩ : ∃ A, A = va_A (tv_hw cI cZ cL h a1 a2 a3 a4 ol (rd, lv, op, nt) f) s.heap.size := ⟨_, rfl⟩
  rw [← hAe] at hD hE
  have hA : ∀ q : Nat, s.heap.size ≤ q → A q := fun q h => by rw [hAe]; exact Or.inr h
  have hS : va_S A s.heap s.heap [] := va_S.rf
  clear hD0
  have hk : V.1 = 0 ∨ V = (1, 0, (rd, lv, op, nt)) ∨ V = (2, 0, (rd, lv, op, nt)) := by rw [hV]; exact sp_k rfl
  have hl := lv_entry ([.ref h, .int x1, .int x2, .ref ol]) (n := 5) (Nat.le_of_ble_eq_true rfl)
  rw [lg_entry_eq]
  generalize (lg_sl ([.ref h, .int x1, .int x2, .ref ol]) ++ List.replicate (5 - (lg_sl ([.ref h, .int x1, .int x2, .ref ol])).length) Slot.unset).toArray = ls at hl ⊢
  have hl : lv_has ls 5 [(0, .ref h), (1, .int x1), (2, .int x2), (3, .ref ol)] := hl
  refine lv_aload_n hx hb dL_copy_0 rfl (lv_at hl 3 rfl) ?_
  refine lv_iconst (v := 0) hx hb dL_copy_1 (by decide) ?_
  refine lv_aload_n hx hb dL_copy_2 rfl (lv_at hl 0 rfl) ?_
  refine lv_iload_n hx hb dL_copy_3 rfl (lv_at hl 1 rfl) ?_
  refine lv_iload_n hx hb dL_copy_4 rfl (lv_at hl 2 rfl) ?_
  refine tv_callP (D := D) (V := V) (wf := tv_cw cI cZ h a1 a2 a3 a4) (ws := (tv_hw cI cZ cL h a1 a2 a3 a4 ol (rd, lv, op, nt) f)) (wc := (tv_cw cI cZ h a1 a2 a3 a4 (rd, lv, op, nt))) (wr := [(ol, .inl (cL, 1, .inr (.inl f)))]) (wsN := tv_hw cI cZ cL h a1 a2 a3 a4 ol V.2.2 f) (vx_runV (As := [.int x1, .int x2]) (rest := [.int 0, .ref ol]) ⟨hx, hb, hml, hown, hts⟩ (c_X0_copy l hT D cI cZ cL h a1 a2 a3 a4 rd lv op nt s.heap.size x1 x2 V hV) (cwV 2 hts gL_copy_X0_copy rfl rfl rfl (by decide +kernel) ⟨Nat.le_of_ble_eq_true rfl, Nat.le_of_ble_eq_true rfl⟩) (tv_prePV hP hK hD hS hA hE [0, 1, 2, 3, 4] rfl rfl rfl rfl 0 rfl) rfl rfl hl.1 rfl (lv_room (Nat.le_of_ble_eq_true rfl)) dL_copy_5 ⟨Nat.le_of_ble_eq_true rfl, Nat.le_of_ble_eq_true rfl⟩) hP hD hS hA [0, 1, 2, 3, 4] [5] rfl rfl rfl (by decide) [1, 2, 3, 4, 5, 0] rfl rfl rfl (fun ce q9 H locs h9 hP hS hce hcv hcl => ?_) (fun H locs h0 hP hD hS => ?_)
  · rcases hk with hk | hk | hk
    · exact absurd hk h9
    · have hcl : s.vm.findClass "java/lang/IndexOutOfBoundsException" = some ce.cls := by rw [hk] at hcl; exact hcl
      refine vx_catch (own := RL) (name := "java/lang/IndexOutOfBoundsException") (E := "java/lang/IndexOutOfBoundsException") hown [] ⟨0, 10, 13, 13⟩ [⟨0, 10, 17, 15⟩] htab (fun z hz => nomatch hz) (by decide) (by decide) (hts (.classLink RL 13 "java/lang/IndexOutOfBoundsException") (by decide +kernel)) (va_Nw.use rfl (hE.2.2.1 (.castable "java/lang/IndexOutOfBoundsException" "java/lang/IndexOutOfBoundsException") (by decide +kernel))) hce hcv hcl ?_
      refine lv_astore (lv' := [(4, .ref q9), (0, .ref h), (1, .int x1), (2, .int x2), (3, .ref ol)]) hx hb dL_copy_13 hl (by decide) rfl (fun ls hl => ?_)
      refine lv_iconst (v := 1) hx hb dL_copy_15 (by decide) ?_
      have hP : va_P D vwCl (tv_hw cI cZ cL h a1 a2 a3 a4 ol V.2.2 f) H := by rw [hk]; exact hP
      have hD : va_D A (tv_hw cI cZ cL h a1 a2 a3 a4 ol V.2.2 f) := by rw [hk]; exact hD
      exact tv_iretH (wf := (tv_hw cI cZ cL h a1 a2 a3 a4 ol)) (R64 := R64i) (r := 1) (f := f) hAe (by rw [hk]) (fun z => absurd z h9) hx hb hr hP hK hD hS dL_copy_16 hlocks
    · have hcl : s.vm.findClass "java/lang/IllegalArgumentException" = some ce.cls := by rw [hk] at hcl; exact hcl
      refine vx_catch (own := RL) (name := "java/lang/IllegalArgumentException") (E := "java/lang/IllegalArgumentException") hown [⟨0, 10, 13, 13⟩] ⟨0, 10, 17, 15⟩ [] htab (fun z hz => by cases List.mem_singleton.mp hz; exact Or.inr ⟨by decide, "java/lang/IndexOutOfBoundsException", hts (.classLink RL 13 "java/lang/IndexOutOfBoundsException") (by decide +kernel), hC.1⟩) (by decide) (by decide) (hts (.classLink RL 15 "java/lang/IllegalArgumentException") (by decide +kernel)) (va_Nw.use rfl (hE.2.2.1 (.castable "java/lang/IllegalArgumentException" "java/lang/IllegalArgumentException") (by decide +kernel))) hce hcv hcl ?_
      refine lv_astore (lv' := [(4, .ref q9), (0, .ref h), (1, .int x1), (2, .int x2), (3, .ref ol)]) hx hb dL_copy_17 hl (by decide) rfl (fun ls hl => ?_)
      refine lv_iconst (v := 2) hx hb dL_copy_19 (by decide) ?_
      have hP : va_P D vwCl (tv_hw cI cZ cL h a1 a2 a3 a4 ol V.2.2 f) H := by rw [hk]; exact hP
      have hD : va_D A (tv_hw cI cZ cL h a1 a2 a3 a4 ol V.2.2 f) := by rw [hk]; exact hD
      exact tv_iretH (wf := (tv_hw cI cZ cL h a1 a2 a3 a4 ol)) (R64 := R64i) (r := 2) (f := f) hAe (by rw [hk]) (fun z => absurd z h9) hx hb hr hP hK hD hS dL_copy_20 hlocks
  · skip
    refine lv_i2l hx hb dL_copy_8 rfl ?_
    refine tv_last (D := D) (f := f) (x := V.2.1.toInt64) (wsN := tv_hw cI cZ cL h a1 a2 a3 a4 ol V.2.2 (vp_updL f 0 V.2.1.toInt64)) hx hb hK hP hD hS 5 rfl rfl dL_copy_9 (fun H locs hP hD hS => ?_)
    refine lv_goto (tgt := 21) hx hb dL_copy_10 (by decide) ?_
    refine lv_iconst (v := 0) hx hb dL_copy_21 (by decide) ?_
    exact tv_iretH (wf := (tv_hw cI cZ cL h a1 a2 a3 a4 ol)) (R64 := R64i) (r := 0) (f := vp_updL f 0 V.2.1.toInt64) hAe h0.symm (fun _ => pk_uLs) hx hb hr hP hK hD hS dL_copy_22 hlocks
set_option maxHeartbeats 4000000 in
set_option maxRecDepth 100000 in
theorem c_L_straight (l : Launch) (hT : l.stackTraces = false) (D : va_G) (cI cZ cL : ClassId) (h a1 a2 a3 a4 : Nat) (rd lv op nt : Nat → Int32) (ol : Nat) (f : Nat → Int64) (sz : Nat) (x1 x2 x3 : Int32) (V : TV) (hV : V = sp_straight x1 x2 x3 (rd, lv, op, nt)) : Met l yL_straight wsL_straight tv_rmH (tv_PH D cI cZ cL (tv_hw cI cZ cL h a1 a2 a3 a4 ol (rd, lv, op, nt) f) sz [.ref h, .int x1, .int x2, .int x3, .ref ol]) (tv_QH D cI cZ cL (tv_hw cI cZ cL h a1 a2 a3 a4 ol) (tv_hw cI cZ cL h a1 a2 a3 a4 ol (rd, lv, op, nt) f) sz V R64i) 1 6 (va_A (tv_hw cI cZ cL h a1 a2 a3 a4 ol (rd, lv, op, nt) f) sz) := by
  refine va_MetW (cc := cL_straight) (maxL := 6) (ret := some .int) (hh := [(0, 12, 15, 13), (0, 12, 19, 15)]) (by decide) rfl ?_
  intro p e s m args below meth c s₁ B hml hv
  obtain ⟨rfl, hsz, hP, hK, hD0, hE, hC⟩ := hv
  subst hsz
  have hx := B.exec
  have hb := B.bytes
  have hr := B.returns
  have hts := atoms_spec (ws := wsL_straight) B.pre
  have hown : s.vm.findClass RL = some m.cls := findClass_of_methodNamed B.named
  have hlocks := B.notSynchronized
  have htab := vx_table (x := yL_straight) B (hts (.codeWith yL_straight cL_straight 6 (some .int) [(0, 12, 15, 13), (0, 12, 19, 15)]) (by decide +kernel))
  have hD := hD0.self (sz := s.heap.size)
  obtain ⟨A, hAe⟩ : ∃ A, A = va_A (tv_hw cI cZ cL h a1 a2 a3 a4 ol (rd, lv, op, nt) f) s.heap.size := ⟨_, rfl⟩
  rw [← hAe] at hD hE
  have hA : ∀ q : Nat, s.heap.size ≤ q → A q := fun q h => by rw [hAe]; exact Or.inr h
  have hS : va_S A s.heap s.heap [] := va_S.rf
  clear hD0
  have hk : V.1 = 0 ∨ V = (1, 0, (rd, lv, op, nt)) ∨ V = (2, 0, (rd, lv, op, nt)) := by rw [hV]; exact sp_k rfl
  have hl := lv_entry ([.ref h, .int x1, .int x2, .int x3, .ref ol]) (n := 6) (Nat.le_of_ble_eq_true rfl)
  rw [lg_entry_eq]
  generalize (lg_sl ([.ref h, .int x1, .int x2, .int x3, .ref ol]) ++ List.replicate (6 - (lg_sl ([.ref h, .int x1, .int x2, .int x3, .ref ol])).length) Slot.unset).toArray = ls at hl ⊢
  have hl : lv_has ls 6 [(0, .ref h), (1, .int x1), (2, .int x2), (3, .int x3), (4, .ref ol)] := hl
  refine lv_aload hx hb dL_straight_0 (lv_at hl 4 rfl) ?_
  refine lv_iconst (v := 0) hx hb dL_straight_2 (by decide) ?_
  refine lv_aload_n hx hb dL_straight_3 rfl (lv_at hl 0 rfl) ?_
  refine lv_iload_n hx hb dL_straight_4 rfl (lv_at hl 1 rfl) ?_
  refine lv_iload_n hx hb dL_straight_5 rfl (lv_at hl 2 rfl) ?_
  refine lv_iload_n hx hb dL_straight_6 rfl (lv_at hl 3 rfl) ?_
  refine tv_callP (D := D) (V := V) (wf := tv_cw cI cZ h a1 a2 a3 a4) (ws := (tv_hw cI cZ cL h a1 a2 a3 a4 ol (rd, lv, op, nt) f)) (wc := (tv_cw cI cZ h a1 a2 a3 a4 (rd, lv, op, nt))) (wr := [(ol, .inl (cL, 1, .inr (.inl f)))]) (wsN := tv_hw cI cZ cL h a1 a2 a3 a4 ol V.2.2 f) (vx_runV (As := [.int x1, .int x2, .int x3]) (rest := [.int 0, .ref ol]) ⟨hx, hb, hml, hown, hts⟩ (c_X0_straight l hT D cI cZ cL h a1 a2 a3 a4 rd lv op nt s.heap.size x1 x2 x3 V hV) (cwV 3 hts gL_straight_X0_straight rfl rfl rfl (by decide +kernel) ⟨Nat.le_of_ble_eq_true rfl, Nat.le_of_ble_eq_true rfl⟩) (tv_prePV hP hK hD hS hA hE [0, 1, 2, 3, 4] rfl rfl rfl rfl 0 rfl) rfl rfl hl.1 rfl (lv_room (Nat.le_of_ble_eq_true rfl)) dL_straight_7 ⟨Nat.le_of_ble_eq_true rfl, Nat.le_of_ble_eq_true rfl⟩) hP hD hS hA [0, 1, 2, 3, 4] [5] rfl rfl rfl (by decide) [1, 2, 3, 4, 5, 0] rfl rfl rfl (fun ce q9 H locs h9 hP hS hce hcv hcl => ?_) (fun H locs h0 hP hD hS => ?_)
  · rcases hk with hk | hk | hk
    · exact absurd hk h9
    · have hcl : s.vm.findClass "java/lang/IndexOutOfBoundsException" = some ce.cls := by rw [hk] at hcl; exact hcl
      refine vx_catch (own := RL) (name := "java/lang/IndexOutOfBoundsException") (E := "java/lang/IndexOutOfBoundsException") hown [] ⟨0, 12, 15, 13⟩ [⟨0, 12, 19, 15⟩] htab (fun z hz => nomatch hz) (by decide) (by decide) (hts (.classLink RL 13 "java/lang/IndexOutOfBoundsException") (by decide +kernel)) (va_Nw.use rfl (hE.2.2.1 (.castable "java/lang/IndexOutOfBoundsException" "java/lang/IndexOutOfBoundsException") (by decide +kernel))) hce hcv hcl ?_
      refine lv_astore (lv' := [(5, .ref q9), (0, .ref h), (1, .int x1), (2, .int x2), (3, .int x3), (4, .ref ol)]) hx hb dL_straight_15 hl (by decide) rfl (fun ls hl => ?_)
      refine lv_iconst (v := 1) hx hb dL_straight_17 (by decide) ?_
      have hP : va_P D vwCl (tv_hw cI cZ cL h a1 a2 a3 a4 ol V.2.2 f) H := by rw [hk]; exact hP
      have hD : va_D A (tv_hw cI cZ cL h a1 a2 a3 a4 ol V.2.2 f) := by rw [hk]; exact hD
      exact tv_iretH (wf := (tv_hw cI cZ cL h a1 a2 a3 a4 ol)) (R64 := R64i) (r := 1) (f := f) hAe (by rw [hk]) (fun z => absurd z h9) hx hb hr hP hK hD hS dL_straight_18 hlocks
    · have hcl : s.vm.findClass "java/lang/IllegalArgumentException" = some ce.cls := by rw [hk] at hcl; exact hcl
      refine vx_catch (own := RL) (name := "java/lang/IllegalArgumentException") (E := "java/lang/IllegalArgumentException") hown [⟨0, 12, 15, 13⟩] ⟨0, 12, 19, 15⟩ [] htab (fun z hz => by cases List.mem_singleton.mp hz; exact Or.inr ⟨by decide, "java/lang/IndexOutOfBoundsException", hts (.classLink RL 13 "java/lang/IndexOutOfBoundsException") (by decide +kernel), hC.1⟩) (by decide) (by decide) (hts (.classLink RL 15 "java/lang/IllegalArgumentException") (by decide +kernel)) (va_Nw.use rfl (hE.2.2.1 (.castable "java/lang/IllegalArgumentException" "java/lang/IllegalArgumentException") (by decide +kernel))) hce hcv hcl ?_
      refine lv_astore (lv' := [(5, .ref q9), (0, .ref h), (1, .int x1), (2, .int x2), (3, .int x3), (4, .ref ol)]) hx hb dL_straight_19 hl (by decide) rfl (fun ls hl => ?_)
      refine lv_iconst (v := 2) hx hb dL_straight_21 (by decide) ?_
      have hP : va_P D vwCl (tv_hw cI cZ cL h a1 a2 a3 a4 ol V.2.2 f) H := by rw [hk]; exact hP
      have hD : va_D A (tv_hw cI cZ cL h a1 a2 a3 a4 ol V.2.2 f) := by rw [hk]; exact hD
      exact tv_iretH (wf := (tv_hw cI cZ cL h a1 a2 a3 a4 ol)) (R64 := R64i) (r := 2) (f := f) hAe (by rw [hk]) (fun z => absurd z h9) hx hb hr hP hK hD hS dL_straight_22 hlocks
  · skip
    refine lv_i2l hx hb dL_straight_10 rfl ?_
    refine tv_last (D := D) (f := f) (x := V.2.1.toInt64) (wsN := tv_hw cI cZ cL h a1 a2 a3 a4 ol V.2.2 (vp_updL f 0 V.2.1.toInt64)) hx hb hK hP hD hS 5 rfl rfl dL_straight_11 (fun H locs hP hD hS => ?_)
    refine lv_goto (tgt := 23) hx hb dL_straight_12 (by decide) ?_
    refine lv_iconst (v := 0) hx hb dL_straight_23 (by decide) ?_
    exact tv_iretH (wf := (tv_hw cI cZ cL h a1 a2 a3 a4 ol)) (R64 := R64i) (r := 0) (f := vp_updL f 0 V.2.1.toInt64) hAe h0.symm (fun _ => pk_uLs) hx hb hr hP hK hD hS dL_straight_24 hlocks
set_option maxHeartbeats 4000000 in
set_option maxRecDepth 100000 in
theorem c_L_turned (l : Launch) (hT : l.stackTraces = false) (D : va_G) (cI cZ cL : ClassId) (h a1 a2 a3 a4 : Nat) (rd lv op nt : Nat → Int32) (ol : Nat) (f : Nat → Int64) (sz : Nat) (x1 x2 x3 : Int32) (V : TV) (hV : V = sp_turned x1 x2 x3 (rd, lv, op, nt)) : Met l yL_turned wsL_turned tv_rmH (tv_PH D cI cZ cL (tv_hw cI cZ cL h a1 a2 a3 a4 ol (rd, lv, op, nt) f) sz [.ref h, .int x1, .int x2, .int x3, .ref ol]) (tv_QH D cI cZ cL (tv_hw cI cZ cL h a1 a2 a3 a4 ol) (tv_hw cI cZ cL h a1 a2 a3 a4 ol (rd, lv, op, nt) f) sz V R64i) 1 6 (va_A (tv_hw cI cZ cL h a1 a2 a3 a4 ol (rd, lv, op, nt) f) sz) := by
  refine va_MetW (cc := cL_turned) (maxL := 6) (ret := some .int) (hh := [(0, 12, 15, 13), (0, 12, 19, 15)]) (by decide) rfl ?_
  intro p e s m args below meth c s₁ B hml hv
  obtain ⟨rfl, hsz, hP, hK, hD0, hE, hC⟩ := hv
  subst hsz
  have hx := B.exec
  have hb := B.bytes
  have hr := B.returns
  have hts := atoms_spec (ws := wsL_turned) B.pre
  have hown : s.vm.findClass RL = some m.cls := findClass_of_methodNamed B.named
  have hlocks := B.notSynchronized
  have htab := vx_table (x := yL_turned) B (hts (.codeWith yL_turned cL_turned 6 (some .int) [(0, 12, 15, 13), (0, 12, 19, 15)]) (by decide +kernel))
  have hD := hD0.self (sz := s.heap.size)
  obtain ⟨A, hAe⟩ : ∃ A, A = va_A (tv_hw cI cZ cL h a1 a2 a3 a4 ol (rd, lv, op, nt) f) s.heap.size := ⟨_, rfl⟩
  rw [← hAe] at hD hE
  have hA : ∀ q : Nat, s.heap.size ≤ q → A q := fun q h => by rw [hAe]; exact Or.inr h
  have hS : va_S A s.heap s.heap [] := va_S.rf
  clear hD0
  have hk : V.1 = 0 ∨ V = (1, 0, (rd, lv, op, nt)) ∨ V = (2, 0, (rd, lv, op, nt)) := by rw [hV]; exact sp_k rfl
  have hl := lv_entry ([.ref h, .int x1, .int x2, .int x3, .ref ol]) (n := 6) (Nat.le_of_ble_eq_true rfl)
  rw [lg_entry_eq]
  generalize (lg_sl ([.ref h, .int x1, .int x2, .int x3, .ref ol]) ++ List.replicate (6 - (lg_sl ([.ref h, .int x1, .int x2, .int x3, .ref ol])).length) Slot.unset).toArray = ls at hl ⊢
  have hl : lv_has ls 6 [(0, .ref h), (1, .int x1), (2, .int x2), (3, .int x3), (4, .ref ol)] := hl
  refine lv_aload hx hb dL_turned_0 (lv_at hl 4 rfl) ?_
  refine lv_iconst (v := 0) hx hb dL_turned_2 (by decide) ?_
  refine lv_aload_n hx hb dL_turned_3 rfl (lv_at hl 0 rfl) ?_
  refine lv_iload_n hx hb dL_turned_4 rfl (lv_at hl 1 rfl) ?_
  refine lv_iload_n hx hb dL_turned_5 rfl (lv_at hl 2 rfl) ?_
  refine lv_iload_n hx hb dL_turned_6 rfl (lv_at hl 3 rfl) ?_
  refine tv_callP (D := D) (V := V) (wf := tv_cw cI cZ h a1 a2 a3 a4) (ws := (tv_hw cI cZ cL h a1 a2 a3 a4 ol (rd, lv, op, nt) f)) (wc := (tv_cw cI cZ h a1 a2 a3 a4 (rd, lv, op, nt))) (wr := [(ol, .inl (cL, 1, .inr (.inl f)))]) (wsN := tv_hw cI cZ cL h a1 a2 a3 a4 ol V.2.2 f) (vx_runV (As := [.int x1, .int x2, .int x3]) (rest := [.int 0, .ref ol]) ⟨hx, hb, hml, hown, hts⟩ (c_X0_turned l hT D cI cZ cL h a1 a2 a3 a4 rd lv op nt s.heap.size x1 x2 x3 V hV) (cwV 3 hts gL_turned_X0_turned rfl rfl rfl (by decide +kernel) ⟨Nat.le_of_ble_eq_true rfl, Nat.le_of_ble_eq_true rfl⟩) (tv_prePV hP hK hD hS hA hE [0, 1, 2, 3, 4] rfl rfl rfl rfl 0 rfl) rfl rfl hl.1 rfl (lv_room (Nat.le_of_ble_eq_true rfl)) dL_turned_7 ⟨Nat.le_of_ble_eq_true rfl, Nat.le_of_ble_eq_true rfl⟩) hP hD hS hA [0, 1, 2, 3, 4] [5] rfl rfl rfl (by decide) [1, 2, 3, 4, 5, 0] rfl rfl rfl (fun ce q9 H locs h9 hP hS hce hcv hcl => ?_) (fun H locs h0 hP hD hS => ?_)
  · rcases hk with hk | hk | hk
    · exact absurd hk h9
    · have hcl : s.vm.findClass "java/lang/IndexOutOfBoundsException" = some ce.cls := by rw [hk] at hcl; exact hcl
      refine vx_catch (own := RL) (name := "java/lang/IndexOutOfBoundsException") (E := "java/lang/IndexOutOfBoundsException") hown [] ⟨0, 12, 15, 13⟩ [⟨0, 12, 19, 15⟩] htab (fun z hz => nomatch hz) (by decide) (by decide) (hts (.classLink RL 13 "java/lang/IndexOutOfBoundsException") (by decide +kernel)) (va_Nw.use rfl (hE.2.2.1 (.castable "java/lang/IndexOutOfBoundsException" "java/lang/IndexOutOfBoundsException") (by decide +kernel))) hce hcv hcl ?_
      refine lv_astore (lv' := [(5, .ref q9), (0, .ref h), (1, .int x1), (2, .int x2), (3, .int x3), (4, .ref ol)]) hx hb dL_turned_15 hl (by decide) rfl (fun ls hl => ?_)
      refine lv_iconst (v := 1) hx hb dL_turned_17 (by decide) ?_
      have hP : va_P D vwCl (tv_hw cI cZ cL h a1 a2 a3 a4 ol V.2.2 f) H := by rw [hk]; exact hP
      have hD : va_D A (tv_hw cI cZ cL h a1 a2 a3 a4 ol V.2.2 f) := by rw [hk]; exact hD
      exact tv_iretH (wf := (tv_hw cI cZ cL h a1 a2 a3 a4 ol)) (R64 := R64i) (r := 1) (f := f) hAe (by rw [hk]) (fun z => absurd z h9) hx hb hr hP hK hD hS dL_turned_18 hlocks
    · have hcl : s.vm.findClass "java/lang/IllegalArgumentException" = some ce.cls := by rw [hk] at hcl; exact hcl
      refine vx_catch (own := RL) (name := "java/lang/IllegalArgumentException") (E := "java/lang/IllegalArgumentException") hown [⟨0, 12, 15, 13⟩] ⟨0, 12, 19, 15⟩ [] htab (fun z hz => by cases List.mem_singleton.mp hz; exact Or.inr ⟨by decide, "java/lang/IndexOutOfBoundsException", hts (.classLink RL 13 "java/lang/IndexOutOfBoundsException") (by decide +kernel), hC.1⟩) (by decide) (by decide) (hts (.classLink RL 15 "java/lang/IllegalArgumentException") (by decide +kernel)) (va_Nw.use rfl (hE.2.2.1 (.castable "java/lang/IllegalArgumentException" "java/lang/IllegalArgumentException") (by decide +kernel))) hce hcv hcl ?_
      refine lv_astore (lv' := [(5, .ref q9), (0, .ref h), (1, .int x1), (2, .int x2), (3, .int x3), (4, .ref ol)]) hx hb dL_turned_19 hl (by decide) rfl (fun ls hl => ?_)
      refine lv_iconst (v := 2) hx hb dL_turned_21 (by decide) ?_
      have hP : va_P D vwCl (tv_hw cI cZ cL h a1 a2 a3 a4 ol V.2.2 f) H := by rw [hk]; exact hP
      have hD : va_D A (tv_hw cI cZ cL h a1 a2 a3 a4 ol V.2.2 f) := by rw [hk]; exact hD
      exact tv_iretH (wf := (tv_hw cI cZ cL h a1 a2 a3 a4 ol)) (R64 := R64i) (r := 2) (f := f) hAe (by rw [hk]) (fun z => absurd z h9) hx hb hr hP hK hD hS dL_turned_22 hlocks
  · skip
    refine lv_i2l hx hb dL_turned_10 rfl ?_
    refine tv_last (D := D) (f := f) (x := V.2.1.toInt64) (wsN := tv_hw cI cZ cL h a1 a2 a3 a4 ol V.2.2 (vp_updL f 0 V.2.1.toInt64)) hx hb hK hP hD hS 5 rfl rfl dL_turned_11 (fun H locs hP hD hS => ?_)
    refine lv_goto (tgt := 23) hx hb dL_turned_12 (by decide) ?_
    refine lv_iconst (v := 0) hx hb dL_turned_23 (by decide) ?_
    exact tv_iretH (wf := (tv_hw cI cZ cL h a1 a2 a3 a4 ol)) (R64 := R64i) (r := 0) (f := vp_updL f 0 V.2.1.toInt64) hAe h0.symm (fun _ => pk_uLs) hx hb hr hP hK hD hS dL_turned_24 hlocks
set_option maxHeartbeats 4000000 in
set_option maxRecDepth 100000 in
theorem c_L_between (l : Launch) (hT : l.stackTraces = false) (D : va_G) (cI cZ cL : ClassId) (h a1 a2 a3 a4 : Nat) (rd lv op nt : Nat → Int32) (ol : Nat) (f : Nat → Int64) (sz : Nat) (x1 x2 x3 : Int32) (V : TV) (hV : V = sp_between x1 x2 x3 (rd, lv, op, nt)) : Met l yL_between wsL_between tv_rmH (tv_PH D cI cZ cL (tv_hw cI cZ cL h a1 a2 a3 a4 ol (rd, lv, op, nt) f) sz [.ref h, .int x1, .int x2, .int x3, .ref ol]) (tv_QH D cI cZ cL (tv_hw cI cZ cL h a1 a2 a3 a4 ol) (tv_hw cI cZ cL h a1 a2 a3 a4 ol (rd, lv, op, nt) f) sz V R64i) 1 6 (va_A (tv_hw cI cZ cL h a1 a2 a3 a4 ol (rd, lv, op, nt) f) sz) := by
  refine va_MetW (cc := cL_between) (maxL := 6) (ret := some .int) (hh := [(0, 12, 15, 13)]) (by decide) rfl ?_
  intro p e s m args below meth c s₁ B hml hv
  obtain ⟨rfl, hsz, hP, hK, hD0, hE, hC⟩ := hv
  subst hsz
  have hx := B.exec
  have hb := B.bytes
  have hr := B.returns
  have hts := atoms_spec (ws := wsL_between) B.pre
  have hown : s.vm.findClass RL = some m.cls := findClass_of_methodNamed B.named
  have hlocks := B.notSynchronized
  have htab := vx_table (x := yL_between) B (hts (.codeWith yL_between cL_between 6 (some .int) [(0, 12, 15, 13)]) (by decide +kernel))
  have hD := hD0.self (sz := s.heap.size)
  obtain ⟨A, hAe⟩ : ∃ A, A = va_A (tv_hw cI cZ cL h a1 a2 a3 a4 ol (rd, lv, op, nt) f) s.heap.size := ⟨_, rfl⟩
  rw [← hAe] at hD hE
  have hA : ∀ q : Nat, s.heap.size ≤ q → A q := fun q h => by rw [hAe]; exact Or.inr h
  have hS : va_S A s.heap s.heap [] := va_S.rf
  clear hD0
  have hk : V.1 = 0 ∨ V = (1, 0, (rd, lv, op, nt)) := by rw [hV]; exact sp_k1 rfl
  have hl := lv_entry ([.ref h, .int x1, .int x2, .int x3, .ref ol]) (n := 6) (Nat.le_of_ble_eq_true rfl)
  rw [lg_entry_eq]
  generalize (lg_sl ([.ref h, .int x1, .int x2, .int x3, .ref ol]) ++ List.replicate (6 - (lg_sl ([.ref h, .int x1, .int x2, .int x3, .ref ol])).length) Slot.unset).toArray = ls at hl ⊢
  have hl : lv_has ls 6 [(0, .ref h), (1, .int x1), (2, .int x2), (3, .int x3), (4, .ref ol)] := hl
  refine lv_aload hx hb dL_between_0 (lv_at hl 4 rfl) ?_
  refine lv_iconst (v := 0) hx hb dL_between_2 (by decide) ?_
  refine lv_aload_n hx hb dL_between_3 rfl (lv_at hl 0 rfl) ?_
  refine lv_iload_n hx hb dL_between_4 rfl (lv_at hl 1 rfl) ?_
  refine lv_iload_n hx hb dL_between_5 rfl (lv_at hl 2 rfl) ?_
  refine lv_iload_n hx hb dL_between_6 rfl (lv_at hl 3 rfl) ?_
  refine tv_callP (D := D) (V := V) (wf := tv_cw cI cZ h a1 a2 a3 a4) (ws := (tv_hw cI cZ cL h a1 a2 a3 a4 ol (rd, lv, op, nt) f)) (wc := (tv_cw cI cZ h a1 a2 a3 a4 (rd, lv, op, nt))) (wr := [(ol, .inl (cL, 1, .inr (.inl f)))]) (wsN := tv_hw cI cZ cL h a1 a2 a3 a4 ol V.2.2 f) (vx_runV (As := [.int x1, .int x2, .int x3]) (rest := [.int 0, .ref ol]) ⟨hx, hb, hml, hown, hts⟩ (c_X0_between l hT D cI cZ cL h a1 a2 a3 a4 rd lv op nt s.heap.size x1 x2 x3 V hV) (cwV 3 hts gL_between_X0_between rfl rfl rfl (by decide +kernel) ⟨Nat.le_of_ble_eq_true rfl, Nat.le_of_ble_eq_true rfl⟩) (tv_prePV hP hK hD hS hA hE [0, 1, 2, 3, 4] rfl rfl rfl rfl 0 rfl) rfl rfl hl.1 rfl (lv_room (Nat.le_of_ble_eq_true rfl)) dL_between_7 ⟨Nat.le_of_ble_eq_true rfl, Nat.le_of_ble_eq_true rfl⟩) hP hD hS hA [0, 1, 2, 3, 4] [5] rfl rfl rfl (by decide) [1, 2, 3, 4, 5, 0] rfl rfl rfl (fun ce q9 H locs h9 hP hS hce hcv hcl => ?_) (fun H locs h0 hP hD hS => ?_)
  · rcases hk with hk | hk
    · exact absurd hk h9
    · have hcl : s.vm.findClass "java/lang/IndexOutOfBoundsException" = some ce.cls := by rw [hk] at hcl; exact hcl
      refine vx_catch (own := RL) (name := "java/lang/IndexOutOfBoundsException") (E := "java/lang/IndexOutOfBoundsException") hown [] ⟨0, 12, 15, 13⟩ [] htab (fun z hz => nomatch hz) (by decide) (by decide) (hts (.classLink RL 13 "java/lang/IndexOutOfBoundsException") (by decide +kernel)) (va_Nw.use rfl (hE.2.2.1 (.castable "java/lang/IndexOutOfBoundsException" "java/lang/IndexOutOfBoundsException") (by decide +kernel))) hce hcv hcl ?_
      refine lv_astore (lv' := [(5, .ref q9), (0, .ref h), (1, .int x1), (2, .int x2), (3, .int x3), (4, .ref ol)]) hx hb dL_between_15 hl (by decide) rfl (fun ls hl => ?_)
      refine lv_iconst (v := 1) hx hb dL_between_17 (by decide) ?_
      have hP : va_P D vwCl (tv_hw cI cZ cL h a1 a2 a3 a4 ol V.2.2 f) H := by rw [hk]; exact hP
      have hD : va_D A (tv_hw cI cZ cL h a1 a2 a3 a4 ol V.2.2 f) := by rw [hk]; exact hD
      exact tv_iretH (wf := (tv_hw cI cZ cL h a1 a2 a3 a4 ol)) (R64 := R64i) (r := 1) (f := f) hAe (by rw [hk]) (fun z => absurd z h9) hx hb hr hP hK hD hS dL_between_18 hlocks
  · skip
    refine lv_i2l hx hb dL_between_10 rfl ?_
    refine tv_last (D := D) (f := f) (x := V.2.1.toInt64) (wsN := tv_hw cI cZ cL h a1 a2 a3 a4 ol V.2.2 (vp_updL f 0 V.2.1.toInt64)) hx hb hK hP hD hS 5 rfl rfl dL_between_11 (fun H locs hP hD hS => ?_)
    refine lv_goto (tgt := 19) hx hb dL_between_12 (by decide) ?_
    refine lv_iconst (v := 0) hx hb dL_between_19 (by decide) ?_
    exact tv_iretH (wf := (tv_hw cI cZ cL h a1 a2 a3 a4 ol)) (R64 := R64i) (r := 0) (f := vp_updL f 0 V.2.1.toInt64) hAe h0.symm (fun _ => pk_uLs) hx hb hr hP hK hD hS dL_between_20 hlocks
set_option maxHeartbeats 4000000 in
set_option maxRecDepth 100000 in
theorem c_L_must (l : Launch) (hT : l.stackTraces = false) (D : va_G) (cI cZ cL : ClassId) (h a1 a2 a3 a4 : Nat) (rd lv op nt : Nat → Int32) (ol : Nat) (f : Nat → Int64) (sz : Nat) (x1 x2 x3 x4 : Int32) (V : TV) (hV : V = sp_must x1 x2 x3 x4 (rd, lv, op, nt)) : Met l yL_must wsL_must tv_rmH (tv_PH D cI cZ cL (tv_hw cI cZ cL h a1 a2 a3 a4 ol (rd, lv, op, nt) f) sz [.ref h, .int x1, .int x2, .int x3, .int x4, .ref ol]) (tv_QH D cI cZ cL (tv_hw cI cZ cL h a1 a2 a3 a4 ol) (tv_hw cI cZ cL h a1 a2 a3 a4 ol (rd, lv, op, nt) f) sz V R64i) 1 6 (va_A (tv_hw cI cZ cL h a1 a2 a3 a4 ol (rd, lv, op, nt) f) sz) := by
  refine va_MetW (cc := cL_must) (maxL := 7) (ret := some .int) (hh := [(0, 14, 17, 13), (0, 14, 21, 15), (0, 14, 25, 42)]) (by decide) rfl ?_
  intro p e s m args below meth c s₁ B hml hv
  obtain ⟨rfl, hsz, hP, hK, hD0, hE, hC⟩ := hv
  subst hsz
  have hx := B.exec
  have hb := B.bytes
  have hr := B.returns
  have hts := atoms_spec (ws := wsL_must) B.pre
  have hown : s.vm.findClass RL = some m.cls := findClass_of_methodNamed B.named
  have hlocks := B.notSynchronized
  have htab := vx_table (x := yL_must) B (hts (.codeWith yL_must cL_must 7 (some .int) [(0, 14, 17, 13), (0, 14, 21, 15), (0, 14, 25, 42)]) (by decide +kernel))
  have hD := hD0.self (sz := s.heap.size)
  obtain ⟨A, hAe⟩ : ∃ A, A = va_A (tv_hw cI cZ cL h a1 a2 a3 a4 ol (rd, lv, op, nt) f) s.heap.size := ⟨_, rfl⟩
  rw [← hAe] at hD hE
  have hA : ∀ q : Nat, s.heap.size ≤ q → A q := fun q h => by rw [hAe]; exact Or.inr h
  have hS : va_S A s.heap s.heap [] := va_S.rf
  clear hD0
  have hk : V.1 = 0 ∨ V = (1, 0, (rd, lv, op, nt)) ∨ V = (2, 0, (rd, lv, op, nt)) ∨ V = (3, 0, (rd, lv, op, nt)) := by rw [hV]; exact sp_k3
  have hl := lv_entry ([.ref h, .int x1, .int x2, .int x3, .int x4, .ref ol]) (n := 7) (Nat.le_of_ble_eq_true rfl)
  rw [lg_entry_eq]
  generalize (lg_sl ([.ref h, .int x1, .int x2, .int x3, .int x4, .ref ol]) ++ List.replicate (7 - (lg_sl ([.ref h, .int x1, .int x2, .int x3, .int x4, .ref ol])).length) Slot.unset).toArray = ls at hl ⊢
  have hl : lv_has ls 7 [(0, .ref h), (1, .int x1), (2, .int x2), (3, .int x3), (4, .int x4), (5, .ref ol)] := hl
  refine lv_aload hx hb dL_must_0 (lv_at hl 5 rfl) ?_
  refine lv_iconst (v := 0) hx hb dL_must_2 (by decide) ?_
  refine lv_aload_n hx hb dL_must_3 rfl (lv_at hl 0 rfl) ?_
  refine lv_iload_n hx hb dL_must_4 rfl (lv_at hl 1 rfl) ?_
  refine lv_iload_n hx hb dL_must_5 rfl (lv_at hl 2 rfl) ?_
  refine lv_iload_n hx hb dL_must_6 rfl (lv_at hl 3 rfl) ?_
  refine lv_iload hx hb dL_must_7 (lv_at hl 4 rfl) ?_
  refine tv_callP (D := D) (V := V) (wf := tv_cw cI cZ h a1 a2 a3 a4) (ws := (tv_hw cI cZ cL h a1 a2 a3 a4 ol (rd, lv, op, nt) f)) (wc := (tv_cw cI cZ h a1 a2 a3 a4 (rd, lv, op, nt))) (wr := [(ol, .inl (cL, 1, .inr (.inl f)))]) (wsN := tv_hw cI cZ cL h a1 a2 a3 a4 ol V.2.2 f) (vx_runV (As := [.int x1, .int x2, .int x3, .int x4]) (rest := [.int 0, .ref ol]) ⟨hx, hb, hml, hown, hts⟩ (c_X0_must l hT D cI cZ cL h a1 a2 a3 a4 rd lv op nt s.heap.size x1 x2 x3 x4 V hV) (cwV 4 hts gL_must_X0_must rfl rfl rfl (by decide +kernel) ⟨Nat.le_of_ble_eq_true rfl, Nat.le_of_ble_eq_true rfl⟩) (tv_prePV hP hK hD hS hA hE [0, 1, 2, 3, 4] rfl rfl rfl rfl 0 rfl) rfl rfl hl.1 rfl (lv_room (Nat.le_of_ble_eq_true rfl)) dL_must_9 ⟨Nat.le_of_ble_eq_true rfl, Nat.le_of_ble_eq_true rfl⟩) hP hD hS hA [0, 1, 2, 3, 4] [5] rfl rfl rfl (by decide) [1, 2, 3, 4, 5, 0] rfl rfl rfl (fun ce q9 H locs h9 hP hS hce hcv hcl => ?_) (fun H locs h0 hP hD hS => ?_)
  · rcases hk with hk | hk | hk | hk
    · exact absurd hk h9
    · have hcl : s.vm.findClass "java/lang/IndexOutOfBoundsException" = some ce.cls := by rw [hk] at hcl; exact hcl
      refine vx_catch (own := RL) (name := "java/lang/IndexOutOfBoundsException") (E := "java/lang/IndexOutOfBoundsException") hown [] ⟨0, 14, 17, 13⟩ [⟨0, 14, 21, 15⟩, ⟨0, 14, 25, 42⟩] htab (fun z hz => nomatch hz) (by decide) (by decide) (hts (.classLink RL 13 "java/lang/IndexOutOfBoundsException") (by decide +kernel)) (va_Nw.use rfl (hE.2.2.1 (.castable "java/lang/IndexOutOfBoundsException" "java/lang/IndexOutOfBoundsException") (by decide +kernel))) hce hcv hcl ?_
      refine lv_astore (lv' := [(6, .ref q9), (0, .ref h), (1, .int x1), (2, .int x2), (3, .int x3), (4, .int x4), (5, .ref ol)]) hx hb dL_must_17 hl (by decide) rfl (fun ls hl => ?_)
      refine lv_iconst (v := 1) hx hb dL_must_19 (by decide) ?_
      have hP : va_P D vwCl (tv_hw cI cZ cL h a1 a2 a3 a4 ol V.2.2 f) H := by rw [hk]; exact hP
      have hD : va_D A (tv_hw cI cZ cL h a1 a2 a3 a4 ol V.2.2 f) := by rw [hk]; exact hD
      exact tv_iretH (wf := (tv_hw cI cZ cL h a1 a2 a3 a4 ol)) (R64 := R64i) (r := 1) (f := f) hAe (by rw [hk]) (fun z => absurd z h9) hx hb hr hP hK hD hS dL_must_20 hlocks
    · have hcl : s.vm.findClass "java/lang/IllegalArgumentException" = some ce.cls := by rw [hk] at hcl; exact hcl
      refine vx_catch (own := RL) (name := "java/lang/IllegalArgumentException") (E := "java/lang/IllegalArgumentException") hown [⟨0, 14, 17, 13⟩] ⟨0, 14, 21, 15⟩ [⟨0, 14, 25, 42⟩] htab (fun z hz => by cases List.mem_singleton.mp hz; exact Or.inr ⟨by decide, "java/lang/IndexOutOfBoundsException", hts (.classLink RL 13 "java/lang/IndexOutOfBoundsException") (by decide +kernel), hC.1⟩) (by decide) (by decide) (hts (.classLink RL 15 "java/lang/IllegalArgumentException") (by decide +kernel)) (va_Nw.use rfl (hE.2.2.1 (.castable "java/lang/IllegalArgumentException" "java/lang/IllegalArgumentException") (by decide +kernel))) hce hcv hcl ?_
      refine lv_astore (lv' := [(6, .ref q9), (0, .ref h), (1, .int x1), (2, .int x2), (3, .int x3), (4, .int x4), (5, .ref ol)]) hx hb dL_must_21 hl (by decide) rfl (fun ls hl => ?_)
      refine lv_iconst (v := 2) hx hb dL_must_23 (by decide) ?_
      have hP : va_P D vwCl (tv_hw cI cZ cL h a1 a2 a3 a4 ol V.2.2 f) H := by rw [hk]; exact hP
      have hD : va_D A (tv_hw cI cZ cL h a1 a2 a3 a4 ol V.2.2 f) := by rw [hk]; exact hD
      exact tv_iretH (wf := (tv_hw cI cZ cL h a1 a2 a3 a4 ol)) (R64 := R64i) (r := 2) (f := f) hAe (by rw [hk]) (fun z => absurd z h9) hx hb hr hP hK hD hS dL_must_24 hlocks
    · have hcl : s.vm.findClass "java/lang/IllegalStateException" = some ce.cls := by rw [hk] at hcl; exact hcl
      refine vx_catch (own := RL) (name := "java/lang/IllegalStateException") (E := "java/lang/IllegalStateException") hown [⟨0, 14, 17, 13⟩, ⟨0, 14, 21, 15⟩] ⟨0, 14, 25, 42⟩ [] htab (fun z hz => by rcases List.mem_cons.mp hz with rfl | hz; (· exact Or.inr ⟨by decide, "java/lang/IndexOutOfBoundsException", hts (.classLink RL 13 "java/lang/IndexOutOfBoundsException") (by decide +kernel), hC.2.1⟩); (· cases List.mem_singleton.mp hz; exact Or.inr ⟨by decide, "java/lang/IllegalArgumentException", hts (.classLink RL 15 "java/lang/IllegalArgumentException") (by decide +kernel), hC.2.2⟩)) (by decide) (by decide) (hts (.classLink RL 42 "java/lang/IllegalStateException") (by decide +kernel)) (va_Nw.use rfl (hE.2.2.1 (.castable "java/lang/IllegalStateException" "java/lang/IllegalStateException") (by decide +kernel))) hce hcv hcl ?_
      refine lv_astore (lv' := [(6, .ref q9), (0, .ref h), (1, .int x1), (2, .int x2), (3, .int x3), (4, .int x4), (5, .ref ol)]) hx hb dL_must_25 hl (by decide) rfl (fun ls hl => ?_)
      refine lv_iconst (v := 3) hx hb dL_must_27 (by decide) ?_
      have hP : va_P D vwCl (tv_hw cI cZ cL h a1 a2 a3 a4 ol V.2.2 f) H := by rw [hk]; exact hP
      have hD : va_D A (tv_hw cI cZ cL h a1 a2 a3 a4 ol V.2.2 f) := by rw [hk]; exact hD
      exact tv_iretH (wf := (tv_hw cI cZ cL h a1 a2 a3 a4 ol)) (R64 := R64i) (r := 3) (f := f) hAe (by rw [hk]) (fun z => absurd z h9) hx hb hr hP hK hD hS dL_must_28 hlocks
  · skip
    refine lv_i2l hx hb dL_must_12 rfl ?_
    refine tv_last (D := D) (f := f) (x := V.2.1.toInt64) (wsN := tv_hw cI cZ cL h a1 a2 a3 a4 ol V.2.2 (vp_updL f 0 V.2.1.toInt64)) hx hb hK hP hD hS 5 rfl rfl dL_must_13 (fun H locs hP hD hS => ?_)
    refine lv_goto (tgt := 29) hx hb dL_must_14 (by decide) ?_
    refine lv_iconst (v := 0) hx hb dL_must_29 (by decide) ?_
    exact tv_iretH (wf := (tv_hw cI cZ cL h a1 a2 a3 a4 ol)) (R64 := R64i) (r := 0) (f := vp_updL f 0 V.2.1.toInt64) hAe h0.symm (fun _ => pk_uLs) hx hb hr hP hK hD hS dL_must_30 hlocks
set_option maxHeartbeats 4000000 in
set_option maxRecDepth 100000 in
theorem c_L_watch (l : Launch) (hT : l.stackTraces = false) (D : va_G) (cI cZ cL : ClassId) (h a1 a2 a3 a4 : Nat) (rd lv op nt : Nat → Int32) (ol : Nat) (f : Nat → Int64) (sz : Nat) (x1 x2 x3 : Int32) (V : TV) (hV : V = sp_watch x1 x2 x3 (rd, lv, op, nt)) (hop : ∀ j, op j = 0 ∨ op j = 1) : Met l yL_watch wsL_watch tv_rmH (tv_PH D cI cZ cL (tv_hw cI cZ cL h a1 a2 a3 a4 ol (rd, lv, op, nt) f) sz [.ref h, .int x1, .int x2, .int x3, .ref ol]) (tv_QH D cI cZ cL (tv_hw cI cZ cL h a1 a2 a3 a4 ol) (tv_hw cI cZ cL h a1 a2 a3 a4 ol (rd, lv, op, nt) f) sz V R64i) 1 6 (va_A (tv_hw cI cZ cL h a1 a2 a3 a4 ol (rd, lv, op, nt) f) sz) := by
  refine va_MetW (cc := cL_watch) (maxL := 6) (ret := some .int) (hh := [(0, 12, 15, 13)]) (by decide) rfl ?_
  intro p e s m args below meth c s₁ B hml hv
  obtain ⟨rfl, hsz, hP, hK, hD0, hE, hC⟩ := hv
  subst hsz
  have hx := B.exec
  have hb := B.bytes
  have hr := B.returns
  have hts := atoms_spec (ws := wsL_watch) B.pre
  have hown : s.vm.findClass RL = some m.cls := findClass_of_methodNamed B.named
  have hlocks := B.notSynchronized
  have htab := vx_table (x := yL_watch) B (hts (.codeWith yL_watch cL_watch 6 (some .int) [(0, 12, 15, 13)]) (by decide +kernel))
  have hD := hD0.self (sz := s.heap.size)
  obtain ⟨A, hAe⟩ : ∃ A, A = va_A (tv_hw cI cZ cL h a1 a2 a3 a4 ol (rd, lv, op, nt) f) s.heap.size := ⟨_, rfl⟩
  rw [← hAe] at hD hE
  have hA : ∀ q : Nat, s.heap.size ≤ q → A q := fun q h => by rw [hAe]; exact Or.inr h
  have hS : va_S A s.heap s.heap [] := va_S.rf
  clear hD0
  have hk : V.1 = 0 ∨ V = (1, 0, (rd, lv, op, nt)) := by rw [hV]; exact sp_k1 rfl
  have hl := lv_entry ([.ref h, .int x1, .int x2, .int x3, .ref ol]) (n := 6) (Nat.le_of_ble_eq_true rfl)
  rw [lg_entry_eq]
  generalize (lg_sl ([.ref h, .int x1, .int x2, .int x3, .ref ol]) ++ List.replicate (6 - (lg_sl ([.ref h, .int x1, .int x2, .int x3, .ref ol])).length) Slot.unset).toArray = ls at hl ⊢
  have hl : lv_has ls 6 [(0, .ref h), (1, .int x1), (2, .int x2), (3, .int x3), (4, .ref ol)] := hl
  refine lv_aload hx hb dL_watch_0 (lv_at hl 4 rfl) ?_
  refine lv_iconst (v := 0) hx hb dL_watch_2 (by decide) ?_
  refine lv_aload_n hx hb dL_watch_3 rfl (lv_at hl 0 rfl) ?_
  refine lv_iload_n hx hb dL_watch_4 rfl (lv_at hl 1 rfl) ?_
  refine lv_iload_n hx hb dL_watch_5 rfl (lv_at hl 2 rfl) ?_
  refine lv_iload_n hx hb dL_watch_6 rfl (lv_at hl 3 rfl) ?_
  refine tv_callP (D := D) (V := V) (wf := tv_cw cI cZ h a1 a2 a3 a4) (ws := (tv_hw cI cZ cL h a1 a2 a3 a4 ol (rd, lv, op, nt) f)) (wc := (tv_cw cI cZ h a1 a2 a3 a4 (rd, lv, op, nt))) (wr := [(ol, .inl (cL, 1, .inr (.inl f)))]) (wsN := tv_hw cI cZ cL h a1 a2 a3 a4 ol V.2.2 f) (vx_runV (As := [.int x1, .int x2, .int x3]) (rest := [.int 0, .ref ol]) ⟨hx, hb, hml, hown, hts⟩ (c_X0_watch l hT D cI cZ cL h a1 a2 a3 a4 rd lv op nt s.heap.size x1 x2 x3 V hV hop) (cwV 3 hts gL_watch_X0_watch rfl rfl rfl (by decide +kernel) ⟨Nat.le_of_ble_eq_true rfl, Nat.le_of_ble_eq_true rfl⟩) (tv_prePV hP hK hD hS hA hE [0, 1, 2, 3, 4] rfl rfl rfl rfl 0 rfl) rfl rfl hl.1 rfl (lv_room (Nat.le_of_ble_eq_true rfl)) dL_watch_7 ⟨Nat.le_of_ble_eq_true rfl, Nat.le_of_ble_eq_true rfl⟩) hP hD hS hA [0, 1, 2, 3, 4] [5] rfl rfl rfl (by decide) [1, 2, 3, 4, 5, 0] rfl rfl rfl (fun ce q9 H locs h9 hP hS hce hcv hcl => ?_) (fun H locs h0 hP hD hS => ?_)
  · rcases hk with hk | hk
    · exact absurd hk h9
    · have hcl : s.vm.findClass "java/lang/IndexOutOfBoundsException" = some ce.cls := by rw [hk] at hcl; exact hcl
      refine vx_catch (own := RL) (name := "java/lang/IndexOutOfBoundsException") (E := "java/lang/IndexOutOfBoundsException") hown [] ⟨0, 12, 15, 13⟩ [] htab (fun z hz => nomatch hz) (by decide) (by decide) (hts (.classLink RL 13 "java/lang/IndexOutOfBoundsException") (by decide +kernel)) (va_Nw.use rfl (hE.2.2.1 (.castable "java/lang/IndexOutOfBoundsException" "java/lang/IndexOutOfBoundsException") (by decide +kernel))) hce hcv hcl ?_
      refine lv_astore (lv' := [(5, .ref q9), (0, .ref h), (1, .int x1), (2, .int x2), (3, .int x3), (4, .ref ol)]) hx hb dL_watch_15 hl (by decide) rfl (fun ls hl => ?_)
      refine lv_iconst (v := 1) hx hb dL_watch_17 (by decide) ?_
      have hP : va_P D vwCl (tv_hw cI cZ cL h a1 a2 a3 a4 ol V.2.2 f) H := by rw [hk]; exact hP
      have hD : va_D A (tv_hw cI cZ cL h a1 a2 a3 a4 ol V.2.2 f) := by rw [hk]; exact hD
      exact tv_iretH (wf := (tv_hw cI cZ cL h a1 a2 a3 a4 ol)) (R64 := R64i) (r := 1) (f := f) hAe (by rw [hk]) (fun z => absurd z h9) hx hb hr hP hK hD hS dL_watch_18 hlocks
  · skip
    refine lv_i2l hx hb dL_watch_10 rfl ?_
    refine tv_last (D := D) (f := f) (x := V.2.1.toInt64) (wsN := tv_hw cI cZ cL h a1 a2 a3 a4 ol V.2.2 (vp_updL f 0 V.2.1.toInt64)) hx hb hK hP hD hS 5 rfl rfl dL_watch_11 (fun H locs hP hD hS => ?_)
    refine lv_goto (tgt := 19) hx hb dL_watch_12 (by decide) ?_
    refine lv_iconst (v := 0) hx hb dL_watch_19 (by decide) ?_
    exact tv_iretH (wf := (tv_hw cI cZ cL h a1 a2 a3 a4 ol)) (R64 := R64i) (r := 0) (f := vp_updL f 0 V.2.1.toInt64) hAe h0.symm (fun _ => pk_uLs) hx hb hr hP hK hD hS dL_watch_20 hlocks
set_option maxHeartbeats 4000000 in
set_option maxRecDepth 100000 in
theorem c_L_isOpen (l : Launch) (hT : l.stackTraces = false) (D : va_G) (cI cZ cL : ClassId) (h a1 a2 a3 a4 : Nat) (rd lv op nt : Nat → Int32) (ol : Nat) (f : Nat → Int64) (sz : Nat) (x1 : Int32) (V : TV) (hV : V = sp_isOpen x1 (rd, lv, op, nt)) (hop : ∀ j, op j = 0 ∨ op j = 1) : Met l yL_isOpen wsL_isOpen tv_rmH (tv_PH D cI cZ cL (tv_hw cI cZ cL h a1 a2 a3 a4 ol (rd, lv, op, nt) f) sz [.ref h, .int x1, .ref ol]) (tv_QH D cI cZ cL (tv_hw cI cZ cL h a1 a2 a3 a4 ol) (tv_hw cI cZ cL h a1 a2 a3 a4 ol (rd, lv, op, nt) f) sz V R64z) 1 6 (va_A (tv_hw cI cZ cL h a1 a2 a3 a4 ol (rd, lv, op, nt) f) sz) := by
  refine va_MetW (cc := cL_isOpen) (maxL := 4) (ret := some .int) (hh := [(0, 16, 19, 13)]) (by decide) rfl ?_
  intro p e s m args below meth c s₁ B hml hv
  obtain ⟨rfl, hsz, hP, hK, hD0, hE, hC⟩ := hv
  subst hsz
  have hx := B.exec
  have hb := B.bytes
  have hr := B.returns
  have hts := atoms_spec (ws := wsL_isOpen) B.pre
  have hown : s.vm.findClass RL = some m.cls := findClass_of_methodNamed B.named
  have hlocks := B.notSynchronized
  have htab := vx_table (x := yL_isOpen) B (hts (.codeWith yL_isOpen cL_isOpen 4 (some .int) [(0, 16, 19, 13)]) (by decide +kernel))
  have hD := hD0.self (sz := s.heap.size)
  obtain ⟨A, hAe⟩ : ∃ A, A = va_A (tv_hw cI cZ cL h a1 a2 a3 a4 ol (rd, lv, op, nt) f) s.heap.size := ⟨_, rfl⟩
  rw [← hAe] at hD hE
  have hA : ∀ q : Nat, s.heap.size ≤ q → A q := fun q h => by rw [hAe]; exact Or.inr h
  have hS : va_S A s.heap s.heap [] := va_S.rf
  clear hD0
  have hk : V.1 = 0 ∨ V = (1, 0, (rd, lv, op, nt)) := by rw [hV]; exact sp_k1 rfl
  have hl := lv_entry ([.ref h, .int x1, .ref ol]) (n := 4) (Nat.le_of_ble_eq_true rfl)
  rw [lg_entry_eq]
  generalize (lg_sl ([.ref h, .int x1, .ref ol]) ++ List.replicate (4 - (lg_sl ([.ref h, .int x1, .ref ol])).length) Slot.unset).toArray = ls at hl ⊢
  have hl : lv_has ls 4 [(0, .ref h), (1, .int x1), (2, .ref ol)] := hl
  refine lv_aload_n hx hb dL_isOpen_0 rfl (lv_at hl 2 rfl) ?_
  refine lv_iconst (v := 0) hx hb dL_isOpen_1 (by decide) ?_
  refine lv_aload_n hx hb dL_isOpen_2 rfl (lv_at hl 0 rfl) ?_
  refine lv_iload_n hx hb dL_isOpen_3 rfl (lv_at hl 1 rfl) ?_
  refine tv_callP (D := D) (V := V) (wf := tv_cw cI cZ h a1 a2 a3 a4) (ws := (tv_hw cI cZ cL h a1 a2 a3 a4 ol (rd, lv, op, nt) f)) (wc := (tv_cw cI cZ h a1 a2 a3 a4 (rd, lv, op, nt))) (wr := [(ol, .inl (cL, 1, .inr (.inl f)))]) (wsN := tv_hw cI cZ cL h a1 a2 a3 a4 ol V.2.2 f) (vx_runV (As := [.int x1]) (rest := [.int 0, .ref ol]) ⟨hx, hb, hml, hown, hts⟩ (c_X0_isOpen l hT D cI cZ cL h a1 a2 a3 a4 rd lv op nt s.heap.size x1 V hV hop) (cwV 1 hts gL_isOpen_X0_isOpen rfl rfl rfl (by decide +kernel) ⟨Nat.le_of_ble_eq_true rfl, Nat.le_of_ble_eq_true rfl⟩) (tv_prePV hP hK hD hS hA hE [0, 1, 2, 3, 4] rfl rfl rfl rfl 0 rfl) rfl rfl hl.1 rfl (lv_room (Nat.le_of_ble_eq_true rfl)) dL_isOpen_4 ⟨Nat.le_of_ble_eq_true rfl, Nat.le_of_ble_eq_true rfl⟩) hP hD hS hA [0, 1, 2, 3, 4] [5] rfl rfl rfl (by decide) [1, 2, 3, 4, 5, 0] rfl rfl rfl (fun ce q9 H locs h9 hP hS hce hcv hcl => ?_) (fun H locs h0 hP hD hS => ?_)
  · rcases hk with hk | hk
    · exact absurd hk h9
    · have hcl : s.vm.findClass "java/lang/IndexOutOfBoundsException" = some ce.cls := by rw [hk] at hcl; exact hcl
      refine vx_catch (own := RL) (name := "java/lang/IndexOutOfBoundsException") (E := "java/lang/IndexOutOfBoundsException") hown [] ⟨0, 16, 19, 13⟩ [] htab (fun z hz => nomatch hz) (by decide) (by decide) (hts (.classLink RL 13 "java/lang/IndexOutOfBoundsException") (by decide +kernel)) (va_Nw.use rfl (hE.2.2.1 (.castable "java/lang/IndexOutOfBoundsException" "java/lang/IndexOutOfBoundsException") (by decide +kernel))) hce hcv hcl ?_
      refine lv_astore_n (lv' := [(3, .ref q9), (0, .ref h), (1, .int x1), (2, .ref ol)]) hx hb dL_isOpen_19 rfl hl (by decide) rfl (fun ls hl => ?_)
      refine lv_iconst (v := 1) hx hb dL_isOpen_20 (by decide) ?_
      have hP : va_P D vwCl (tv_hw cI cZ cL h a1 a2 a3 a4 ol V.2.2 f) H := by rw [hk]; exact hP
      have hD : va_D A (tv_hw cI cZ cL h a1 a2 a3 a4 ol V.2.2 f) := by rw [hk]; exact hD
      exact tv_iretH (wf := (tv_hw cI cZ cL h a1 a2 a3 a4 ol)) (R64 := R64z) (r := 1) (f := f) hAe (by rw [hk]) (fun z => absurd z h9) hx hb hr hP hK hD hS dL_isOpen_21 hlocks
  · skip
    refine lv_if_eq (tgt := 14) hx hb dL_isOpen_7 (by decide) (fun c_1 => ?_) (fun c_1 => ?_)
    · skip
      refine lv_lconst (v := 0) hx hb dL_isOpen_14 (by decide) ?_
      refine tv_last (D := D) (f := f) (x := 0) (wsN := tv_hw cI cZ cL h a1 a2 a3 a4 ol V.2.2 (vp_updL f 0 0)) hx hb hK hP hD hS 5 rfl rfl dL_isOpen_15 (fun H locs hP hD hS => ?_)
      refine lv_goto (tgt := 22) hx hb dL_isOpen_16 (by decide) ?_
      refine lv_iconst (v := 0) hx hb dL_isOpen_22 (by decide) ?_
      exact tv_iretH (wf := (tv_hw cI cZ cL h a1 a2 a3 a4 ol)) (R64 := R64z) (r := 0) (f := vp_updL f 0 0) hAe h0.symm (fun _ => by rw [R64z, if_pos c_1]; exact pk_uLs) hx hb hr hP hK hD hS dL_isOpen_23 hlocks
    · skip
      refine lv_lconst (v := 1) hx hb dL_isOpen_10 (by decide) ?_
      refine lv_goto (tgt := 15) hx hb dL_isOpen_11 (by decide) ?_
      refine tv_last (D := D) (f := f) (x := 1) (wsN := tv_hw cI cZ cL h a1 a2 a3 a4 ol V.2.2 (vp_updL f 0 1)) hx hb hK hP hD hS 5 rfl rfl dL_isOpen_15 (fun H locs hP hD hS => ?_)
      refine lv_goto (tgt := 22) hx hb dL_isOpen_16 (by decide) ?_
      refine lv_iconst (v := 0) hx hb dL_isOpen_22 (by decide) ?_
      exact tv_iretH (wf := (tv_hw cI cZ cL h a1 a2 a3 a4 ol)) (R64 := R64z) (r := 0) (f := vp_updL f 0 1) hAe h0.symm (fun _ => by rw [R64z, if_neg c_1]; exact pk_uLs) hx hb hr hP hK hD hS dL_isOpen_23 hlocks
set_option maxHeartbeats 4000000 in
set_option maxRecDepth 100000 in
theorem c_L_climb (l : Launch) (hT : l.stackTraces = false) (D : va_G) (cI cZ cL : ClassId) (h a1 a2 a3 a4 : Nat) (rd lv op nt : Nat → Int32) (ol : Nat) (f : Nat → Int64) (sz : Nat) (x1 x2 x3 : Int32) (V : TV) (hV : V = sp_climb x1 x2 x3 (rd, lv, op, nt)) : Met l yL_climb wsL_climb tv_rmH (tv_PH D cI cZ cL (tv_hw cI cZ cL h a1 a2 a3 a4 ol (rd, lv, op, nt) f) sz [.ref h, .int x1, .int x2, .int x3, .ref ol]) (tv_QH D cI cZ cL (tv_hw cI cZ cL h a1 a2 a3 a4 ol) (tv_hw cI cZ cL h a1 a2 a3 a4 ol (rd, lv, op, nt) f) sz V R64i) 1 6 (va_A (tv_hw cI cZ cL h a1 a2 a3 a4 ol (rd, lv, op, nt) f) sz) := by
  refine va_MetW (cc := cL_climb) (maxL := 6) (ret := some .int) (hh := [(0, 12, 15, 13), (0, 12, 19, 15)]) (by decide) rfl ?_
  intro p e s m args below meth c s₁ B hml hv
  obtain ⟨rfl, hsz, hP, hK, hD0, hE, hC⟩ := hv
  subst hsz
  have hx := B.exec
  have hb := B.bytes
  have hr := B.returns
  have hts := atoms_spec (ws := wsL_climb) B.pre
  have hown : s.vm.findClass RL = some m.cls := findClass_of_methodNamed B.named
  have hlocks := B.notSynchronized
  have htab := vx_table (x := yL_climb) B (hts (.codeWith yL_climb cL_climb 6 (some .int) [(0, 12, 15, 13), (0, 12, 19, 15)]) (by decide +kernel))
  have hD := hD0.self (sz := s.heap.size)
  obtain ⟨A, hAe⟩ : ∃ A, A = va_A (tv_hw cI cZ cL h a1 a2 a3 a4 ol (rd, lv, op, nt) f) s.heap.size := ⟨_, rfl⟩
  rw [← hAe] at hD hE
  have hA : ∀ q : Nat, s.heap.size ≤ q → A q := fun q h => by rw [hAe]; exact Or.inr h
  have hS : va_S A s.heap s.heap [] := va_S.rf
  clear hD0
  have hk : V.1 = 0 ∨ V = (1, 0, (rd, lv, op, nt)) ∨ V = (2, 0, (rd, lv, op, nt)) := by rw [hV]; exact sp_k rfl
  have hl := lv_entry ([.ref h, .int x1, .int x2, .int x3, .ref ol]) (n := 6) (Nat.le_of_ble_eq_true rfl)
  rw [lg_entry_eq]
  generalize (lg_sl ([.ref h, .int x1, .int x2, .int x3, .ref ol]) ++ List.replicate (6 - (lg_sl ([.ref h, .int x1, .int x2, .int x3, .ref ol])).length) Slot.unset).toArray = ls at hl ⊢
  have hl : lv_has ls 6 [(0, .ref h), (1, .int x1), (2, .int x2), (3, .int x3), (4, .ref ol)] := hl
  refine lv_aload hx hb dL_climb_0 (lv_at hl 4 rfl) ?_
  refine lv_iconst (v := 0) hx hb dL_climb_2 (by decide) ?_
  refine lv_aload_n hx hb dL_climb_3 rfl (lv_at hl 0 rfl) ?_
  refine lv_iload_n hx hb dL_climb_4 rfl (lv_at hl 1 rfl) ?_
  refine lv_iload_n hx hb dL_climb_5 rfl (lv_at hl 2 rfl) ?_
  refine lv_iload_n hx hb dL_climb_6 rfl (lv_at hl 3 rfl) ?_
  refine tv_callP (D := D) (V := V) (wf := tv_cw cI cZ h a1 a2 a3 a4) (ws := (tv_hw cI cZ cL h a1 a2 a3 a4 ol (rd, lv, op, nt) f)) (wc := (tv_cw cI cZ h a1 a2 a3 a4 (rd, lv, op, nt))) (wr := [(ol, .inl (cL, 1, .inr (.inl f)))]) (wsN := tv_hw cI cZ cL h a1 a2 a3 a4 ol V.2.2 f) (vx_runV (As := [.int x1, .int x2, .int x3]) (rest := [.int 0, .ref ol]) ⟨hx, hb, hml, hown, hts⟩ (c_X0_climb l hT D cI cZ cL h a1 a2 a3 a4 rd lv op nt s.heap.size x1 x2 x3 V hV) (cwV 3 hts gL_climb_X0_climb rfl rfl rfl (by decide +kernel) ⟨Nat.le_of_ble_eq_true rfl, Nat.le_of_ble_eq_true rfl⟩) (tv_prePV hP hK hD hS hA hE [0, 1, 2, 3, 4] rfl rfl rfl rfl 0 rfl) rfl rfl hl.1 rfl (lv_room (Nat.le_of_ble_eq_true rfl)) dL_climb_7 ⟨Nat.le_of_ble_eq_true rfl, Nat.le_of_ble_eq_true rfl⟩) hP hD hS hA [0, 1, 2, 3, 4] [5] rfl rfl rfl (by decide) [1, 2, 3, 4, 5, 0] rfl rfl rfl (fun ce q9 H locs h9 hP hS hce hcv hcl => ?_) (fun H locs h0 hP hD hS => ?_)
  · rcases hk with hk | hk | hk
    · exact absurd hk h9
    · have hcl : s.vm.findClass "java/lang/IndexOutOfBoundsException" = some ce.cls := by rw [hk] at hcl; exact hcl
      refine vx_catch (own := RL) (name := "java/lang/IndexOutOfBoundsException") (E := "java/lang/IndexOutOfBoundsException") hown [] ⟨0, 12, 15, 13⟩ [⟨0, 12, 19, 15⟩] htab (fun z hz => nomatch hz) (by decide) (by decide) (hts (.classLink RL 13 "java/lang/IndexOutOfBoundsException") (by decide +kernel)) (va_Nw.use rfl (hE.2.2.1 (.castable "java/lang/IndexOutOfBoundsException" "java/lang/IndexOutOfBoundsException") (by decide +kernel))) hce hcv hcl ?_
      refine lv_astore (lv' := [(5, .ref q9), (0, .ref h), (1, .int x1), (2, .int x2), (3, .int x3), (4, .ref ol)]) hx hb dL_climb_15 hl (by decide) rfl (fun ls hl => ?_)
      refine lv_iconst (v := 1) hx hb dL_climb_17 (by decide) ?_
      have hP : va_P D vwCl (tv_hw cI cZ cL h a1 a2 a3 a4 ol V.2.2 f) H := by rw [hk]; exact hP
      have hD : va_D A (tv_hw cI cZ cL h a1 a2 a3 a4 ol V.2.2 f) := by rw [hk]; exact hD
      exact tv_iretH (wf := (tv_hw cI cZ cL h a1 a2 a3 a4 ol)) (R64 := R64i) (r := 1) (f := f) hAe (by rw [hk]) (fun z => absurd z h9) hx hb hr hP hK hD hS dL_climb_18 hlocks
    · have hcl : s.vm.findClass "java/lang/IllegalArgumentException" = some ce.cls := by rw [hk] at hcl; exact hcl
      refine vx_catch (own := RL) (name := "java/lang/IllegalArgumentException") (E := "java/lang/IllegalArgumentException") hown [⟨0, 12, 15, 13⟩] ⟨0, 12, 19, 15⟩ [] htab (fun z hz => by cases List.mem_singleton.mp hz; exact Or.inr ⟨by decide, "java/lang/IndexOutOfBoundsException", hts (.classLink RL 13 "java/lang/IndexOutOfBoundsException") (by decide +kernel), hC.1⟩) (by decide) (by decide) (hts (.classLink RL 15 "java/lang/IllegalArgumentException") (by decide +kernel)) (va_Nw.use rfl (hE.2.2.1 (.castable "java/lang/IllegalArgumentException" "java/lang/IllegalArgumentException") (by decide +kernel))) hce hcv hcl ?_
      refine lv_astore (lv' := [(5, .ref q9), (0, .ref h), (1, .int x1), (2, .int x2), (3, .int x3), (4, .ref ol)]) hx hb dL_climb_19 hl (by decide) rfl (fun ls hl => ?_)
      refine lv_iconst (v := 2) hx hb dL_climb_21 (by decide) ?_
      have hP : va_P D vwCl (tv_hw cI cZ cL h a1 a2 a3 a4 ol V.2.2 f) H := by rw [hk]; exact hP
      have hD : va_D A (tv_hw cI cZ cL h a1 a2 a3 a4 ol V.2.2 f) := by rw [hk]; exact hD
      exact tv_iretH (wf := (tv_hw cI cZ cL h a1 a2 a3 a4 ol)) (R64 := R64i) (r := 2) (f := f) hAe (by rw [hk]) (fun z => absurd z h9) hx hb hr hP hK hD hS dL_climb_22 hlocks
  · skip
    refine lv_i2l hx hb dL_climb_10 rfl ?_
    refine tv_last (D := D) (f := f) (x := V.2.1.toInt64) (wsN := tv_hw cI cZ cL h a1 a2 a3 a4 ol V.2.2 (vp_updL f 0 V.2.1.toInt64)) hx hb hK hP hD hS 5 rfl rfl dL_climb_11 (fun H locs hP hD hS => ?_)
    refine lv_goto (tgt := 23) hx hb dL_climb_12 (by decide) ?_
    refine lv_iconst (v := 0) hx hb dL_climb_23 (by decide) ?_
    exact tv_iretH (wf := (tv_hw cI cZ cL h a1 a2 a3 a4 ol)) (R64 := R64i) (r := 0) (f := vp_updL f 0 V.2.1.toInt64) hAe h0.symm (fun _ => pk_uLs) hx hb hr hP hK hD hS dL_climb_24 hlocks
set_option maxHeartbeats 4000000 in
set_option maxRecDepth 100000 in
theorem c_L_drift (l : Launch) (hT : l.stackTraces = false) (D : va_G) (cI cZ cL : ClassId) (h a1 a2 a3 a4 : Nat) (rd lv op nt : Nat → Int32) (ol : Nat) (f : Nat → Int64) (sz : Nat) (x1 x2 x3 : Int32) (V : TV) (hV : V = sp_drift x1 x2 x3 (rd, lv, op, nt)) : Met l yL_drift wsL_drift tv_rmH (tv_PH D cI cZ cL (tv_hw cI cZ cL h a1 a2 a3 a4 ol (rd, lv, op, nt) f) sz [.ref h, .int x1, .int x2, .int x3, .ref ol]) (tv_QH D cI cZ cL (tv_hw cI cZ cL h a1 a2 a3 a4 ol) (tv_hw cI cZ cL h a1 a2 a3 a4 ol (rd, lv, op, nt) f) sz V R64i) 1 6 (va_A (tv_hw cI cZ cL h a1 a2 a3 a4 ol (rd, lv, op, nt) f) sz) := by
  refine va_MetW (cc := cL_drift) (maxL := 6) (ret := some .int) (hh := [(0, 12, 15, 13), (0, 12, 19, 15)]) (by decide) rfl ?_
  intro p e s m args below meth c s₁ B hml hv
  obtain ⟨rfl, hsz, hP, hK, hD0, hE, hC⟩ := hv
  subst hsz
  have hx := B.exec
  have hb := B.bytes
  have hr := B.returns
  have hts := atoms_spec (ws := wsL_drift) B.pre
  have hown : s.vm.findClass RL = some m.cls := findClass_of_methodNamed B.named
  have hlocks := B.notSynchronized
  have htab := vx_table (x := yL_drift) B (hts (.codeWith yL_drift cL_drift 6 (some .int) [(0, 12, 15, 13), (0, 12, 19, 15)]) (by decide +kernel))
  have hD := hD0.self (sz := s.heap.size)
  obtain ⟨A, hAe⟩ : ∃ A, A = va_A (tv_hw cI cZ cL h a1 a2 a3 a4 ol (rd, lv, op, nt) f) s.heap.size := ⟨_, rfl⟩
  rw [← hAe] at hD hE
  have hA : ∀ q : Nat, s.heap.size ≤ q → A q := fun q h => by rw [hAe]; exact Or.inr h
  have hS : va_S A s.heap s.heap [] := va_S.rf
  clear hD0
  have hk : V.1 = 0 ∨ V = (1, 0, (rd, lv, op, nt)) ∨ V = (2, 0, (rd, lv, op, nt)) := by rw [hV]; exact sp_k rfl
  have hl := lv_entry ([.ref h, .int x1, .int x2, .int x3, .ref ol]) (n := 6) (Nat.le_of_ble_eq_true rfl)
  rw [lg_entry_eq]
  generalize (lg_sl ([.ref h, .int x1, .int x2, .int x3, .ref ol]) ++ List.replicate (6 - (lg_sl ([.ref h, .int x1, .int x2, .int x3, .ref ol])).length) Slot.unset).toArray = ls at hl ⊢
  have hl : lv_has ls 6 [(0, .ref h), (1, .int x1), (2, .int x2), (3, .int x3), (4, .ref ol)] := hl
  refine lv_aload hx hb dL_drift_0 (lv_at hl 4 rfl) ?_
  refine lv_iconst (v := 0) hx hb dL_drift_2 (by decide) ?_
  refine lv_aload_n hx hb dL_drift_3 rfl (lv_at hl 0 rfl) ?_
  refine lv_iload_n hx hb dL_drift_4 rfl (lv_at hl 1 rfl) ?_
  refine lv_iload_n hx hb dL_drift_5 rfl (lv_at hl 2 rfl) ?_
  refine lv_iload_n hx hb dL_drift_6 rfl (lv_at hl 3 rfl) ?_
  refine tv_callP (D := D) (V := V) (wf := tv_cw cI cZ h a1 a2 a3 a4) (ws := (tv_hw cI cZ cL h a1 a2 a3 a4 ol (rd, lv, op, nt) f)) (wc := (tv_cw cI cZ h a1 a2 a3 a4 (rd, lv, op, nt))) (wr := [(ol, .inl (cL, 1, .inr (.inl f)))]) (wsN := tv_hw cI cZ cL h a1 a2 a3 a4 ol V.2.2 f) (vx_runV (As := [.int x1, .int x2, .int x3]) (rest := [.int 0, .ref ol]) ⟨hx, hb, hml, hown, hts⟩ (c_X0_drift l hT D cI cZ cL h a1 a2 a3 a4 rd lv op nt s.heap.size x1 x2 x3 V hV) (cwV 3 hts gL_drift_X0_drift rfl rfl rfl (by decide +kernel) ⟨Nat.le_of_ble_eq_true rfl, Nat.le_of_ble_eq_true rfl⟩) (tv_prePV hP hK hD hS hA hE [0, 1, 2, 3, 4] rfl rfl rfl rfl 0 rfl) rfl rfl hl.1 rfl (lv_room (Nat.le_of_ble_eq_true rfl)) dL_drift_7 ⟨Nat.le_of_ble_eq_true rfl, Nat.le_of_ble_eq_true rfl⟩) hP hD hS hA [0, 1, 2, 3, 4] [5] rfl rfl rfl (by decide) [1, 2, 3, 4, 5, 0] rfl rfl rfl (fun ce q9 H locs h9 hP hS hce hcv hcl => ?_) (fun H locs h0 hP hD hS => ?_)
  · rcases hk with hk | hk | hk
    · exact absurd hk h9
    · have hcl : s.vm.findClass "java/lang/IndexOutOfBoundsException" = some ce.cls := by rw [hk] at hcl; exact hcl
      refine vx_catch (own := RL) (name := "java/lang/IndexOutOfBoundsException") (E := "java/lang/IndexOutOfBoundsException") hown [] ⟨0, 12, 15, 13⟩ [⟨0, 12, 19, 15⟩] htab (fun z hz => nomatch hz) (by decide) (by decide) (hts (.classLink RL 13 "java/lang/IndexOutOfBoundsException") (by decide +kernel)) (va_Nw.use rfl (hE.2.2.1 (.castable "java/lang/IndexOutOfBoundsException" "java/lang/IndexOutOfBoundsException") (by decide +kernel))) hce hcv hcl ?_
      refine lv_astore (lv' := [(5, .ref q9), (0, .ref h), (1, .int x1), (2, .int x2), (3, .int x3), (4, .ref ol)]) hx hb dL_drift_15 hl (by decide) rfl (fun ls hl => ?_)
      refine lv_iconst (v := 1) hx hb dL_drift_17 (by decide) ?_
      have hP : va_P D vwCl (tv_hw cI cZ cL h a1 a2 a3 a4 ol V.2.2 f) H := by rw [hk]; exact hP
      have hD : va_D A (tv_hw cI cZ cL h a1 a2 a3 a4 ol V.2.2 f) := by rw [hk]; exact hD
      exact tv_iretH (wf := (tv_hw cI cZ cL h a1 a2 a3 a4 ol)) (R64 := R64i) (r := 1) (f := f) hAe (by rw [hk]) (fun z => absurd z h9) hx hb hr hP hK hD hS dL_drift_18 hlocks
    · have hcl : s.vm.findClass "java/lang/IllegalArgumentException" = some ce.cls := by rw [hk] at hcl; exact hcl
      refine vx_catch (own := RL) (name := "java/lang/IllegalArgumentException") (E := "java/lang/IllegalArgumentException") hown [⟨0, 12, 15, 13⟩] ⟨0, 12, 19, 15⟩ [] htab (fun z hz => by cases List.mem_singleton.mp hz; exact Or.inr ⟨by decide, "java/lang/IndexOutOfBoundsException", hts (.classLink RL 13 "java/lang/IndexOutOfBoundsException") (by decide +kernel), hC.1⟩) (by decide) (by decide) (hts (.classLink RL 15 "java/lang/IllegalArgumentException") (by decide +kernel)) (va_Nw.use rfl (hE.2.2.1 (.castable "java/lang/IllegalArgumentException" "java/lang/IllegalArgumentException") (by decide +kernel))) hce hcv hcl ?_
      refine lv_astore (lv' := [(5, .ref q9), (0, .ref h), (1, .int x1), (2, .int x2), (3, .int x3), (4, .ref ol)]) hx hb dL_drift_19 hl (by decide) rfl (fun ls hl => ?_)
      refine lv_iconst (v := 2) hx hb dL_drift_21 (by decide) ?_
      have hP : va_P D vwCl (tv_hw cI cZ cL h a1 a2 a3 a4 ol V.2.2 f) H := by rw [hk]; exact hP
      have hD : va_D A (tv_hw cI cZ cL h a1 a2 a3 a4 ol V.2.2 f) := by rw [hk]; exact hD
      exact tv_iretH (wf := (tv_hw cI cZ cL h a1 a2 a3 a4 ol)) (R64 := R64i) (r := 2) (f := f) hAe (by rw [hk]) (fun z => absurd z h9) hx hb hr hP hK hD hS dL_drift_22 hlocks
  · skip
    refine lv_i2l hx hb dL_drift_10 rfl ?_
    refine tv_last (D := D) (f := f) (x := V.2.1.toInt64) (wsN := tv_hw cI cZ cL h a1 a2 a3 a4 ol V.2.2 (vp_updL f 0 V.2.1.toInt64)) hx hb hK hP hD hS 5 rfl rfl dL_drift_11 (fun H locs hP hD hS => ?_)
    refine lv_goto (tgt := 23) hx hb dL_drift_12 (by decide) ?_
    refine lv_iconst (v := 0) hx hb dL_drift_23 (by decide) ?_
    exact tv_iretH (wf := (tv_hw cI cZ cL h a1 a2 a3 a4 ol)) (R64 := R64i) (r := 0) (f := vp_updL f 0 V.2.1.toInt64) hAe h0.symm (fun _ => pk_uLs) hx hb hr hP hK hD hS dL_drift_24 hlocks
set_option maxHeartbeats 4000000 in
set_option maxRecDepth 100000 in
theorem c_L_pick (l : Launch) (hT : l.stackTraces = false) (D : va_G) (cI cZ cL : ClassId) (h a1 a2 a3 a4 : Nat) (rd lv op nt : Nat → Int32) (ol : Nat) (f : Nat → Int64) (sz : Nat) (x1 x2 : Int32) (V : TV) (hV : V = sp_pick x1 x2 (rd, lv, op, nt)) : Met l yL_pick wsL_pick tv_rmH (tv_PH D cI cZ cL (tv_hw cI cZ cL h a1 a2 a3 a4 ol (rd, lv, op, nt) f) sz [.ref h, .int x1, .int x2, .ref ol]) (tv_QH D cI cZ cL (tv_hw cI cZ cL h a1 a2 a3 a4 ol) (tv_hw cI cZ cL h a1 a2 a3 a4 ol (rd, lv, op, nt) f) sz V R64i) 1 6 (va_A (tv_hw cI cZ cL h a1 a2 a3 a4 ol (rd, lv, op, nt) f) sz) := by
  refine va_MetW (cc := cL_pick) (maxL := 5) (ret := some .int) (hh := [(0, 10, 13, 13), (0, 10, 17, 15)]) (by decide) rfl ?_
  intro p e s m args below meth c s₁ B hml hv
  obtain ⟨rfl, hsz, hP, hK, hD0, hE, hC⟩ := hv
  subst hsz
  have hx := B.exec
  have hb := B.bytes
  have hr := B.returns
  have hts := atoms_spec (ws := wsL_pick) B.pre
  have hown : s.vm.findClass RL = some m.cls := findClass_of_methodNamed B.named
  have hlocks := B.notSynchronized
  have htab := vx_table (x := yL_pick) B (hts (.codeWith yL_pick cL_pick 5 (some .int) [(0, 10, 13, 13), (0, 10, 17, 15)]) (by decide +kernel))
  have hD := hD0.self (sz := s.heap.size)
  obtain ⟨A, hAe⟩ : ∃ A, A = va_A (tv_hw cI cZ cL h a1 a2 a3 a4 ol (rd, lv, op, nt) f) s.heap.size := ⟨_, rfl⟩
  rw [← hAe] at hD hE
  have hA : ∀ q : Nat, s.heap.size ≤ q → A q := fun q h => by rw [hAe]; exact Or.inr h
  have hS : va_S A s.heap s.heap [] := va_S.rf
  clear hD0
  have hk : V.1 = 0 ∨ V = (1, 0, (rd, lv, op, nt)) ∨ V = (2, 0, (rd, lv, op, nt)) := by rw [hV]; exact sp_k rfl
  have hl := lv_entry ([.ref h, .int x1, .int x2, .ref ol]) (n := 5) (Nat.le_of_ble_eq_true rfl)
  rw [lg_entry_eq]
  generalize (lg_sl ([.ref h, .int x1, .int x2, .ref ol]) ++ List.replicate (5 - (lg_sl ([.ref h, .int x1, .int x2, .ref ol])).length) Slot.unset).toArray = ls at hl ⊢
  have hl : lv_has ls 5 [(0, .ref h), (1, .int x1), (2, .int x2), (3, .ref ol)] := hl
  refine lv_aload_n hx hb dL_pick_0 rfl (lv_at hl 3 rfl) ?_
  refine lv_iconst (v := 0) hx hb dL_pick_1 (by decide) ?_
  refine lv_aload_n hx hb dL_pick_2 rfl (lv_at hl 0 rfl) ?_
  refine lv_iload_n hx hb dL_pick_3 rfl (lv_at hl 1 rfl) ?_
  refine lv_iload_n hx hb dL_pick_4 rfl (lv_at hl 2 rfl) ?_
  refine tv_callP (D := D) (V := V) (wf := tv_cw cI cZ h a1 a2 a3 a4) (ws := (tv_hw cI cZ cL h a1 a2 a3 a4 ol (rd, lv, op, nt) f)) (wc := (tv_cw cI cZ h a1 a2 a3 a4 (rd, lv, op, nt))) (wr := [(ol, .inl (cL, 1, .inr (.inl f)))]) (wsN := tv_hw cI cZ cL h a1 a2 a3 a4 ol V.2.2 f) (vx_runV (As := [.int x1, .int x2]) (rest := [.int 0, .ref ol]) ⟨hx, hb, hml, hown, hts⟩ (c_X0_pick l hT D cI cZ cL h a1 a2 a3 a4 rd lv op nt s.heap.size x1 x2 V hV) (cwV 2 hts gL_pick_X0_pick rfl rfl rfl (by decide +kernel) ⟨Nat.le_of_ble_eq_true rfl, Nat.le_of_ble_eq_true rfl⟩) (tv_prePV hP hK hD hS hA hE [0, 1, 2, 3, 4] rfl rfl rfl rfl 0 rfl) rfl rfl hl.1 rfl (lv_room (Nat.le_of_ble_eq_true rfl)) dL_pick_5 ⟨Nat.le_of_ble_eq_true rfl, Nat.le_of_ble_eq_true rfl⟩) hP hD hS hA [0, 1, 2, 3, 4] [5] rfl rfl rfl (by decide) [1, 2, 3, 4, 5, 0] rfl rfl rfl (fun ce q9 H locs h9 hP hS hce hcv hcl => ?_) (fun H locs h0 hP hD hS => ?_)
  · rcases hk with hk | hk | hk
    · exact absurd hk h9
    · have hcl : s.vm.findClass "java/lang/IndexOutOfBoundsException" = some ce.cls := by rw [hk] at hcl; exact hcl
      refine vx_catch (own := RL) (name := "java/lang/IndexOutOfBoundsException") (E := "java/lang/IndexOutOfBoundsException") hown [] ⟨0, 10, 13, 13⟩ [⟨0, 10, 17, 15⟩] htab (fun z hz => nomatch hz) (by decide) (by decide) (hts (.classLink RL 13 "java/lang/IndexOutOfBoundsException") (by decide +kernel)) (va_Nw.use rfl (hE.2.2.1 (.castable "java/lang/IndexOutOfBoundsException" "java/lang/IndexOutOfBoundsException") (by decide +kernel))) hce hcv hcl ?_
      refine lv_astore (lv' := [(4, .ref q9), (0, .ref h), (1, .int x1), (2, .int x2), (3, .ref ol)]) hx hb dL_pick_13 hl (by decide) rfl (fun ls hl => ?_)
      refine lv_iconst (v := 1) hx hb dL_pick_15 (by decide) ?_
      have hP : va_P D vwCl (tv_hw cI cZ cL h a1 a2 a3 a4 ol V.2.2 f) H := by rw [hk]; exact hP
      have hD : va_D A (tv_hw cI cZ cL h a1 a2 a3 a4 ol V.2.2 f) := by rw [hk]; exact hD
      exact tv_iretH (wf := (tv_hw cI cZ cL h a1 a2 a3 a4 ol)) (R64 := R64i) (r := 1) (f := f) hAe (by rw [hk]) (fun z => absurd z h9) hx hb hr hP hK hD hS dL_pick_16 hlocks
    · have hcl : s.vm.findClass "java/lang/IllegalArgumentException" = some ce.cls := by rw [hk] at hcl; exact hcl
      refine vx_catch (own := RL) (name := "java/lang/IllegalArgumentException") (E := "java/lang/IllegalArgumentException") hown [⟨0, 10, 13, 13⟩] ⟨0, 10, 17, 15⟩ [] htab (fun z hz => by cases List.mem_singleton.mp hz; exact Or.inr ⟨by decide, "java/lang/IndexOutOfBoundsException", hts (.classLink RL 13 "java/lang/IndexOutOfBoundsException") (by decide +kernel), hC.1⟩) (by decide) (by decide) (hts (.classLink RL 15 "java/lang/IllegalArgumentException") (by decide +kernel)) (va_Nw.use rfl (hE.2.2.1 (.castable "java/lang/IllegalArgumentException" "java/lang/IllegalArgumentException") (by decide +kernel))) hce hcv hcl ?_
      refine lv_astore (lv' := [(4, .ref q9), (0, .ref h), (1, .int x1), (2, .int x2), (3, .ref ol)]) hx hb dL_pick_17 hl (by decide) rfl (fun ls hl => ?_)
      refine lv_iconst (v := 2) hx hb dL_pick_19 (by decide) ?_
      have hP : va_P D vwCl (tv_hw cI cZ cL h a1 a2 a3 a4 ol V.2.2 f) H := by rw [hk]; exact hP
      have hD : va_D A (tv_hw cI cZ cL h a1 a2 a3 a4 ol V.2.2 f) := by rw [hk]; exact hD
      exact tv_iretH (wf := (tv_hw cI cZ cL h a1 a2 a3 a4 ol)) (R64 := R64i) (r := 2) (f := f) hAe (by rw [hk]) (fun z => absurd z h9) hx hb hr hP hK hD hS dL_pick_20 hlocks
  · skip
    refine lv_i2l hx hb dL_pick_8 rfl ?_
    refine tv_last (D := D) (f := f) (x := V.2.1.toInt64) (wsN := tv_hw cI cZ cL h a1 a2 a3 a4 ol V.2.2 (vp_updL f 0 V.2.1.toInt64)) hx hb hK hP hD hS 5 rfl rfl dL_pick_9 (fun H locs hP hD hS => ?_)
    refine lv_goto (tgt := 21) hx hb dL_pick_10 (by decide) ?_
    refine lv_iconst (v := 0) hx hb dL_pick_21 (by decide) ?_
    exact tv_iretH (wf := (tv_hw cI cZ cL h a1 a2 a3 a4 ol)) (R64 := R64i) (r := 0) (f := vp_updL f 0 V.2.1.toInt64) hAe h0.symm (fun _ => pk_uLs) hx hb hr hP hK hD hS dL_pick_22 hlocks
set_option maxHeartbeats 4000000 in
set_option maxRecDepth 100000 in
theorem c_L_keep (l : Launch) (hT : l.stackTraces = false) (D : va_G) (cI cZ cL : ClassId) (h a1 a2 a3 a4 : Nat) (rd lv op nt : Nat → Int32) (ol : Nat) (f : Nat → Int64) (sz : Nat) (x1 x2 : Int32) (V : TV) (hV : V = sp_keep x1 x2 (rd, lv, op, nt)) : Met l yL_keep wsL_keep tv_rmH (tv_PH D cI cZ cL (tv_hw cI cZ cL h a1 a2 a3 a4 ol (rd, lv, op, nt) f) sz [.ref h, .int x1, .int x2, .ref ol]) (tv_QH D cI cZ cL (tv_hw cI cZ cL h a1 a2 a3 a4 ol) (tv_hw cI cZ cL h a1 a2 a3 a4 ol (rd, lv, op, nt) f) sz V R64i) 1 6 (va_A (tv_hw cI cZ cL h a1 a2 a3 a4 ol (rd, lv, op, nt) f) sz) := by
  refine va_MetW (cc := cL_keep) (maxL := 5) (ret := some .int) (hh := [(0, 10, 13, 13), (0, 10, 17, 15)]) (by decide) rfl ?_
  intro p e s m args below meth c s₁ B hml hv
  obtain ⟨rfl, hsz, hP, hK, hD0, hE, hC⟩ := hv
  subst hsz
  have hx := B.exec
  have hb := B.bytes
  have hr := B.returns
  have hts := atoms_spec (ws := wsL_keep) B.pre
  have hown : s.vm.findClass RL = some m.cls := findClass_of_methodNamed B.named
  have hlocks := B.notSynchronized
  have htab := vx_table (x := yL_keep) B (hts (.codeWith yL_keep cL_keep 5 (some .int) [(0, 10, 13, 13), (0, 10, 17, 15)]) (by decide +kernel))
  have hD := hD0.self (sz := s.heap.size)
  obtain ⟨A, hAe⟩ : ∃ A, A = va_A (tv_hw cI cZ cL h a1 a2 a3 a4 ol (rd, lv, op, nt) f) s.heap.size := ⟨_, rfl⟩
  rw [← hAe] at hD hE
  have hA : ∀ q : Nat, s.heap.size ≤ q → A q := fun q h => by rw [hAe]; exact Or.inr h
  have hS : va_S A s.heap s.heap [] := va_S.rf
  clear hD0
  have hk : V.1 = 0 ∨ V = (1, 0, (rd, lv, op, nt)) ∨ V = (2, 0, (rd, lv, op, nt)) := by rw [hV]; exact sp_k rfl
  have hl := lv_entry ([.ref h, .int x1, .int x2, .ref ol]) (n := 5) (Nat.le_of_ble_eq_true rfl)
  rw [lg_entry_eq]
  generalize (lg_sl ([.ref h, .int x1, .int x2, .ref ol]) ++ List.replicate (5 - (lg_sl ([.ref h, .int x1, .int x2, .ref ol])).length) Slot.unset).toArray = ls at hl ⊢
  have hl : lv_has ls 5 [(0, .ref h), (1, .int x1), (2, .int x2), (3, .ref ol)] := hl
  refine lv_aload_n hx hb dL_keep_0 rfl (lv_at hl 3 rfl) ?_
  refine lv_iconst (v := 0) hx hb dL_keep_1 (by decide) ?_
  refine lv_aload_n hx hb dL_keep_2 rfl (lv_at hl 0 rfl) ?_
  refine lv_iload_n hx hb dL_keep_3 rfl (lv_at hl 1 rfl) ?_
  refine lv_iload_n hx hb dL_keep_4 rfl (lv_at hl 2 rfl) ?_
  refine tv_callP (D := D) (V := V) (wf := tv_cw cI cZ h a1 a2 a3 a4) (ws := (tv_hw cI cZ cL h a1 a2 a3 a4 ol (rd, lv, op, nt) f)) (wc := (tv_cw cI cZ h a1 a2 a3 a4 (rd, lv, op, nt))) (wr := [(ol, .inl (cL, 1, .inr (.inl f)))]) (wsN := tv_hw cI cZ cL h a1 a2 a3 a4 ol V.2.2 f) (vx_runV (As := [.int x1, .int x2]) (rest := [.int 0, .ref ol]) ⟨hx, hb, hml, hown, hts⟩ (c_X0_keep l hT D cI cZ cL h a1 a2 a3 a4 rd lv op nt s.heap.size x1 x2 V hV) (cwV 2 hts gL_keep_X0_keep rfl rfl rfl (by decide +kernel) ⟨Nat.le_of_ble_eq_true rfl, Nat.le_of_ble_eq_true rfl⟩) (tv_prePV hP hK hD hS hA hE [0, 1, 2, 3, 4] rfl rfl rfl rfl 0 rfl) rfl rfl hl.1 rfl (lv_room (Nat.le_of_ble_eq_true rfl)) dL_keep_5 ⟨Nat.le_of_ble_eq_true rfl, Nat.le_of_ble_eq_true rfl⟩) hP hD hS hA [0, 1, 2, 3, 4] [5] rfl rfl rfl (by decide) [1, 2, 3, 4, 5, 0] rfl rfl rfl (fun ce q9 H locs h9 hP hS hce hcv hcl => ?_) (fun H locs h0 hP hD hS => ?_)
  · rcases hk with hk | hk | hk
    · exact absurd hk h9
    · have hcl : s.vm.findClass "java/lang/IndexOutOfBoundsException" = some ce.cls := by rw [hk] at hcl; exact hcl
      refine vx_catch (own := RL) (name := "java/lang/IndexOutOfBoundsException") (E := "java/lang/IndexOutOfBoundsException") hown [] ⟨0, 10, 13, 13⟩ [⟨0, 10, 17, 15⟩] htab (fun z hz => nomatch hz) (by decide) (by decide) (hts (.classLink RL 13 "java/lang/IndexOutOfBoundsException") (by decide +kernel)) (va_Nw.use rfl (hE.2.2.1 (.castable "java/lang/IndexOutOfBoundsException" "java/lang/IndexOutOfBoundsException") (by decide +kernel))) hce hcv hcl ?_
      refine lv_astore (lv' := [(4, .ref q9), (0, .ref h), (1, .int x1), (2, .int x2), (3, .ref ol)]) hx hb dL_keep_13 hl (by decide) rfl (fun ls hl => ?_)
      refine lv_iconst (v := 1) hx hb dL_keep_15 (by decide) ?_
      have hP : va_P D vwCl (tv_hw cI cZ cL h a1 a2 a3 a4 ol V.2.2 f) H := by rw [hk]; exact hP
      have hD : va_D A (tv_hw cI cZ cL h a1 a2 a3 a4 ol V.2.2 f) := by rw [hk]; exact hD
      exact tv_iretH (wf := (tv_hw cI cZ cL h a1 a2 a3 a4 ol)) (R64 := R64i) (r := 1) (f := f) hAe (by rw [hk]) (fun z => absurd z h9) hx hb hr hP hK hD hS dL_keep_16 hlocks
    · have hcl : s.vm.findClass "java/lang/IllegalArgumentException" = some ce.cls := by rw [hk] at hcl; exact hcl
      refine vx_catch (own := RL) (name := "java/lang/IllegalArgumentException") (E := "java/lang/IllegalArgumentException") hown [⟨0, 10, 13, 13⟩] ⟨0, 10, 17, 15⟩ [] htab (fun z hz => by cases List.mem_singleton.mp hz; exact Or.inr ⟨by decide, "java/lang/IndexOutOfBoundsException", hts (.classLink RL 13 "java/lang/IndexOutOfBoundsException") (by decide +kernel), hC.1⟩) (by decide) (by decide) (hts (.classLink RL 15 "java/lang/IllegalArgumentException") (by decide +kernel)) (va_Nw.use rfl (hE.2.2.1 (.castable "java/lang/IllegalArgumentException" "java/lang/IllegalArgumentException") (by decide +kernel))) hce hcv hcl ?_
      refine lv_astore (lv' := [(4, .ref q9), (0, .ref h), (1, .int x1), (2, .int x2), (3, .ref ol)]) hx hb dL_keep_17 hl (by decide) rfl (fun ls hl => ?_)
      refine lv_iconst (v := 2) hx hb dL_keep_19 (by decide) ?_
      have hP : va_P D vwCl (tv_hw cI cZ cL h a1 a2 a3 a4 ol V.2.2 f) H := by rw [hk]; exact hP
      have hD : va_D A (tv_hw cI cZ cL h a1 a2 a3 a4 ol V.2.2 f) := by rw [hk]; exact hD
      exact tv_iretH (wf := (tv_hw cI cZ cL h a1 a2 a3 a4 ol)) (R64 := R64i) (r := 2) (f := f) hAe (by rw [hk]) (fun z => absurd z h9) hx hb hr hP hK hD hS dL_keep_20 hlocks
  · skip
    refine lv_i2l hx hb dL_keep_8 rfl ?_
    refine tv_last (D := D) (f := f) (x := V.2.1.toInt64) (wsN := tv_hw cI cZ cL h a1 a2 a3 a4 ol V.2.2 (vp_updL f 0 V.2.1.toInt64)) hx hb hK hP hD hS 5 rfl rfl dL_keep_9 (fun H locs hP hD hS => ?_)
    refine lv_goto (tgt := 21) hx hb dL_keep_10 (by decide) ?_
    refine lv_iconst (v := 0) hx hb dL_keep_21 (by decide) ?_
    exact tv_iretH (wf := (tv_hw cI cZ cL h a1 a2 a3 a4 ol)) (R64 := R64i) (r := 0) (f := vp_updL f 0 V.2.1.toInt64) hAe h0.symm (fun _ => pk_uLs) hx hb hr hP hK hD hS dL_keep_22 hlocks
set_option maxHeartbeats 4000000 in
set_option maxRecDepth 100000 in
theorem c_L_notes (l : Launch) (hT : l.stackTraces = false) (D : va_G) (cI cZ cL : ClassId) (h a1 a2 a3 a4 : Nat) (rd lv op nt : Nat → Int32) (ol : Nat) (f : Nat → Int64) (sz : Nat) (x1 : Int32) (V : TV) (hV : V = sp_notes x1 (rd, lv, op, nt)) : Met l yL_notes wsL_notes tv_rmH (tv_PH D cI cZ cL (tv_hw cI cZ cL h a1 a2 a3 a4 ol (rd, lv, op, nt) f) sz [.ref h, .int x1, .ref ol]) (tv_QH D cI cZ cL (tv_hw cI cZ cL h a1 a2 a3 a4 ol) (tv_hw cI cZ cL h a1 a2 a3 a4 ol (rd, lv, op, nt) f) sz V R64i) 1 6 (va_A (tv_hw cI cZ cL h a1 a2 a3 a4 ol (rd, lv, op, nt) f) sz) := by
  refine va_MetW (cc := cL_notes) (maxL := 4) (ret := some .int) (hh := [(0, 9, 12, 13)]) (by decide) rfl ?_
  intro p e s m args below meth c s₁ B hml hv
  obtain ⟨rfl, hsz, hP, hK, hD0, hE, hC⟩ := hv
  subst hsz
  have hx := B.exec
  have hb := B.bytes
  have hr := B.returns
  have hts := atoms_spec (ws := wsL_notes) B.pre
  have hown : s.vm.findClass RL = some m.cls := findClass_of_methodNamed B.named
  have hlocks := B.notSynchronized
  have htab := vx_table (x := yL_notes) B (hts (.codeWith yL_notes cL_notes 4 (some .int) [(0, 9, 12, 13)]) (by decide +kernel))
  have hD := hD0.self (sz := s.heap.size)
  obtain ⟨A, hAe⟩ : ∃ A, A = va_A (tv_hw cI cZ cL h a1 a2 a3 a4 ol (rd, lv, op, nt) f) s.heap.size := ⟨_, rfl⟩
  rw [← hAe] at hD hE
  have hA : ∀ q : Nat, s.heap.size ≤ q → A q := fun q h => by rw [hAe]; exact Or.inr h
  have hS : va_S A s.heap s.heap [] := va_S.rf
  clear hD0
  have hk : V.1 = 0 ∨ V = (1, 0, (rd, lv, op, nt)) := by rw [hV]; exact sp_k1 rfl
  have hl := lv_entry ([.ref h, .int x1, .ref ol]) (n := 4) (Nat.le_of_ble_eq_true rfl)
  rw [lg_entry_eq]
  generalize (lg_sl ([.ref h, .int x1, .ref ol]) ++ List.replicate (4 - (lg_sl ([.ref h, .int x1, .ref ol])).length) Slot.unset).toArray = ls at hl ⊢
  have hl : lv_has ls 4 [(0, .ref h), (1, .int x1), (2, .ref ol)] := hl
  refine lv_aload_n hx hb dL_notes_0 rfl (lv_at hl 2 rfl) ?_
  refine lv_iconst (v := 0) hx hb dL_notes_1 (by decide) ?_
  refine lv_aload_n hx hb dL_notes_2 rfl (lv_at hl 0 rfl) ?_
  refine lv_iload_n hx hb dL_notes_3 rfl (lv_at hl 1 rfl) ?_
  refine tv_callP (D := D) (V := V) (wf := tv_cw cI cZ h a1 a2 a3 a4) (ws := (tv_hw cI cZ cL h a1 a2 a3 a4 ol (rd, lv, op, nt) f)) (wc := (tv_cw cI cZ h a1 a2 a3 a4 (rd, lv, op, nt))) (wr := [(ol, .inl (cL, 1, .inr (.inl f)))]) (wsN := tv_hw cI cZ cL h a1 a2 a3 a4 ol V.2.2 f) (vx_runV (As := [.int x1]) (rest := [.int 0, .ref ol]) ⟨hx, hb, hml, hown, hts⟩ (c_X0_notes l hT D cI cZ cL h a1 a2 a3 a4 rd lv op nt s.heap.size x1 V hV) (cwV 1 hts gL_notes_X0_notes rfl rfl rfl (by decide +kernel) ⟨Nat.le_of_ble_eq_true rfl, Nat.le_of_ble_eq_true rfl⟩) (tv_prePV hP hK hD hS hA hE [0, 1, 2, 3, 4] rfl rfl rfl rfl 0 rfl) rfl rfl hl.1 rfl (lv_room (Nat.le_of_ble_eq_true rfl)) dL_notes_4 ⟨Nat.le_of_ble_eq_true rfl, Nat.le_of_ble_eq_true rfl⟩) hP hD hS hA [0, 1, 2, 3, 4] [5] rfl rfl rfl (by decide) [1, 2, 3, 4, 5, 0] rfl rfl rfl (fun ce q9 H locs h9 hP hS hce hcv hcl => ?_) (fun H locs h0 hP hD hS => ?_)
  · rcases hk with hk | hk
    · exact absurd hk h9
    · have hcl : s.vm.findClass "java/lang/IndexOutOfBoundsException" = some ce.cls := by rw [hk] at hcl; exact hcl
      refine vx_catch (own := RL) (name := "java/lang/IndexOutOfBoundsException") (E := "java/lang/IndexOutOfBoundsException") hown [] ⟨0, 9, 12, 13⟩ [] htab (fun z hz => nomatch hz) (by decide) (by decide) (hts (.classLink RL 13 "java/lang/IndexOutOfBoundsException") (by decide +kernel)) (va_Nw.use rfl (hE.2.2.1 (.castable "java/lang/IndexOutOfBoundsException" "java/lang/IndexOutOfBoundsException") (by decide +kernel))) hce hcv hcl ?_
      refine lv_astore_n (lv' := [(3, .ref q9), (0, .ref h), (1, .int x1), (2, .ref ol)]) hx hb dL_notes_12 rfl hl (by decide) rfl (fun ls hl => ?_)
      refine lv_iconst (v := 1) hx hb dL_notes_13 (by decide) ?_
      have hP : va_P D vwCl (tv_hw cI cZ cL h a1 a2 a3 a4 ol V.2.2 f) H := by rw [hk]; exact hP
      have hD : va_D A (tv_hw cI cZ cL h a1 a2 a3 a4 ol V.2.2 f) := by rw [hk]; exact hD
      exact tv_iretH (wf := (tv_hw cI cZ cL h a1 a2 a3 a4 ol)) (R64 := R64i) (r := 1) (f := f) hAe (by rw [hk]) (fun z => absurd z h9) hx hb hr hP hK hD hS dL_notes_14 hlocks
  · skip
    refine lv_i2l hx hb dL_notes_7 rfl ?_
    refine tv_last (D := D) (f := f) (x := V.2.1.toInt64) (wsN := tv_hw cI cZ cL h a1 a2 a3 a4 ol V.2.2 (vp_updL f 0 V.2.1.toInt64)) hx hb hK hP hD hS 5 rfl rfl dL_notes_8 (fun H locs hP hD hS => ?_)
    refine lv_goto (tgt := 15) hx hb dL_notes_9 (by decide) ?_
    refine lv_iconst (v := 0) hx hb dL_notes_15 (by decide) ?_
    exact tv_iretH (wf := (tv_hw cI cZ cL h a1 a2 a3 a4 ol)) (R64 := R64i) (r := 0) (f := vp_updL f 0 V.2.1.toInt64) hAe h0.symm (fun _ => pk_uLs) hx hb hr hP hK hD hS dL_notes_16 hlocks
set_option maxHeartbeats 4000000 in
set_option maxRecDepth 100000 in
theorem c_L_gaps (l : Launch) (hT : l.stackTraces = false) (D : va_G) (cI cZ cL : ClassId) (h a1 a2 a3 a4 : Nat) (rd lv op nt : Nat → Int32) (ol : Nat) (f : Nat → Int64) (sz : Nat) (x1 : Int32) (V : TV) (hV : V = sp_gaps x1 (rd, lv, op, nt)) : Met l yL_gaps wsL_gaps tv_rmH (tv_PH D cI cZ cL (tv_hw cI cZ cL h a1 a2 a3 a4 ol (rd, lv, op, nt) f) sz [.ref h, .int x1, .ref ol]) (tv_QH D cI cZ cL (tv_hw cI cZ cL h a1 a2 a3 a4 ol) (tv_hw cI cZ cL h a1 a2 a3 a4 ol (rd, lv, op, nt) f) sz V R64i) 1 6 (va_A (tv_hw cI cZ cL h a1 a2 a3 a4 ol (rd, lv, op, nt) f) sz) := by
  refine va_MetW (cc := cL_gaps) (maxL := 4) (ret := some .int) (hh := [(0, 9, 12, 13)]) (by decide) rfl ?_
  intro p e s m args below meth c s₁ B hml hv
  obtain ⟨rfl, hsz, hP, hK, hD0, hE, hC⟩ := hv
  subst hsz
  have hx := B.exec
  have hb := B.bytes
  have hr := B.returns
  have hts := atoms_spec (ws := wsL_gaps) B.pre
  have hown : s.vm.findClass RL = some m.cls := findClass_of_methodNamed B.named
  have hlocks := B.notSynchronized
  have htab := vx_table (x := yL_gaps) B (hts (.codeWith yL_gaps cL_gaps 4 (some .int) [(0, 9, 12, 13)]) (by decide +kernel))
  have hD := hD0.self (sz := s.heap.size)
  obtain ⟨A, hAe⟩ : ∃ A, A = va_A (tv_hw cI cZ cL h a1 a2 a3 a4 ol (rd, lv, op, nt) f) s.heap.size := ⟨_, rfl⟩
  rw [← hAe] at hD hE
  have hA : ∀ q : Nat, s.heap.size ≤ q → A q := fun q h => by rw [hAe]; exact Or.inr h
  have hS : va_S A s.heap s.heap [] := va_S.rf
  clear hD0
  have hk : V.1 = 0 ∨ V = (1, 0, (rd, lv, op, nt)) := by rw [hV]; exact sp_k1 rfl
  have hl := lv_entry ([.ref h, .int x1, .ref ol]) (n := 4) (Nat.le_of_ble_eq_true rfl)
  rw [lg_entry_eq]
  generalize (lg_sl ([.ref h, .int x1, .ref ol]) ++ List.replicate (4 - (lg_sl ([.ref h, .int x1, .ref ol])).length) Slot.unset).toArray = ls at hl ⊢
  have hl : lv_has ls 4 [(0, .ref h), (1, .int x1), (2, .ref ol)] := hl
  refine lv_aload_n hx hb dL_gaps_0 rfl (lv_at hl 2 rfl) ?_
  refine lv_iconst (v := 0) hx hb dL_gaps_1 (by decide) ?_
  refine lv_aload_n hx hb dL_gaps_2 rfl (lv_at hl 0 rfl) ?_
  refine lv_iload_n hx hb dL_gaps_3 rfl (lv_at hl 1 rfl) ?_
  refine tv_callP (D := D) (V := V) (wf := tv_cw cI cZ h a1 a2 a3 a4) (ws := (tv_hw cI cZ cL h a1 a2 a3 a4 ol (rd, lv, op, nt) f)) (wc := (tv_cw cI cZ h a1 a2 a3 a4 (rd, lv, op, nt))) (wr := [(ol, .inl (cL, 1, .inr (.inl f)))]) (wsN := tv_hw cI cZ cL h a1 a2 a3 a4 ol V.2.2 f) (vx_runV (As := [.int x1]) (rest := [.int 0, .ref ol]) ⟨hx, hb, hml, hown, hts⟩ (c_X0_gaps l hT D cI cZ cL h a1 a2 a3 a4 rd lv op nt s.heap.size x1 V hV) (cwV 1 hts gL_gaps_X0_gaps rfl rfl rfl (by decide +kernel) ⟨Nat.le_of_ble_eq_true rfl, Nat.le_of_ble_eq_true rfl⟩) (tv_prePV hP hK hD hS hA hE [0, 1, 2, 3, 4] rfl rfl rfl rfl 0 rfl) rfl rfl hl.1 rfl (lv_room (Nat.le_of_ble_eq_true rfl)) dL_gaps_4 ⟨Nat.le_of_ble_eq_true rfl, Nat.le_of_ble_eq_true rfl⟩) hP hD hS hA [0, 1, 2, 3, 4] [5] rfl rfl rfl (by decide) [1, 2, 3, 4, 5, 0] rfl rfl rfl (fun ce q9 H locs h9 hP hS hce hcv hcl => ?_) (fun H locs h0 hP hD hS => ?_)
  · rcases hk with hk | hk
    · exact absurd hk h9
    · have hcl : s.vm.findClass "java/lang/IndexOutOfBoundsException" = some ce.cls := by rw [hk] at hcl; exact hcl
      refine vx_catch (own := RL) (name := "java/lang/IndexOutOfBoundsException") (E := "java/lang/IndexOutOfBoundsException") hown [] ⟨0, 9, 12, 13⟩ [] htab (fun z hz => nomatch hz) (by decide) (by decide) (hts (.classLink RL 13 "java/lang/IndexOutOfBoundsException") (by decide +kernel)) (va_Nw.use rfl (hE.2.2.1 (.castable "java/lang/IndexOutOfBoundsException" "java/lang/IndexOutOfBoundsException") (by decide +kernel))) hce hcv hcl ?_
      refine lv_astore_n (lv' := [(3, .ref q9), (0, .ref h), (1, .int x1), (2, .ref ol)]) hx hb dL_gaps_12 rfl hl (by decide) rfl (fun ls hl => ?_)
      refine lv_iconst (v := 1) hx hb dL_gaps_13 (by decide) ?_
      have hP : va_P D vwCl (tv_hw cI cZ cL h a1 a2 a3 a4 ol V.2.2 f) H := by rw [hk]; exact hP
      have hD : va_D A (tv_hw cI cZ cL h a1 a2 a3 a4 ol V.2.2 f) := by rw [hk]; exact hD
      exact tv_iretH (wf := (tv_hw cI cZ cL h a1 a2 a3 a4 ol)) (R64 := R64i) (r := 1) (f := f) hAe (by rw [hk]) (fun z => absurd z h9) hx hb hr hP hK hD hS dL_gaps_14 hlocks
  · skip
    refine lv_i2l hx hb dL_gaps_7 rfl ?_
    refine tv_last (D := D) (f := f) (x := V.2.1.toInt64) (wsN := tv_hw cI cZ cL h a1 a2 a3 a4 ol V.2.2 (vp_updL f 0 V.2.1.toInt64)) hx hb hK hP hD hS 5 rfl rfl dL_gaps_8 (fun H locs hP hD hS => ?_)
    refine lv_goto (tgt := 15) hx hb dL_gaps_9 (by decide) ?_
    refine lv_iconst (v := 0) hx hb dL_gaps_15 (by decide) ?_
    exact tv_iretH (wf := (tv_hw cI cZ cL h a1 a2 a3 a4 ol)) (R64 := R64i) (r := 0) (f := vp_updL f 0 V.2.1.toInt64) hAe h0.symm (fun _ => pk_uLs) hx hb hr hP hK hD hS dL_gaps_16 hlocks
set_option maxHeartbeats 4000000 in
set_option maxRecDepth 100000 in
theorem c_L_settle (l : Launch) (hT : l.stackTraces = false) (D : va_G) (cI cZ cL : ClassId) (h a1 a2 a3 a4 : Nat) (rd lv op nt : Nat → Int32) (ol : Nat) (f : Nat → Int64) (sz : Nat) (x1 x2 : Int32) (V : TV) (hV : V = sp_settle x1 x2 (rd, lv, op, nt)) : Met l yL_settle wsL_settle tv_rmH (tv_PH D cI cZ cL (tv_hw cI cZ cL h a1 a2 a3 a4 ol (rd, lv, op, nt) f) sz [.ref h, .int x1, .int x2, .ref ol]) (tv_QH D cI cZ cL (tv_hw cI cZ cL h a1 a2 a3 a4 ol) (tv_hw cI cZ cL h a1 a2 a3 a4 ol (rd, lv, op, nt) f) sz V R64i) 1 6 (va_A (tv_hw cI cZ cL h a1 a2 a3 a4 ol (rd, lv, op, nt) f) sz) := by
  refine va_MetW (cc := cL_settle) (maxL := 5) (ret := some .int) (hh := [(0, 10, 13, 13), (0, 10, 17, 15)]) (by decide) rfl ?_
  intro p e s m args below meth c s₁ B hml hv
  obtain ⟨rfl, hsz, hP, hK, hD0, hE, hC⟩ := hv
  subst hsz
  have hx := B.exec
  have hb := B.bytes
  have hr := B.returns
  have hts := atoms_spec (ws := wsL_settle) B.pre
  have hown : s.vm.findClass RL = some m.cls := findClass_of_methodNamed B.named
  have hlocks := B.notSynchronized
  have htab := vx_table (x := yL_settle) B (hts (.codeWith yL_settle cL_settle 5 (some .int) [(0, 10, 13, 13), (0, 10, 17, 15)]) (by decide +kernel))
  have hD := hD0.self (sz := s.heap.size)
  obtain ⟨A, hAe⟩ : ∃ A, A = va_A (tv_hw cI cZ cL h a1 a2 a3 a4 ol (rd, lv, op, nt) f) s.heap.size := ⟨_, rfl⟩
  rw [← hAe] at hD hE
  have hA : ∀ q : Nat, s.heap.size ≤ q → A q := fun q h => by rw [hAe]; exact Or.inr h
  have hS : va_S A s.heap s.heap [] := va_S.rf
  clear hD0
  have hk : V.1 = 0 ∨ V = (1, 0, (rd, lv, op, nt)) ∨ V = (2, 0, (rd, lv, op, nt)) := by rw [hV]; exact sp_k rfl
  have hl := lv_entry ([.ref h, .int x1, .int x2, .ref ol]) (n := 5) (Nat.le_of_ble_eq_true rfl)
  rw [lg_entry_eq]
  generalize (lg_sl ([.ref h, .int x1, .int x2, .ref ol]) ++ List.replicate (5 - (lg_sl ([.ref h, .int x1, .int x2, .ref ol])).length) Slot.unset).toArray = ls at hl ⊢
  have hl : lv_has ls 5 [(0, .ref h), (1, .int x1), (2, .int x2), (3, .ref ol)] := hl
  refine lv_aload_n hx hb dL_settle_0 rfl (lv_at hl 3 rfl) ?_
  refine lv_iconst (v := 0) hx hb dL_settle_1 (by decide) ?_
  refine lv_aload_n hx hb dL_settle_2 rfl (lv_at hl 0 rfl) ?_
  refine lv_iload_n hx hb dL_settle_3 rfl (lv_at hl 1 rfl) ?_
  refine lv_iload_n hx hb dL_settle_4 rfl (lv_at hl 2 rfl) ?_
  refine tv_callP (D := D) (V := V) (wf := tv_cw cI cZ h a1 a2 a3 a4) (ws := (tv_hw cI cZ cL h a1 a2 a3 a4 ol (rd, lv, op, nt) f)) (wc := (tv_cw cI cZ h a1 a2 a3 a4 (rd, lv, op, nt))) (wr := [(ol, .inl (cL, 1, .inr (.inl f)))]) (wsN := tv_hw cI cZ cL h a1 a2 a3 a4 ol V.2.2 f) (vx_runV (As := [.int x1, .int x2]) (rest := [.int 0, .ref ol]) ⟨hx, hb, hml, hown, hts⟩ (c_X0_settle l hT D cI cZ cL h a1 a2 a3 a4 rd lv op nt s.heap.size x1 x2 V hV) (cwV 2 hts gL_settle_X0_settle rfl rfl rfl (by decide +kernel) ⟨Nat.le_of_ble_eq_true rfl, Nat.le_of_ble_eq_true rfl⟩) (tv_prePV hP hK hD hS hA hE [0, 1, 2, 3, 4] rfl rfl rfl rfl 0 rfl) rfl rfl hl.1 rfl (lv_room (Nat.le_of_ble_eq_true rfl)) dL_settle_5 ⟨Nat.le_of_ble_eq_true rfl, Nat.le_of_ble_eq_true rfl⟩) hP hD hS hA [0, 1, 2, 3, 4] [5] rfl rfl rfl (by decide) [1, 2, 3, 4, 5, 0] rfl rfl rfl (fun ce q9 H locs h9 hP hS hce hcv hcl => ?_) (fun H locs h0 hP hD hS => ?_)
  · rcases hk with hk | hk | hk
    · exact absurd hk h9
    · have hcl : s.vm.findClass "java/lang/IndexOutOfBoundsException" = some ce.cls := by rw [hk] at hcl; exact hcl
      refine vx_catch (own := RL) (name := "java/lang/IndexOutOfBoundsException") (E := "java/lang/IndexOutOfBoundsException") hown [] ⟨0, 10, 13, 13⟩ [⟨0, 10, 17, 15⟩] htab (fun z hz => nomatch hz) (by decide) (by decide) (hts (.classLink RL 13 "java/lang/IndexOutOfBoundsException") (by decide +kernel)) (va_Nw.use rfl (hE.2.2.1 (.castable "java/lang/IndexOutOfBoundsException" "java/lang/IndexOutOfBoundsException") (by decide +kernel))) hce hcv hcl ?_
      refine lv_astore (lv' := [(4, .ref q9), (0, .ref h), (1, .int x1), (2, .int x2), (3, .ref ol)]) hx hb dL_settle_13 hl (by decide) rfl (fun ls hl => ?_)
      refine lv_iconst (v := 1) hx hb dL_settle_15 (by decide) ?_
      have hP : va_P D vwCl (tv_hw cI cZ cL h a1 a2 a3 a4 ol V.2.2 f) H := by rw [hk]; exact hP
      have hD : va_D A (tv_hw cI cZ cL h a1 a2 a3 a4 ol V.2.2 f) := by rw [hk]; exact hD
      exact tv_iretH (wf := (tv_hw cI cZ cL h a1 a2 a3 a4 ol)) (R64 := R64i) (r := 1) (f := f) hAe (by rw [hk]) (fun z => absurd z h9) hx hb hr hP hK hD hS dL_settle_16 hlocks
    · have hcl : s.vm.findClass "java/lang/IllegalArgumentException" = some ce.cls := by rw [hk] at hcl; exact hcl
      refine vx_catch (own := RL) (name := "java/lang/IllegalArgumentException") (E := "java/lang/IllegalArgumentException") hown [⟨0, 10, 13, 13⟩] ⟨0, 10, 17, 15⟩ [] htab (fun z hz => by cases List.mem_singleton.mp hz; exact Or.inr ⟨by decide, "java/lang/IndexOutOfBoundsException", hts (.classLink RL 13 "java/lang/IndexOutOfBoundsException") (by decide +kernel), hC.1⟩) (by decide) (by decide) (hts (.classLink RL 15 "java/lang/IllegalArgumentException") (by decide +kernel)) (va_Nw.use rfl (hE.2.2.1 (.castable "java/lang/IllegalArgumentException" "java/lang/IllegalArgumentException") (by decide +kernel))) hce hcv hcl ?_
      refine lv_astore (lv' := [(4, .ref q9), (0, .ref h), (1, .int x1), (2, .int x2), (3, .ref ol)]) hx hb dL_settle_17 hl (by decide) rfl (fun ls hl => ?_)
      refine lv_iconst (v := 2) hx hb dL_settle_19 (by decide) ?_
      have hP : va_P D vwCl (tv_hw cI cZ cL h a1 a2 a3 a4 ol V.2.2 f) H := by rw [hk]; exact hP
      have hD : va_D A (tv_hw cI cZ cL h a1 a2 a3 a4 ol V.2.2 f) := by rw [hk]; exact hD
      exact tv_iretH (wf := (tv_hw cI cZ cL h a1 a2 a3 a4 ol)) (R64 := R64i) (r := 2) (f := f) hAe (by rw [hk]) (fun z => absurd z h9) hx hb hr hP hK hD hS dL_settle_20 hlocks
  · skip
    refine lv_i2l hx hb dL_settle_8 rfl ?_
    refine tv_last (D := D) (f := f) (x := V.2.1.toInt64) (wsN := tv_hw cI cZ cL h a1 a2 a3 a4 ol V.2.2 (vp_updL f 0 V.2.1.toInt64)) hx hb hK hP hD hS 5 rfl rfl dL_settle_9 (fun H locs hP hD hS => ?_)
    refine lv_goto (tgt := 21) hx hb dL_settle_10 (by decide) ?_
    refine lv_iconst (v := 0) hx hb dL_settle_21 (by decide) ?_
    exact tv_iretH (wf := (tv_hw cI cZ cL h a1 a2 a3 a4 ol)) (R64 := R64i) (r := 0) (f := vp_updL f 0 V.2.1.toInt64) hAe h0.symm (fun _ => pk_uLs) hx hb hr hP hK hD hS dL_settle_22 hlocks
set_option maxHeartbeats 4000000 in
set_option maxRecDepth 100000 in
theorem c_L_meet (l : Launch) (hT : l.stackTraces = false) (D : va_G) (cI cZ cL : ClassId) (h a1 a2 a3 a4 : Nat) (rd lv op nt : Nat → Int32) (ol : Nat) (f : Nat → Int64) (sz : Nat) (x1 x2 x3 : Int32) (V : TV) (hV : V = sp_meet x1 x2 x3 (rd, lv, op, nt)) : Met l yL_meet wsL_meet tv_rmH (tv_PH D cI cZ cL (tv_hw cI cZ cL h a1 a2 a3 a4 ol (rd, lv, op, nt) f) sz [.ref h, .int x1, .int x2, .int x3, .ref ol]) (tv_QH D cI cZ cL (tv_hw cI cZ cL h a1 a2 a3 a4 ol) (tv_hw cI cZ cL h a1 a2 a3 a4 ol (rd, lv, op, nt) f) sz V R64i) 1 6 (va_A (tv_hw cI cZ cL h a1 a2 a3 a4 ol (rd, lv, op, nt) f) sz) := by
  refine va_MetW (cc := cL_meet) (maxL := 6) (ret := some .int) (hh := [(0, 12, 15, 13), (0, 12, 19, 15)]) (by decide) rfl ?_
  intro p e s m args below meth c s₁ B hml hv
  obtain ⟨rfl, hsz, hP, hK, hD0, hE, hC⟩ := hv
  subst hsz
  have hx := B.exec
  have hb := B.bytes
  have hr := B.returns
  have hts := atoms_spec (ws := wsL_meet) B.pre
  have hown : s.vm.findClass RL = some m.cls := findClass_of_methodNamed B.named
  have hlocks := B.notSynchronized
  have htab := vx_table (x := yL_meet) B (hts (.codeWith yL_meet cL_meet 6 (some .int) [(0, 12, 15, 13), (0, 12, 19, 15)]) (by decide +kernel))
  have hD := hD0.self (sz := s.heap.size)
  obtain ⟨A, hAe⟩ : ∃ A, A = va_A (tv_hw cI cZ cL h a1 a2 a3 a4 ol (rd, lv, op, nt) f) s.heap.size := ⟨_, rfl⟩
  rw [← hAe] at hD hE
  have hA : ∀ q : Nat, s.heap.size ≤ q → A q := fun q h => by rw [hAe]; exact Or.inr h
  have hS : va_S A s.heap s.heap [] := va_S.rf
  clear hD0
  have hk : V.1 = 0 ∨ V = (1, 0, (rd, lv, op, nt)) ∨ V = (2, 0, (rd, lv, op, nt)) := by rw [hV]; exact sp_k rfl
  have hl := lv_entry ([.ref h, .int x1, .int x2, .int x3, .ref ol]) (n := 6) (Nat.le_of_ble_eq_true rfl)
  rw [lg_entry_eq]
  generalize (lg_sl ([.ref h, .int x1, .int x2, .int x3, .ref ol]) ++ List.replicate (6 - (lg_sl ([.ref h, .int x1, .int x2, .int x3, .ref ol])).length) Slot.unset).toArray = ls at hl ⊢
  have hl : lv_has ls 6 [(0, .ref h), (1, .int x1), (2, .int x2), (3, .int x3), (4, .ref ol)] := hl
  refine lv_aload hx hb dL_meet_0 (lv_at hl 4 rfl) ?_
  refine lv_iconst (v := 0) hx hb dL_meet_2 (by decide) ?_
  refine lv_aload_n hx hb dL_meet_3 rfl (lv_at hl 0 rfl) ?_
  refine lv_iload_n hx hb dL_meet_4 rfl (lv_at hl 1 rfl) ?_
  refine lv_iload_n hx hb dL_meet_5 rfl (lv_at hl 2 rfl) ?_
  refine lv_iload_n hx hb dL_meet_6 rfl (lv_at hl 3 rfl) ?_
  refine tv_callP (D := D) (V := V) (wf := tv_cw cI cZ h a1 a2 a3 a4) (ws := (tv_hw cI cZ cL h a1 a2 a3 a4 ol (rd, lv, op, nt) f)) (wc := (tv_cw cI cZ h a1 a2 a3 a4 (rd, lv, op, nt))) (wr := [(ol, .inl (cL, 1, .inr (.inl f)))]) (wsN := tv_hw cI cZ cL h a1 a2 a3 a4 ol V.2.2 f) (vx_runV (As := [.int x1, .int x2, .int x3]) (rest := [.int 0, .ref ol]) ⟨hx, hb, hml, hown, hts⟩ (c_X0_meet l hT D cI cZ cL h a1 a2 a3 a4 rd lv op nt s.heap.size x1 x2 x3 V hV) (cwV 3 hts gL_meet_X0_meet rfl rfl rfl (by decide +kernel) ⟨Nat.le_of_ble_eq_true rfl, Nat.le_of_ble_eq_true rfl⟩) (tv_prePV hP hK hD hS hA hE [0, 1, 2, 3, 4] rfl rfl rfl rfl 0 rfl) rfl rfl hl.1 rfl (lv_room (Nat.le_of_ble_eq_true rfl)) dL_meet_7 ⟨Nat.le_of_ble_eq_true rfl, Nat.le_of_ble_eq_true rfl⟩) hP hD hS hA [0, 1, 2, 3, 4] [5] rfl rfl rfl (by decide) [1, 2, 3, 4, 5, 0] rfl rfl rfl (fun ce q9 H locs h9 hP hS hce hcv hcl => ?_) (fun H locs h0 hP hD hS => ?_)
  · rcases hk with hk | hk | hk
    · exact absurd hk h9
    · have hcl : s.vm.findClass "java/lang/IndexOutOfBoundsException" = some ce.cls := by rw [hk] at hcl; exact hcl
      refine vx_catch (own := RL) (name := "java/lang/IndexOutOfBoundsException") (E := "java/lang/IndexOutOfBoundsException") hown [] ⟨0, 12, 15, 13⟩ [⟨0, 12, 19, 15⟩] htab (fun z hz => nomatch hz) (by decide) (by decide) (hts (.classLink RL 13 "java/lang/IndexOutOfBoundsException") (by decide +kernel)) (va_Nw.use rfl (hE.2.2.1 (.castable "java/lang/IndexOutOfBoundsException" "java/lang/IndexOutOfBoundsException") (by decide +kernel))) hce hcv hcl ?_
      refine lv_astore (lv' := [(5, .ref q9), (0, .ref h), (1, .int x1), (2, .int x2), (3, .int x3), (4, .ref ol)]) hx hb dL_meet_15 hl (by decide) rfl (fun ls hl => ?_)
      refine lv_iconst (v := 1) hx hb dL_meet_17 (by decide) ?_
      have hP : va_P D vwCl (tv_hw cI cZ cL h a1 a2 a3 a4 ol V.2.2 f) H := by rw [hk]; exact hP
      have hD : va_D A (tv_hw cI cZ cL h a1 a2 a3 a4 ol V.2.2 f) := by rw [hk]; exact hD
      exact tv_iretH (wf := (tv_hw cI cZ cL h a1 a2 a3 a4 ol)) (R64 := R64i) (r := 1) (f := f) hAe (by rw [hk]) (fun z => absurd z h9) hx hb hr hP hK hD hS dL_meet_18 hlocks
    · have hcl : s.vm.findClass "java/lang/IllegalArgumentException" = some ce.cls := by rw [hk] at hcl; exact hcl
      refine vx_catch (own := RL) (name := "java/lang/IllegalArgumentException") (E := "java/lang/IllegalArgumentException") hown [⟨0, 12, 15, 13⟩] ⟨0, 12, 19, 15⟩ [] htab (fun z hz => by cases List.mem_singleton.mp hz; exact Or.inr ⟨by decide, "java/lang/IndexOutOfBoundsException", hts (.classLink RL 13 "java/lang/IndexOutOfBoundsException") (by decide +kernel), hC.1⟩) (by decide) (by decide) (hts (.classLink RL 15 "java/lang/IllegalArgumentException") (by decide +kernel)) (va_Nw.use rfl (hE.2.2.1 (.castable "java/lang/IllegalArgumentException" "java/lang/IllegalArgumentException") (by decide +kernel))) hce hcv hcl ?_
      refine lv_astore (lv' := [(5, .ref q9), (0, .ref h), (1, .int x1), (2, .int x2), (3, .int x3), (4, .ref ol)]) hx hb dL_meet_19 hl (by decide) rfl (fun ls hl => ?_)
      refine lv_iconst (v := 2) hx hb dL_meet_21 (by decide) ?_
      have hP : va_P D vwCl (tv_hw cI cZ cL h a1 a2 a3 a4 ol V.2.2 f) H := by rw [hk]; exact hP
      have hD : va_D A (tv_hw cI cZ cL h a1 a2 a3 a4 ol V.2.2 f) := by rw [hk]; exact hD
      exact tv_iretH (wf := (tv_hw cI cZ cL h a1 a2 a3 a4 ol)) (R64 := R64i) (r := 2) (f := f) hAe (by rw [hk]) (fun z => absurd z h9) hx hb hr hP hK hD hS dL_meet_22 hlocks
  · skip
    refine lv_i2l hx hb dL_meet_10 rfl ?_
    refine tv_last (D := D) (f := f) (x := V.2.1.toInt64) (wsN := tv_hw cI cZ cL h a1 a2 a3 a4 ol V.2.2 (vp_updL f 0 V.2.1.toInt64)) hx hb hK hP hD hS 5 rfl rfl dL_meet_11 (fun H locs hP hD hS => ?_)
    refine lv_goto (tgt := 23) hx hb dL_meet_12 (by decide) ?_
    refine lv_iconst (v := 0) hx hb dL_meet_23 (by decide) ?_
    exact tv_iretH (wf := (tv_hw cI cZ cL h a1 a2 a3 a4 ol)) (R64 := R64i) (r := 0) (f := vp_updL f 0 V.2.1.toInt64) hAe h0.symm (fun _ => pk_uLs) hx hb hr hP hK hD hS dL_meet_24 hlocks
set_option maxHeartbeats 4000000 in
set_option maxRecDepth 100000 in
theorem c_L_alike (l : Launch) (hT : l.stackTraces = false) (D : va_G) (cI cZ cL : ClassId) (h a1 a2 a3 a4 : Nat) (rd lv op nt : Nat → Int32) (ol : Nat) (f : Nat → Int64) (sz : Nat) (x1 x2 : Int32) (V : TV) (hV : V = sp_alike x1 x2 (rd, lv, op, nt)) : Met l yL_alike wsL_alike tv_rmH (tv_PH D cI cZ cL (tv_hw cI cZ cL h a1 a2 a3 a4 ol (rd, lv, op, nt) f) sz [.ref h, .int x1, .int x2, .ref ol]) (tv_QH D cI cZ cL (tv_hw cI cZ cL h a1 a2 a3 a4 ol) (tv_hw cI cZ cL h a1 a2 a3 a4 ol (rd, lv, op, nt) f) sz V R64z) 1 6 (va_A (tv_hw cI cZ cL h a1 a2 a3 a4 ol (rd, lv, op, nt) f) sz) := by
  refine va_MetW (cc := cL_alike) (maxL := 5) (ret := some .int) (hh := [(0, 17, 20, 13), (0, 17, 24, 15)]) (by decide) rfl ?_
  intro p e s m args below meth c s₁ B hml hv
  obtain ⟨rfl, hsz, hP, hK, hD0, hE, hC⟩ := hv
  subst hsz
  have hx := B.exec
  have hb := B.bytes
  have hr := B.returns
  have hts := atoms_spec (ws := wsL_alike) B.pre
  have hown : s.vm.findClass RL = some m.cls := findClass_of_methodNamed B.named
  have hlocks := B.notSynchronized
  have htab := vx_table (x := yL_alike) B (hts (.codeWith yL_alike cL_alike 5 (some .int) [(0, 17, 20, 13), (0, 17, 24, 15)]) (by decide +kernel))
  have hD := hD0.self (sz := s.heap.size)
  obtain ⟨A, hAe⟩ : ∃ A, A = va_A (tv_hw cI cZ cL h a1 a2 a3 a4 ol (rd, lv, op, nt) f) s.heap.size := ⟨_, rfl⟩
  rw [← hAe] at hD hE
  have hA : ∀ q : Nat, s.heap.size ≤ q → A q := fun q h => by rw [hAe]; exact Or.inr h
  have hS : va_S A s.heap s.heap [] := va_S.rf
  clear hD0
  have hk : V.1 = 0 ∨ V = (1, 0, (rd, lv, op, nt)) ∨ V = (2, 0, (rd, lv, op, nt)) := by rw [hV]; exact sp_k rfl
  have hl := lv_entry ([.ref h, .int x1, .int x2, .ref ol]) (n := 5) (Nat.le_of_ble_eq_true rfl)
  rw [lg_entry_eq]
  generalize (lg_sl ([.ref h, .int x1, .int x2, .ref ol]) ++ List.replicate (5 - (lg_sl ([.ref h, .int x1, .int x2, .ref ol])).length) Slot.unset).toArray = ls at hl ⊢
  have hl : lv_has ls 5 [(0, .ref h), (1, .int x1), (2, .int x2), (3, .ref ol)] := hl
  refine lv_aload_n hx hb dL_alike_0 rfl (lv_at hl 3 rfl) ?_
  refine lv_iconst (v := 0) hx hb dL_alike_1 (by decide) ?_
  refine lv_aload_n hx hb dL_alike_2 rfl (lv_at hl 0 rfl) ?_
  refine lv_iload_n hx hb dL_alike_3 rfl (lv_at hl 1 rfl) ?_
  refine lv_iload_n hx hb dL_alike_4 rfl (lv_at hl 2 rfl) ?_
  refine tv_callP (D := D) (V := V) (wf := tv_cw cI cZ h a1 a2 a3 a4) (ws := (tv_hw cI cZ cL h a1 a2 a3 a4 ol (rd, lv, op, nt) f)) (wc := (tv_cw cI cZ h a1 a2 a3 a4 (rd, lv, op, nt))) (wr := [(ol, .inl (cL, 1, .inr (.inl f)))]) (wsN := tv_hw cI cZ cL h a1 a2 a3 a4 ol V.2.2 f) (vx_runV (As := [.int x1, .int x2]) (rest := [.int 0, .ref ol]) ⟨hx, hb, hml, hown, hts⟩ (c_X0_alike l hT D cI cZ cL h a1 a2 a3 a4 rd lv op nt s.heap.size x1 x2 V hV) (cwV 2 hts gL_alike_X0_alike rfl rfl rfl (by decide +kernel) ⟨Nat.le_of_ble_eq_true rfl, Nat.le_of_ble_eq_true rfl⟩) (tv_prePV hP hK hD hS hA hE [0, 1, 2, 3, 4] rfl rfl rfl rfl 0 rfl) rfl rfl hl.1 rfl (lv_room (Nat.le_of_ble_eq_true rfl)) dL_alike_5 ⟨Nat.le_of_ble_eq_true rfl, Nat.le_of_ble_eq_true rfl⟩) hP hD hS hA [0, 1, 2, 3, 4] [5] rfl rfl rfl (by decide) [1, 2, 3, 4, 5, 0] rfl rfl rfl (fun ce q9 H locs h9 hP hS hce hcv hcl => ?_) (fun H locs h0 hP hD hS => ?_)
  · rcases hk with hk | hk | hk
    · exact absurd hk h9
    · have hcl : s.vm.findClass "java/lang/IndexOutOfBoundsException" = some ce.cls := by rw [hk] at hcl; exact hcl
      refine vx_catch (own := RL) (name := "java/lang/IndexOutOfBoundsException") (E := "java/lang/IndexOutOfBoundsException") hown [] ⟨0, 17, 20, 13⟩ [⟨0, 17, 24, 15⟩] htab (fun z hz => nomatch hz) (by decide) (by decide) (hts (.classLink RL 13 "java/lang/IndexOutOfBoundsException") (by decide +kernel)) (va_Nw.use rfl (hE.2.2.1 (.castable "java/lang/IndexOutOfBoundsException" "java/lang/IndexOutOfBoundsException") (by decide +kernel))) hce hcv hcl ?_
      refine lv_astore (lv' := [(4, .ref q9), (0, .ref h), (1, .int x1), (2, .int x2), (3, .ref ol)]) hx hb dL_alike_20 hl (by decide) rfl (fun ls hl => ?_)
      refine lv_iconst (v := 1) hx hb dL_alike_22 (by decide) ?_
      have hP : va_P D vwCl (tv_hw cI cZ cL h a1 a2 a3 a4 ol V.2.2 f) H := by rw [hk]; exact hP
      have hD : va_D A (tv_hw cI cZ cL h a1 a2 a3 a4 ol V.2.2 f) := by rw [hk]; exact hD
      exact tv_iretH (wf := (tv_hw cI cZ cL h a1 a2 a3 a4 ol)) (R64 := R64z) (r := 1) (f := f) hAe (by rw [hk]) (fun z => absurd z h9) hx hb hr hP hK hD hS dL_alike_23 hlocks
    · have hcl : s.vm.findClass "java/lang/IllegalArgumentException" = some ce.cls := by rw [hk] at hcl; exact hcl
      refine vx_catch (own := RL) (name := "java/lang/IllegalArgumentException") (E := "java/lang/IllegalArgumentException") hown [⟨0, 17, 20, 13⟩] ⟨0, 17, 24, 15⟩ [] htab (fun z hz => by cases List.mem_singleton.mp hz; exact Or.inr ⟨by decide, "java/lang/IndexOutOfBoundsException", hts (.classLink RL 13 "java/lang/IndexOutOfBoundsException") (by decide +kernel), hC.1⟩) (by decide) (by decide) (hts (.classLink RL 15 "java/lang/IllegalArgumentException") (by decide +kernel)) (va_Nw.use rfl (hE.2.2.1 (.castable "java/lang/IllegalArgumentException" "java/lang/IllegalArgumentException") (by decide +kernel))) hce hcv hcl ?_
      refine lv_astore (lv' := [(4, .ref q9), (0, .ref h), (1, .int x1), (2, .int x2), (3, .ref ol)]) hx hb dL_alike_24 hl (by decide) rfl (fun ls hl => ?_)
      refine lv_iconst (v := 2) hx hb dL_alike_26 (by decide) ?_
      have hP : va_P D vwCl (tv_hw cI cZ cL h a1 a2 a3 a4 ol V.2.2 f) H := by rw [hk]; exact hP
      have hD : va_D A (tv_hw cI cZ cL h a1 a2 a3 a4 ol V.2.2 f) := by rw [hk]; exact hD
      exact tv_iretH (wf := (tv_hw cI cZ cL h a1 a2 a3 a4 ol)) (R64 := R64z) (r := 2) (f := f) hAe (by rw [hk]) (fun z => absurd z h9) hx hb hr hP hK hD hS dL_alike_27 hlocks
  · skip
    refine lv_if_eq (tgt := 15) hx hb dL_alike_8 (by decide) (fun c_1 => ?_) (fun c_1 => ?_)
    · skip
      refine lv_lconst (v := 0) hx hb dL_alike_15 (by decide) ?_
      refine tv_last (D := D) (f := f) (x := 0) (wsN := tv_hw cI cZ cL h a1 a2 a3 a4 ol V.2.2 (vp_updL f 0 0)) hx hb hK hP hD hS 5 rfl rfl dL_alike_16 (fun H locs hP hD hS => ?_)
      refine lv_goto (tgt := 28) hx hb dL_alike_17 (by decide) ?_
      refine lv_iconst (v := 0) hx hb dL_alike_28 (by decide) ?_
      exact tv_iretH (wf := (tv_hw cI cZ cL h a1 a2 a3 a4 ol)) (R64 := R64z) (r := 0) (f := vp_updL f 0 0) hAe h0.symm (fun _ => by rw [R64z, if_pos c_1]; exact pk_uLs) hx hb hr hP hK hD hS dL_alike_29 hlocks
    · skip
      refine lv_lconst (v := 1) hx hb dL_alike_11 (by decide) ?_
      refine lv_goto (tgt := 16) hx hb dL_alike_12 (by decide) ?_
      refine tv_last (D := D) (f := f) (x := 1) (wsN := tv_hw cI cZ cL h a1 a2 a3 a4 ol V.2.2 (vp_updL f 0 1)) hx hb hK hP hD hS 5 rfl rfl dL_alike_16 (fun H locs hP hD hS => ?_)
      refine lv_goto (tgt := 28) hx hb dL_alike_17 (by decide) ?_
      refine lv_iconst (v := 0) hx hb dL_alike_28 (by decide) ?_
      exact tv_iretH (wf := (tv_hw cI cZ cL h a1 a2 a3 a4 ol)) (R64 := R64z) (r := 0) (f := vp_updL f 0 1) hAe h0.symm (fun _ => by rw [R64z, if_neg c_1]; exact pk_uLs) hx hb hr hP hK hD hS dL_alike_29 hlocks
set_option maxHeartbeats 4000000 in
set_option maxRecDepth 100000 in
theorem c_L_merge (l : Launch) (hT : l.stackTraces = false) (D : va_G) (cI cZ cL : ClassId) (h a1 a2 a3 a4 : Nat) (rd lv op nt : Nat → Int32) (ol : Nat) (f : Nat → Int64) (sz : Nat) (x1 x2 x3 x4 : Int32) (V : TV) (hV : V = sp_merge x1 x2 x3 x4 (rd, lv, op, nt)) : Met l yL_merge wsL_merge tv_rmH (tv_PH D cI cZ cL (tv_hw cI cZ cL h a1 a2 a3 a4 ol (rd, lv, op, nt) f) sz [.ref h, .int x1, .int x2, .int x3, .int x4, .ref ol]) (tv_QH D cI cZ cL (tv_hw cI cZ cL h a1 a2 a3 a4 ol) (tv_hw cI cZ cL h a1 a2 a3 a4 ol (rd, lv, op, nt) f) sz V R64i) 1 6 (va_A (tv_hw cI cZ cL h a1 a2 a3 a4 ol (rd, lv, op, nt) f) sz) := by
  refine va_MetW (cc := cL_merge) (maxL := 7) (ret := some .int) (hh := [(0, 14, 17, 13), (0, 14, 21, 15)]) (by decide) rfl ?_
  intro p e s m args below meth c s₁ B hml hv
  obtain ⟨rfl, hsz, hP, hK, hD0, hE, hC⟩ := hv
  subst hsz
  have hx := B.exec
  have hb := B.bytes
  have hr := B.returns
  have hts := atoms_spec (ws := wsL_merge) B.pre
  have hown : s.vm.findClass RL = some m.cls := findClass_of_methodNamed B.named
  have hlocks := B.notSynchronized
  have htab := vx_table (x := yL_merge) B (hts (.codeWith yL_merge cL_merge 7 (some .int) [(0, 14, 17, 13), (0, 14, 21, 15)]) (by decide +kernel))
  have hD := hD0.self (sz := s.heap.size)
  obtain ⟨A, hAe⟩ : ∃ A, A = va_A (tv_hw cI cZ cL h a1 a2 a3 a4 ol (rd, lv, op, nt) f) s.heap.size := ⟨_, rfl⟩
  rw [← hAe] at hD hE
  have hA : ∀ q : Nat, s.heap.size ≤ q → A q := fun q h => by rw [hAe]; exact Or.inr h
  have hS : va_S A s.heap s.heap [] := va_S.rf
  clear hD0
  have hk : V.1 = 0 ∨ V = (1, 0, (rd, lv, op, nt)) ∨ V = (2, 0, (rd, lv, op, nt)) := by rw [hV]; exact sp_k rfl
  have hl := lv_entry ([.ref h, .int x1, .int x2, .int x3, .int x4, .ref ol]) (n := 7) (Nat.le_of_ble_eq_true rfl)
  rw [lg_entry_eq]
  generalize (lg_sl ([.ref h, .int x1, .int x2, .int x3, .int x4, .ref ol]) ++ List.replicate (7 - (lg_sl ([.ref h, .int x1, .int x2, .int x3, .int x4, .ref ol])).length) Slot.unset).toArray = ls at hl ⊢
  have hl : lv_has ls 7 [(0, .ref h), (1, .int x1), (2, .int x2), (3, .int x3), (4, .int x4), (5, .ref ol)] := hl
  refine lv_aload hx hb dL_merge_0 (lv_at hl 5 rfl) ?_
  refine lv_iconst (v := 0) hx hb dL_merge_2 (by decide) ?_
  refine lv_aload_n hx hb dL_merge_3 rfl (lv_at hl 0 rfl) ?_
  refine lv_iload_n hx hb dL_merge_4 rfl (lv_at hl 1 rfl) ?_
  refine lv_iload_n hx hb dL_merge_5 rfl (lv_at hl 2 rfl) ?_
  refine lv_iload_n hx hb dL_merge_6 rfl (lv_at hl 3 rfl) ?_
  refine lv_iload hx hb dL_merge_7 (lv_at hl 4 rfl) ?_
  refine tv_callP (D := D) (V := V) (wf := tv_cw cI cZ h a1 a2 a3 a4) (ws := (tv_hw cI cZ cL h a1 a2 a3 a4 ol (rd, lv, op, nt) f)) (wc := (tv_cw cI cZ h a1 a2 a3 a4 (rd, lv, op, nt))) (wr := [(ol, .inl (cL, 1, .inr (.inl f)))]) (wsN := tv_hw cI cZ cL h a1 a2 a3 a4 ol V.2.2 f) (vx_runV (As := [.int x1, .int x2, .int x3, .int x4]) (rest := [.int 0, .ref ol]) ⟨hx, hb, hml, hown, hts⟩ (c_X0_merge l hT D cI cZ cL h a1 a2 a3 a4 rd lv op nt s.heap.size x1 x2 x3 x4 V hV) (cwV 4 hts gL_merge_X0_merge rfl rfl rfl (by decide +kernel) ⟨Nat.le_of_ble_eq_true rfl, Nat.le_of_ble_eq_true rfl⟩) (tv_prePV hP hK hD hS hA hE [0, 1, 2, 3, 4] rfl rfl rfl rfl 0 rfl) rfl rfl hl.1 rfl (lv_room (Nat.le_of_ble_eq_true rfl)) dL_merge_9 ⟨Nat.le_of_ble_eq_true rfl, Nat.le_of_ble_eq_true rfl⟩) hP hD hS hA [0, 1, 2, 3, 4] [5] rfl rfl rfl (by decide) [1, 2, 3, 4, 5, 0] rfl rfl rfl (fun ce q9 H locs h9 hP hS hce hcv hcl => ?_) (fun H locs h0 hP hD hS => ?_)
  · rcases hk with hk | hk | hk
    · exact absurd hk h9
    · have hcl : s.vm.findClass "java/lang/IndexOutOfBoundsException" = some ce.cls := by rw [hk] at hcl; exact hcl
      refine vx_catch (own := RL) (name := "java/lang/IndexOutOfBoundsException") (E := "java/lang/IndexOutOfBoundsException") hown [] ⟨0, 14, 17, 13⟩ [⟨0, 14, 21, 15⟩] htab (fun z hz => nomatch hz) (by decide) (by decide) (hts (.classLink RL 13 "java/lang/IndexOutOfBoundsException") (by decide +kernel)) (va_Nw.use rfl (hE.2.2.1 (.castable "java/lang/IndexOutOfBoundsException" "java/lang/IndexOutOfBoundsException") (by decide +kernel))) hce hcv hcl ?_
      refine lv_astore (lv' := [(6, .ref q9), (0, .ref h), (1, .int x1), (2, .int x2), (3, .int x3), (4, .int x4), (5, .ref ol)]) hx hb dL_merge_17 hl (by decide) rfl (fun ls hl => ?_)
      refine lv_iconst (v := 1) hx hb dL_merge_19 (by decide) ?_
      have hP : va_P D vwCl (tv_hw cI cZ cL h a1 a2 a3 a4 ol V.2.2 f) H := by rw [hk]; exact hP
      have hD : va_D A (tv_hw cI cZ cL h a1 a2 a3 a4 ol V.2.2 f) := by rw [hk]; exact hD
      exact tv_iretH (wf := (tv_hw cI cZ cL h a1 a2 a3 a4 ol)) (R64 := R64i) (r := 1) (f := f) hAe (by rw [hk]) (fun z => absurd z h9) hx hb hr hP hK hD hS dL_merge_20 hlocks
    · have hcl : s.vm.findClass "java/lang/IllegalArgumentException" = some ce.cls := by rw [hk] at hcl; exact hcl
      refine vx_catch (own := RL) (name := "java/lang/IllegalArgumentException") (E := "java/lang/IllegalArgumentException") hown [⟨0, 14, 17, 13⟩] ⟨0, 14, 21, 15⟩ [] htab (fun z hz => by cases List.mem_singleton.mp hz; exact Or.inr ⟨by decide, "java/lang/IndexOutOfBoundsException", hts (.classLink RL 13 "java/lang/IndexOutOfBoundsException") (by decide +kernel), hC.1⟩) (by decide) (by decide) (hts (.classLink RL 15 "java/lang/IllegalArgumentException") (by decide +kernel)) (va_Nw.use rfl (hE.2.2.1 (.castable "java/lang/IllegalArgumentException" "java/lang/IllegalArgumentException") (by decide +kernel))) hce hcv hcl ?_
      refine lv_astore (lv' := [(6, .ref q9), (0, .ref h), (1, .int x1), (2, .int x2), (3, .int x3), (4, .int x4), (5, .ref ol)]) hx hb dL_merge_21 hl (by decide) rfl (fun ls hl => ?_)
      refine lv_iconst (v := 2) hx hb dL_merge_23 (by decide) ?_
      have hP : va_P D vwCl (tv_hw cI cZ cL h a1 a2 a3 a4 ol V.2.2 f) H := by rw [hk]; exact hP
      have hD : va_D A (tv_hw cI cZ cL h a1 a2 a3 a4 ol V.2.2 f) := by rw [hk]; exact hD
      exact tv_iretH (wf := (tv_hw cI cZ cL h a1 a2 a3 a4 ol)) (R64 := R64i) (r := 2) (f := f) hAe (by rw [hk]) (fun z => absurd z h9) hx hb hr hP hK hD hS dL_merge_24 hlocks
  · skip
    refine lv_i2l hx hb dL_merge_12 rfl ?_
    refine tv_last (D := D) (f := f) (x := V.2.1.toInt64) (wsN := tv_hw cI cZ cL h a1 a2 a3 a4 ol V.2.2 (vp_updL f 0 V.2.1.toInt64)) hx hb hK hP hD hS 5 rfl rfl dL_merge_13 (fun H locs hP hD hS => ?_)
    refine lv_goto (tgt := 25) hx hb dL_merge_14 (by decide) ?_
    refine lv_iconst (v := 0) hx hb dL_merge_25 (by decide) ?_
    exact tv_iretH (wf := (tv_hw cI cZ cL h a1 a2 a3 a4 ol)) (R64 := R64i) (r := 0) (f := vp_updL f 0 V.2.1.toInt64) hAe h0.symm (fun _ => pk_uLs) hx hb hr hP hK hD hS dL_merge_26 hlocks
