theorem tv_lvx {g r : Nat} (h : r < 8) : 2 * g + (if (if r < 4 then (0 : Int32) else 1) = 0 then 0 else 1) = 2 * g + r / 4 := by
  by_cases h1 : r < 4
  · rw [if_pos h1, Nat.div_eq_of_lt h1]; rfl
  · rw [if_neg h1, show r / 4 = 1 by omega]; rfl
theorem iX0_levelFor : ∀ w ∈ wsX00, w ∈ wsX0_levelFor := by decide +kernel
set_option maxHeartbeats 4000000 in
set_option maxRecDepth 100000 in
theorem c_X0_levelFor (l : Launch) (D : va_G) (cI cZ cL : ClassId) (h a1 a2 a3 a4 : Nat) (rd lv op nt : Nat → Int32) (g r : Nat) (hg4 : g < 4) (hr8 : r < 8) : Met l yX0_levelFor wsX0_levelFor ({ frames := 1, cells := 0, slots := 0, locals := 21 } : Room) (tv_Pw D cI cZ cL (tv_cw cI cZ h a1 a2 a3 a4 (rd, lv, op, nt)) [.ref h, .int (nI g), .int (nI r)]) (QcRead (lvl lv g r)) 0 0 (fun _ => False) := by
  refine Met.ofW (cc := cX0_levelFor) (maxL := 3) (ret := (some .int)) (by decide) rfl ?_
  intro p e s m args below meth c s₁ B hml hv
  obtain ⟨rfl, hP, hK⟩ := hv
  have hx := B.exec
  have hb := B.bytes
  have hr := B.returns
  have hts := atoms_spec (ws := wsX0_levelFor) B.pre
  have hown : s.vm.findClass RX0 = some m.cls := findClass_of_methodNamed B.named
  have hlocks := B.notSynchronized
  have hl := lv_entry ([.ref h, .int (nI g), .int (nI r)]) (n := 3) (Nat.le_of_ble_eq_true rfl)
  rw [lg_entry_eq]
  generalize (lg_sl ([.ref h, .int (nI g), .int (nI r)]) ++ List.replicate (3 - (lg_sl ([.ref h, .int (nI g), .int (nI r)])).length) Slot.unset).toArray = ls at hl ⊢
  have hl : lv_has ls 3 [(0, .ref h), (1, .int (nI g)), (2, .int (nI r))] := hl
  refine lv_aload_n hx hb dX0_levelFor_0 rfl (lv_at hl 0 rfl) ?_
  refine va_get (D := D) (ci := 0) (v := .ref a2) (C := RX0) (T := TX0) (N := 4) hx hb hts iX0_levelFor hown hK hP 0 rfl rfl 1 (by decide) (hts (.fieldLink RX0 13 "TideHouse" "levels" "[I") (by decide +kernel)) (fun _ h9 => h9) rfl dX0_levelFor_1 ?_
  refine lv_iload_n hx hb dX0_levelFor_4 rfl (lv_at hl 1 rfl) ?_
  refine lv_iload_n hx hb dX0_levelFor_5 rfl (lv_at hl 2 rfl) ?_
  refine tv_callR (W.runS (As := [.int (nI r)]) (rest := [.int (nI g), .ref a2]) ⟨hx, hb, hml, hown, hts⟩ (c_X0_isRough l r hr8) (va_cwS 1 hts gX0_levelFor_X0_isRough rfl rfl rfl (by decide +kernel) ⟨Nat.le_of_ble_eq_true rfl, Nat.le_of_ble_eq_true rfl⟩) preEq rfl rfl hl.1 rfl (lv_room (Nat.le_of_ble_eq_true rfl)) dX0_levelFor_6 ⟨Nat.le_of_ble_eq_true rfl, Nat.le_of_ble_eq_true rfl⟩) ?_
  refine tv_callR (W.runS (As := [.int (nI g), .int (if r < 4 then 0 else 1)]) (rest := [.ref a2]) ⟨hx, hb, hml, hown, hts⟩ (c_X0_levelSpot l g (if r < 4 then 0 else 1)) (va_cwS 2 hts gX0_levelFor_X0_levelSpot rfl rfl rfl (by decide +kernel) ⟨Nat.le_of_ble_eq_true rfl, Nat.le_of_ble_eq_true rfl⟩) preEq rfl rfl hl.1 rfl (lv_room (Nat.le_of_ble_eq_true rfl)) dX0_levelFor_9 ⟨Nat.le_of_ble_eq_true rfl, Nat.le_of_ble_eq_true rfl⟩) ?_
  refine tv_top (nI (2 * g + r / 4)) (by rw [tv_lvx hr8]) ?_
  refine tv_iald (D := D) (cA := cI) (n := 8) (f := lv) (k := (2 * g + r / 4)) hx hb hK hP 2 0 rfl rfl (by omega) (by omega) dX0_levelFor_12 ?_
  exact W.iret (v := lv (2 * g + r / 4)) hx hb hr (fun t ht hW => ⟨rfl, ht⟩) (fun q h => nomatch h) dX0_levelFor_13
set_option maxHeartbeats 4000000 in
set_option maxRecDepth 100000 in
theorem c_X0_opens (l : Launch) (x v tr : Int32) : Met l yX0_opens wsX0_opens ({ frames := 1, cells := 0, slots := 0, locals := 22 } : Room) (fun av _ => av = ([.int x, .int v, .int tr] : List Value).toArray) (QcRead (opn x v tr)) 0 0 (fun _ => False) := by
  refine Met.ofW (cc := cX0_opens) (maxL := 3) (ret := (some .boolean)) (by decide) rfl ?_
  intro p e s m args below meth c s₁ B hml hv
  subst hv
  have hx := B.exec
  have hb := B.bytes
  have hr := B.returns
  have hts := atoms_spec (ws := wsX0_opens) B.pre
  have hown : s.vm.findClass RX0 = some m.cls := findClass_of_methodNamed B.named
  have hlocks := B.notSynchronized
  have hl := lv_entry ([.int x, .int v, .int tr]) (n := 3) (Nat.le_of_ble_eq_true rfl)
  rw [lg_entry_eq]
  generalize (lg_sl ([.int x, .int v, .int tr]) ++ List.replicate (3 - (lg_sl ([.int x, .int v, .int tr])).length) Slot.unset).toArray = ls at hl ⊢
  have hl : lv_has ls 3 [(0, .int x), (1, .int v), (2, .int tr)] := hl
  refine lv_iload_n hx hb dX0_opens_0 rfl (lv_at hl 2 rfl) ?_
  refine lv_if_eq (tgt := 21) hx hb dX0_opens_1 (by decide) (fun c_1 => ?_) (fun c_1 => ?_)
  · skip
    refine lv_iconst (v := 3) hx hb dX0_opens_21 (by decide) ?_
    refine lv_iload_n hx hb dX0_opens_22 rfl (lv_at hl 0 rfl) ?_
    refine lv_iload_n hx hb dX0_opens_23 rfl (lv_at hl 1 rfl) ?_
    refine tv_callR (W.runS (As := [.int 3, .int x, .int v]) (rest := []) ⟨hx, hb, hml, hown, hts⟩ (c_X0_isTrue l 3 x v) (va_cwS 3 hts gX0_opens_X0_isTrue rfl rfl rfl (by decide +kernel) ⟨Nat.le_of_ble_eq_true rfl, Nat.le_of_ble_eq_true rfl⟩) preEq rfl rfl hl.1 rfl (lv_room (Nat.le_of_ble_eq_true rfl)) dX0_opens_24 ⟨Nat.le_of_ble_eq_true rfl, Nat.le_of_ble_eq_true rfl⟩) ?_
    exact tv_zret (v := tq 3 x v) hx hb hr (tq01 _ _ _) (fun t ht hW => ⟨by rw [opn, if_pos c_1], ht⟩) (fun q h => nomatch h) dX0_opens_27 hlocks
  · skip
    refine lv_iconst (v := 0) hx hb dX0_opens_4 (by decide) ?_
    refine lv_iload_n hx hb dX0_opens_5 rfl (lv_at hl 0 rfl) ?_
    refine lv_iload_n hx hb dX0_opens_6 rfl (lv_at hl 1 rfl) ?_
    refine tv_callR (W.runS (As := [.int 0, .int x, .int v]) (rest := []) ⟨hx, hb, hml, hown, hts⟩ (c_X0_isTrue l 0 x v) (va_cwS 3 hts gX0_opens_X0_isTrue rfl rfl rfl (by decide +kernel) ⟨Nat.le_of_ble_eq_true rfl, Nat.le_of_ble_eq_true rfl⟩) preEq rfl rfl hl.1 rfl (lv_room (Nat.le_of_ble_eq_true rfl)) dX0_opens_7 ⟨Nat.le_of_ble_eq_true rfl, Nat.le_of_ble_eq_true rfl⟩) ?_
    refine lv_if_ne (tgt := 17) hx hb dX0_opens_10 (by decide) (fun c_2 => ?_) (fun c_2 => ?_)
    · skip
      refine lv_iconst (v := 0) hx hb dX0_opens_17 (by decide) ?_
      refine lv_goto (tgt := 27) hx hb dX0_opens_18 (by decide) ?_
      exact tv_zret (v := 0) hx hb hr (by decide) (fun t ht hW => ⟨by rw [opn, if_neg c_1, if_neg c_2], ht⟩) (fun q h => nomatch h) dX0_opens_27 hlocks
    · skip
      refine lv_iconst (v := 1) hx hb dX0_opens_13 (by decide) ?_
      refine lv_goto (tgt := 27) hx hb dX0_opens_14 (by decide) ?_
      exact tv_zret (v := 1) hx hb hr (by decide) (fun t ht hW => ⟨by rw [opn, if_neg c_1, if_pos c_2], ht⟩) (fun q h => nomatch h) dX0_opens_27 hlocks
theorem iX0_isTrueOfNext : ∀ w ∈ wsX00, w ∈ wsX0_isTrueOfNext := by decide +kernel
set_option maxHeartbeats 4000000 in
set_option maxRecDepth 100000 in
theorem c_X0_isTrueOfNext (l : Launch) (D : va_G) (cI cZ cL : ClassId) (h a1 a2 a3 a4 : Nat) (rd lv op nt : Nat → Int32) (r k : Nat) (sg : Int32) (hr8 : r < 8) (hk11 : k < 11) : Met l yX0_isTrueOfNext wsX0_isTrueOfNext ({ frames := 1, cells := 0, slots := 0, locals := 22 } : Room) (tv_Pw D cI cZ cL (tv_cw cI cZ h a1 a2 a3 a4 (rd, lv, op, nt)) [.ref h, .int (nI r), .int (nI k), .int sg]) (QcRead (tq sg (rd (12 * r + k)) (rd (12 * r + (k + 1))))) 0 0 (fun _ => False) := by
  refine Met.ofW (cc := cX0_isTrueOfNext) (maxL := 4) (ret := (some .boolean)) (by decide) rfl ?_
  intro p e s m args below meth c s₁ B hml hv
  obtain ⟨rfl, hP, hK⟩ := hv
  have hx := B.exec
  have hb := B.bytes
  have hr := B.returns
  have hts := atoms_spec (ws := wsX0_isTrueOfNext) B.pre
  have hown : s.vm.findClass RX0 = some m.cls := findClass_of_methodNamed B.named
  have hlocks := B.notSynchronized
  have hl := lv_entry ([.ref h, .int (nI r), .int (nI k), .int sg]) (n := 4) (Nat.le_of_ble_eq_true rfl)
  rw [lg_entry_eq]
  generalize (lg_sl ([.ref h, .int (nI r), .int (nI k), .int sg]) ++ List.replicate (4 - (lg_sl ([.ref h, .int (nI r), .int (nI k), .int sg])).length) Slot.unset).toArray = ls at hl ⊢
  have hl : lv_has ls 4 [(0, .ref h), (1, .int (nI r)), (2, .int (nI k)), (3, .int sg)] := hl
  refine lv_iload_n hx hb dX0_isTrueOfNext_0 rfl (lv_at hl 3 rfl) ?_
  refine lv_aload_n hx hb dX0_isTrueOfNext_1 rfl (lv_at hl 0 rfl) ?_
  refine va_get (D := D) (ci := 0) (v := .ref a1) (C := RX0) (T := TX0) (N := 4) hx hb hts iX0_isTrueOfNext hown hK hP 0 rfl rfl 0 (by decide) (hts (.fieldLink RX0 9 "TideHouse" "readings" "[I") (by decide +kernel)) (fun _ h9 => h9) rfl dX0_isTrueOfNext_2 ?_
  refine lv_iload_n hx hb dX0_isTrueOfNext_5 rfl (lv_at hl 1 rfl) ?_
  refine lv_iload_n hx hb dX0_isTrueOfNext_6 rfl (lv_at hl 2 rfl) ?_
  refine tv_callR (W.runS (As := [.int (nI r), .int (nI k)]) (rest := [.ref a1, .int sg]) ⟨hx, hb, hml, hown, hts⟩ (c_X0_spot l r k) (va_cwS 2 hts gX0_isTrueOfNext_X0_spot rfl rfl rfl (by decide +kernel) ⟨Nat.le_of_ble_eq_true rfl, Nat.le_of_ble_eq_true rfl⟩) preEq rfl rfl hl.1 rfl (lv_room (Nat.le_of_ble_eq_true rfl)) dX0_isTrueOfNext_7 ⟨Nat.le_of_ble_eq_true rfl, Nat.le_of_ble_eq_true rfl⟩) ?_
  refine tv_iald (D := D) (cA := cI) (n := 96) (f := rd) (k := (12 * r + k)) hx hb hK hP 1 0 rfl rfl (by omega) (by omega) dX0_isTrueOfNext_10 ?_
  refine lv_aload_n hx hb dX0_isTrueOfNext_11 rfl (lv_at hl 0 rfl) ?_
  refine va_get (D := D) (ci := 0) (v := .ref a1) (C := RX0) (T := TX0) (N := 4) hx hb hts iX0_isTrueOfNext hown hK hP 0 rfl rfl 0 (by decide) (hts (.fieldLink RX0 9 "TideHouse" "readings" "[I") (by decide +kernel)) (fun _ h9 => h9) rfl dX0_isTrueOfNext_12 ?_
  refine lv_iload_n hx hb dX0_isTrueOfNext_15 rfl (lv_at hl 1 rfl) ?_
  refine lv_iload_n hx hb dX0_isTrueOfNext_16 rfl (lv_at hl 2 rfl) ?_
  refine lv_iconst (v := 1) hx hb dX0_isTrueOfNext_17 (by decide) ?_
  refine lv_iadd hx hb dX0_isTrueOfNext_18 ?_
  refine tv_top (nI (k + 1)) (nI_1 k) ?_
  refine tv_callR (W.runS (As := [.int (nI r), .int (nI (k + 1))]) (rest := [.ref a1, .int (rd (12 * r + k)), .int sg]) ⟨hx, hb, hml, hown, hts⟩ (c_X0_spot l r (k + 1)) (va_cwS 2 hts gX0_isTrueOfNext_X0_spot rfl rfl rfl (by decide +kernel) ⟨Nat.le_of_ble_eq_true rfl, Nat.le_of_ble_eq_true rfl⟩) preEq rfl rfl hl.1 rfl (lv_room (Nat.le_of_ble_eq_true rfl)) dX0_isTrueOfNext_19 ⟨Nat.le_of_ble_eq_true rfl, Nat.le_of_ble_eq_true rfl⟩) ?_
  refine tv_iald (D := D) (cA := cI) (n := 96) (f := rd) (k := (12 * r + (k + 1))) hx hb hK hP 1 0 rfl rfl (by omega) (by omega) dX0_isTrueOfNext_22 ?_
  refine tv_callR (W.runS (As := [.int sg, .int (rd (12 * r + k)), .int (rd (12 * r + (k + 1)))]) (rest := []) ⟨hx, hb, hml, hown, hts⟩ (c_X0_isTrue l sg (rd (12 * r + k)) (rd (12 * r + (k + 1)))) (va_cwS 3 hts gX0_isTrueOfNext_X0_isTrue rfl rfl rfl (by decide +kernel) ⟨Nat.le_of_ble_eq_true rfl, Nat.le_of_ble_eq_true rfl⟩) preEq rfl rfl hl.1 rfl (lv_room (Nat.le_of_ble_eq_true rfl)) dX0_isTrueOfNext_23 ⟨Nat.le_of_ble_eq_true rfl, Nat.le_of_ble_eq_true rfl⟩) ?_
  exact tv_zret (v := tq sg (rd (12 * r + k)) (rd (12 * r + (k + 1)))) hx hb hr (tq01 _ _ _) (fun t ht hW => ⟨rfl, ht⟩) (fun q h => nomatch h) dX0_isTrueOfNext_26 hlocks
theorem iX0_countMissing : ∀ w ∈ wsX00, w ∈ wsX0_countMissing := by decide +kernel
set_option maxHeartbeats 4000000 in
set_option maxRecDepth 100000 in
theorem c_X0_countMissing (l : Launch) (D : va_G) (cI cZ cL : ClassId) (h a1 a2 a3 a4 : Nat) (rd lv op nt : Nat → Int32) (r : Nat) (hr8 : r < 8) : Met l yX0_countMissing wsX0_countMissing ({ frames := 1, cells := 0, slots := 0, locals := 22 } : Room) (tv_Pw D cI cZ cL (tv_cw cI cZ h a1 a2 a3 a4 (rd, lv, op, nt)) [.ref h, .int (nI r)]) (QcRead (cn (fun k => if rd (12 * r + k) = -2147483648 then 1 else 0) 12)) 0 0 (fun _ => False) := by
  refine Met.ofW (cc := cX0_countMissing) (maxL := 5) (ret := (some .int)) (by decide) rfl ?_
  intro p e s m args below meth c s₁ B hml hv
  obtain ⟨rfl, hP, hK⟩ := hv
  have hx := B.exec
  have hb := B.bytes
  have hr := B.returns
  have hts := atoms_spec (ws := wsX0_countMissing) B.pre
  have hown : s.vm.findClass RX0 = some m.cls := findClass_of_methodNamed B.named
  have hlocks := B.notSynchronized
  have hl := lv_entry ([.ref h, .int (nI r)]) (n := 5) (Nat.le_of_ble_eq_true rfl)
  rw [lg_entry_eq]
  generalize (lg_sl ([.ref h, .int (nI r)]) ++ List.replicate (5 - (lg_sl ([.ref h, .int (nI r)])).length) Slot.unset).toArray = ls at hl ⊢
  have hl : lv_has ls 5 [(0, .ref h), (1, .int (nI r))] := hl
  refine lv_iconst (v := 0) hx hb dX0_countMissing_0 (by decide) ?_
  refine lv_istore_n (lv' := [(2, .int 0), (0, .ref h), (1, .int (nI r))]) hx hb dX0_countMissing_1 rfl hl (by decide) rfl (fun ls hl => ?_)
  refine lv_iconst (v := 0) hx hb dX0_countMissing_2 (by decide) ?_
  refine lv_istore_n (lv' := [(3, .int 0), (2, .int 0), (0, .ref h), (1, .int (nI r))]) hx hb dX0_countMissing_3 rfl hl (by decide) rfl (fun ls hl => ?_)
  have loop : ∀ (n k : Nat), k + n = 12 → ∀ ls : Array Slot, lv_has ls 5 [(0, .ref h), (1, .int (nI r)), (2, .int (cn (fun k => if rd (12 * r + k) = -2147483648 then 1 else 0) k)), (3, .int (nI k))] → W p l e (headSpec wsX0_countMissing ({ frames := 1, cells := 0, slots := 0, locals := 22 } : Room)).room s m ([.ref h, .int (nI r)] : List Value).toArray below meth c s.heap [] 0 0 (MQ below (QcRead (cn (fun k => if rd (12 * r + k) = -2147483648 then 1 else 0) 12)) ([.ref h, .int (nI r)] : List Value).toArray s 0 0 (fun _ => False)) (F0 m 4 ls []) := by
    intro n
    induction n with
    | zero =>
      intro k hk ls hl
      have hk2 : k = 12 := by omega
      subst hk2
      refine lv_iload_n hx hb dX0_countMissing_4 rfl (lv_at hl 3 rfl) ?_
      refine lv_bipush (v := 12) hx hb dX0_countMissing_5 (by decide) ?_
      refine lv_icmp_ge (tgt := 42) hx hb dX0_countMissing_7 (by decide) (fun c_1 => ?_) (fun c_1 => ?_)
      · skip
        refine lv_iload_n hx hb dX0_countMissing_42 rfl (lv_at hl 2 rfl) ?_
        exact W.iret (v := cn (fun k => if rd (12 * r + k) = -2147483648 then 1 else 0) 12) hx hb hr (fun t ht hW => ⟨rfl, ht⟩) (fun q h => nomatch h) dX0_countMissing_43
      · exact absurd (show nI 12 ≤ nI 12 from nI_le (Nat.le_refl _) (by omega)) c_1
    | succ n ih =>
      intro k hk ls hl
      refine lv_iload_n hx hb dX0_countMissing_4 rfl (lv_at hl 3 rfl) ?_
      refine lv_bipush (v := 12) hx hb dX0_countMissing_5 (by decide) ?_
      refine lv_icmp_ge (tgt := 42) hx hb dX0_countMissing_7 (by decide) (fun c_2 => ?_) (fun c_2 => ?_)
      · exact absurd (show nI 12 ≤ nI k from c_2) (nI_ge (by omega) (by omega))
      · skip
        refine lv_aload_n hx hb dX0_countMissing_10 rfl (lv_at hl 0 rfl) ?_
        refine va_get (D := D) (ci := 0) (v := .ref a1) (C := RX0) (T := TX0) (N := 4) hx hb hts iX0_countMissing hown hK hP 0 rfl rfl 0 (by decide) (hts (.fieldLink RX0 9 "TideHouse" "readings" "[I") (by decide +kernel)) (fun _ h9 => h9) rfl dX0_countMissing_11 ?_
        refine lv_iload_n hx hb dX0_countMissing_14 rfl (lv_at hl 1 rfl) ?_
        refine lv_iload_n hx hb dX0_countMissing_15 rfl (lv_at hl 3 rfl) ?_
        refine tv_callR (W.runS (As := [.int (nI r), .int (nI k)]) (rest := [.ref a1]) ⟨hx, hb, hml, hown, hts⟩ (c_X0_spot l r k) (va_cwS 2 hts gX0_countMissing_X0_spot rfl rfl rfl (by decide +kernel) ⟨Nat.le_of_ble_eq_true rfl, Nat.le_of_ble_eq_true rfl⟩) preEq rfl rfl hl.1 rfl (lv_room (Nat.le_of_ble_eq_true rfl)) dX0_countMissing_16 ⟨Nat.le_of_ble_eq_true rfl, Nat.le_of_ble_eq_true rfl⟩) ?_
        refine tv_iald (D := D) (cA := cI) (n := 96) (f := rd) (k := (12 * r + k)) hx hb hK hP 1 0 rfl rfl (by omega) (by omega) dX0_countMissing_19 ?_
        refine lv_istore (lv' := [(4, .int (rd (12 * r + k))), (0, .ref h), (1, .int (nI r)), (2, .int (cn (fun k => if rd (12 * r + k) = -2147483648 then 1 else 0) k)), (3, .int (nI k))]) hx hb dX0_countMissing_20 hl (by decide) rfl (fun ls hl => ?_)
        refine lv_iconst (v := 5) hx hb dX0_countMissing_22 (by decide) ?_
        refine lv_iload hx hb dX0_countMissing_23 (lv_at hl 0 rfl) ?_
        refine lv_iload hx hb dX0_countMissing_25 (lv_at hl 0 rfl) ?_
        refine tv_callR (W.runS (As := [.int 5, .int (rd (12 * r + k)), .int (rd (12 * r + k))]) (rest := []) ⟨hx, hb, hml, hown, hts⟩ (c_X0_isTrue l 5 (rd (12 * r + k)) (rd (12 * r + k))) (va_cwS 3 hts gX0_countMissing_X0_isTrue rfl rfl rfl (by decide +kernel) ⟨Nat.le_of_ble_eq_true rfl, Nat.le_of_ble_eq_true rfl⟩) preEq rfl rfl hl.1 rfl (lv_room (Nat.le_of_ble_eq_true rfl)) dX0_countMissing_27 ⟨Nat.le_of_ble_eq_true rfl, Nat.le_of_ble_eq_true rfl⟩) ?_
        refine lv_if_eq (tgt := 36) hx hb dX0_countMissing_30 (by decide) (fun c_3 => ?_) (fun c_3 => ?_)
        · skip
          refine lv_iinc (v := nI (k + 1)) (lv' := [(3, .int (nI (k + 1))), (4, .int (rd (12 * r + k))), (0, .ref h), (1, .int (nI r)), (2, .int (cn (fun k => if rd (12 * r + k) = -2147483648 then 1 else 0) k))]) hx hb dX0_countMissing_36 hl (k := 4) rfl (nI_1 k) (by decide) rfl (fun ls hl => ?_)
          refine lv_goto (tgt := 4) hx hb dX0_countMissing_39 (by decide) ?_
          exact ih (k + 1) (by omega) ls (by rw [show cn (fun k => if rd (12 * r + k) = -2147483648 then 1 else 0) (k + 1) = cn (fun k => if rd (12 * r + k) = -2147483648 then 1 else 0) k from by rw [tq_self] at c_3; simp only [cn, c_3]; simp]; exact lv_sub hl [2, 3, 4, 0] rfl)
        · skip
          refine lv_iinc (v := cn (fun k => if rd (12 * r + k) = -2147483648 then 1 else 0) k + 1) (lv' := [(2, .int (cn (fun k => if rd (12 * r + k) = -2147483648 then 1 else 0) k + 1)), (4, .int (rd (12 * r + k))), (0, .ref h), (1, .int (nI r)), (3, .int (nI k))]) hx hb dX0_countMissing_33 hl (k := 3) rfl (rfl) (by decide) rfl (fun ls hl => ?_)
          refine lv_iinc (v := nI (k + 1)) (lv' := [(3, .int (nI (k + 1))), (2, .int (cn (fun k => if rd (12 * r + k) = -2147483648 then 1 else 0) k + 1)), (4, .int (rd (12 * r + k))), (0, .ref h), (1, .int (nI r))]) hx hb dX0_countMissing_36 hl (k := 4) rfl (nI_1 k) (by decide) rfl (fun ls hl => ?_)
          refine lv_goto (tgt := 4) hx hb dX0_countMissing_39 (by decide) ?_
          exact ih (k + 1) (by omega) ls (by rw [show cn (fun k => if rd (12 * r + k) = -2147483648 then 1 else 0) (k + 1) = cn (fun k => if rd (12 * r + k) = -2147483648 then 1 else 0) k + 1 from by rw [tq_self] at c_3; by_cases z : rd (12 * r + k) = -2147483648; (· simp only [cn, if_pos z]); (· exact absurd (if_neg z) c_3)]; exact lv_sub hl [3, 4, 1, 0] rfl)
  exact loop 12 0 rfl ls (by rw [show cn (fun k => if rd (12 * r + k) = -2147483648 then 1 else 0) 0 = 0 from rfl, show nI 0 = 0 from nI_0]; exact lv_sub hl [2, 3, 1, 0] rfl)
theorem wk_le (sg w : Int32) (rw : Nat → Int32) : ∀ n p : Nat, p < 12 → wk sg w rw n p < 12 := by
  intro n
  induction n with
  | zero => intro p h; exact h
  | succ n ih =>
    intro p h
    unfold wk
    split
    · exact ih (p + 1) (by omega)
    · exact h
theorem iX0_walk : ∀ w ∈ wsX00, w ∈ wsX0_walk := by decide +kernel
set_option maxHeartbeats 4000000 in
set_option maxRecDepth 100000 in
theorem c_X0_walk (l : Launch) (D : va_G) (cI cZ cL : ClassId) (h a1 a2 a3 a4 : Nat) (rd lv op nt : Nat → Int32) (r p0 z : Nat) (sg w : Int32) (hr8 : r < 8) (hp12 : p0 < 12) (hz : wk sg w (rw12 rd r) 12 p0 = z) : Met l yX0_walk wsX0_walk ({ frames := 2, cells := 0, slots := 0, locals := 45 } : Room) (tv_Pw D cI cZ cL (tv_cw cI cZ h a1 a2 a3 a4 (rd, lv, op, nt)) [.ref h, .int (nI r), .int (nI p0), .int sg, .int w]) (QcRead (nI z)) 0 0 (fun _ => False) := by
  refine Met.ofW (cc := cX0_walk) (maxL := 6) (ret := (some .int)) (by decide) rfl ?_
  intro p e s m args below meth c s₁ B hml hv
  obtain ⟨rfl, hP, hK⟩ := hv
  have hx := B.exec
  have hb := B.bytes
  have hr := B.returns
  have hts := atoms_spec (ws := wsX0_walk) B.pre
  have hown : s.vm.findClass RX0 = some m.cls := findClass_of_methodNamed B.named
  have hlocks := B.notSynchronized
  have hl := lv_entry ([.ref h, .int (nI r), .int (nI p0), .int sg, .int w]) (n := 6) (Nat.le_of_ble_eq_true rfl)
  rw [lg_entry_eq]
  generalize (lg_sl ([.ref h, .int (nI r), .int (nI p0), .int sg, .int w]) ++ List.replicate (6 - (lg_sl ([.ref h, .int (nI r), .int (nI p0), .int sg, .int w])).length) Slot.unset).toArray = ls at hl ⊢
  have hl : lv_has ls 6 [(0, .ref h), (1, .int (nI r)), (2, .int (nI p0)), (3, .int sg), (4, .int w)] := hl
  refine lv_iload_n hx hb dX0_walk_0 rfl (lv_at hl 2 rfl) ?_
  refine lv_istore (lv' := [(5, .int (nI p0)), (0, .ref h), (1, .int (nI r)), (2, .int (nI p0)), (3, .int sg), (4, .int w)]) hx hb dX0_walk_1 hl (by decide) rfl (fun ls hl => ?_)
  have loop : ∀ (n q : Nat), q < 12 → 12 ≤ q + n → wk sg w (rw12 rd r) n q = z → ∀ ls : Array Slot, lv_has ls 6 [(0, .ref h), (1, .int (nI r)), (3, .int sg), (4, .int w), (5, .int (nI q))] → W p l e (headSpec wsX0_walk ({ frames := 2, cells := 0, slots := 0, locals := 45 } : Room)).room s m ([.ref h, .int (nI r), .int (nI p0), .int sg, .int w] : List Value).toArray below meth c s.heap [] 0 0 (MQ below (QcRead (nI z)) ([.ref h, .int (nI r), .int (nI p0), .int sg, .int w] : List Value).toArray s 0 0 (fun _ => False)) (F0 m 3 ls []) := by
    intro n
    induction n with
    | zero =>
      intro q h1 h2 h3 ls hl
      exact absurd h2 (by omega)
    | succ n ih =>
      intro q h1 h2 h3 ls hl
      refine lv_iload hx hb dX0_walk_3 (lv_at hl 4 rfl) ?_
      refine lv_bipush (v := 11) hx hb dX0_walk_5 (by decide) ?_
      refine lv_icmp_ge (tgt := 29) hx hb dX0_walk_7 (by decide) (fun c_1 => ?_) (fun c_1 => ?_)
      · have g1 : ¬ q < 11 := fun g => absurd (show nI 11 ≤ nI q from c_1) (nI_ge g (by omega))
        refine lv_iload hx hb dX0_walk_29 (lv_at hl 4 rfl) ?_
        refine tv_top (nI z) (by rw [← h3, wk, if_neg (fun g => g1 g.1)]) ?_
        exact W.iret (v := nI z) hx hb hr (fun t ht hW => ⟨rfl, ht⟩) (fun q h => nomatch h) dX0_walk_31
      · have g1 : q < 11 := Nat.lt_of_not_le (fun g => c_1 (show nI 11 ≤ nI q from nI_le g (by omega)))
        refine lv_aload_n hx hb dX0_walk_10 rfl (lv_at hl 0 rfl) ?_
        refine lv_iload_n hx hb dX0_walk_11 rfl (lv_at hl 1 rfl) ?_
        refine lv_iload hx hb dX0_walk_12 (lv_at hl 4 rfl) ?_
        refine lv_iload_n hx hb dX0_walk_14 rfl (lv_at hl 2 rfl) ?_
        refine tv_callR (W.runV (As := [.int (nI r), .int (nI q), .int sg]) (rest := []) ⟨hx, hb, hml, hown, hts⟩ (c_X0_isTrueOfNext l D cI cZ cL h a1 a2 a3 a4 rd lv op nt r q sg hr8 g1) (cwV 3 hts gX0_walk_X0_isTrueOfNext rfl rfl rfl (by decide +kernel) ⟨Nat.le_of_ble_eq_true rfl, Nat.le_of_ble_eq_true rfl⟩) (tv_preV hP hK rfl 0 rfl) rfl rfl hl.1 rfl (lv_room (Nat.le_of_ble_eq_true rfl)) dX0_walk_15 ⟨Nat.le_of_ble_eq_true rfl, Nat.le_of_ble_eq_true rfl⟩) ?_
        refine lv_iload hx hb dX0_walk_18 (lv_at hl 3 rfl) ?_
        refine lv_icmp_ne (tgt := 29) hx hb dX0_walk_20 (by decide) (fun c_2 => ?_) (fun c_2 => ?_)
        · skip
          refine lv_iload hx hb dX0_walk_29 (lv_at hl 4 rfl) ?_
          refine tv_top (nI z) (by rw [← h3, wk, if_neg (fun g => c_2 g.2)]) ?_
          exact W.iret (v := nI z) hx hb hr (fun t ht hW => ⟨rfl, ht⟩) (fun q h => nomatch h) dX0_walk_31
        · skip
          refine lv_iinc (v := nI (q + 1)) (lv' := [(5, .int (nI (q + 1))), (0, .ref h), (1, .int (nI r)), (3, .int sg), (4, .int w)]) hx hb dX0_walk_23 hl (k := 4) rfl (nI_1 q) (by decide) rfl (fun ls hl => ?_)
          refine lv_goto (tgt := 3) hx hb dX0_walk_26 (by decide) ?_
          exact ih (q + 1) (by omega) (by omega) (by rw [← h3]; conv => rhs; rw [wk]; rw [if_pos ⟨g1, c_2⟩]) ls (lv_sub hl [1, 2, 3, 4, 0] rfl)
  exact loop 12 p0 hp12 (by omega) hz ls (lv_sub hl [1, 2, 4, 5, 0] rfl)
set_option maxHeartbeats 4000000 in
set_option maxRecDepth 100000 in
theorem c_X0_store (l : Launch) (D : va_G) (cI cZ cL : ClassId) (a n : Nat) (sz : Nat) (f : Nat → Int32) (k : Nat) (x : Int32) (hk : k < n) (hn : n < 2 ^ 31) : Met l yX0_store wsX0_store ({ frames := 0, cells := 0, slots := 0, locals := 0 } : Room) (tv_Pd D cI cZ cL [(a, .inl (cI, n, .inl f))] sz [.ref a, .int (nI k), .int x]) (tv_Qw D cI cZ cL [(a, .inl (cI, n, .inl f))] sz (if f k = x then 0 else 1) [(a, .inl (cI, n, .inl (upd f k x)))]) 0 0 (va_A [(a, .inl (cI, n, .inl f))] sz) := by
  refine Met.ofW (cc := cX0_store) (maxL := 4) (ret := (some .boolean)) (by decide) rfl ?_
  intro p e s m args below meth c s₁ B hml hv
  obtain ⟨rfl, hsz, hP, hK, hD0⟩ := hv
  subst hsz
  have hx := B.exec
  have hb := B.bytes
  have hr := B.returns
  have hts := atoms_spec (ws := wsX0_store) B.pre
  have hown : s.vm.findClass RX0 = some m.cls := findClass_of_methodNamed B.named
  have hlocks := B.notSynchronized
  have hD := hD0.self (sz := s.heap.size)
  obtain ⟨A, hAe⟩ : ∃ A, A = va_A [(a, .inl (cI, n, .inl f))] s.heap.size := ⟨_, rfl⟩
  rw [← hAe] at hD
  have hA : ∀ q : Nat, s.heap.size ≤ q → A q := fun q h => by rw [hAe]; exact Or.inr h
  have hS : va_S A s.heap s.heap [] := va_S.rf
  clear hD0
  have hl := lv_entry ([.ref a, .int (nI k), .int x]) (n := 4) (Nat.le_of_ble_eq_true rfl)
  rw [lg_entry_eq]
  generalize (lg_sl ([.ref a, .int (nI k), .int x]) ++ List.replicate (4 - (lg_sl ([.ref a, .int (nI k), .int x])).length) Slot.unset).toArray = ls at hl ⊢
  have hl : lv_has ls 4 [(0, .ref a), (1, .int (nI k)), (2, .int x)] := hl
  refine lv_aload_n hx hb dX0_store_0 rfl (lv_at hl 0 rfl) ?_
  refine lv_iload_n hx hb dX0_store_1 rfl (lv_at hl 1 rfl) ?_
  refine tv_iald (D := D) (cA := cI) (n := n) (f := f) (k := k) hx hb hK hP 0 0 rfl rfl (by omega) (by omega) dX0_store_2 ?_
  refine lv_iload_n hx hb dX0_store_3 rfl (lv_at hl 2 rfl) ?_
  refine lv_icmp_eq (tgt := 11) hx hb dX0_store_4 (by decide) (fun c_1 => ?_) (fun c_1 => ?_)
  · skip
    refine lv_iconst (v := 0) hx hb dX0_store_11 (by decide) ?_
    refine lv_istore_n (lv' := [(3, .int 0), (0, .ref a), (1, .int (nI k)), (2, .int x)]) hx hb dX0_store_12 rfl hl (by decide) rfl (fun ls hl => ?_)
    refine lv_aload_n hx hb dX0_store_13 rfl (lv_at hl 1 rfl) ?_
    refine lv_iload_n hx hb dX0_store_14 rfl (lv_at hl 2 rfl) ?_
    refine lv_iload_n hx hb dX0_store_15 rfl (lv_at hl 3 rfl) ?_
    refine tv_iast (D := D) (cA := cI) (n := n) (f := f) (k := k) (x := x) (ws1 := [(a, .inl (cI, n, .inl (upd f k x)))]) hx hb hK hP hD hS 0 0 rfl rfl (by omega) (by omega) rfl dX0_store_16 (fun H locs hP hD hS => ?_)
    refine lv_iload_n hx hb dX0_store_17 rfl (lv_at hl 0 rfl) ?_
    refine tv_top (if f k = x then 0 else 1) (if_pos c_1).symm ?_
    exact tv_zretW (by split <;> simp) hAe hx hb hr hP hK hD hS dX0_store_18 hlocks
  · skip
    refine lv_iconst (v := 1) hx hb dX0_store_7 (by decide) ?_
    refine lv_goto (tgt := 12) hx hb dX0_store_8 (by decide) ?_
    refine lv_istore_n (lv' := [(3, .int 1), (0, .ref a), (1, .int (nI k)), (2, .int x)]) hx hb dX0_store_12 rfl hl (by decide) rfl (fun ls hl => ?_)
    refine lv_aload_n hx hb dX0_store_13 rfl (lv_at hl 1 rfl) ?_
    refine lv_iload_n hx hb dX0_store_14 rfl (lv_at hl 2 rfl) ?_
    refine lv_iload_n hx hb dX0_store_15 rfl (lv_at hl 3 rfl) ?_
    refine tv_iast (D := D) (cA := cI) (n := n) (f := f) (k := k) (x := x) (ws1 := [(a, .inl (cI, n, .inl (upd f k x)))]) hx hb hK hP hD hS 0 0 rfl rfl (by omega) (by omega) rfl dX0_store_16 (fun H locs hP hD hS => ?_)
    refine lv_iload_n hx hb dX0_store_17 rfl (lv_at hl 0 rfl) ?_
    refine tv_top (if f k = x then 0 else 1) (if_neg c_1).symm ?_
    exact tv_zretW (by split <;> simp) hAe hx hb hr hP hK hD hS dX0_store_18 hlocks
theorem iX0_moveLeft : ∀ w ∈ wsX00, w ∈ wsX0_moveLeft := by decide +kernel
set_option maxHeartbeats 4000000 in
set_option maxRecDepth 100000 in
theorem c_X0_moveLeft (l : Launch) (D : va_G) (cI cZ cL : ClassId) (h a1 a2 a3 a4 : Nat) (rd lv op nt : Nat → Int32) (sz : Nat) (r q N : Nat) (sg : Int32) (F : Nat → Int32) (hr8 : r < 8) (hq12 : q < 12) (hF : (ml sg r q rd).1 = F) (hN : (ml sg r q rd).2 = N) : Met l yX0_moveLeft wsX0_moveLeft ({ frames := 1, cells := 0, slots := 0, locals := 22 } : Room) (tv_Pd D cI cZ cL (tv_cw cI cZ h a1 a2 a3 a4 (rd, lv, op, nt)) sz [.ref h, .int (nI r), .int (nI q), .int sg]) (tv_Qw D cI cZ cL (tv_cw cI cZ h a1 a2 a3 a4 (rd, lv, op, nt)) sz (nI N) (tv_cw cI cZ h a1 a2 a3 a4 (F, lv, op, nt))) 0 0 (va_A (tv_cw cI cZ h a1 a2 a3 a4 (rd, lv, op, nt)) sz) := by
  refine Met.ofW (cc := cX0_moveLeft) (maxL := 6) (ret := (some .int)) (by decide) rfl ?_
  intro p e s m args below meth c s₁ B hml hv
  obtain ⟨rfl, hsz, hP, hK, hD0⟩ := hv
  subst hsz
  have hx := B.exec
  have hb := B.bytes
  have hr := B.returns
  have hts := atoms_spec (ws := wsX0_moveLeft) B.pre
  have hown : s.vm.findClass RX0 = some m.cls := findClass_of_methodNamed B.named
  have hlocks := B.notSynchronized
  have hD := hD0.self (sz := s.heap.size)
  obtain ⟨A, hAe⟩ : ∃ A, A = va_A (tv_cw cI cZ h a1 a2 a3 a4 (rd, lv, op, nt)) s.heap.size := ⟨_, rfl⟩
  rw [← hAe] at hD
  have hA : ∀ q : Nat, s.heap.size ≤ q → A q := fun q h => by rw [hAe]; exact Or.inr h
  have hS : va_S A s.heap s.heap [] := va_S.rf
  clear hD0
  have hl := lv_entry ([.ref h, .int (nI r), .int (nI q), .int sg]) (n := 6) (Nat.le_of_ble_eq_true rfl)
  rw [lg_entry_eq]
  generalize (lg_sl ([.ref h, .int (nI r), .int (nI q), .int sg]) ++ List.replicate (6 - (lg_sl ([.ref h, .int (nI r), .int (nI q), .int sg])).length) Slot.unset).toArray = ls at hl ⊢
  have hl : lv_has ls 6 [(0, .ref h), (1, .int (nI r)), (2, .int (nI q)), (3, .int sg)] := hl
  refine lv_iload_n hx hb dX0_moveLeft_0 rfl (lv_at hl 2 rfl) ?_
  refine lv_istore (lv' := [(4, .int (nI q)), (0, .ref h), (1, .int (nI r)), (2, .int (nI q)), (3, .int sg)]) hx hb dX0_moveLeft_1 hl (by decide) rfl (fun ls hl => ?_)
  have loop : ∀ (p0 : Nat) (rx : Nat → Int32) (H : Heap) (locs : List Loc), p0 ≤ q → (ml sg r p0 rx).1 = F → q - p0 + (ml sg r p0 rx).2 = N → va_P D vwCl (tv_cw cI cZ h a1 a2 a3 a4 (rx, lv, op, nt)) H → va_D A (tv_cw cI cZ h a1 a2 a3 a4 (rx, lv, op, nt)) → va_S A s.heap H locs → ∀ ls : Array Slot, lv_has ls 6 [(0, .ref h), (1, .int (nI r)), (2, .int (nI q)), (3, .int sg), (4, .int (nI p0))] → W p l e (headSpec wsX0_moveLeft ({ frames := 1, cells := 0, slots := 0, locals := 22 } : Room)).room s m ([.ref h, .int (nI r), .int (nI q), .int sg] : List Value).toArray below meth c H locs 0 0 (MQ below (tv_Qw D cI cZ cL (tv_cw cI cZ h a1 a2 a3 a4 (rd, lv, op, nt)) s.heap.size (nI N) (tv_cw cI cZ h a1 a2 a3 a4 (F, lv, op, nt))) ([.ref h, .int (nI r), .int (nI q), .int sg] : List Value).toArray s 0 0 (va_A (tv_cw cI cZ h a1 a2 a3 a4 (rd, lv, op, nt)) s.heap.size)) (F0 m 3 ls []) := by
    intro p0
    induction p0 with
    | zero =>
      intro rx H locs h1 h2 h3 hP hD hS ls hl
      refine lv_iload hx hb dX0_moveLeft_3 (lv_at hl 4 rfl) ?_
      refine lv_if_le (tgt := 97) hx hb dX0_moveLeft_5 (by decide) (fun c_1 => ?_) (fun c_1 => ?_)
      · skip
        refine lv_iload_n hx hb dX0_moveLeft_97 rfl (lv_at hl 2 rfl) ?_
        refine lv_iload hx hb dX0_moveLeft_98 (lv_at hl 4 rfl) ?_
        refine lv_isub hx hb dX0_moveLeft_100 ?_
        refine tv_top (nI N) (by rw [← h3, pk_sub (Nat.zero_le q)]; rfl) ?_
        have h2 : rx = F := h2
        subst h2
        exact tv_iretW hAe hx hb hr hP hK hD hS dX0_moveLeft_101 hlocks
      · exact absurd (show nI 0 ≤ 0 from by decide) c_1
    | succ p0 ih =>
      intro rx H locs h1 h2 h3 hP hD hS ls hl
      refine lv_iload hx hb dX0_moveLeft_3 (lv_at hl 4 rfl) ?_
      refine lv_if_le (tgt := 97) hx hb dX0_moveLeft_5 (by decide) (fun c_2 => ?_) (fun c_2 => ?_)
      · exact absurd c_2 (nI_nle (by omega) (by omega))
      · skip
        refine lv_iload_n hx hb dX0_moveLeft_8 rfl (lv_at hl 3 rfl) ?_
        refine lv_aload_n hx hb dX0_moveLeft_9 rfl (lv_at hl 0 rfl) ?_
        refine va_get (D := D) (ci := 0) (v := .ref a1) (C := RX0) (T := TX0) (N := 4) hx hb hts iX0_moveLeft hown hK hP 0 rfl rfl 0 (by decide) (hts (.fieldLink RX0 9 "TideHouse" "readings" "[I") (by decide +kernel)) (fun _ h9 => h9) rfl dX0_moveLeft_10 ?_
        refine lv_iload_n hx hb dX0_moveLeft_13 rfl (lv_at hl 1 rfl) ?_
        refine lv_iload hx hb dX0_moveLeft_14 (lv_at hl 4 rfl) ?_
        refine tv_callR (W.runS (As := [.int (nI r), .int (nI (p0 + 1))]) (rest := [.ref a1, .int sg]) ⟨hx, hb, hml, hown, hts⟩ (c_X0_spot l r (p0 + 1)) (va_cwS 2 hts gX0_moveLeft_X0_spot rfl rfl rfl (by decide +kernel) ⟨Nat.le_of_ble_eq_true rfl, Nat.le_of_ble_eq_true rfl⟩) preEq rfl rfl hl.1 rfl (lv_room (Nat.le_of_ble_eq_true rfl)) dX0_moveLeft_16 ⟨Nat.le_of_ble_eq_true rfl, Nat.le_of_ble_eq_true rfl⟩) ?_
        refine tv_iald (D := D) (cA := cI) (n := 96) (f := rx) (k := (12 * r + (p0 + 1))) hx hb hK hP 1 0 rfl rfl (by omega) (by omega) dX0_moveLeft_19 ?_
        refine lv_aload_n hx hb dX0_moveLeft_20 rfl (lv_at hl 0 rfl) ?_
        refine va_get (D := D) (ci := 0) (v := .ref a1) (C := RX0) (T := TX0) (N := 4) hx hb hts iX0_moveLeft hown hK hP 0 rfl rfl 0 (by decide) (hts (.fieldLink RX0 9 "TideHouse" "readings" "[I") (by decide +kernel)) (fun _ h9 => h9) rfl dX0_moveLeft_21 ?_
        refine lv_iload_n hx hb dX0_moveLeft_24 rfl (lv_at hl 1 rfl) ?_
        refine lv_iload hx hb dX0_moveLeft_25 (lv_at hl 4 rfl) ?_
        refine lv_iconst (v := 1) hx hb dX0_moveLeft_27 (by decide) ?_
        refine lv_isub hx hb dX0_moveLeft_28 ?_
        refine tv_top (nI p0) (nI_pred p0) ?_
        refine tv_callR (W.runS (As := [.int (nI r), .int (nI p0)]) (rest := [.ref a1, .int (rx (12 * r + (p0 + 1))), .int sg]) ⟨hx, hb, hml, hown, hts⟩ (c_X0_spot l r p0) (va_cwS 2 hts gX0_moveLeft_X0_spot rfl rfl rfl (by decide +kernel) ⟨Nat.le_of_ble_eq_true rfl, Nat.le_of_ble_eq_true rfl⟩) preEq rfl rfl hl.1 rfl (lv_room (Nat.le_of_ble_eq_true rfl)) dX0_moveLeft_29 ⟨Nat.le_of_ble_eq_true rfl, Nat.le_of_ble_eq_true rfl⟩) ?_
        refine tv_iald (D := D) (cA := cI) (n := 96) (f := rx) (k := (12 * r + p0)) hx hb hK hP 1 0 rfl rfl (by omega) (by omega) dX0_moveLeft_32 ?_
        refine tv_callR (W.runS (As := [.int sg, .int (rx (12 * r + (p0 + 1))), .int (rx (12 * r + p0))]) (rest := []) ⟨hx, hb, hml, hown, hts⟩ (c_X0_isTrue l sg (rx (12 * r + (p0 + 1))) (rx (12 * r + p0))) (va_cwS 3 hts gX0_moveLeft_X0_isTrue rfl rfl rfl (by decide +kernel) ⟨Nat.le_of_ble_eq_true rfl, Nat.le_of_ble_eq_true rfl⟩) preEq rfl rfl hl.1 rfl (lv_room (Nat.le_of_ble_eq_true rfl)) dX0_moveLeft_33 ⟨Nat.le_of_ble_eq_true rfl, Nat.le_of_ble_eq_true rfl⟩) ?_
        refine lv_if_eq (tgt := 97) hx hb dX0_moveLeft_36 (by decide) (fun c_3 => ?_) (fun c_3 => ?_)
        · rw [ml, if_pos c_3] at h2 h3
          refine lv_iload_n hx hb dX0_moveLeft_97 rfl (lv_at hl 2 rfl) ?_
          refine lv_iload hx hb dX0_moveLeft_98 (lv_at hl 4 rfl) ?_
          refine lv_isub hx hb dX0_moveLeft_100 ?_
          refine tv_top (nI N) (by rw [← h3, pk_sub h1]; rfl) ?_
          have h2 : rx = F := h2
          subst h2
          exact tv_iretW hAe hx hb hr hP hK hD hS dX0_moveLeft_101 hlocks
        · rw [ml, if_neg c_3] at h2 h3
          refine lv_aload_n hx hb dX0_moveLeft_39 rfl (lv_at hl 0 rfl) ?_
          refine va_get (D := D) (ci := 0) (v := .ref a1) (C := RX0) (T := TX0) (N := 4) hx hb hts iX0_moveLeft hown hK hP 0 rfl rfl 0 (by decide) (hts (.fieldLink RX0 9 "TideHouse" "readings" "[I") (by decide +kernel)) (fun _ h9 => h9) rfl dX0_moveLeft_40 ?_
          refine lv_iload_n hx hb dX0_moveLeft_43 rfl (lv_at hl 1 rfl) ?_
          refine lv_iload hx hb dX0_moveLeft_44 (lv_at hl 4 rfl) ?_
          refine tv_callR (W.runS (As := [.int (nI r), .int (nI (p0 + 1))]) (rest := [.ref a1]) ⟨hx, hb, hml, hown, hts⟩ (c_X0_spot l r (p0 + 1)) (va_cwS 2 hts gX0_moveLeft_X0_spot rfl rfl rfl (by decide +kernel) ⟨Nat.le_of_ble_eq_true rfl, Nat.le_of_ble_eq_true rfl⟩) preEq rfl rfl hl.1 rfl (lv_room (Nat.le_of_ble_eq_true rfl)) dX0_moveLeft_46 ⟨Nat.le_of_ble_eq_true rfl, Nat.le_of_ble_eq_true rfl⟩) ?_
          refine tv_iald (D := D) (cA := cI) (n := 96) (f := rx) (k := (12 * r + (p0 + 1))) hx hb hK hP 1 0 rfl rfl (by omega) (by omega) dX0_moveLeft_49 ?_
          refine lv_istore (lv' := [(5, .int (rx (12 * r + (p0 + 1)))), (0, .ref h), (1, .int (nI r)), (2, .int (nI q)), (3, .int sg), (4, .int (nI (p0 + 1)))]) hx hb dX0_moveLeft_50 hl (by decide) rfl (fun ls hl => ?_)
          refine lv_aload_n hx hb dX0_moveLeft_52 rfl (lv_at hl 1 rfl) ?_
          refine va_get (D := D) (ci := 0) (v := .ref a1) (C := RX0) (T := TX0) (N := 4) hx hb hts iX0_moveLeft hown hK hP 0 rfl rfl 0 (by decide) (hts (.fieldLink RX0 9 "TideHouse" "readings" "[I") (by decide +kernel)) (fun _ h9 => h9) rfl dX0_moveLeft_53 ?_
          refine lv_iload_n hx hb dX0_moveLeft_56 rfl (lv_at hl 2 rfl) ?_
          refine lv_iload hx hb dX0_moveLeft_57 (lv_at hl 5 rfl) ?_
          refine tv_callR (W.runS (As := [.int (nI r), .int (nI (p0 + 1))]) (rest := [.ref a1]) ⟨hx, hb, hml, hown, hts⟩ (c_X0_spot l r (p0 + 1)) (va_cwS 2 hts gX0_moveLeft_X0_spot rfl rfl rfl (by decide +kernel) ⟨Nat.le_of_ble_eq_true rfl, Nat.le_of_ble_eq_true rfl⟩) preEq rfl rfl hl.1 rfl (lv_room (Nat.le_of_ble_eq_true rfl)) dX0_moveLeft_59 ⟨Nat.le_of_ble_eq_true rfl, Nat.le_of_ble_eq_true rfl⟩) ?_
          refine lv_aload_n hx hb dX0_moveLeft_62 rfl (lv_at hl 1 rfl) ?_
          refine va_get (D := D) (ci := 0) (v := .ref a1) (C := RX0) (T := TX0) (N := 4) hx hb hts iX0_moveLeft hown hK hP 0 rfl rfl 0 (by decide) (hts (.fieldLink RX0 9 "TideHouse" "readings" "[I") (by decide +kernel)) (fun _ h9 => h9) rfl dX0_moveLeft_63 ?_
          refine lv_iload_n hx hb dX0_moveLeft_66 rfl (lv_at hl 2 rfl) ?_
          refine lv_iload hx hb dX0_moveLeft_67 (lv_at hl 5 rfl) ?_
          refine lv_iconst (v := 1) hx hb dX0_moveLeft_69 (by decide) ?_
          refine lv_isub hx hb dX0_moveLeft_70 ?_
          refine tv_top (nI p0) (nI_pred p0) ?_
          refine tv_callR (W.runS (As := [.int (nI r), .int (nI p0)]) (rest := [.ref a1, .int (nI (12 * r + (p0 + 1))), .ref a1]) ⟨hx, hb, hml, hown, hts⟩ (c_X0_spot l r p0) (va_cwS 2 hts gX0_moveLeft_X0_spot rfl rfl rfl (by decide +kernel) ⟨Nat.le_of_ble_eq_true rfl, Nat.le_of_ble_eq_true rfl⟩) preEq rfl rfl hl.1 rfl (lv_room (Nat.le_of_ble_eq_true rfl)) dX0_moveLeft_71 ⟨Nat.le_of_ble_eq_true rfl, Nat.le_of_ble_eq_true rfl⟩) ?_
          refine tv_iald (D := D) (cA := cI) (n := 96) (f := rx) (k := (12 * r + p0)) hx hb hK hP 1 0 rfl rfl (by omega) (by omega) dX0_moveLeft_74 ?_
          refine tv_iast (D := D) (cA := cI) (n := 96) (f := rx) (k := (12 * r + (p0 + 1))) (x := rx (12 * r + p0)) (ws1 := tv_cw cI cZ h a1 a2 a3 a4 (upd rx (12 * r + (p0 + 1)) (rx (12 * r + p0)), lv, op, nt)) hx hb hK hP hD hS 1 0 rfl rfl (by omega) (by omega) rfl dX0_moveLeft_75 (fun H locs hP hD hS => ?_)
          refine lv_aload_n hx hb dX0_moveLeft_76 rfl (lv_at hl 1 rfl) ?_
          refine va_get (D := D) (ci := 0) (v := .ref a1) (C := RX0) (T := TX0) (N := 4) hx hb hts iX0_moveLeft hown hK hP 0 rfl rfl 0 (by decide) (hts (.fieldLink RX0 9 "TideHouse" "readings" "[I") (by decide +kernel)) (fun _ h9 => h9) rfl dX0_moveLeft_77 ?_
          refine lv_iload_n hx hb dX0_moveLeft_80 rfl (lv_at hl 2 rfl) ?_
          refine lv_iload hx hb dX0_moveLeft_81 (lv_at hl 5 rfl) ?_
          refine lv_iconst (v := 1) hx hb dX0_moveLeft_83 (by decide) ?_
          refine lv_isub hx hb dX0_moveLeft_84 ?_
          refine tv_top (nI p0) (nI_pred p0) ?_
          refine tv_callR (W.runS (As := [.int (nI r), .int (nI p0)]) (rest := [.ref a1]) ⟨hx, hb, hml, hown, hts⟩ (c_X0_spot l r p0) (va_cwS 2 hts gX0_moveLeft_X0_spot rfl rfl rfl (by decide +kernel) ⟨Nat.le_of_ble_eq_true rfl, Nat.le_of_ble_eq_true rfl⟩) preEq rfl rfl hl.1 rfl (lv_room (Nat.le_of_ble_eq_true rfl)) dX0_moveLeft_85 ⟨Nat.le_of_ble_eq_true rfl, Nat.le_of_ble_eq_true rfl⟩) ?_
          refine lv_iload hx hb dX0_moveLeft_88 (lv_at hl 0 rfl) ?_
          refine tv_iast (D := D) (cA := cI) (n := 96) (f := upd rx (12 * r + (p0 + 1)) (rx (12 * r + p0))) (k := (12 * r + p0)) (x := rx (12 * r + (p0 + 1))) (ws1 := tv_cw cI cZ h a1 a2 a3 a4 (upd (upd rx (12 * r + (p0 + 1)) (rx (12 * r + p0))) (12 * r + p0) (rx (12 * r + (p0 + 1))), lv, op, nt)) hx hb hK hP hD hS 1 0 rfl rfl (by omega) (by omega) rfl dX0_moveLeft_90 (fun H locs hP hD hS => ?_)
          refine lv_iinc (v := nI p0) (lv' := [(4, .int (nI p0)), (5, .int (rx (12 * r + (p0 + 1)))), (0, .ref h), (1, .int (nI r)), (2, .int (nI q)), (3, .int sg)]) hx hb dX0_moveLeft_91 hl (k := 5) rfl (pk_m1 p0) (by decide) rfl (fun ls hl => ?_)
          refine lv_goto (tgt := 3) hx hb dX0_moveLeft_94 (by decide) ?_
          exact ih (upd (upd rx (12 * r + (p0 + 1)) (rx (12 * r + p0))) (12 * r + p0) (rx (12 * r + (p0 + 1)))) H locs (by omega) h2 (by simp only at h3; omega) hP hD hS ls (lv_sub hl [2, 3, 4, 5, 0] rfl)
  exact loop q rd s.heap [] (Nat.le_refl q) hF (by rw [hN, Nat.sub_self, Nat.zero_add]) hP hD hS ls (lv_sub hl [1, 2, 3, 4, 0] rfl)
