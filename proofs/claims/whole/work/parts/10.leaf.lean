section TVW
variable {p : Program} {l : Launch} {e : Env} {R : Room} {s : State} {m : MethodId} {args : Array Value} {below : List Frame} {meth : Method} {c : Code} {H : Heap} {locs : List Loc} {cells slots : Nat} {Q : State → Prop} {pc : Nat} {ls : Array Slot} {st0 rest : List Value} {a : Array Value}
theorem tv_callR {r : Int32} (hr : CallRun p l e R s m args below meth c H locs cells slots 0 0 (F0 m pc ls st0) rest (QcRead r a) (fun _ => False)) (kk : W p l e R s m args below meth c H locs cells slots Q (F0 m (pc + 3) ls (.int r :: rest))) : W p l e R s m args below meth c H locs cells slots Q (F0 m pc ls st0) := W.callR hr kk
theorem tv_callN (hr : CallRun p l e R s m args below meth c H locs cells slots 0 0 (F0 m pc ls st0) rest (tv_Void a) (fun _ => False)) (kk : W p l e R s m args below meth c H locs cells slots Q (F0 m (pc + 3) ls rest)) : W p l e R s m args below meth c H locs cells slots Q (F0 m pc ls st0) := tv_callv hr kk
end TVW
theorem tv_12 : (12 : Int32) = nI 12 := rfl
theorem tv_ix (r k : Nat) : nI r * 12 + nI k = nI (12 * r + k) := by rw [tv_12, pk_mul, nI_add, Nat.mul_comm r 12]
theorem tv_lx (g k : Nat) : nI g * 2 + nI k = nI (2 * g + k) := by rw [show (2 : Int32) = nI 2 from rfl, pk_mul, nI_add, Nat.mul_comm g 2]
set_option maxHeartbeats 4000000 in
set_option maxRecDepth 100000 in
theorem c_X0_isTrue (l : Launch) (sg x y : Int32) : Met l yX0_isTrue wsX0_isTrue ({ frames := 0, cells := 0, slots := 0, locals := 0 } : Room) (fun v _ => v = ([.int sg, .int x, .int y] : List Value).toArray) (QcRead (tq sg x y)) 0 0 (fun _ => False) := by
  refine Met.ofW (cc := cX0_isTrue) (maxL := 3) (ret := (some .boolean)) (by decide) rfl ?_
  intro p e s m args below meth c s₁ B hml hv
  subst hv
  have hx := B.exec
  have hb := B.bytes
  have hr := B.returns
  have hts := atoms_spec (ws := wsX0_isTrue) B.pre
  have hown : s.vm.findClass RX0 = some m.cls := findClass_of_methodNamed B.named
  have hlocks := B.notSynchronized
  have hl := lv_entry ([.int sg, .int x, .int y]) (n := 3) (Nat.le_of_ble_eq_true rfl)
  rw [lg_entry_eq]
  generalize (lg_sl ([.int sg, .int x, .int y]) ++ List.replicate (3 - (lg_sl ([.int sg, .int x, .int y])).length) Slot.unset).toArray = ls at hl ⊢
  have hl : lv_has ls 3 [(0, .int sg), (1, .int x), (2, .int y)] := hl
  refine lv_iload_n hx hb dX0_isTrue_0 rfl (lv_at hl 1 rfl) ?_
  refine lv_ldc (v := -2147483648) hx hb hown (hts (.constant RX0 23 (-2147483648)) (by decide +kernel)) dX0_isTrue_1 ?_
  refine lv_icmp_eq (tgt := 12) hx hb dX0_isTrue_3 (by decide) (fun c_1 => ?_) (fun c_1 => ?_)
  · skip
    refine lv_iload_n hx hb dX0_isTrue_12 rfl (lv_at hl 0 rfl) ?_
    refine lv_iconst (v := 5) hx hb dX0_isTrue_13 (by decide) ?_
    refine lv_icmp_ne (tgt := 21) hx hb dX0_isTrue_14 (by decide) (fun c_2 => ?_) (fun c_2 => ?_)
    · skip
      refine lv_iconst (v := 0) hx hb dX0_isTrue_21 (by decide) ?_
      exact tv_zret (v := 0) hx hb hr (by decide) (fun t ht hW => ⟨by rw [show tq sg x y = 0 from by simp [tq, c_1, c_2]], ht⟩) (fun q h => nomatch h) dX0_isTrue_22 hlocks
    · skip
      refine lv_iconst (v := 1) hx hb dX0_isTrue_17 (by decide) ?_
      refine lv_goto (tgt := 22) hx hb dX0_isTrue_18 (by decide) ?_
      exact tv_zret (v := 1) hx hb hr (by decide) (fun t ht hW => ⟨by rw [show tq sg x y = 1 from by simp [tq, c_1, c_2]], ht⟩) (fun q h => nomatch h) dX0_isTrue_22 hlocks
  · skip
    refine lv_iload_n hx hb dX0_isTrue_6 rfl (lv_at hl 2 rfl) ?_
    refine lv_ldc (v := -2147483648) hx hb hown (hts (.constant RX0 23 (-2147483648)) (by decide +kernel)) dX0_isTrue_7 ?_
    refine lv_icmp_ne (tgt := 23) hx hb dX0_isTrue_9 (by decide) (fun c_3 => ?_) (fun c_3 => ?_)
    · skip
      refine lv_iload_n hx hb dX0_isTrue_23 rfl (lv_at hl 0 rfl) ?_
      by_cases k0 : sg = 0
      · subst k0
        refine lv_tableIn (off := 36) (tgt := 60) hx hb dX0_isTrue_24 (by decide) (by decide) (by decide) (by decide) ?_
        refine lv_iload_n hx hb dX0_isTrue_60 rfl (lv_at hl 1 rfl) ?_
        refine lv_iload_n hx hb dX0_isTrue_61 rfl (lv_at hl 2 rfl) ?_
        refine lv_icmp_ge (tgt := 69) hx hb dX0_isTrue_62 (by decide) (fun c_4 => ?_) (fun c_4 => ?_)
        · skip
          refine lv_iconst (v := 0) hx hb dX0_isTrue_69 (by decide) ?_
          exact tv_zret (v := 0) hx hb hr (by decide) (fun t ht hW => ⟨by rw [show tq 0 x y = 0 from by simp [tq, c_1, c_3, c_4]], ht⟩) (fun q h => nomatch h) dX0_isTrue_70 hlocks
        · skip
          refine lv_iconst (v := 1) hx hb dX0_isTrue_65 (by decide) ?_
          refine lv_goto (tgt := 70) hx hb dX0_isTrue_66 (by decide) ?_
          exact tv_zret (v := 1) hx hb hr (by decide) (fun t ht hW => ⟨by rw [show tq 0 x y = 1 from by simp [tq, c_1, c_3, c_4]], ht⟩) (fun q h => nomatch h) dX0_isTrue_70 hlocks
      · skip
        by_cases k1 : sg = 1
        · subst k1
          refine lv_tableIn (off := 47) (tgt := 71) hx hb dX0_isTrue_24 (by decide) (by decide) (by decide) (by decide) ?_
          refine lv_iload_n hx hb dX0_isTrue_71 rfl (lv_at hl 1 rfl) ?_
          refine lv_iload_n hx hb dX0_isTrue_72 rfl (lv_at hl 2 rfl) ?_
          refine lv_icmp_gt (tgt := 80) hx hb dX0_isTrue_73 (by decide) (fun c_5 => ?_) (fun c_5 => ?_)
          · skip
            refine lv_iconst (v := 0) hx hb dX0_isTrue_80 (by decide) ?_
            exact tv_zret (v := 0) hx hb hr (by decide) (fun t ht hW => ⟨by rw [show tq 1 x y = 0 from by simp [tq, c_1, c_3, c_5]], ht⟩) (fun q h => nomatch h) dX0_isTrue_81 hlocks
          · skip
            refine lv_iconst (v := 1) hx hb dX0_isTrue_76 (by decide) ?_
            refine lv_goto (tgt := 81) hx hb dX0_isTrue_77 (by decide) ?_
            exact tv_zret (v := 1) hx hb hr (by decide) (fun t ht hW => ⟨by rw [show tq 1 x y = 1 from by simp [tq, c_1, c_3, c_5]], ht⟩) (fun q h => nomatch h) dX0_isTrue_81 hlocks
        · skip
          by_cases k2 : sg = 2
          · subst k2
            refine lv_tableIn (off := 58) (tgt := 82) hx hb dX0_isTrue_24 (by decide) (by decide) (by decide) (by decide) ?_
            refine lv_iload_n hx hb dX0_isTrue_82 rfl (lv_at hl 1 rfl) ?_
            refine lv_iload_n hx hb dX0_isTrue_83 rfl (lv_at hl 2 rfl) ?_
            refine lv_icmp_le (tgt := 91) hx hb dX0_isTrue_84 (by decide) (fun c_6 => ?_) (fun c_6 => ?_)
            · skip
              refine lv_iconst (v := 0) hx hb dX0_isTrue_91 (by decide) ?_
              exact tv_zret (v := 0) hx hb hr (by decide) (fun t ht hW => ⟨by rw [show tq 2 x y = 0 from by simp [tq, c_1, c_3, c_6]], ht⟩) (fun q h => nomatch h) dX0_isTrue_92 hlocks
            · skip
              refine lv_iconst (v := 1) hx hb dX0_isTrue_87 (by decide) ?_
              refine lv_goto (tgt := 92) hx hb dX0_isTrue_88 (by decide) ?_
              exact tv_zret (v := 1) hx hb hr (by decide) (fun t ht hW => ⟨by rw [show tq 2 x y = 1 from by simp [tq, c_1, c_3, c_6]], ht⟩) (fun q h => nomatch h) dX0_isTrue_92 hlocks
          · skip
            by_cases k3 : sg = 3
            · subst k3
              refine lv_tableIn (off := 69) (tgt := 93) hx hb dX0_isTrue_24 (by decide) (by decide) (by decide) (by decide) ?_
              refine lv_iload_n hx hb dX0_isTrue_93 rfl (lv_at hl 1 rfl) ?_
              refine lv_iload_n hx hb dX0_isTrue_94 rfl (lv_at hl 2 rfl) ?_
              refine lv_icmp_lt (tgt := 102) hx hb dX0_isTrue_95 (by decide) (fun c_7 => ?_) (fun c_7 => ?_)
              · skip
                refine lv_iconst (v := 0) hx hb dX0_isTrue_102 (by decide) ?_
                exact tv_zret (v := 0) hx hb hr (by decide) (fun t ht hW => ⟨by rw [show tq 3 x y = 0 from by simp [tq, c_1, c_3, c_7]], ht⟩) (fun q h => nomatch h) dX0_isTrue_103 hlocks
              · skip
                refine lv_iconst (v := 1) hx hb dX0_isTrue_98 (by decide) ?_
                refine lv_goto (tgt := 103) hx hb dX0_isTrue_99 (by decide) ?_
                exact tv_zret (v := 1) hx hb hr (by decide) (fun t ht hW => ⟨by rw [show tq 3 x y = 1 from by simp [tq, c_1, c_3, c_7]], ht⟩) (fun q h => nomatch h) dX0_isTrue_103 hlocks
            · skip
              by_cases k4 : sg = 4
              · subst k4
                refine lv_tableIn (off := 80) (tgt := 104) hx hb dX0_isTrue_24 (by decide) (by decide) (by decide) (by decide) ?_
                refine lv_iload_n hx hb dX0_isTrue_104 rfl (lv_at hl 1 rfl) ?_
                refine lv_iload_n hx hb dX0_isTrue_105 rfl (lv_at hl 2 rfl) ?_
                refine lv_icmp_ne (tgt := 113) hx hb dX0_isTrue_106 (by decide) (fun c_8 => ?_) (fun c_8 => ?_)
                · skip
                  refine lv_iconst (v := 0) hx hb dX0_isTrue_113 (by decide) ?_
                  exact tv_zret (v := 0) hx hb hr (by decide) (fun t ht hW => ⟨by rw [show tq 4 x y = 0 from by simp [tq, c_1, c_3, c_8]], ht⟩) (fun q h => nomatch h) dX0_isTrue_114 hlocks
                · skip
                  refine lv_iconst (v := 1) hx hb dX0_isTrue_109 (by decide) ?_
                  refine lv_goto (tgt := 114) hx hb dX0_isTrue_110 (by decide) ?_
                  exact tv_zret (v := 1) hx hb hr (by decide) (fun t ht hW => ⟨by rw [show tq 4 x y = 1 from by simp [tq, c_1, c_3, c_8]], ht⟩) (fun q h => nomatch h) dX0_isTrue_114 hlocks
              · skip
                have z0 := lv_neT (a := 0) k0 rfl
                have z1 := lv_neT (a := 1) k1 rfl
                have z2 := lv_neT (a := 2) k2 rfl
                have z3 := lv_neT (a := 3) k3 rfl
                have z4 := lv_neT (a := 4) k4 rfl
                refine lv_tableOut (tgt := 115) hx hb dX0_isTrue_24 (by omega) (by decide) ?_
                refine lv_iload_n hx hb dX0_isTrue_115 rfl (lv_at hl 1 rfl) ?_
                refine lv_iload_n hx hb dX0_isTrue_116 rfl (lv_at hl 2 rfl) ?_
                refine lv_icmp_eq (tgt := 124) hx hb dX0_isTrue_117 (by decide) (fun c_9 => ?_) (fun c_9 => ?_)
                · skip
                  refine lv_iconst (v := 0) hx hb dX0_isTrue_124 (by decide) ?_
                  exact tv_zret (v := 0) hx hb hr (by decide) (fun t ht hW => ⟨by rw [show tq sg x y = 0 from by simp [tq, c_1, c_3, k0, k1, k2, k3, k4, c_9]], ht⟩) (fun q h => nomatch h) dX0_isTrue_125 hlocks
                · skip
                  refine lv_iconst (v := 1) hx hb dX0_isTrue_120 (by decide) ?_
                  refine lv_goto (tgt := 125) hx hb dX0_isTrue_121 (by decide) ?_
                  exact tv_zret (v := 1) hx hb hr (by decide) (fun t ht hW => ⟨by rw [show tq sg x y = 1 from by simp [tq, c_1, c_3, k0, k1, k2, k3, k4, c_9]], ht⟩) (fun q h => nomatch h) dX0_isTrue_125 hlocks
    · skip
      refine lv_iload_n hx hb dX0_isTrue_12 rfl (lv_at hl 0 rfl) ?_
      refine lv_iconst (v := 5) hx hb dX0_isTrue_13 (by decide) ?_
      refine lv_icmp_ne (tgt := 21) hx hb dX0_isTrue_14 (by decide) (fun c_10 => ?_) (fun c_10 => ?_)
      · skip
        refine lv_iconst (v := 0) hx hb dX0_isTrue_21 (by decide) ?_
        exact tv_zret (v := 0) hx hb hr (by decide) (fun t ht hW => ⟨by rw [show tq sg x y = 0 from by simp [tq, c_1, c_3, c_10]], ht⟩) (fun q h => nomatch h) dX0_isTrue_22 hlocks
      · skip
        refine lv_iconst (v := 1) hx hb dX0_isTrue_17 (by decide) ?_
        refine lv_goto (tgt := 22) hx hb dX0_isTrue_18 (by decide) ?_
        exact tv_zret (v := 1) hx hb hr (by decide) (fun t ht hW => ⟨by rw [show tq sg x y = 1 from by simp [tq, c_1, c_3, c_10]], ht⟩) (fun q h => nomatch h) dX0_isTrue_22 hlocks
set_option maxHeartbeats 4000000 in
set_option maxRecDepth 100000 in
theorem c_X0_spot (l : Launch) (r k : Nat) : Met l yX0_spot wsX0_spot ({ frames := 0, cells := 0, slots := 0, locals := 0 } : Room) (fun v _ => v = ([.int (nI r), .int (nI k)] : List Value).toArray) (QcRead (nI (12 * r + k))) 0 0 (fun _ => False) := by
  refine Met.ofW (cc := cX0_spot) (maxL := 2) (ret := (some .int)) (by decide) rfl ?_
  intro p e s m args below meth c s₁ B hml hv
  subst hv
  have hx := B.exec
  have hb := B.bytes
  have hr := B.returns
  have hts := atoms_spec (ws := wsX0_spot) B.pre
  have hown : s.vm.findClass RX0 = some m.cls := findClass_of_methodNamed B.named
  have hlocks := B.notSynchronized
  have hl := lv_entry ([.int (nI r), .int (nI k)]) (n := 2) (Nat.le_of_ble_eq_true rfl)
  rw [lg_entry_eq]
  generalize (lg_sl ([.int (nI r), .int (nI k)]) ++ List.replicate (2 - (lg_sl ([.int (nI r), .int (nI k)])).length) Slot.unset).toArray = ls at hl ⊢
  have hl : lv_has ls 2 [(0, .int (nI r)), (1, .int (nI k))] := hl
  refine lv_iload_n hx hb dX0_spot_0 rfl (lv_at hl 0 rfl) ?_
  refine lv_bipush (v := 12) hx hb dX0_spot_1 (by decide) ?_
  refine lv_imul hx hb dX0_spot_3 ?_
  refine lv_iload_n hx hb dX0_spot_4 rfl (lv_at hl 1 rfl) ?_
  refine lv_iadd hx hb dX0_spot_5 ?_
  refine tv_top (nI (12 * r + k)) (tv_ix r k) ?_
  exact W.iret (v := nI (12 * r + k)) hx hb hr (fun t ht hW => ⟨rfl, ht⟩) (fun q h => nomatch h) dX0_spot_6
set_option maxHeartbeats 4000000 in
set_option maxRecDepth 100000 in
theorem c_X0_levelSpot (l : Launch) (g : Nat) (x : Int32) : Met l yX0_levelSpot wsX0_levelSpot ({ frames := 0, cells := 0, slots := 0, locals := 0 } : Room) (fun v _ => v = ([.int (nI g), .int x] : List Value).toArray) (QcRead (nI (2 * g + (if x = 0 then 0 else 1)))) 0 0 (fun _ => False) := by
  refine Met.ofW (cc := cX0_levelSpot) (maxL := 2) (ret := (some .int)) (by decide) rfl ?_
  intro p e s m args below meth c s₁ B hml hv
  subst hv
  have hx := B.exec
  have hb := B.bytes
  have hr := B.returns
  have hts := atoms_spec (ws := wsX0_levelSpot) B.pre
  have hown : s.vm.findClass RX0 = some m.cls := findClass_of_methodNamed B.named
  have hlocks := B.notSynchronized
  have hl := lv_entry ([.int (nI g), .int x]) (n := 2) (Nat.le_of_ble_eq_true rfl)
  rw [lg_entry_eq]
  generalize (lg_sl ([.int (nI g), .int x]) ++ List.replicate (2 - (lg_sl ([.int (nI g), .int x])).length) Slot.unset).toArray = ls at hl ⊢
  have hl : lv_has ls 2 [(0, .int (nI g)), (1, .int x)] := hl
  refine lv_iload_n hx hb dX0_levelSpot_0 rfl (lv_at hl 0 rfl) ?_
  refine lv_iconst (v := 2) hx hb dX0_levelSpot_1 (by decide) ?_
  refine lv_imul hx hb dX0_levelSpot_2 ?_
  refine lv_iload_n hx hb dX0_levelSpot_3 rfl (lv_at hl 1 rfl) ?_
  refine lv_if_eq (tgt := 11) hx hb dX0_levelSpot_4 (by decide) (fun c_1 => ?_) (fun c_1 => ?_)
  · skip
    refine lv_iconst (v := 0) hx hb dX0_levelSpot_11 (by decide) ?_
    refine lv_iadd hx hb dX0_levelSpot_12 ?_
    rw [show nI g * 2 + 0 = nI (2 * g + (if x = 0 then 0 else 1)) from by rw [if_pos c_1]; exact tv_lx g 0]
    exact W.iret (v := nI (2 * g + (if x = 0 then 0 else 1))) hx hb hr (fun t ht hW => ⟨rfl, ht⟩) (fun q h => nomatch h) dX0_levelSpot_13
  · skip
    refine lv_iconst (v := 1) hx hb dX0_levelSpot_7 (by decide) ?_
    refine lv_goto (tgt := 12) hx hb dX0_levelSpot_8 (by decide) ?_
    refine lv_iadd hx hb dX0_levelSpot_12 ?_
    rw [show nI g * 2 + 1 = nI (2 * g + (if x = 0 then 0 else 1)) from by rw [if_neg c_1]; exact tv_lx g 1]
    exact W.iret (v := nI (2 * g + (if x = 0 then 0 else 1))) hx hb hr (fun t ht hW => ⟨rfl, ht⟩) (fun q h => nomatch h) dX0_levelSpot_13
set_option maxHeartbeats 4000000 in
set_option maxRecDepth 100000 in
theorem c_X0_isRough (l : Launch) (r : Nat) (h : r < 8) : Met l yX0_isRough wsX0_isRough ({ frames := 0, cells := 0, slots := 0, locals := 0 } : Room) (fun v _ => v = ([.int (nI r)] : List Value).toArray) (QcRead (if r < 4 then 0 else 1)) 0 0 (fun _ => False) := by
  refine Met.ofW (cc := cX0_isRough) (maxL := 1) (ret := (some .boolean)) (by decide) rfl ?_
  intro p e s m args below meth c s₁ B hml hv
  subst hv
  have hx := B.exec
  have hb := B.bytes
  have hr := B.returns
  have hts := atoms_spec (ws := wsX0_isRough) B.pre
  have hown : s.vm.findClass RX0 = some m.cls := findClass_of_methodNamed B.named
  have hlocks := B.notSynchronized
  have hl := lv_entry ([.int (nI r)]) (n := 1) (Nat.le_of_ble_eq_true rfl)
  rw [lg_entry_eq]
  generalize (lg_sl ([.int (nI r)]) ++ List.replicate (1 - (lg_sl ([.int (nI r)])).length) Slot.unset).toArray = ls at hl ⊢
  have hl : lv_has ls 1 [(0, .int (nI r))] := hl
  refine lv_iload_n hx hb dX0_isRough_0 rfl (lv_at hl 0 rfl) ?_
  refine lv_iconst (v := 4) hx hb dX0_isRough_1 (by decide) ?_
  refine lv_icmp_lt (tgt := 9) hx hb dX0_isRough_2 (by decide) (fun c_1 => ?_) (fun c_1 => ?_)
  · skip
    refine lv_iconst (v := 0) hx hb dX0_isRough_9 (by decide) ?_
    have q : r < 4 := (nI_ltI (by omega) (by omega)).mp (show nI r < nI 4 from c_1)
    exact tv_zret (v := 0) hx hb hr (by decide) (fun t ht hW => ⟨by rw [if_pos q], ht⟩) (fun q h => nomatch h) dX0_isRough_10 hlocks
  · skip
    refine lv_iconst (v := 1) hx hb dX0_isRough_5 (by decide) ?_
    refine lv_goto (tgt := 10) hx hb dX0_isRough_6 (by decide) ?_
    have q : ¬ r < 4 := fun z => c_1 (show nI r < nI 4 from nI_lt z (by omega))
    exact tv_zret (v := 1) hx hb hr (by decide) (fun t ht hW => ⟨by rw [if_neg q], ht⟩) (fun q h => nomatch h) dX0_isRough_10 hlocks
set_option maxHeartbeats 4000000 in
set_option maxRecDepth 100000 in
theorem n_X0_needRow (l : Launch) (x : Int32) (g : tv_in 8 x = true) : Met l yX0_needRow wsX0_needRow ({ frames := 0, cells := 0, slots := 0, locals := 0 } : Room) (fun v _ => v = ([.int x] : List Value).toArray) tv_Void 0 0 (fun _ => False) := by
  refine Met.ofW (cc := cX0_needRow) (maxL := 1) (ret := none) (by decide) rfl ?_
  intro p e s m args below meth c s₁ B hml hv
  subst hv
  have hx := B.exec
  have hb := B.bytes
  have hr := B.returns
  have hts := atoms_spec (ws := wsX0_needRow) B.pre
  have hown : s.vm.findClass RX0 = some m.cls := findClass_of_methodNamed B.named
  have hlocks := B.notSynchronized
  have hl := lv_entry ([.int x]) (n := 1) (Nat.le_of_ble_eq_true rfl)
  rw [lg_entry_eq]
  generalize (lg_sl ([.int x]) ++ List.replicate (1 - (lg_sl ([.int x])).length) Slot.unset).toArray = ls at hl ⊢
  have hl : lv_has ls 1 [(0, .int x)] := hl
  simp only [tv_in, Bool.and_eq_true, Bool.not_eq_true', decide_eq_false_iff_not, decide_eq_true_eq] at g
  refine lv_iload_n hx hb dX0_needRow_0 rfl (lv_at hl 0 rfl) ?_
  refine lv_if_lt (tgt := 10) hx hb dX0_needRow_1 (by decide) (fun c_1 => ?_) (fun c_1 => ?_)
  · exact absurd c_1 g.1
  · skip
    refine lv_iload_n hx hb dX0_needRow_4 rfl (lv_at hl 0 rfl) ?_
    refine lv_bipush (v := 8) hx hb dX0_needRow_5 (by decide) ?_
    refine lv_icmp_lt (tgt := 20) hx hb dX0_needRow_7 (by decide) (fun c_2 => ?_) (fun c_2 => ?_)
    · skip
      exact W.vret hx hb hr (fun t ht hW => ⟨rfl, ht⟩) (fun q h => nomatch h) dX0_needRow_20
    · exact absurd g.2 c_2
set_option maxHeartbeats 4000000 in
set_option maxRecDepth 100000 in
theorem t_X0_needRow (l : Launch) (hT : l.stackTraces = false) (x : Int32) (g : tv_in 8 x = false) : vx_Met l yX0_needRow wsX0_needRow tv_rmT (tv_PT [.int x]) (fun _ _ _ _ => False) (tv_XT "java/lang/IndexOutOfBoundsException") 1 6 (fun _ => False) := by
  refine vx_ofW (cc := cX0_needRow) (maxL := 1) (ret := none) (by decide) rfl ?_
  intro p e s m args below meth c s₁ B hml htab hv
  obtain ⟨rfl, hE⟩ := hv
  have hx := B.exec
  have hb := B.bytes
  have hr := B.returns
  have hts := atoms_spec (ws := wsX0_needRow) B.pre
  have hown : s.vm.findClass RX0 = some m.cls := findClass_of_methodNamed B.named
  have hlocks := B.notSynchronized
  have hS : va_S (fun _ : Nat => False) s.heap s.heap [] := va_S.rf
  have hl := lv_entry ([.int x]) (n := 1) (Nat.le_of_ble_eq_true rfl)
  rw [lg_entry_eq]
  generalize (lg_sl ([.int x]) ++ List.replicate (1 - (lg_sl ([.int x])).length) Slot.unset).toArray = ls at hl ⊢
  have hl : lv_has ls 1 [(0, .int x)] := hl
  refine lv_iload_n hx hb dX0_needRow_0 rfl (lv_at hl 0 rfl) ?_
  refine lv_if_lt (tgt := 10) hx hb dX0_needRow_1 (by decide) (fun c_1 => ?_) (fun c_1 => ?_)
  · skip
    exact tv_thr (cls := "java/lang/IndexOutOfBoundsException") (text := "no such row") (ik := 107) (is := 109) (ic := 111) hx hb hT hts hown (by decide +kernel) (by decide +kernel) (by decide +kernel) (by decide +kernel) tv_io_g tv_io_o (by decide +kernel) hE hS (hl.1.trans hml.symm) dX0_needRow_10 dX0_needRow_13 dX0_needRow_14 dX0_needRow_16 dX0_needRow_19 htab (Nat.le_of_ble_eq_true rfl) (Nat.le_of_ble_eq_true rfl) (Nat.le_of_ble_eq_true rfl) (Nat.le_of_ble_eq_true rfl) hlocks (fun t ht hz hk => ⟨(), trivial, rfl, hz, fun q hq _ => hk q hq⟩) (fun z h => nomatch h) (Nat.le_of_ble_eq_true rfl) (Nat.le_of_ble_eq_true rfl)
  · skip
    refine lv_iload_n hx hb dX0_needRow_4 rfl (lv_at hl 0 rfl) ?_
    refine lv_bipush (v := 8) hx hb dX0_needRow_5 (by decide) ?_
    refine lv_icmp_lt (tgt := 20) hx hb dX0_needRow_7 (by decide) (fun c_2 => ?_) (fun c_2 => ?_)
    · exact absurd (show tv_in 8 x = true from by simp only [tv_in, Bool.and_eq_true, Bool.not_eq_true', decide_eq_false_iff_not, decide_eq_true_eq]; exact ⟨c_1, c_2⟩) (by rw [g]; decide)
    · skip
      exact tv_thr (cls := "java/lang/IndexOutOfBoundsException") (text := "no such row") (ik := 107) (is := 109) (ic := 111) hx hb hT hts hown (by decide +kernel) (by decide +kernel) (by decide +kernel) (by decide +kernel) tv_io_g tv_io_o (by decide +kernel) hE hS (hl.1.trans hml.symm) dX0_needRow_10 dX0_needRow_13 dX0_needRow_14 dX0_needRow_16 dX0_needRow_19 htab (Nat.le_of_ble_eq_true rfl) (Nat.le_of_ble_eq_true rfl) (Nat.le_of_ble_eq_true rfl) (Nat.le_of_ble_eq_true rfl) hlocks (fun t ht hz hk => ⟨(), trivial, rfl, hz, fun q hq _ => hk q hq⟩) (fun z h => nomatch h) (Nat.le_of_ble_eq_true rfl) (Nat.le_of_ble_eq_true rfl)
set_option maxHeartbeats 4000000 in
set_option maxRecDepth 100000 in
theorem n_X0_needPlace (l : Launch) (x : Int32) (g : tv_in 12 x = true) : Met l yX0_needPlace wsX0_needPlace ({ frames := 0, cells := 0, slots := 0, locals := 0 } : Room) (fun v _ => v = ([.int x] : List Value).toArray) tv_Void 0 0 (fun _ => False) := by
  refine Met.ofW (cc := cX0_needPlace) (maxL := 1) (ret := none) (by decide) rfl ?_
  intro p e s m args below meth c s₁ B hml hv
  subst hv
  have hx := B.exec
  have hb := B.bytes
  have hr := B.returns
  have hts := atoms_spec (ws := wsX0_needPlace) B.pre
  have hown : s.vm.findClass RX0 = some m.cls := findClass_of_methodNamed B.named
  have hlocks := B.notSynchronized
  have hl := lv_entry ([.int x]) (n := 1) (Nat.le_of_ble_eq_true rfl)
  rw [lg_entry_eq]
  generalize (lg_sl ([.int x]) ++ List.replicate (1 - (lg_sl ([.int x])).length) Slot.unset).toArray = ls at hl ⊢
  have hl : lv_has ls 1 [(0, .int x)] := hl
  simp only [tv_in, Bool.and_eq_true, Bool.not_eq_true', decide_eq_false_iff_not, decide_eq_true_eq] at g
  refine lv_iload_n hx hb dX0_needPlace_0 rfl (lv_at hl 0 rfl) ?_
  refine lv_if_lt (tgt := 10) hx hb dX0_needPlace_1 (by decide) (fun c_1 => ?_) (fun c_1 => ?_)
  · exact absurd c_1 g.1
  · skip
    refine lv_iload_n hx hb dX0_needPlace_4 rfl (lv_at hl 0 rfl) ?_
    refine lv_bipush (v := 12) hx hb dX0_needPlace_5 (by decide) ?_
    refine lv_icmp_lt (tgt := 20) hx hb dX0_needPlace_7 (by decide) (fun c_2 => ?_) (fun c_2 => ?_)
    · skip
      exact W.vret hx hb hr (fun t ht hW => ⟨rfl, ht⟩) (fun q h => nomatch h) dX0_needPlace_20
    · exact absurd g.2 c_2
set_option maxHeartbeats 4000000 in
set_option maxRecDepth 100000 in
theorem t_X0_needPlace (l : Launch) (hT : l.stackTraces = false) (x : Int32) (g : tv_in 12 x = false) : vx_Met l yX0_needPlace wsX0_needPlace tv_rmT (tv_PT [.int x]) (fun _ _ _ _ => False) (tv_XT "java/lang/IndexOutOfBoundsException") 1 6 (fun _ => False) := by
  refine vx_ofW (cc := cX0_needPlace) (maxL := 1) (ret := none) (by decide) rfl ?_
  intro p e s m args below meth c s₁ B hml htab hv
  obtain ⟨rfl, hE⟩ := hv
  have hx := B.exec
  have hb := B.bytes
  have hr := B.returns
  have hts := atoms_spec (ws := wsX0_needPlace) B.pre
  have hown : s.vm.findClass RX0 = some m.cls := findClass_of_methodNamed B.named
  have hlocks := B.notSynchronized
  have hS : va_S (fun _ : Nat => False) s.heap s.heap [] := va_S.rf
  have hl := lv_entry ([.int x]) (n := 1) (Nat.le_of_ble_eq_true rfl)
  rw [lg_entry_eq]
  generalize (lg_sl ([.int x]) ++ List.replicate (1 - (lg_sl ([.int x])).length) Slot.unset).toArray = ls at hl ⊢
  have hl : lv_has ls 1 [(0, .int x)] := hl
  refine lv_iload_n hx hb dX0_needPlace_0 rfl (lv_at hl 0 rfl) ?_
  refine lv_if_lt (tgt := 10) hx hb dX0_needPlace_1 (by decide) (fun c_1 => ?_) (fun c_1 => ?_)
  · skip
    exact tv_thr (cls := "java/lang/IndexOutOfBoundsException") (text := "no such place") (ik := 107) (is := 112) (ic := 111) hx hb hT hts hown (by decide +kernel) (by decide +kernel) (by decide +kernel) (by decide +kernel) tv_io_g tv_io_o (by decide +kernel) hE hS (hl.1.trans hml.symm) dX0_needPlace_10 dX0_needPlace_13 dX0_needPlace_14 dX0_needPlace_16 dX0_needPlace_19 htab (Nat.le_of_ble_eq_true rfl) (Nat.le_of_ble_eq_true rfl) (Nat.le_of_ble_eq_true rfl) (Nat.le_of_ble_eq_true rfl) hlocks (fun t ht hz hk => ⟨(), trivial, rfl, hz, fun q hq _ => hk q hq⟩) (fun z h => nomatch h) (Nat.le_of_ble_eq_true rfl) (Nat.le_of_ble_eq_true rfl)
  · skip
    refine lv_iload_n hx hb dX0_needPlace_4 rfl (lv_at hl 0 rfl) ?_
    refine lv_bipush (v := 12) hx hb dX0_needPlace_5 (by decide) ?_
    refine lv_icmp_lt (tgt := 20) hx hb dX0_needPlace_7 (by decide) (fun c_2 => ?_) (fun c_2 => ?_)
    · exact absurd (show tv_in 12 x = true from by simp only [tv_in, Bool.and_eq_true, Bool.not_eq_true', decide_eq_false_iff_not, decide_eq_true_eq]; exact ⟨c_1, c_2⟩) (by rw [g]; decide)
    · skip
      exact tv_thr (cls := "java/lang/IndexOutOfBoundsException") (text := "no such place") (ik := 107) (is := 112) (ic := 111) hx hb hT hts hown (by decide +kernel) (by decide +kernel) (by decide +kernel) (by decide +kernel) tv_io_g tv_io_o (by decide +kernel) hE hS (hl.1.trans hml.symm) dX0_needPlace_10 dX0_needPlace_13 dX0_needPlace_14 dX0_needPlace_16 dX0_needPlace_19 htab (Nat.le_of_ble_eq_true rfl) (Nat.le_of_ble_eq_true rfl) (Nat.le_of_ble_eq_true rfl) (Nat.le_of_ble_eq_true rfl) hlocks (fun t ht hz hk => ⟨(), trivial, rfl, hz, fun q hq _ => hk q hq⟩) (fun z h => nomatch h) (Nat.le_of_ble_eq_true rfl) (Nat.le_of_ble_eq_true rfl)
set_option maxHeartbeats 4000000 in
set_option maxRecDepth 100000 in
theorem n_X0_needGate (l : Launch) (x : Int32) (g : tv_in 4 x = true) : Met l yX0_needGate wsX0_needGate ({ frames := 0, cells := 0, slots := 0, locals := 0 } : Room) (fun v _ => v = ([.int x] : List Value).toArray) tv_Void 0 0 (fun _ => False) := by
  refine Met.ofW (cc := cX0_needGate) (maxL := 1) (ret := none) (by decide) rfl ?_
  intro p e s m args below meth c s₁ B hml hv
  subst hv
  have hx := B.exec
  have hb := B.bytes
  have hr := B.returns
  have hts := atoms_spec (ws := wsX0_needGate) B.pre
  have hown : s.vm.findClass RX0 = some m.cls := findClass_of_methodNamed B.named
  have hlocks := B.notSynchronized
  have hl := lv_entry ([.int x]) (n := 1) (Nat.le_of_ble_eq_true rfl)
  rw [lg_entry_eq]
  generalize (lg_sl ([.int x]) ++ List.replicate (1 - (lg_sl ([.int x])).length) Slot.unset).toArray = ls at hl ⊢
  have hl : lv_has ls 1 [(0, .int x)] := hl
  simp only [tv_in, Bool.and_eq_true, Bool.not_eq_true', decide_eq_false_iff_not, decide_eq_true_eq] at g
  refine lv_iload_n hx hb dX0_needGate_0 rfl (lv_at hl 0 rfl) ?_
  refine lv_if_lt (tgt := 9) hx hb dX0_needGate_1 (by decide) (fun c_1 => ?_) (fun c_1 => ?_)
  · exact absurd c_1 g.1
  · skip
    refine lv_iload_n hx hb dX0_needGate_4 rfl (lv_at hl 0 rfl) ?_
    refine lv_iconst (v := 4) hx hb dX0_needGate_5 (by decide) ?_
    refine lv_icmp_lt (tgt := 19) hx hb dX0_needGate_6 (by decide) (fun c_2 => ?_) (fun c_2 => ?_)
    · skip
      exact W.vret hx hb hr (fun t ht hW => ⟨rfl, ht⟩) (fun q h => nomatch h) dX0_needGate_19
    · exact absurd g.2 c_2
set_option maxHeartbeats 4000000 in
set_option maxRecDepth 100000 in
theorem t_X0_needGate (l : Launch) (hT : l.stackTraces = false) (x : Int32) (g : tv_in 4 x = false) : vx_Met l yX0_needGate wsX0_needGate tv_rmT (tv_PT [.int x]) (fun _ _ _ _ => False) (tv_XT "java/lang/IndexOutOfBoundsException") 1 6 (fun _ => False) := by
  refine vx_ofW (cc := cX0_needGate) (maxL := 1) (ret := none) (by decide) rfl ?_
  intro p e s m args below meth c s₁ B hml htab hv
  obtain ⟨rfl, hE⟩ := hv
  have hx := B.exec
  have hb := B.bytes
  have hr := B.returns
  have hts := atoms_spec (ws := wsX0_needGate) B.pre
  have hown : s.vm.findClass RX0 = some m.cls := findClass_of_methodNamed B.named
  have hlocks := B.notSynchronized
  have hS : va_S (fun _ : Nat => False) s.heap s.heap [] := va_S.rf
  have hl := lv_entry ([.int x]) (n := 1) (Nat.le_of_ble_eq_true rfl)
  rw [lg_entry_eq]
  generalize (lg_sl ([.int x]) ++ List.replicate (1 - (lg_sl ([.int x])).length) Slot.unset).toArray = ls at hl ⊢
  have hl : lv_has ls 1 [(0, .int x)] := hl
  refine lv_iload_n hx hb dX0_needGate_0 rfl (lv_at hl 0 rfl) ?_
  refine lv_if_lt (tgt := 9) hx hb dX0_needGate_1 (by decide) (fun c_1 => ?_) (fun c_1 => ?_)
  · skip
    exact tv_thr (cls := "java/lang/IndexOutOfBoundsException") (text := "no such gate") (ik := 107) (is := 114) (ic := 111) hx hb hT hts hown (by decide +kernel) (by decide +kernel) (by decide +kernel) (by decide +kernel) tv_io_g tv_io_o (by decide +kernel) hE hS (hl.1.trans hml.symm) dX0_needGate_9 dX0_needGate_12 dX0_needGate_13 dX0_needGate_15 dX0_needGate_18 htab (Nat.le_of_ble_eq_true rfl) (Nat.le_of_ble_eq_true rfl) (Nat.le_of_ble_eq_true rfl) (Nat.le_of_ble_eq_true rfl) hlocks (fun t ht hz hk => ⟨(), trivial, rfl, hz, fun q hq _ => hk q hq⟩) (fun z h => nomatch h) (Nat.le_of_ble_eq_true rfl) (Nat.le_of_ble_eq_true rfl)
  · skip
    refine lv_iload_n hx hb dX0_needGate_4 rfl (lv_at hl 0 rfl) ?_
    refine lv_iconst (v := 4) hx hb dX0_needGate_5 (by decide) ?_
    refine lv_icmp_lt (tgt := 19) hx hb dX0_needGate_6 (by decide) (fun c_2 => ?_) (fun c_2 => ?_)
    · exact absurd (show tv_in 4 x = true from by simp only [tv_in, Bool.and_eq_true, Bool.not_eq_true', decide_eq_false_iff_not, decide_eq_true_eq]; exact ⟨c_1, c_2⟩) (by rw [g]; decide)
    · skip
      exact tv_thr (cls := "java/lang/IndexOutOfBoundsException") (text := "no such gate") (ik := 107) (is := 114) (ic := 111) hx hb hT hts hown (by decide +kernel) (by decide +kernel) (by decide +kernel) (by decide +kernel) tv_io_g tv_io_o (by decide +kernel) hE hS (hl.1.trans hml.symm) dX0_needGate_9 dX0_needGate_12 dX0_needGate_13 dX0_needGate_15 dX0_needGate_18 htab (Nat.le_of_ble_eq_true rfl) (Nat.le_of_ble_eq_true rfl) (Nat.le_of_ble_eq_true rfl) (Nat.le_of_ble_eq_true rfl) hlocks (fun t ht hz hk => ⟨(), trivial, rfl, hz, fun q hq _ => hk q hq⟩) (fun z h => nomatch h) (Nat.le_of_ble_eq_true rfl) (Nat.le_of_ble_eq_true rfl)
set_option maxHeartbeats 4000000 in
set_option maxRecDepth 100000 in
theorem n_X0_needSign (l : Launch) (x : Int32) (g : tv_sg x = true) : Met l yX0_needSign wsX0_needSign ({ frames := 0, cells := 0, slots := 0, locals := 0 } : Room) (fun v _ => v = ([.int x] : List Value).toArray) tv_Void 0 0 (fun _ => False) := by
  refine Met.ofW (cc := cX0_needSign) (maxL := 1) (ret := none) (by decide) rfl ?_
  intro p e s m args below meth c s₁ B hml hv
  subst hv
  have hx := B.exec
  have hb := B.bytes
  have hr := B.returns
  have hts := atoms_spec (ws := wsX0_needSign) B.pre
  have hown : s.vm.findClass RX0 = some m.cls := findClass_of_methodNamed B.named
  have hlocks := B.notSynchronized
  have hl := lv_entry ([.int x]) (n := 1) (Nat.le_of_ble_eq_true rfl)
  rw [lg_entry_eq]
  generalize (lg_sl ([.int x]) ++ List.replicate (1 - (lg_sl ([.int x])).length) Slot.unset).toArray = ls at hl ⊢
  have hl : lv_has ls 1 [(0, .int x)] := hl
  simp only [tv_sg, Bool.and_eq_true, Bool.not_eq_true', decide_eq_false_iff_not, decide_eq_true_eq] at g
  refine lv_iload_n hx hb dX0_needSign_0 rfl (lv_at hl 0 rfl) ?_
  refine lv_if_lt (tgt := 9) hx hb dX0_needSign_1 (by decide) (fun c_1 => ?_) (fun c_1 => ?_)
  · exact absurd c_1 g.1
  · skip
    refine lv_iload_n hx hb dX0_needSign_4 rfl (lv_at hl 0 rfl) ?_
    refine lv_iconst (v := 5) hx hb dX0_needSign_5 (by decide) ?_
    refine lv_icmp_le (tgt := 19) hx hb dX0_needSign_6 (by decide) (fun c_2 => ?_) (fun c_2 => ?_)
    · skip
      exact W.vret hx hb hr (fun t ht hW => ⟨rfl, ht⟩) (fun q h => nomatch h) dX0_needSign_19
    · exact absurd g.2 c_2
set_option maxHeartbeats 4000000 in
set_option maxRecDepth 100000 in
theorem t_X0_needSign (l : Launch) (hT : l.stackTraces = false) (x : Int32) (g : tv_sg x = false) : vx_Met l yX0_needSign wsX0_needSign tv_rmT (tv_PT [.int x]) (fun _ _ _ _ => False) (tv_XT "java/lang/IllegalArgumentException") 1 6 (fun _ => False) := by
  refine vx_ofW (cc := cX0_needSign) (maxL := 1) (ret := none) (by decide) rfl ?_
  intro p e s m args below meth c s₁ B hml htab hv
  obtain ⟨rfl, hE⟩ := hv
  have hx := B.exec
  have hb := B.bytes
  have hr := B.returns
  have hts := atoms_spec (ws := wsX0_needSign) B.pre
  have hown : s.vm.findClass RX0 = some m.cls := findClass_of_methodNamed B.named
  have hlocks := B.notSynchronized
  have hS : va_S (fun _ : Nat => False) s.heap s.heap [] := va_S.rf
  have hl := lv_entry ([.int x]) (n := 1) (Nat.le_of_ble_eq_true rfl)
  rw [lg_entry_eq]
  generalize (lg_sl ([.int x]) ++ List.replicate (1 - (lg_sl ([.int x])).length) Slot.unset).toArray = ls at hl ⊢
  have hl : lv_has ls 1 [(0, .int x)] := hl
  refine lv_iload_n hx hb dX0_needSign_0 rfl (lv_at hl 0 rfl) ?_
  refine lv_if_lt (tgt := 9) hx hb dX0_needSign_1 (by decide) (fun c_1 => ?_) (fun c_1 => ?_)
  · skip
    exact tv_thr (cls := "java/lang/IllegalArgumentException") (text := "no such sign") (ik := 116) (is := 118) (ic := 120) hx hb hT hts hown (by decide +kernel) (by decide +kernel) (by decide +kernel) (by decide +kernel) tv_ia_g tv_ia_o (by decide +kernel) hE hS (hl.1.trans hml.symm) dX0_needSign_9 dX0_needSign_12 dX0_needSign_13 dX0_needSign_15 dX0_needSign_18 htab (Nat.le_of_ble_eq_true rfl) (Nat.le_of_ble_eq_true rfl) (Nat.le_of_ble_eq_true rfl) (Nat.le_of_ble_eq_true rfl) hlocks (fun t ht hz hk => ⟨(), trivial, rfl, hz, fun q hq _ => hk q hq⟩) (fun z h => nomatch h) (Nat.le_of_ble_eq_true rfl) (Nat.le_of_ble_eq_true rfl)
  · skip
    refine lv_iload_n hx hb dX0_needSign_4 rfl (lv_at hl 0 rfl) ?_
    refine lv_iconst (v := 5) hx hb dX0_needSign_5 (by decide) ?_
    refine lv_icmp_le (tgt := 19) hx hb dX0_needSign_6 (by decide) (fun c_2 => ?_) (fun c_2 => ?_)
    · exact absurd (show tv_sg x = true from by simp only [tv_sg, Bool.and_eq_true, Bool.not_eq_true', decide_eq_false_iff_not, decide_eq_true_eq]; exact ⟨c_1, c_2⟩) (by rw [g]; decide)
    · skip
      exact tv_thr (cls := "java/lang/IllegalArgumentException") (text := "no such sign") (ik := 116) (is := 118) (ic := 120) hx hb hT hts hown (by decide +kernel) (by decide +kernel) (by decide +kernel) (by decide +kernel) tv_ia_g tv_ia_o (by decide +kernel) hE hS (hl.1.trans hml.symm) dX0_needSign_9 dX0_needSign_12 dX0_needSign_13 dX0_needSign_15 dX0_needSign_18 htab (Nat.le_of_ble_eq_true rfl) (Nat.le_of_ble_eq_true rfl) (Nat.le_of_ble_eq_true rfl) (Nat.le_of_ble_eq_true rfl) hlocks (fun t ht hz hk => ⟨(), trivial, rfl, hz, fun q hq _ => hk q hq⟩) (fun z h => nomatch h) (Nat.le_of_ble_eq_true rfl) (Nat.le_of_ble_eq_true rfl)
set_option maxHeartbeats 4000000 in
set_option maxRecDepth 100000 in
theorem n_X0_needNumber (l : Launch) (x : Int32) (g : tv_num x = true) : Met l yX0_needNumber wsX0_needNumber ({ frames := 0, cells := 0, slots := 0, locals := 0 } : Room) (fun v _ => v = ([.int x] : List Value).toArray) tv_Void 0 0 (fun _ => False) := by
  refine Met.ofW (cc := cX0_needNumber) (maxL := 1) (ret := none) (by decide) rfl ?_
  intro p e s m args below meth c s₁ B hml hv
  subst hv
  have hx := B.exec
  have hb := B.bytes
  have hr := B.returns
  have hts := atoms_spec (ws := wsX0_needNumber) B.pre
  have hown : s.vm.findClass RX0 = some m.cls := findClass_of_methodNamed B.named
  have hlocks := B.notSynchronized
  have hl := lv_entry ([.int x]) (n := 1) (Nat.le_of_ble_eq_true rfl)
  rw [lg_entry_eq]
  generalize (lg_sl ([.int x]) ++ List.replicate (1 - (lg_sl ([.int x])).length) Slot.unset).toArray = ls at hl ⊢
  have hl : lv_has ls 1 [(0, .int x)] := hl
  simp only [tv_num, Bool.or_eq_true, Bool.and_eq_true, Bool.not_eq_true', decide_eq_false_iff_not, decide_eq_true_eq] at g
  refine lv_iload_n hx hb dX0_needNumber_0 rfl (lv_at hl 0 rfl) ?_
  refine lv_ldc (v := -2147483648) hx hb hown (hts (.constant RX0 23 (-2147483648)) (by decide +kernel)) dX0_needNumber_1 ?_
  refine lv_icmp_eq (tgt := 28) hx hb dX0_needNumber_3 (by decide) (fun c_1 => ?_) (fun c_1 => ?_)
  · skip
    exact W.vret hx hb hr (fun t ht hW => ⟨rfl, ht⟩) (fun q h => nomatch h) dX0_needNumber_28
  · obtain ⟨g1, g2⟩ := g.resolve_left c_1
    refine lv_iload_n hx hb dX0_needNumber_6 rfl (lv_at hl 0 rfl) ?_
    refine lv_ldc (v := -8000000) hx hb hown (hts (.constant RX0 121 (-8000000)) (by decide +kernel)) dX0_needNumber_7 ?_
    refine lv_icmp_lt (tgt := 18) hx hb dX0_needNumber_9 (by decide) (fun c_2 => ?_) (fun c_2 => ?_)
    · exact absurd c_2 g1
    · skip
      refine lv_iload_n hx hb dX0_needNumber_12 rfl (lv_at hl 0 rfl) ?_
      refine lv_ldc (v := 8000000) hx hb hown (hts (.constant RX0 122 (8000000)) (by decide +kernel)) dX0_needNumber_13 ?_
      refine lv_icmp_le (tgt := 28) hx hb dX0_needNumber_15 (by decide) (fun c_3 => ?_) (fun c_3 => ?_)
      · skip
        exact W.vret hx hb hr (fun t ht hW => ⟨rfl, ht⟩) (fun q h => nomatch h) dX0_needNumber_28
      · exact absurd g2 c_3
set_option maxHeartbeats 4000000 in
set_option maxRecDepth 100000 in
theorem t_X0_needNumber (l : Launch) (hT : l.stackTraces = false) (x : Int32) (g : tv_num x = false) : vx_Met l yX0_needNumber wsX0_needNumber tv_rmT (tv_PT [.int x]) (fun _ _ _ _ => False) (tv_XT "java/lang/IllegalArgumentException") 1 6 (fun _ => False) := by
  refine vx_ofW (cc := cX0_needNumber) (maxL := 1) (ret := none) (by decide) rfl ?_
  intro p e s m args below meth c s₁ B hml htab hv
  obtain ⟨rfl, hE⟩ := hv
  have hx := B.exec
  have hb := B.bytes
  have hr := B.returns
  have hts := atoms_spec (ws := wsX0_needNumber) B.pre
  have hown : s.vm.findClass RX0 = some m.cls := findClass_of_methodNamed B.named
  have hlocks := B.notSynchronized
  have hS : va_S (fun _ : Nat => False) s.heap s.heap [] := va_S.rf
  have hl := lv_entry ([.int x]) (n := 1) (Nat.le_of_ble_eq_true rfl)
  rw [lg_entry_eq]
  generalize (lg_sl ([.int x]) ++ List.replicate (1 - (lg_sl ([.int x])).length) Slot.unset).toArray = ls at hl ⊢
  have hl : lv_has ls 1 [(0, .int x)] := hl
  refine lv_iload_n hx hb dX0_needNumber_0 rfl (lv_at hl 0 rfl) ?_
  refine lv_ldc (v := -2147483648) hx hb hown (hts (.constant RX0 23 (-2147483648)) (by decide +kernel)) dX0_needNumber_1 ?_
  refine lv_icmp_eq (tgt := 28) hx hb dX0_needNumber_3 (by decide) (fun c_1 => ?_) (fun c_1 => ?_)
  · exact absurd (show tv_num x = true from by simp only [tv_num, Bool.or_eq_true, Bool.and_eq_true, Bool.not_eq_true', decide_eq_false_iff_not, decide_eq_true_eq]; exact Or.inl c_1) (by rw [g]; decide)
  · skip
    refine lv_iload_n hx hb dX0_needNumber_6 rfl (lv_at hl 0 rfl) ?_
    refine lv_ldc (v := -8000000) hx hb hown (hts (.constant RX0 121 (-8000000)) (by decide +kernel)) dX0_needNumber_7 ?_
    refine lv_icmp_lt (tgt := 18) hx hb dX0_needNumber_9 (by decide) (fun c_2 => ?_) (fun c_2 => ?_)
    · skip
      exact tv_thr (cls := "java/lang/IllegalArgumentException") (text := "the number is beyond") (ik := 116) (is := 123) (ic := 120) hx hb hT hts hown (by decide +kernel) (by decide +kernel) (by decide +kernel) (by decide +kernel) tv_ia_g tv_ia_o (by decide +kernel) hE hS (hl.1.trans hml.symm) dX0_needNumber_18 dX0_needNumber_21 dX0_needNumber_22 dX0_needNumber_24 dX0_needNumber_27 htab (Nat.le_of_ble_eq_true rfl) (Nat.le_of_ble_eq_true rfl) (Nat.le_of_ble_eq_true rfl) (Nat.le_of_ble_eq_true rfl) hlocks (fun t ht hz hk => ⟨(), trivial, rfl, hz, fun q hq _ => hk q hq⟩) (fun z h => nomatch h) (Nat.le_of_ble_eq_true rfl) (Nat.le_of_ble_eq_true rfl)
    · skip
      refine lv_iload_n hx hb dX0_needNumber_12 rfl (lv_at hl 0 rfl) ?_
      refine lv_ldc (v := 8000000) hx hb hown (hts (.constant RX0 122 (8000000)) (by decide +kernel)) dX0_needNumber_13 ?_
      refine lv_icmp_le (tgt := 28) hx hb dX0_needNumber_15 (by decide) (fun c_3 => ?_) (fun c_3 => ?_)
      · exact absurd (show tv_num x = true from by simp only [tv_num, Bool.or_eq_true, Bool.and_eq_true, Bool.not_eq_true', decide_eq_false_iff_not, decide_eq_true_eq]; exact Or.inr ⟨c_2, c_3⟩) (by rw [g]; decide)
      · skip
        exact tv_thr (cls := "java/lang/IllegalArgumentException") (text := "the number is beyond") (ik := 116) (is := 123) (ic := 120) hx hb hT hts hown (by decide +kernel) (by decide +kernel) (by decide +kernel) (by decide +kernel) tv_ia_g tv_ia_o (by decide +kernel) hE hS (hl.1.trans hml.symm) dX0_needNumber_18 dX0_needNumber_21 dX0_needNumber_22 dX0_needNumber_24 dX0_needNumber_27 htab (Nat.le_of_ble_eq_true rfl) (Nat.le_of_ble_eq_true rfl) (Nat.le_of_ble_eq_true rfl) (Nat.le_of_ble_eq_true rfl) hlocks (fun t ht hz hk => ⟨(), trivial, rfl, hz, fun q hq _ => hk q hq⟩) (fun z h => nomatch h) (Nat.le_of_ble_eq_true rfl) (Nat.le_of_ble_eq_true rfl)
theorem tv_div4 {r : Nat} (h : r < 8) : nI r / 4 = nI (r / 4) := by rw [show (4 : Int32) = nI 4 from rfl]; exact pk_div (by omega) (by omega) (by omega)
theorem tv_os_nI {r o : Nat} (hr : r < 8) (ho : o < 8) : tv_os (nI r) (nI o) = decide ((if r < 4 then (0 : Int32) else 1) = (if o < 4 then 0 else 1)) := by
  unfold tv_os
  rw [tv_div4 hr, tv_div4 ho]
  by_cases h1 : r < 4 <;> by_cases h2 : o < 4
  · rw [if_pos h1, if_pos h2, Nat.div_eq_of_lt h1, Nat.div_eq_of_lt h2]; rfl
  · rw [if_pos h1, if_neg h2, Nat.div_eq_of_lt h1, show o / 4 = 1 by omega]; rfl
  · rw [if_neg h1, if_pos h2, Nat.div_eq_of_lt h2, show r / 4 = 1 by omega]; rfl
  · rw [if_neg h1, if_neg h2, show r / 4 = 1 by omega, show o / 4 = 1 by omega]; rfl
set_option maxHeartbeats 4000000 in
set_option maxRecDepth 100000 in
theorem n_X0_needOneSort (l : Launch) (r o : Nat) (g : tv_os (nI r) (nI o) = true) (hr8 : r < 8) (ho8 : o < 8) : Met l yX0_needOneSort wsX0_needOneSort ({ frames := 1, cells := 0, slots := 0, locals := 20 } : Room) (fun v _ => v = ([.int (nI r), .int (nI o)] : List Value).toArray) tv_Void 0 0 (fun _ => False) := by
  refine Met.ofW (cc := cX0_needOneSort) (maxL := 2) (ret := none) (by decide) rfl ?_
  intro p e s m args below meth c s₁ B hml hv
  subst hv
  have hx := B.exec
  have hb := B.bytes
  have hr := B.returns
  have hts := atoms_spec (ws := wsX0_needOneSort) B.pre
  have hown : s.vm.findClass RX0 = some m.cls := findClass_of_methodNamed B.named
  have hlocks := B.notSynchronized
  have hl := lv_entry ([.int (nI r), .int (nI o)]) (n := 2) (Nat.le_of_ble_eq_true rfl)
  rw [lg_entry_eq]
  generalize (lg_sl ([.int (nI r), .int (nI o)]) ++ List.replicate (2 - (lg_sl ([.int (nI r), .int (nI o)])).length) Slot.unset).toArray = ls at hl ⊢
  have hl : lv_has ls 2 [(0, .int (nI r)), (1, .int (nI o))] := hl
  rw [tv_os_nI hr8 ho8] at g
  simp only [decide_eq_true_eq] at g
  refine lv_iload_n hx hb dX0_needOneSort_0 rfl (lv_at hl 0 rfl) ?_
  refine tv_callR (W.runS (As := [.int (nI r)]) (rest := []) ⟨hx, hb, hml, hown, hts⟩ (c_X0_isRough l r hr8) (va_cwS 1 hts gX0_needOneSort_X0_isRough rfl rfl rfl (by decide +kernel) ⟨Nat.le_of_ble_eq_true rfl, Nat.le_of_ble_eq_true rfl⟩) preEq rfl rfl hl.1 rfl (lv_room (Nat.le_of_ble_eq_true rfl)) dX0_needOneSort_1 ⟨Nat.le_of_ble_eq_true rfl, Nat.le_of_ble_eq_true rfl⟩) ?_
  refine lv_iload_n hx hb dX0_needOneSort_4 rfl (lv_at hl 1 rfl) ?_
  refine tv_callR (W.runS (As := [.int (nI o)]) (rest := [.int (if r < 4 then 0 else 1)]) ⟨hx, hb, hml, hown, hts⟩ (c_X0_isRough l o ho8) (va_cwS 1 hts gX0_needOneSort_X0_isRough rfl rfl rfl (by decide +kernel) ⟨Nat.le_of_ble_eq_true rfl, Nat.le_of_ble_eq_true rfl⟩) preEq rfl rfl hl.1 rfl (lv_room (Nat.le_of_ble_eq_true rfl)) dX0_needOneSort_5 ⟨Nat.le_of_ble_eq_true rfl, Nat.le_of_ble_eq_true rfl⟩) ?_
  refine lv_icmp_eq (tgt := 21) hx hb dX0_needOneSort_8 (by decide) (fun c_1 => ?_) (fun c_1 => ?_)
  · skip
    exact W.vret hx hb hr (fun t ht hW => ⟨rfl, ht⟩) (fun q h => nomatch h) dX0_needOneSort_21
  · exact absurd g c_1
set_option maxHeartbeats 4000000 in
set_option maxRecDepth 100000 in
theorem t_X0_needOneSort (l : Launch) (hT : l.stackTraces = false) (r o : Nat) (g : tv_os (nI r) (nI o) = false) (hr8 : r < 8) (ho8 : o < 8) : vx_Met l yX0_needOneSort wsX0_needOneSort tv_rmT (tv_PT [.int (nI r), .int (nI o)]) (fun _ _ _ _ => False) (tv_XT "java/lang/IllegalArgumentException") 1 6 (fun _ => False) := by
  refine vx_ofW (cc := cX0_needOneSort) (maxL := 2) (ret := none) (by decide) rfl ?_
  intro p e s m args below meth c s₁ B hml htab hv
  obtain ⟨rfl, hE⟩ := hv
  have hx := B.exec
  have hb := B.bytes
  have hr := B.returns
  have hts := atoms_spec (ws := wsX0_needOneSort) B.pre
  have hown : s.vm.findClass RX0 = some m.cls := findClass_of_methodNamed B.named
  have hlocks := B.notSynchronized
  have hS : va_S (fun _ : Nat => False) s.heap s.heap [] := va_S.rf
  have hl := lv_entry ([.int (nI r), .int (nI o)]) (n := 2) (Nat.le_of_ble_eq_true rfl)
  rw [lg_entry_eq]
  generalize (lg_sl ([.int (nI r), .int (nI o)]) ++ List.replicate (2 - (lg_sl ([.int (nI r), .int (nI o)])).length) Slot.unset).toArray = ls at hl ⊢
  have hl : lv_has ls 2 [(0, .int (nI r)), (1, .int (nI o))] := hl
  rw [tv_os_nI hr8 ho8] at g
  simp only [decide_eq_false_iff_not] at g
  refine lv_iload_n hx hb dX0_needOneSort_0 rfl (lv_at hl 0 rfl) ?_
  refine tv_callR (W.runS (As := [.int (nI r)]) (rest := []) ⟨hx, hb, hml, hown, hts⟩ (c_X0_isRough l r hr8) (va_cwS 1 hts gX0_needOneSort_X0_isRough rfl rfl rfl (by decide +kernel) ⟨Nat.le_of_ble_eq_true rfl, Nat.le_of_ble_eq_true rfl⟩) preEq rfl rfl hl.1 rfl (lv_room (Nat.le_of_ble_eq_true rfl)) dX0_needOneSort_1 ⟨Nat.le_of_ble_eq_true rfl, Nat.le_of_ble_eq_true rfl⟩) ?_
  refine lv_iload_n hx hb dX0_needOneSort_4 rfl (lv_at hl 1 rfl) ?_
  refine tv_callR (W.runS (As := [.int (nI o)]) (rest := [.int (if r < 4 then 0 else 1)]) ⟨hx, hb, hml, hown, hts⟩ (c_X0_isRough l o ho8) (va_cwS 1 hts gX0_needOneSort_X0_isRough rfl rfl rfl (by decide +kernel) ⟨Nat.le_of_ble_eq_true rfl, Nat.le_of_ble_eq_true rfl⟩) preEq rfl rfl hl.1 rfl (lv_room (Nat.le_of_ble_eq_true rfl)) dX0_needOneSort_5 ⟨Nat.le_of_ble_eq_true rfl, Nat.le_of_ble_eq_true rfl⟩) ?_
  refine lv_icmp_eq (tgt := 21) hx hb dX0_needOneSort_8 (by decide) (fun c_1 => ?_) (fun c_1 => ?_)
  · exact absurd c_1 g
  · skip
    exact tv_thr (cls := "java/lang/IllegalArgumentException") (text := "the rows are not of one sort") (ik := 116) (is := 125) (ic := 120) hx hb hT hts hown (by decide +kernel) (by decide +kernel) (by decide +kernel) (by decide +kernel) tv_ia_g tv_ia_o (by decide +kernel) hE hS (hl.1.trans hml.symm) dX0_needOneSort_11 dX0_needOneSort_14 dX0_needOneSort_15 dX0_needOneSort_17 dX0_needOneSort_20 htab (Nat.le_of_ble_eq_true rfl) (Nat.le_of_ble_eq_true rfl) (Nat.le_of_ble_eq_true rfl) (Nat.le_of_ble_eq_true rfl) hlocks (fun t ht hz hk => ⟨(), trivial, rfl, hz, fun q hq _ => hk q hq⟩) (fun z h => nomatch h) (Nat.le_of_ble_eq_true rfl) (Nat.le_of_ble_eq_true rfl)
set_option maxHeartbeats 4000000 in
set_option maxRecDepth 100000 in
theorem n_X0_needApart (l : Launch) (x y : Int32) (g : (!(decide (x = y))) = true) : Met l yX0_needApart wsX0_needApart ({ frames := 0, cells := 0, slots := 0, locals := 0 } : Room) (fun v _ => v = ([.int x, .int y] : List Value).toArray) tv_Void 0 0 (fun _ => False) := by
  refine Met.ofW (cc := cX0_needApart) (maxL := 2) (ret := none) (by decide) rfl ?_
  intro p e s m args below meth c s₁ B hml hv
  subst hv
  have hx := B.exec
  have hb := B.bytes
  have hr := B.returns
  have hts := atoms_spec (ws := wsX0_needApart) B.pre
  have hown : s.vm.findClass RX0 = some m.cls := findClass_of_methodNamed B.named
  have hlocks := B.notSynchronized
  have hl := lv_entry ([.int x, .int y]) (n := 2) (Nat.le_of_ble_eq_true rfl)
  rw [lg_entry_eq]
  generalize (lg_sl ([.int x, .int y]) ++ List.replicate (2 - (lg_sl ([.int x, .int y])).length) Slot.unset).toArray = ls at hl ⊢
  have hl : lv_has ls 2 [(0, .int x), (1, .int y)] := hl
  simp only [Bool.not_eq_true', decide_eq_false_iff_not] at g
  refine lv_iload_n hx hb dX0_needApart_0 rfl (lv_at hl 0 rfl) ?_
  refine lv_iload_n hx hb dX0_needApart_1 rfl (lv_at hl 1 rfl) ?_
  refine lv_icmp_ne (tgt := 15) hx hb dX0_needApart_2 (by decide) (fun c_1 => ?_) (fun c_1 => ?_)
  · skip
    exact W.vret hx hb hr (fun t ht hW => ⟨rfl, ht⟩) (fun q h => nomatch h) dX0_needApart_15
  · exact absurd c_1 g
set_option maxHeartbeats 4000000 in
set_option maxRecDepth 100000 in
theorem t_X0_needApart (l : Launch) (hT : l.stackTraces = false) (x y : Int32) (g : (!(decide (x = y))) = false) : vx_Met l yX0_needApart wsX0_needApart tv_rmT (tv_PT [.int x, .int y]) (fun _ _ _ _ => False) (tv_XT "java/lang/IllegalArgumentException") 1 6 (fun _ => False) := by
  refine vx_ofW (cc := cX0_needApart) (maxL := 2) (ret := none) (by decide) rfl ?_
  intro p e s m args below meth c s₁ B hml htab hv
  obtain ⟨rfl, hE⟩ := hv
  have hx := B.exec
  have hb := B.bytes
  have hr := B.returns
  have hts := atoms_spec (ws := wsX0_needApart) B.pre
  have hown : s.vm.findClass RX0 = some m.cls := findClass_of_methodNamed B.named
  have hlocks := B.notSynchronized
  have hS : va_S (fun _ : Nat => False) s.heap s.heap [] := va_S.rf
  have hl := lv_entry ([.int x, .int y]) (n := 2) (Nat.le_of_ble_eq_true rfl)
  rw [lg_entry_eq]
  generalize (lg_sl ([.int x, .int y]) ++ List.replicate (2 - (lg_sl ([.int x, .int y])).length) Slot.unset).toArray = ls at hl ⊢
  have hl : lv_has ls 2 [(0, .int x), (1, .int y)] := hl
  simp only [Bool.not_eq_false', decide_eq_true_eq] at g
  refine lv_iload_n hx hb dX0_needApart_0 rfl (lv_at hl 0 rfl) ?_
  refine lv_iload_n hx hb dX0_needApart_1 rfl (lv_at hl 1 rfl) ?_
  refine lv_icmp_ne (tgt := 15) hx hb dX0_needApart_2 (by decide) (fun c_1 => ?_) (fun c_1 => ?_)
  · exact absurd g c_1
  · skip
    exact tv_thr (cls := "java/lang/IllegalArgumentException") (text := "the third row is the first or the second") (ik := 116) (is := 127) (ic := 120) hx hb hT hts hown (by decide +kernel) (by decide +kernel) (by decide +kernel) (by decide +kernel) tv_ia_g tv_ia_o (by decide +kernel) hE hS (hl.1.trans hml.symm) dX0_needApart_5 dX0_needApart_8 dX0_needApart_9 dX0_needApart_11 dX0_needApart_14 htab (Nat.le_of_ble_eq_true rfl) (Nat.le_of_ble_eq_true rfl) (Nat.le_of_ble_eq_true rfl) (Nat.le_of_ble_eq_true rfl) hlocks (fun t ht hz hk => ⟨(), trivial, rfl, hz, fun q hq _ => hk q hq⟩) (fun z h => nomatch h) (Nat.le_of_ble_eq_true rfl) (Nat.le_of_ble_eq_true rfl)
