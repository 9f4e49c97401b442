set_option maxHeartbeats 4000000 in
set_option maxRecDepth 100000 in
theorem c_X1_isTrue (l : Launch) (sg x y : Int32) : Met l yX1_isTrue wsX1_isTrue ({ frames := 0, cells := 0, slots := 0, locals := 0 } : Room) (fun v _ => v = ([.int sg, .int x, .int y] : List Value).toArray) (QcRead (tq sg x y)) 0 0 (fun _ => False) := by
  refine Met.ofW (cc := cX1_isTrue) (maxL := 3) (ret := (some .boolean)) (by decide) rfl ?_
  intro p e s m args below meth c s₁ B hml hv
  subst hv
  have hx := B.exec
  have hb := B.bytes
  have hr := B.returns
  have hts := atoms_spec (ws := wsX1_isTrue) B.pre
  have hown : s.vm.findClass RX1 = some m.cls := findClass_of_methodNamed B.named
  have hlocks := B.notSynchronized
  have hl := lv_entry ([.int sg, .int x, .int y]) (n := 3) (Nat.le_of_ble_eq_true rfl)
  rw [lg_entry_eq]
  generalize (lg_sl ([.int sg, .int x, .int y]) ++ List.replicate (3 - (lg_sl ([.int sg, .int x, .int y])).length) Slot.unset).toArray = ls at hl ⊢
  have hl : lv_has ls 3 [(0, .int sg), (1, .int x), (2, .int y)] := hl
  refine lv_iload_n hx hb dX1_isTrue_0 rfl (lv_at hl 1 rfl) ?_
  refine lv_ldc (v := -2147483648) hx hb hown (hts (.constant RX1 23 (-2147483648)) (by decide +kernel)) dX1_isTrue_1 ?_
  refine lv_icmp_eq (tgt := 12) hx hb dX1_isTrue_3 (by decide) (fun c_1 => ?_) (fun c_1 => ?_)
  · skip
    refine lv_iload_n hx hb dX1_isTrue_12 rfl (lv_at hl 0 rfl) ?_
    refine lv_iconst (v := 5) hx hb dX1_isTrue_13 (by decide) ?_
    refine lv_icmp_ne (tgt := 21) hx hb dX1_isTrue_14 (by decide) (fun c_2 => ?_) (fun c_2 => ?_)
    · skip
      refine lv_iconst (v := 0) hx hb dX1_isTrue_21 (by decide) ?_
      exact tv_zret (v := 0) hx hb hr (by decide) (fun t ht hW => ⟨by rw [show tq sg x y = 0 from by simp [tq, c_1, c_2]], ht⟩) (fun q h => nomatch h) dX1_isTrue_22 hlocks
    · skip
      refine lv_iconst (v := 1) hx hb dX1_isTrue_17 (by decide) ?_
      refine lv_goto (tgt := 22) hx hb dX1_isTrue_18 (by decide) ?_
      exact tv_zret (v := 1) hx hb hr (by decide) (fun t ht hW => ⟨by rw [show tq sg x y = 1 from by simp [tq, c_1, c_2]], ht⟩) (fun q h => nomatch h) dX1_isTrue_22 hlocks
  · skip
    refine lv_iload_n hx hb dX1_isTrue_6 rfl (lv_at hl 2 rfl) ?_
    refine lv_ldc (v := -2147483648) hx hb hown (hts (.constant RX1 23 (-2147483648)) (by decide +kernel)) dX1_isTrue_7 ?_
    refine lv_icmp_ne (tgt := 23) hx hb dX1_isTrue_9 (by decide) (fun c_3 => ?_) (fun c_3 => ?_)
    · skip
      refine lv_iload_n hx hb dX1_isTrue_23 rfl (lv_at hl 0 rfl) ?_
      by_cases k0 : sg = 0
      · subst k0
        refine lv_tableIn (off := 36) (tgt := 60) hx hb dX1_isTrue_24 (by decide) (by decide) (by decide) (by decide) ?_
        refine lv_iload_n hx hb dX1_isTrue_60 rfl (lv_at hl 1 rfl) ?_
        refine lv_iload_n hx hb dX1_isTrue_61 rfl (lv_at hl 2 rfl) ?_
        refine lv_icmp_ge (tgt := 69) hx hb dX1_isTrue_62 (by decide) (fun c_4 => ?_) (fun c_4 => ?_)
        · skip
          refine lv_iconst (v := 0) hx hb dX1_isTrue_69 (by decide) ?_
          exact tv_zret (v := 0) hx hb hr (by decide) (fun t ht hW => ⟨by rw [show tq 0 x y = 0 from by simp [tq, c_1, c_3, c_4]], ht⟩) (fun q h => nomatch h) dX1_isTrue_70 hlocks
        · skip
          refine lv_iconst (v := 1) hx hb dX1_isTrue_65 (by decide) ?_
          refine lv_goto (tgt := 70) hx hb dX1_isTrue_66 (by decide) ?_
          exact tv_zret (v := 1) hx hb hr (by decide) (fun t ht hW => ⟨by rw [show tq 0 x y = 1 from by simp [tq, c_1, c_3, c_4]], ht⟩) (fun q h => nomatch h) dX1_isTrue_70 hlocks
      · skip
        by_cases k1 : sg = 1
        · subst k1
          refine lv_tableIn (off := 47) (tgt := 71) hx hb dX1_isTrue_24 (by decide) (by decide) (by decide) (by decide) ?_
          refine lv_iload_n hx hb dX1_isTrue_71 rfl (lv_at hl 1 rfl) ?_
          refine lv_iload_n hx hb dX1_isTrue_72 rfl (lv_at hl 2 rfl) ?_
          refine lv_icmp_gt (tgt := 80) hx hb dX1_isTrue_73 (by decide) (fun c_5 => ?_) (fun c_5 => ?_)
          · skip
            refine lv_iconst (v := 0) hx hb dX1_isTrue_80 (by decide) ?_
            exact tv_zret (v := 0) hx hb hr (by decide) (fun t ht hW => ⟨by rw [show tq 1 x y = 0 from by simp [tq, c_1, c_3, c_5]], ht⟩) (fun q h => nomatch h) dX1_isTrue_81 hlocks
          · skip
            refine lv_iconst (v := 1) hx hb dX1_isTrue_76 (by decide) ?_
            refine lv_goto (tgt := 81) hx hb dX1_isTrue_77 (by decide) ?_
            exact tv_zret (v := 1) hx hb hr (by decide) (fun t ht hW => ⟨by rw [show tq 1 x y = 1 from by simp [tq, c_1, c_3, c_5]], ht⟩) (fun q h => nomatch h) dX1_isTrue_81 hlocks
        · skip
          by_cases k2 : sg = 2
          · subst k2
            refine lv_tableIn (off := 58) (tgt := 82) hx hb dX1_isTrue_24 (by decide) (by decide) (by decide) (by decide) ?_
            refine lv_iload_n hx hb dX1_isTrue_82 rfl (lv_at hl 1 rfl) ?_
            refine lv_iload_n hx hb dX1_isTrue_83 rfl (lv_at hl 2 rfl) ?_
            refine lv_icmp_le (tgt := 91) hx hb dX1_isTrue_84 (by decide) (fun c_6 => ?_) (fun c_6 => ?_)
            · skip
              refine lv_iconst (v := 0) hx hb dX1_isTrue_91 (by decide) ?_
              exact tv_zret (v := 0) hx hb hr (by decide) (fun t ht hW => ⟨by rw [show tq 2 x y = 0 from by simp [tq, c_1, c_3, c_6]], ht⟩) (fun q h => nomatch h) dX1_isTrue_92 hlocks
            · skip
              refine lv_iconst (v := 1) hx hb dX1_isTrue_87 (by decide) ?_
              refine lv_goto (tgt := 92) hx hb dX1_isTrue_88 (by decide) ?_
              exact tv_zret (v := 1) hx hb hr (by decide) (fun t ht hW => ⟨by rw [show tq 2 x y = 1 from by simp [tq, c_1, c_3, c_6]], ht⟩) (fun q h => nomatch h) dX1_isTrue_92 hlocks
          · skip
            by_cases k3 : sg = 3
            · subst k3
              refine lv_tableIn (off := 69) (tgt := 93) hx hb dX1_isTrue_24 (by decide) (by decide) (by decide) (by decide) ?_
              refine lv_iload_n hx hb dX1_isTrue_93 rfl (lv_at hl 1 rfl) ?_
              refine lv_iload_n hx hb dX1_isTrue_94 rfl (lv_at hl 2 rfl) ?_
              refine lv_icmp_lt (tgt := 102) hx hb dX1_isTrue_95 (by decide) (fun c_7 => ?_) (fun c_7 => ?_)
              · skip
                refine lv_iconst (v := 0) hx hb dX1_isTrue_102 (by decide) ?_
                exact tv_zret (v := 0) hx hb hr (by decide) (fun t ht hW => ⟨by rw [show tq 3 x y = 0 from by simp [tq, c_1, c_3, c_7]], ht⟩) (fun q h => nomatch h) dX1_isTrue_103 hlocks
              · skip
                refine lv_iconst (v := 1) hx hb dX1_isTrue_98 (by decide) ?_
                refine lv_goto (tgt := 103) hx hb dX1_isTrue_99 (by decide) ?_
                exact tv_zret (v := 1) hx hb hr (by decide) (fun t ht hW => ⟨by rw [show tq 3 x y = 1 from by simp [tq, c_1, c_3, c_7]], ht⟩) (fun q h => nomatch h) dX1_isTrue_103 hlocks
            · skip
              by_cases k4 : sg = 4
              · subst k4
                refine lv_tableIn (off := 80) (tgt := 104) hx hb dX1_isTrue_24 (by decide) (by decide) (by decide) (by decide) ?_
                refine lv_iload_n hx hb dX1_isTrue_104 rfl (lv_at hl 1 rfl) ?_
                refine lv_iload_n hx hb dX1_isTrue_105 rfl (lv_at hl 2 rfl) ?_
                refine lv_icmp_ne (tgt := 113) hx hb dX1_isTrue_106 (by decide) (fun c_8 => ?_) (fun c_8 => ?_)
                · skip
                  refine lv_iconst (v := 0) hx hb dX1_isTrue_113 (by decide) ?_
                  exact tv_zret (v := 0) hx hb hr (by decide) (fun t ht hW => ⟨by rw [show tq 4 x y = 0 from by simp [tq, c_1, c_3, c_8]], ht⟩) (fun q h => nomatch h) dX1_isTrue_114 hlocks
                · skip
                  refine lv_iconst (v := 1) hx hb dX1_isTrue_109 (by decide) ?_
                  refine lv_goto (tgt := 114) hx hb dX1_isTrue_110 (by decide) ?_
                  exact tv_zret (v := 1) hx hb hr (by decide) (fun t ht hW => ⟨by rw [show tq 4 x y = 1 from by simp [tq, c_1, c_3, c_8]], ht⟩) (fun q h => nomatch h) dX1_isTrue_114 hlocks
              · skip
                have z0 := lv_neT (a := 0) k0 rfl
                have z1 := lv_neT (a := 1) k1 rfl
                have z2 := lv_neT (a := 2) k2 rfl
                have z3 := lv_neT (a := 3) k3 rfl
                have z4 := lv_neT (a := 4) k4 rfl
                refine lv_tableOut (tgt := 115) hx hb dX1_isTrue_24 (by omega) (by decide) ?_
                refine lv_iload_n hx hb dX1_isTrue_115 rfl (lv_at hl 1 rfl) ?_
                refine lv_iload_n hx hb dX1_isTrue_116 rfl (lv_at hl 2 rfl) ?_
                refine lv_icmp_eq (tgt := 124) hx hb dX1_isTrue_117 (by decide) (fun c_9 => ?_) (fun c_9 => ?_)
                · skip
                  refine lv_iconst (v := 0) hx hb dX1_isTrue_124 (by decide) ?_
                  exact tv_zret (v := 0) hx hb hr (by decide) (fun t ht hW => ⟨by rw [show tq sg x y = 0 from by simp [tq, c_1, c_3, k0, k1, k2, k3, k4, c_9]], ht⟩) (fun q h => nomatch h) dX1_isTrue_125 hlocks
                · skip
                  refine lv_iconst (v := 1) hx hb dX1_isTrue_120 (by decide) ?_
                  refine lv_goto (tgt := 125) hx hb dX1_isTrue_121 (by decide) ?_
                  exact tv_zret (v := 1) hx hb hr (by decide) (fun t ht hW => ⟨by rw [show tq sg x y = 1 from by simp [tq, c_1, c_3, k0, k1, k2, k3, k4, c_9]], ht⟩) (fun q h => nomatch h) dX1_isTrue_125 hlocks
    · skip
      refine lv_iload_n hx hb dX1_isTrue_12 rfl (lv_at hl 0 rfl) ?_
      refine lv_iconst (v := 5) hx hb dX1_isTrue_13 (by decide) ?_
      refine lv_icmp_ne (tgt := 21) hx hb dX1_isTrue_14 (by decide) (fun c_10 => ?_) (fun c_10 => ?_)
      · skip
        refine lv_iconst (v := 0) hx hb dX1_isTrue_21 (by decide) ?_
        exact tv_zret (v := 0) hx hb hr (by decide) (fun t ht hW => ⟨by rw [show tq sg x y = 0 from by simp [tq, c_1, c_3, c_10]], ht⟩) (fun q h => nomatch h) dX1_isTrue_22 hlocks
      · skip
        refine lv_iconst (v := 1) hx hb dX1_isTrue_17 (by decide) ?_
        refine lv_goto (tgt := 22) hx hb dX1_isTrue_18 (by decide) ?_
        exact tv_zret (v := 1) hx hb hr (by decide) (fun t ht hW => ⟨by rw [show tq sg x y = 1 from by simp [tq, c_1, c_3, c_10]], ht⟩) (fun q h => nomatch h) dX1_isTrue_22 hlocks
set_option maxHeartbeats 4000000 in
set_option maxRecDepth 100000 in
theorem c_X1_isRow (l : Launch) (x : Int32) : Met l yX1_isRow wsX1_isRow ({ frames := 0, cells := 0, slots := 0, locals := 0 } : Room) (fun v _ => v = ([.int x] : List Value).toArray) (QcRead (tv_b (tv_in 8 x))) 0 0 (fun _ => False) := by
  refine Met.ofW (cc := cX1_isRow) (maxL := 1) (ret := (some .boolean)) (by decide) rfl ?_
  intro p e s m args below meth c s₁ B hml hv
  subst hv
  have hx := B.exec
  have hb := B.bytes
  have hr := B.returns
  have hts := atoms_spec (ws := wsX1_isRow) B.pre
  have hown : s.vm.findClass RX1 = some m.cls := findClass_of_methodNamed B.named
  have hlocks := B.notSynchronized
  have hl := lv_entry ([.int x]) (n := 1) (Nat.le_of_ble_eq_true rfl)
  rw [lg_entry_eq]
  generalize (lg_sl ([.int x]) ++ List.replicate (1 - (lg_sl ([.int x])).length) Slot.unset).toArray = ls at hl ⊢
  have hl : lv_has ls 1 [(0, .int x)] := hl
  refine lv_iload_n hx hb dX1_isRow_0 rfl (lv_at hl 0 rfl) ?_
  refine lv_if_lt (tgt := 14) hx hb dX1_isRow_1 (by decide) (fun c_1 => ?_) (fun c_1 => ?_)
  · have q : (tv_in 8 x) = false := by rw [tv_in, decide_eq_true c_1]; rfl
    refine lv_iconst (v := 0) hx hb dX1_isRow_14 (by decide) ?_
    exact tv_zret (v := 0) hx hb hr (by decide) (fun t ht hW => ⟨by rw [q]; rfl, ht⟩) (fun q h => nomatch h) dX1_isRow_15 hlocks
  · skip
    refine lv_iload_n hx hb dX1_isRow_4 rfl (lv_at hl 0 rfl) ?_
    refine lv_bipush (v := 8) hx hb dX1_isRow_5 (by decide) ?_
    refine lv_icmp_ge (tgt := 14) hx hb dX1_isRow_7 (by decide) (fun c_2 => ?_) (fun c_2 => ?_)
    · have q : (tv_in 8 x) = false := by rw [tv_in, decide_eq_false (show ¬ x < nI 8 from fun z => absurd c_2 (Int32.not_le.mpr z)), Bool.and_false]
      refine lv_iconst (v := 0) hx hb dX1_isRow_14 (by decide) ?_
      exact tv_zret (v := 0) hx hb hr (by decide) (fun t ht hW => ⟨by rw [q]; rfl, ht⟩) (fun q h => nomatch h) dX1_isRow_15 hlocks
    · have q : (tv_in 8 x) = true := by simp only [tv_in, Bool.and_eq_true, Bool.not_eq_true', decide_eq_false_iff_not, decide_eq_true_eq]; exact ⟨c_1, Int32.not_le.mp c_2⟩
      refine lv_iconst (v := 1) hx hb dX1_isRow_10 (by decide) ?_
      refine lv_goto (tgt := 15) hx hb dX1_isRow_11 (by decide) ?_
      exact tv_zret (v := 1) hx hb hr (by decide) (fun t ht hW => ⟨by rw [q]; rfl, ht⟩) (fun q h => nomatch h) dX1_isRow_15 hlocks
set_option maxHeartbeats 4000000 in
set_option maxRecDepth 100000 in
theorem c_X1_isPlace (l : Launch) (x : Int32) : Met l yX1_isPlace wsX1_isPlace ({ frames := 0, cells := 0, slots := 0, locals := 0 } : Room) (fun v _ => v = ([.int x] : List Value).toArray) (QcRead (tv_b (tv_in 12 x))) 0 0 (fun _ => False) := by
  refine Met.ofW (cc := cX1_isPlace) (maxL := 1) (ret := (some .boolean)) (by decide) rfl ?_
  intro p e s m args below meth c s₁ B hml hv
  subst hv
  have hx := B.exec
  have hb := B.bytes
  have hr := B.returns
  have hts := atoms_spec (ws := wsX1_isPlace) B.pre
  have hown : s.vm.findClass RX1 = some m.cls := findClass_of_methodNamed B.named
  have hlocks := B.notSynchronized
  have hl := lv_entry ([.int x]) (n := 1) (Nat.le_of_ble_eq_true rfl)
  rw [lg_entry_eq]
  generalize (lg_sl ([.int x]) ++ List.replicate (1 - (lg_sl ([.int x])).length) Slot.unset).toArray = ls at hl ⊢
  have hl : lv_has ls 1 [(0, .int x)] := hl
  refine lv_iload_n hx hb dX1_isPlace_0 rfl (lv_at hl 0 rfl) ?_
  refine lv_if_lt (tgt := 14) hx hb dX1_isPlace_1 (by decide) (fun c_1 => ?_) (fun c_1 => ?_)
  · have q : (tv_in 12 x) = false := by rw [tv_in, decide_eq_true c_1]; rfl
    refine lv_iconst (v := 0) hx hb dX1_isPlace_14 (by decide) ?_
    exact tv_zret (v := 0) hx hb hr (by decide) (fun t ht hW => ⟨by rw [q]; rfl, ht⟩) (fun q h => nomatch h) dX1_isPlace_15 hlocks
  · skip
    refine lv_iload_n hx hb dX1_isPlace_4 rfl (lv_at hl 0 rfl) ?_
    refine lv_bipush (v := 12) hx hb dX1_isPlace_5 (by decide) ?_
    refine lv_icmp_ge (tgt := 14) hx hb dX1_isPlace_7 (by decide) (fun c_2 => ?_) (fun c_2 => ?_)
    · have q : (tv_in 12 x) = false := by rw [tv_in, decide_eq_false (show ¬ x < nI 12 from fun z => absurd c_2 (Int32.not_le.mpr z)), Bool.and_false]
      refine lv_iconst (v := 0) hx hb dX1_isPlace_14 (by decide) ?_
      exact tv_zret (v := 0) hx hb hr (by decide) (fun t ht hW => ⟨by rw [q]; rfl, ht⟩) (fun q h => nomatch h) dX1_isPlace_15 hlocks
    · have q : (tv_in 12 x) = true := by simp only [tv_in, Bool.and_eq_true, Bool.not_eq_true', decide_eq_false_iff_not, decide_eq_true_eq]; exact ⟨c_1, Int32.not_le.mp c_2⟩
      refine lv_iconst (v := 1) hx hb dX1_isPlace_10 (by decide) ?_
      refine lv_goto (tgt := 15) hx hb dX1_isPlace_11 (by decide) ?_
      exact tv_zret (v := 1) hx hb hr (by decide) (fun t ht hW => ⟨by rw [q]; rfl, ht⟩) (fun q h => nomatch h) dX1_isPlace_15 hlocks
set_option maxHeartbeats 4000000 in
set_option maxRecDepth 100000 in
theorem c_X1_isGate (l : Launch) (x : Int32) : Met l yX1_isGate wsX1_isGate ({ frames := 0, cells := 0, slots := 0, locals := 0 } : Room) (fun v _ => v = ([.int x] : List Value).toArray) (QcRead (tv_b (tv_in 4 x))) 0 0 (fun _ => False) := by
  refine Met.ofW (cc := cX1_isGate) (maxL := 1) (ret := (some .boolean)) (by decide) rfl ?_
  intro p e s m args below meth c s₁ B hml hv
  subst hv
  have hx := B.exec
  have hb := B.bytes
  have hr := B.returns
  have hts := atoms_spec (ws := wsX1_isGate) B.pre
  have hown : s.vm.findClass RX1 = some m.cls := findClass_of_methodNamed B.named
  have hlocks := B.notSynchronized
  have hl := lv_entry ([.int x]) (n := 1) (Nat.le_of_ble_eq_true rfl)
  rw [lg_entry_eq]
  generalize (lg_sl ([.int x]) ++ List.replicate (1 - (lg_sl ([.int x])).length) Slot.unset).toArray = ls at hl ⊢
  have hl : lv_has ls 1 [(0, .int x)] := hl
  refine lv_iload_n hx hb dX1_isGate_0 rfl (lv_at hl 0 rfl) ?_
  refine lv_if_lt (tgt := 13) hx hb dX1_isGate_1 (by decide) (fun c_1 => ?_) (fun c_1 => ?_)
  · have q : (tv_in 4 x) = false := by rw [tv_in, decide_eq_true c_1]; rfl
    refine lv_iconst (v := 0) hx hb dX1_isGate_13 (by decide) ?_
    exact tv_zret (v := 0) hx hb hr (by decide) (fun t ht hW => ⟨by rw [q]; rfl, ht⟩) (fun q h => nomatch h) dX1_isGate_14 hlocks
  · skip
    refine lv_iload_n hx hb dX1_isGate_4 rfl (lv_at hl 0 rfl) ?_
    refine lv_iconst (v := 4) hx hb dX1_isGate_5 (by decide) ?_
    refine lv_icmp_ge (tgt := 13) hx hb dX1_isGate_6 (by decide) (fun c_2 => ?_) (fun c_2 => ?_)
    · have q : (tv_in 4 x) = false := by rw [tv_in, decide_eq_false (show ¬ x < nI 4 from fun z => absurd c_2 (Int32.not_le.mpr z)), Bool.and_false]
      refine lv_iconst (v := 0) hx hb dX1_isGate_13 (by decide) ?_
      exact tv_zret (v := 0) hx hb hr (by decide) (fun t ht hW => ⟨by rw [q]; rfl, ht⟩) (fun q h => nomatch h) dX1_isGate_14 hlocks
    · have q : (tv_in 4 x) = true := by simp only [tv_in, Bool.and_eq_true, Bool.not_eq_true', decide_eq_false_iff_not, decide_eq_true_eq]; exact ⟨c_1, Int32.not_le.mp c_2⟩
      refine lv_iconst (v := 1) hx hb dX1_isGate_9 (by decide) ?_
      refine lv_goto (tgt := 14) hx hb dX1_isGate_10 (by decide) ?_
      exact tv_zret (v := 1) hx hb hr (by decide) (fun t ht hW => ⟨by rw [q]; rfl, ht⟩) (fun q h => nomatch h) dX1_isGate_14 hlocks
set_option maxHeartbeats 4000000 in
set_option maxRecDepth 100000 in
theorem c_X1_isSign (l : Launch) (x : Int32) : Met l yX1_isSign wsX1_isSign ({ frames := 0, cells := 0, slots := 0, locals := 0 } : Room) (fun v _ => v = ([.int x] : List Value).toArray) (QcRead (tv_b (tv_sg x))) 0 0 (fun _ => False) := by
  refine Met.ofW (cc := cX1_isSign) (maxL := 1) (ret := (some .boolean)) (by decide) rfl ?_
  intro p e s m args below meth c s₁ B hml hv
  subst hv
  have hx := B.exec
  have hb := B.bytes
  have hr := B.returns
  have hts := atoms_spec (ws := wsX1_isSign) B.pre
  have hown : s.vm.findClass RX1 = some m.cls := findClass_of_methodNamed B.named
  have hlocks := B.notSynchronized
  have hl := lv_entry ([.int x]) (n := 1) (Nat.le_of_ble_eq_true rfl)
  rw [lg_entry_eq]
  generalize (lg_sl ([.int x]) ++ List.replicate (1 - (lg_sl ([.int x])).length) Slot.unset).toArray = ls at hl ⊢
  have hl : lv_has ls 1 [(0, .int x)] := hl
  refine lv_iload_n hx hb dX1_isSign_0 rfl (lv_at hl 0 rfl) ?_
  refine lv_if_lt (tgt := 13) hx hb dX1_isSign_1 (by decide) (fun c_1 => ?_) (fun c_1 => ?_)
  · have q : (tv_sg x) = false := by rw [tv_sg, decide_eq_true c_1]; rfl
    refine lv_iconst (v := 0) hx hb dX1_isSign_13 (by decide) ?_
    exact tv_zret (v := 0) hx hb hr (by decide) (fun t ht hW => ⟨by rw [q]; rfl, ht⟩) (fun q h => nomatch h) dX1_isSign_14 hlocks
  · skip
    refine lv_iload_n hx hb dX1_isSign_4 rfl (lv_at hl 0 rfl) ?_
    refine lv_iconst (v := 5) hx hb dX1_isSign_5 (by decide) ?_
    refine lv_icmp_gt (tgt := 13) hx hb dX1_isSign_6 (by decide) (fun c_2 => ?_) (fun c_2 => ?_)
    · have q : (tv_sg x) = false := by rw [tv_sg, decide_eq_false (show ¬ x ≤ 5 from Int32.not_le.mpr c_2), Bool.and_false]
      refine lv_iconst (v := 0) hx hb dX1_isSign_13 (by decide) ?_
      exact tv_zret (v := 0) hx hb hr (by decide) (fun t ht hW => ⟨by rw [q]; rfl, ht⟩) (fun q h => nomatch h) dX1_isSign_14 hlocks
    · have q : (tv_sg x) = true := by simp only [tv_sg, Bool.and_eq_true, Bool.not_eq_true', decide_eq_false_iff_not, decide_eq_true_eq]; exact ⟨c_1, Int32.not_lt.mp c_2⟩
      refine lv_iconst (v := 1) hx hb dX1_isSign_9 (by decide) ?_
      refine lv_goto (tgt := 14) hx hb dX1_isSign_10 (by decide) ?_
      exact tv_zret (v := 1) hx hb hr (by decide) (fun t ht hW => ⟨by rw [q]; rfl, ht⟩) (fun q h => nomatch h) dX1_isSign_14 hlocks
set_option maxHeartbeats 4000000 in
set_option maxRecDepth 100000 in
theorem c_X1_isNumber (l : Launch) (x : Int32) : Met l yX1_isNumber wsX1_isNumber ({ frames := 0, cells := 0, slots := 0, locals := 0 } : Room) (fun v _ => v = ([.int x] : List Value).toArray) (QcRead (tv_b (tv_num x))) 0 0 (fun _ => False) := by
  refine Met.ofW (cc := cX1_isNumber) (maxL := 1) (ret := (some .boolean)) (by decide) rfl ?_
  intro p e s m args below meth c s₁ B hml hv
  subst hv
  have hx := B.exec
  have hb := B.bytes
  have hr := B.returns
  have hts := atoms_spec (ws := wsX1_isNumber) B.pre
  have hown : s.vm.findClass RX1 = some m.cls := findClass_of_methodNamed B.named
  have hlocks := B.notSynchronized
  have hl := lv_entry ([.int x]) (n := 1) (Nat.le_of_ble_eq_true rfl)
  rw [lg_entry_eq]
  generalize (lg_sl ([.int x]) ++ List.replicate (1 - (lg_sl ([.int x])).length) Slot.unset).toArray = ls at hl ⊢
  have hl : lv_has ls 1 [(0, .int x)] := hl
  refine lv_iload_n hx hb dX1_isNumber_0 rfl (lv_at hl 0 rfl) ?_
  refine lv_ldc (v := -2147483648) hx hb hown (hts (.constant RX1 23 (-2147483648)) (by decide +kernel)) dX1_isNumber_1 ?_
  refine lv_icmp_eq (tgt := 18) hx hb dX1_isNumber_3 (by decide) (fun c_1 => ?_) (fun c_1 => ?_)
  · have q : tv_num x = true := by simp only [tv_num, Bool.or_eq_true, Bool.and_eq_true, Bool.not_eq_true', decide_eq_false_iff_not, decide_eq_true_eq]; exact Or.inl c_1
    refine lv_iconst (v := 1) hx hb dX1_isNumber_18 (by decide) ?_
    refine lv_goto (tgt := 23) hx hb dX1_isNumber_19 (by decide) ?_
    exact tv_zret (v := 1) hx hb hr (by decide) (fun t ht hW => ⟨by rw [q]; rfl, ht⟩) (fun q h => nomatch h) dX1_isNumber_23 hlocks
  · skip
    refine lv_iload_n hx hb dX1_isNumber_6 rfl (lv_at hl 0 rfl) ?_
    refine lv_ldc (v := -8000000) hx hb hown (hts (.constant RX1 24 (-8000000)) (by decide +kernel)) dX1_isNumber_7 ?_
    refine lv_icmp_lt (tgt := 22) hx hb dX1_isNumber_9 (by decide) (fun c_2 => ?_) (fun c_2 => ?_)
    · have q : tv_num x = false := by rw [tv_num, decide_eq_false c_1, decide_eq_true c_2]; rfl
      refine lv_iconst (v := 0) hx hb dX1_isNumber_22 (by decide) ?_
      exact tv_zret (v := 0) hx hb hr (by decide) (fun t ht hW => ⟨by rw [q]; rfl, ht⟩) (fun q h => nomatch h) dX1_isNumber_23 hlocks
    · skip
      refine lv_iload_n hx hb dX1_isNumber_12 rfl (lv_at hl 0 rfl) ?_
      refine lv_ldc (v := 8000000) hx hb hown (hts (.constant RX1 25 (8000000)) (by decide +kernel)) dX1_isNumber_13 ?_
      refine lv_icmp_gt (tgt := 22) hx hb dX1_isNumber_15 (by decide) (fun c_3 => ?_) (fun c_3 => ?_)
      · have q : tv_num x = false := by rw [tv_num, decide_eq_false c_1, decide_eq_false (show ¬ x ≤ 8000000 from Int32.not_le.mpr c_3), Bool.and_false]; rfl
        refine lv_iconst (v := 0) hx hb dX1_isNumber_22 (by decide) ?_
        exact tv_zret (v := 0) hx hb hr (by decide) (fun t ht hW => ⟨by rw [q]; rfl, ht⟩) (fun q h => nomatch h) dX1_isNumber_23 hlocks
      · have q : tv_num x = true := by simp only [tv_num, Bool.or_eq_true, Bool.and_eq_true, Bool.not_eq_true', decide_eq_false_iff_not, decide_eq_true_eq]; exact Or.inr ⟨c_2, Int32.not_lt.mp c_3⟩
        refine lv_iconst (v := 1) hx hb dX1_isNumber_18 (by decide) ?_
        refine lv_goto (tgt := 23) hx hb dX1_isNumber_19 (by decide) ?_
        exact tv_zret (v := 1) hx hb hr (by decide) (fun t ht hW => ⟨by rw [q]; rfl, ht⟩) (fun q h => nomatch h) dX1_isNumber_23 hlocks
set_option maxHeartbeats 4000000 in
set_option maxRecDepth 100000 in
theorem c_X1_areOneSort (l : Launch) (x y : Int32) : Met l yX1_areOneSort wsX1_areOneSort ({ frames := 0, cells := 0, slots := 0, locals := 0 } : Room) (fun v _ => v = ([.int x, .int y] : List Value).toArray) (QcRead (tv_b (tv_os x y))) 0 0 (fun _ => False) := by
  refine Met.ofW (cc := cX1_areOneSort) (maxL := 2) (ret := (some .boolean)) (by decide) rfl ?_
  intro p e s m args below meth c s₁ B hml hv
  subst hv
  have hx := B.exec
  have hb := B.bytes
  have hr := B.returns
  have hts := atoms_spec (ws := wsX1_areOneSort) B.pre
  have hown : s.vm.findClass RX1 = some m.cls := findClass_of_methodNamed B.named
  have hlocks := B.notSynchronized
  have hl := lv_entry ([.int x, .int y]) (n := 2) (Nat.le_of_ble_eq_true rfl)
  rw [lg_entry_eq]
  generalize (lg_sl ([.int x, .int y]) ++ List.replicate (2 - (lg_sl ([.int x, .int y])).length) Slot.unset).toArray = ls at hl ⊢
  have hl : lv_has ls 2 [(0, .int x), (1, .int y)] := hl
  refine lv_iload_n hx hb dX1_areOneSort_0 rfl (lv_at hl 0 rfl) ?_
  refine lv_iconst (v := 4) hx hb dX1_areOneSort_1 (by decide) ?_
  refine lv_idiv hx hb dX1_areOneSort_2 (by decide) ?_
  refine lv_iload_n hx hb dX1_areOneSort_3 rfl (lv_at hl 1 rfl) ?_
  refine lv_iconst (v := 4) hx hb dX1_areOneSort_4 (by decide) ?_
  refine lv_idiv hx hb dX1_areOneSort_5 (by decide) ?_
  refine lv_icmp_ne (tgt := 13) hx hb dX1_areOneSort_6 (by decide) (fun c_1 => ?_) (fun c_1 => ?_)
  · have q : tv_os x y = false := decide_eq_false c_1
    refine lv_iconst (v := 0) hx hb dX1_areOneSort_13 (by decide) ?_
    exact tv_zret (v := 0) hx hb hr (by decide) (fun t ht hW => ⟨by rw [q]; rfl, ht⟩) (fun q h => nomatch h) dX1_areOneSort_14 hlocks
  · have q : tv_os x y = true := decide_eq_true c_1
    refine lv_iconst (v := 1) hx hb dX1_areOneSort_9 (by decide) ?_
    refine lv_goto (tgt := 14) hx hb dX1_areOneSort_10 (by decide) ?_
    exact tv_zret (v := 1) hx hb hr (by decide) (fun t ht hW => ⟨by rw [q]; rfl, ht⟩) (fun q h => nomatch h) dX1_areOneSort_14 hlocks
theorem iX1_thrown : ∀ w ∈ wsX10, w ∈ wsX1_thrown := by decide +kernel
set_option maxHeartbeats 4000000 in
set_option maxRecDepth 100000 in
theorem c_X1_thrown (l : Launch) (D : va_G) (cI cZ cL : ClassId) (h a1 a2 a3 a4 : Nat) (rd lv op nt : Nat → Int32) (th : Int32)  : Met l yX1_thrown wsX1_thrown ({ frames := 0, cells := 0, slots := 0, locals := 0 } : Room) (tv_Pw D cI cZ cL (tv_mw cI cZ h a1 a2 a3 a4 th (rd, lv, op, nt)) [.ref h]) (QcRead th) 0 0 (fun _ => False) := by
  refine Met.ofW (cc := cX1_thrown) (maxL := 1) (ret := (some .int)) (by decide) rfl ?_
  intro p e s m args below meth c s₁ B hml hv
  obtain ⟨rfl, hP, hK⟩ := hv
  have hx := B.exec
  have hb := B.bytes
  have hr := B.returns
  have hts := atoms_spec (ws := wsX1_thrown) B.pre
  have hown : s.vm.findClass RX1 = some m.cls := findClass_of_methodNamed B.named
  have hlocks := B.notSynchronized
  have hl := lv_entry ([.ref h]) (n := 1) (Nat.le_of_ble_eq_true rfl)
  rw [lg_entry_eq]
  generalize (lg_sl ([.ref h]) ++ List.replicate (1 - (lg_sl ([.ref h])).length) Slot.unset).toArray = ls at hl ⊢
  have hl : lv_has ls 1 [(0, .ref h)] := hl
  refine lv_aload_n hx hb dX1_thrown_0 rfl (lv_at hl 0 rfl) ?_
  refine va_get (D := D) (ci := 1) (v := .int th) (C := RX1) (T := TX1) (N := 5) hx hb hts iX1_thrown hown hK hP 0 rfl rfl 4 (by decide) (hts (.fieldLink RX1 26 "TideHouseModel" "thrown" "I") (by decide +kernel)) (fun _ h9 => h9) rfl dX1_thrown_1 ?_
  exact W.iret (v := th) hx hb hr (fun t ht hW => ⟨rfl, ht⟩) (fun q h => nomatch h) dX1_thrown_4
theorem iX1_at : ∀ w ∈ wsX10, w ∈ wsX1_at := by decide +kernel
set_option maxHeartbeats 4000000 in
set_option maxRecDepth 100000 in
theorem c_X1_at (l : Launch) (D : va_G) (cI cZ cL : ClassId) (h a1 a2 a3 a4 : Nat) (rd lv op nt : Nat → Int32) (th : Int32) (r k : Nat) (hr8 : r < 8) (hk12 : k < 12) : Met l yX1_at wsX1_at ({ frames := 0, cells := 0, slots := 0, locals := 0 } : Room) (tv_Pw D cI cZ cL (tv_mw cI cZ h a1 a2 a3 a4 th (rd, lv, op, nt)) [.ref h, .int (nI r), .int (nI k)]) (QcRead (rd (12 * r + k))) 0 0 (fun _ => False) := by
  refine Met.ofW (cc := cX1_at) (maxL := 3) (ret := (some .int)) (by decide) rfl ?_
  intro p e s m args below meth c s₁ B hml hv
  obtain ⟨rfl, hP, hK⟩ := hv
  have hx := B.exec
  have hb := B.bytes
  have hr := B.returns
  have hts := atoms_spec (ws := wsX1_at) B.pre
  have hown : s.vm.findClass RX1 = some m.cls := findClass_of_methodNamed B.named
  have hlocks := B.notSynchronized
  have hl := lv_entry ([.ref h, .int (nI r), .int (nI k)]) (n := 3) (Nat.le_of_ble_eq_true rfl)
  rw [lg_entry_eq]
  generalize (lg_sl ([.ref h, .int (nI r), .int (nI k)]) ++ List.replicate (3 - (lg_sl ([.ref h, .int (nI r), .int (nI k)])).length) Slot.unset).toArray = ls at hl ⊢
  have hl : lv_has ls 3 [(0, .ref h), (1, .int (nI r)), (2, .int (nI k))] := hl
  refine lv_aload_n hx hb dX1_at_0 rfl (lv_at hl 0 rfl) ?_
  refine va_get (D := D) (ci := 1) (v := .ref a1) (C := RX1) (T := TX1) (N := 5) hx hb hts iX1_at hown hK hP 0 rfl rfl 0 (by decide) (hts (.fieldLink RX1 7 "TideHouseModel" "readings" "[I") (by decide +kernel)) (fun _ h9 => h9) rfl dX1_at_1 ?_
  refine lv_bipush (v := 12) hx hb dX1_at_4 (by decide) ?_
  refine lv_iload_n hx hb dX1_at_6 rfl (lv_at hl 1 rfl) ?_
  refine lv_imul hx hb dX1_at_7 ?_
  refine lv_iload_n hx hb dX1_at_8 rfl (lv_at hl 2 rfl) ?_
  refine lv_iadd hx hb dX1_at_9 ?_
  refine tv_top (nI (12 * r + k)) (tv_ix2 r k) ?_
  refine tv_iald (D := D) (cA := cI) (n := 96) (f := rd) (k := (12 * r + k)) hx hb hK hP 1 0 rfl rfl (by omega) (by omega) dX1_at_10 ?_
  exact W.iret (v := rd (12 * r + k)) hx hb hr (fun t ht hW => ⟨rfl, ht⟩) (fun q h => nomatch h) dX1_at_11
theorem iX1_levelFor : ∀ w ∈ wsX10, w ∈ wsX1_levelFor := by decide +kernel
set_option maxHeartbeats 4000000 in
set_option maxRecDepth 100000 in
theorem c_X1_levelFor (l : Launch) (D : va_G) (cI cZ cL : ClassId) (h a1 a2 a3 a4 : Nat) (rd lv op nt : Nat → Int32) (th : Int32) (g r : Nat) (hg4 : g < 4) (hr8 : r < 8) : Met l yX1_levelFor wsX1_levelFor ({ frames := 0, cells := 0, slots := 0, locals := 0 } : Room) (tv_Pw D cI cZ cL (tv_mw cI cZ h a1 a2 a3 a4 th (rd, lv, op, nt)) [.ref h, .int (nI g), .int (nI r)]) (QcRead (lvl lv g r)) 0 0 (fun _ => False) := by
  refine Met.ofW (cc := cX1_levelFor) (maxL := 3) (ret := (some .int)) (by decide) rfl ?_
  intro p e s m args below meth c s₁ B hml hv
  obtain ⟨rfl, hP, hK⟩ := hv
  have hx := B.exec
  have hb := B.bytes
  have hr := B.returns
  have hts := atoms_spec (ws := wsX1_levelFor) B.pre
  have hown : s.vm.findClass RX1 = some m.cls := findClass_of_methodNamed B.named
  have hlocks := B.notSynchronized
  have hl := lv_entry ([.ref h, .int (nI g), .int (nI r)]) (n := 3) (Nat.le_of_ble_eq_true rfl)
  rw [lg_entry_eq]
  generalize (lg_sl ([.ref h, .int (nI g), .int (nI r)]) ++ List.replicate (3 - (lg_sl ([.ref h, .int (nI g), .int (nI r)])).length) Slot.unset).toArray = ls at hl ⊢
  have hl : lv_has ls 3 [(0, .ref h), (1, .int (nI g)), (2, .int (nI r))] := hl
  refine lv_aload_n hx hb dX1_levelFor_0 rfl (lv_at hl 0 rfl) ?_
  refine va_get (D := D) (ci := 1) (v := .ref a2) (C := RX1) (T := TX1) (N := 5) hx hb hts iX1_levelFor hown hK hP 0 rfl rfl 1 (by decide) (hts (.fieldLink RX1 13 "TideHouseModel" "levels" "[I") (by decide +kernel)) (fun _ h9 => h9) rfl dX1_levelFor_1 ?_
  refine lv_iconst (v := 2) hx hb dX1_levelFor_4 (by decide) ?_
  refine lv_iload_n hx hb dX1_levelFor_5 rfl (lv_at hl 1 rfl) ?_
  refine lv_imul hx hb dX1_levelFor_6 ?_
  refine lv_iload_n hx hb dX1_levelFor_7 rfl (lv_at hl 2 rfl) ?_
  refine lv_iconst (v := 4) hx hb dX1_levelFor_8 (by decide) ?_
  refine lv_idiv hx hb dX1_levelFor_9 (by decide) ?_
  refine tv_top (nI (r / 4)) (tv_div4 hr8) ?_
  refine lv_iadd hx hb dX1_levelFor_10 ?_
  refine tv_top (nI (2 * g + (r / 4))) (tv_lx2 g (r / 4)) ?_
  refine tv_iald (D := D) (cA := cI) (n := 8) (f := lv) (k := (2 * g + (r / 4))) hx hb hK hP 2 0 rfl rfl (by omega) (by omega) dX1_levelFor_11 ?_
  exact W.iret (v := lv (2 * g + (r / 4))) hx hb hr (fun t ht hW => ⟨rfl, ht⟩) (fun q h => nomatch h) dX1_levelFor_12
theorem iX1_may : ∀ w ∈ wsX10, w ∈ wsX1_may := by decide +kernel
set_option maxHeartbeats 4000000 in
set_option maxRecDepth 100000 in
theorem c_X1_may (l : Launch) (D : va_G) (cI cZ cL : ClassId) (h a1 a2 a3 a4 : Nat) (th : Int32) (sz : Nat) (X Y : Bool) : Met l yX1_may wsX1_may ({ frames := 0, cells := 0, slots := 0, locals := 0 } : Room) (tv_Pd D cI cZ cL [(h, .inr (1, [.ref a1, .ref a2, .ref a3, .ref a4, .int th]))] sz [.ref h, .int (tv_b X), .int (tv_b Y)]) (tv_Qw D cI cZ cL [(h, .inr (1, [.ref a1, .ref a2, .ref a3, .ref a4, .int th]))] sz (tv_b (X && Y)) [(h, .inr (1, [.ref a1, .ref a2, .ref a3, .ref a4, .int (tv_cd X Y)]))]) 0 0 (va_A [(h, .inr (1, [.ref a1, .ref a2, .ref a3, .ref a4, .int th]))] sz) := by
  refine Met.ofW (cc := cX1_may) (maxL := 3) (ret := (some .boolean)) (by decide) rfl ?_
  intro p e s m args below meth c s₁ B hml hv
  obtain ⟨rfl, hsz, hP, hK, hD0⟩ := hv
  subst hsz
  have hx := B.exec
  have hb := B.bytes
  have hr := B.returns
  have hts := atoms_spec (ws := wsX1_may) B.pre
  have hown : s.vm.findClass RX1 = some m.cls := findClass_of_methodNamed B.named
  have hlocks := B.notSynchronized
  have hD := hD0.self (sz := s.heap.size)
  obtain ⟨A, hAe⟩ : ∃ A, A = va_A [(h, .inr (1, [.ref a1, .ref a2, .ref a3, .ref a4, .int th]))] s.heap.size := ⟨_, rfl⟩
  rw [← hAe] at hD
  have hA : ∀ q : Nat, s.heap.size ≤ q → A q := fun q h => by rw [hAe]; exact Or.inr h
  have hS : va_S A s.heap s.heap [] := va_S.rf
  clear hD0
  have hl := lv_entry ([.ref h, .int (tv_b X), .int (tv_b Y)]) (n := 3) (Nat.le_of_ble_eq_true rfl)
  rw [lg_entry_eq]
  generalize (lg_sl ([.ref h, .int (tv_b X), .int (tv_b Y)]) ++ List.replicate (3 - (lg_sl ([.ref h, .int (tv_b X), .int (tv_b Y)])).length) Slot.unset).toArray = ls at hl ⊢
  have hl : lv_has ls 3 [(0, .ref h), (1, .int (tv_b X)), (2, .int (tv_b Y))] := hl
  cases X with
  | false =>
    have hl : lv_has ls 3 [(0, .ref h), (1, .int 0), (2, .int (tv_b Y))] := hl
    refine lv_aload_n hx hb dX1_may_0 rfl (lv_at hl 0 rfl) ?_
    refine lv_iload_n hx hb dX1_may_1 rfl (lv_at hl 1 rfl) ?_
    refine lv_if_eq (tgt := 17) hx hb dX1_may_2 (by decide) (fun c_1 => ?_) (fun c_1 => ?_)
    · have hQ : ∀ Y : Bool, tv_b (false && Y) = tv_b false ∧ tv_cd false Y = 1 := fun Y => by cases Y <;> exact ⟨rfl, rfl⟩
      rw [(hQ Y).1, (hQ Y).2]
      refine lv_iconst (v := 1) hx hb dX1_may_17 (by decide) ?_
      refine va_put (D := D) (ci := 1) (v := .int 1) (ty := .int) (C := RX1) (T := TX1) (N := 5) hx hb hts iX1_may tyX1 tyX1_ok nmX1 hown hK hP hD hS 0 rfl rfl 4 (by decide) (hts (.fieldLink RX1 26 "TideHouseModel" "thrown" "I") (by decide +kernel)) (fun _ h9 => h9) rfl (by decide +kernel) rfl rfl (Nat.le_of_ble_eq_true rfl) dX1_may_18 (fun H locs hP hD hS => ?_)
      have hP : va_P D vwCl [(h, .inr (1, [.ref a1, .ref a2, .ref a3, .ref a4, .int 1]))] H := hP
      have hD : va_D A [(h, .inr (1, [.ref a1, .ref a2, .ref a3, .ref a4, .int 1]))] := hD
      refine lv_aload_n hx hb dX1_may_21 rfl (lv_at hl 0 rfl) ?_
      refine va_get (D := D) (ci := 1) (v := .int 1) (C := RX1) (T := TX1) (N := 5) hx hb hts iX1_may hown hK hP 0 rfl rfl 4 (by decide) (hts (.fieldLink RX1 26 "TideHouseModel" "thrown" "I") (by decide +kernel)) (fun _ h9 => h9) rfl dX1_may_22 ?_
      refine lv_if_ne (tgt := 32) hx hb dX1_may_25 (by decide) (fun c_2 => ?_) (fun c_2 => ?_)
      · skip
        refine lv_iconst (v := 0) hx hb dX1_may_32 (by decide) ?_
        refine tv_top (tv_b false) rfl ?_
        exact tv_zretW (tv_b01 _) hAe hx hb hr hP hK hD hS dX1_may_33 hlocks
      · exact absurd c_2 (by decide)
    · exact absurd rfl c_1
  | true =>
    cases Y with
    | false =>
      have hl : lv_has ls 3 [(0, .ref h), (1, .int 1), (2, .int 0)] := hl
      refine lv_aload_n hx hb dX1_may_0 rfl (lv_at hl 0 rfl) ?_
      refine lv_iload_n hx hb dX1_may_1 rfl (lv_at hl 1 rfl) ?_
      refine lv_if_eq (tgt := 17) hx hb dX1_may_2 (by decide) (fun c_3 => ?_) (fun c_3 => ?_)
      · exact absurd c_3 (by decide)
      · skip
        refine lv_iload_n hx hb dX1_may_5 rfl (lv_at hl 2 rfl) ?_
        refine lv_if_eq (tgt := 13) hx hb dX1_may_6 (by decide) (fun c_4 => ?_) (fun c_4 => ?_)
        · skip
          refine lv_iconst (v := 2) hx hb dX1_may_13 (by decide) ?_
          refine lv_goto (tgt := 18) hx hb dX1_may_14 (by decide) ?_
          refine va_put (D := D) (ci := 1) (v := .int 2) (ty := .int) (C := RX1) (T := TX1) (N := 5) hx hb hts iX1_may tyX1 tyX1_ok nmX1 hown hK hP hD hS 0 rfl rfl 4 (by decide) (hts (.fieldLink RX1 26 "TideHouseModel" "thrown" "I") (by decide +kernel)) (fun _ h9 => h9) rfl (by decide +kernel) rfl rfl (Nat.le_of_ble_eq_true rfl) dX1_may_18 (fun H locs hP hD hS => ?_)
          have hP : va_P D vwCl [(h, .inr (1, [.ref a1, .ref a2, .ref a3, .ref a4, .int 2]))] H := hP
          have hD : va_D A [(h, .inr (1, [.ref a1, .ref a2, .ref a3, .ref a4, .int 2]))] := hD
          refine lv_aload_n hx hb dX1_may_21 rfl (lv_at hl 0 rfl) ?_
          refine va_get (D := D) (ci := 1) (v := .int 2) (C := RX1) (T := TX1) (N := 5) hx hb hts iX1_may hown hK hP 0 rfl rfl 4 (by decide) (hts (.fieldLink RX1 26 "TideHouseModel" "thrown" "I") (by decide +kernel)) (fun _ h9 => h9) rfl dX1_may_22 ?_
          refine lv_if_ne (tgt := 32) hx hb dX1_may_25 (by decide) (fun c_5 => ?_) (fun c_5 => ?_)
          · skip
            refine lv_iconst (v := 0) hx hb dX1_may_32 (by decide) ?_
            refine tv_top (tv_b false) rfl ?_
            exact tv_zretW (tv_b01 _) hAe hx hb hr hP hK hD hS dX1_may_33 hlocks
          · exact absurd c_5 (by decide)
        · exact absurd rfl c_4
    | true =>
      have hl : lv_has ls 3 [(0, .ref h), (1, .int 1), (2, .int 1)] := hl
      refine lv_aload_n hx hb dX1_may_0 rfl (lv_at hl 0 rfl) ?_
      refine lv_iload_n hx hb dX1_may_1 rfl (lv_at hl 1 rfl) ?_
      refine lv_if_eq (tgt := 17) hx hb dX1_may_2 (by decide) (fun c_6 => ?_) (fun c_6 => ?_)
      · exact absurd c_6 (by decide)
      · skip
        refine lv_iload_n hx hb dX1_may_5 rfl (lv_at hl 2 rfl) ?_
        refine lv_if_eq (tgt := 13) hx hb dX1_may_6 (by decide) (fun c_7 => ?_) (fun c_7 => ?_)
        · exact absurd c_7 (by decide)
        · skip
          refine lv_iconst (v := 0) hx hb dX1_may_9 (by decide) ?_
          refine lv_goto (tgt := 18) hx hb dX1_may_10 (by decide) ?_
          refine va_put (D := D) (ci := 1) (v := .int 0) (ty := .int) (C := RX1) (T := TX1) (N := 5) hx hb hts iX1_may tyX1 tyX1_ok nmX1 hown hK hP hD hS 0 rfl rfl 4 (by decide) (hts (.fieldLink RX1 26 "TideHouseModel" "thrown" "I") (by decide +kernel)) (fun _ h9 => h9) rfl (by decide +kernel) rfl rfl (Nat.le_of_ble_eq_true rfl) dX1_may_18 (fun H locs hP hD hS => ?_)
          have hP : va_P D vwCl [(h, .inr (1, [.ref a1, .ref a2, .ref a3, .ref a4, .int 0]))] H := hP
          have hD : va_D A [(h, .inr (1, [.ref a1, .ref a2, .ref a3, .ref a4, .int 0]))] := hD
          refine lv_aload_n hx hb dX1_may_21 rfl (lv_at hl 0 rfl) ?_
          refine va_get (D := D) (ci := 1) (v := .int 0) (C := RX1) (T := TX1) (N := 5) hx hb hts iX1_may hown hK hP 0 rfl rfl 4 (by decide) (hts (.fieldLink RX1 26 "TideHouseModel" "thrown" "I") (by decide +kernel)) (fun _ h9 => h9) rfl dX1_may_22 ?_
          refine lv_if_ne (tgt := 32) hx hb dX1_may_25 (by decide) (fun c_8 => ?_) (fun c_8 => ?_)
          · exact absurd rfl c_8
          · skip
            refine lv_iconst (v := 1) hx hb dX1_may_28 (by decide) ?_
            refine lv_goto (tgt := 33) hx hb dX1_may_29 (by decide) ?_
            refine tv_top (tv_b true) rfl ?_
            exact tv_zretW (tv_b01 _) hAe hx hb hr hP hK hD hS dX1_may_33 hlocks
