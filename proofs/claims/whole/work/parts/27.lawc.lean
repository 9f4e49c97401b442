set_option maxHeartbeats 4000000 in
set_option maxRecDepth 100000 in
theorem k_must {p : Program} {e : Env} {s : State} {m : MethodId} {below : List Frame} {meth : Method} {c : Code} {l : Launch} (hT : l.stackTraces = false) {b L : Nat} {xs : Nat → Int32} (hL : L ≤ 2560) (C0 : lw_At p s m meth c b L xs) {D : va_G} {cI cZ cL : ClassId} (hK : va_K D vwCl (tv_ty cI cZ cL) s) (hE : tv_E (fun q : Nat => s.heap.size ≤ q) s s.heap) (hC : tv_C s) {Q : State → Prop} {cells slots : Nat} (hcs : cells + 1 ≤ room_1.cells) (hss : slots + 6 ≤ room_1.slots) {h a1 a2 a3 a4 g b1 b2 b3 b4 ol : Nat} {rd lv op nt : Nat → Int32} {th : Int32} {f : Nat → Int64} (hop : ∀ j, op j = 0 ∨ op j = 1) {i : Nat} (hi : i + 5 ≤ L) {H : Heap} {locs : List Loc} (hP : va_P D vwCl (tv_lw cI cZ cL h a1 a2 a3 a4 g b1 b2 b3 b4 ol (rd, lv, op, nt) (rd, lv, op, nt) th f) H) (hD : va_D (fun q : Nat => s.heap.size ≤ q) (tv_lw cI cZ cL h a1 a2 a3 a4 g b1 b2 b3 b4 ol (rd, lv, op, nt) (rd, lv, op, nt) th f)) (hS : va_S (fun q : Nat => s.heap.size ≤ q) s.heap H locs) {ls : Array Slot} (hl : lv_has ls 7 [(0, .ref b), (1, .ref h), (2, .ref g), (3, .ref ol), (4, .int (nI i))])
    (kk : ∀ (σ : TS) (th : Int32) (f : Nat → Int64) (H : Heap) (locs : List Loc) (ls : Array Slot), (∀ j, σ.2.2.1 j = 0 ∨ σ.2.2.1 j = 1) → va_P D vwCl (tv_lw cI cZ cL h a1 a2 a3 a4 g b1 b2 b3 b4 ol σ σ th f) H → va_D (fun q : Nat => s.heap.size ≤ q) (tv_lw cI cZ cL h a1 a2 a3 a4 g b1 b2 b3 b4 ol σ σ th f) → va_S (fun q : Nat => s.heap.size ≤ q) s.heap H locs → lv_has ls 7 [(0, .ref b), (1, .ref h), (2, .ref g), (3, .ref ol), (4, .int (nI i))] → W p l e room_1 s m #[Value.ref b] below meth c H locs (cells + 1) (slots + 6) Q (F0 m 1672 ls [])) : W p l e room_1 s m #[Value.ref b] below meth c H locs cells slots Q (F0 m 698 ls []) := by
  obtain ⟨hx, hb, hr, hml, hown, hts0, hX, hbl, hlocks, hgv⟩ := C0
  have hb : c.code = cL_law := hb
  have hown : s.vm.findClass RL = some m.cls := hown
  have hts : ∀ w ∈ wsL_law, w.before #[Value.ref b] s = true := fun w h => hts0 w (wsL_law_in w h)
  have hA : ∀ q : Nat, s.heap.size ≤ q → (fun q : Nat => s.heap.size ≤ q) q := fun _ h => h
  have hbA : ¬ (fun q : Nat => s.heap.size ≤ q) b := Nat.not_le.mpr hbl
  have hL31 : L < 2 ^ 31 := by omega
  refine lv_aload_n hx hb dL_law_698 rfl (lv_at hl 1 rfl) ?_
  refine lv_aload_n hx hb dL_law_699 rfl (lv_at hl 0 rfl) ?_
  refine lv_iload hx hb dL_law_700 (lv_at hl 4 rfl) ?_
  refine lv_iconst (v := 1) hx hb dL_law_702 (by decide) ?_
  refine lv_iadd hx hb dL_law_703 ?_
  refine tv_top (nI (i + 1)) (tv_ik i 1 rfl) ?_
  refine tv_sld hx hb hX hbl hbA hS (i := (i + 1)) (by omega) hL31 dL_law_704 ?_
  refine lv_aload_n hx hb dL_law_705 rfl (lv_at hl 0 rfl) ?_
  refine lv_iload hx hb dL_law_706 (lv_at hl 4 rfl) ?_
  refine lv_iconst (v := 2) hx hb dL_law_708 (by decide) ?_
  refine lv_iadd hx hb dL_law_709 ?_
  refine tv_top (nI (i + 2)) (tv_ik i 2 rfl) ?_
  refine tv_sld hx hb hX hbl hbA hS (i := (i + 2)) (by omega) hL31 dL_law_710 ?_
  refine lv_aload_n hx hb dL_law_711 rfl (lv_at hl 0 rfl) ?_
  refine lv_iload hx hb dL_law_712 (lv_at hl 4 rfl) ?_
  refine lv_iconst (v := 3) hx hb dL_law_714 (by decide) ?_
  refine lv_iadd hx hb dL_law_715 ?_
  refine tv_top (nI (i + 3)) (tv_ik i 3 rfl) ?_
  refine tv_sld hx hb hX hbl hbA hS (i := (i + 3)) (by omega) hL31 dL_law_716 ?_
  refine lv_aload_n hx hb dL_law_717 rfl (lv_at hl 0 rfl) ?_
  refine lv_iload hx hb dL_law_718 (lv_at hl 4 rfl) ?_
  refine lv_iconst (v := 4) hx hb dL_law_720 (by decide) ?_
  refine lv_iadd hx hb dL_law_721 ?_
  refine tv_top (nI (i + 4)) (tv_ik i 4 rfl) ?_
  refine tv_sld hx hb hX hbl hbA hS (i := (i + 4)) (by omega) hL31 dL_law_722 ?_
  refine lv_aload_n hx hb dL_law_723 rfl (lv_at hl 3 rfl) ?_
  obtain ⟨V, hV⟩ : ∃ V : TV, V = sp_must (xs (i + 1)) (xs (i + 2)) (xs (i + 3)) (xs (i + 4)) (rd, lv, op, nt) := ⟨_, rfl⟩
  have hop2 : ∀ j, V.2.2.2.2.1 j = 0 ∨ V.2.2.2.2.1 j = 1 := by rw [hV]; exact o_must hop
  refine tv_callH (D := D) (V := V) (R64 := R64i) (wf := tv_hw cI cZ cL h a1 a2 a3 a4 ol) (ws := tv_lw cI cZ cL h a1 a2 a3 a4 g b1 b2 b3 b4 ol (rd, lv, op, nt) (rd, lv, op, nt) th f) (wc := tv_hw cI cZ cL h a1 a2 a3 a4 ol (rd, lv, op, nt) f) (wr := tv_mw cI cZ g b1 b2 b3 b4 th (rd, lv, op, nt)) (wN := fun f => tv_lw cI cZ cL h a1 a2 a3 a4 g b1 b2 b3 b4 ol V.2.2 (rd, lv, op, nt) th f) (vx_runSW (As := [.ref h, .int (xs (i + 1)), .int (xs (i + 2)), .int (xs (i + 3)), .int (xs (i + 4)), .ref ol]) (rest := []) ⟨hx, hb, hml, hown, hts⟩ (c_L_must l hT D cI cZ cL h a1 a2 a3 a4 rd lv op nt ol f H.size (xs (i + 1)) (xs (i + 2)) (xs (i + 3)) (xs (i + 4)) V hV) (vx_cwSW 6 hts gL_law_L_must rfl rfl rfl (by decide +kernel) ⟨Nat.le_of_ble_eq_true rfl, Nat.le_of_ble_eq_true rfl⟩) (tv_preH hP hK hD hS hA hE hC [0, 1, 2, 3, 4, 10] rfl rfl rfl) rfl rfl hl.1 rfl (lv_room (Nat.le_of_ble_eq_true rfl)) dL_law_724 ⟨hcs, hss⟩) hP hD hS hA [0, 1, 2, 3, 4, 10] [5, 6, 7, 8, 9] rfl rfl rfl (by decide) [5, 6, 7, 8, 9, 0, 1, 2, 3, 4, 10] (fun _ => rfl) (fun _ => rfl) rfl (fun f H locs hf hP hD hS => ?_)
  refine lv_istore (lv' := [(5, .int V.1), (0, .ref b), (1, .ref h), (2, .ref g), (3, .ref ol), (4, .int (nI i))]) hx hb dL_law_727 hl (by decide) rfl (fun ls hl => ?_)
  refine lv_aload_n hx hb dL_law_729 rfl (lv_at hl 3 rfl) ?_
  refine lv_aload_n hx hb dL_law_730 rfl (lv_at hl 1 rfl) ?_
  refine lv_iload hx hb dL_law_731 (lv_at hl 5 rfl) ?_
  refine lv_iconst (v := 1) hx hb dL_law_733 (by decide) ?_
  refine lv_iadd hx hb dL_law_734 ?_
  refine tv_top (nI (i + 1)) (tv_ik i 1 rfl) ?_
  refine tv_sld hx hb hX hbl hbA hS (i := (i + 1)) (by omega) hL31 dL_law_735 ?_
  refine lv_aload_n hx hb dL_law_736 rfl (lv_at hl 1 rfl) ?_
  refine lv_iload hx hb dL_law_737 (lv_at hl 5 rfl) ?_
  refine lv_iconst (v := 2) hx hb dL_law_739 (by decide) ?_
  refine lv_iadd hx hb dL_law_740 ?_
  refine tv_top (nI (i + 2)) (tv_ik i 2 rfl) ?_
  refine tv_sld hx hb hX hbl hbA hS (i := (i + 2)) (by omega) hL31 dL_law_741 ?_
  refine lv_aload_n hx hb dL_law_742 rfl (lv_at hl 1 rfl) ?_
  refine lv_iload hx hb dL_law_743 (lv_at hl 5 rfl) ?_
  refine lv_iconst (v := 3) hx hb dL_law_745 (by decide) ?_
  refine lv_iadd hx hb dL_law_746 ?_
  refine tv_top (nI (i + 3)) (tv_ik i 3 rfl) ?_
  refine tv_sld hx hb hX hbl hbA hS (i := (i + 3)) (by omega) hL31 dL_law_747 ?_
  refine lv_aload_n hx hb dL_law_748 rfl (lv_at hl 1 rfl) ?_
  refine lv_iload hx hb dL_law_749 (lv_at hl 5 rfl) ?_
  refine lv_iconst (v := 4) hx hb dL_law_751 (by decide) ?_
  refine lv_iadd hx hb dL_law_752 ?_
  refine tv_top (nI (i + 4)) (tv_ik i 4 rfl) ?_
  refine tv_sld hx hb hX hbl hbA hS (i := (i + 4)) (by omega) hL31 dL_law_753 ?_
  refine tv_callM (D := D) (V := V) (wf := tv_mw cI cZ g b1 b2 b3 b4) (ws := tv_lw cI cZ cL h a1 a2 a3 a4 g b1 b2 b3 b4 ol V.2.2 (rd, lv, op, nt) th f) (wc := tv_mw cI cZ g b1 b2 b3 b4 th (rd, lv, op, nt)) (wr := [(h, .inr (0, [.ref a1, .ref a2, .ref a3, .ref a4])), (a1, .inl (cI, 96, .inl V.2.2.1)), (a2, .inl (cI, 8, .inl V.2.2.2.1)), (a3, .inl (cZ, 4, .inl V.2.2.2.2.1)), (a4, .inl (cI, 8, .inl V.2.2.2.2.2)), (ol, .inl (cL, 1, .inr (.inl f)))]) (wsN := tv_lw cI cZ cL h a1 a2 a3 a4 g b1 b2 b3 b4 ol V.2.2 V.2.2 V.1 f) (va_runV (As := [.int (xs (i + 1)), .int (xs (i + 2)), .int (xs (i + 3)), .int (xs (i + 4))]) (rest := []) ⟨hx, hb, hml, hown, hts⟩ (c_X1_must l D cI cZ cL g b1 b2 b3 b4 rd lv op nt th H.size (xs (i + 1)) (xs (i + 2)) (xs (i + 3)) (xs (i + 4)) V hV) (cwV 4 hts gL_law_X1_must rfl rfl rfl (by decide +kernel) ⟨Nat.le_of_ble_eq_true rfl, Nat.le_of_ble_eq_true rfl⟩) (tv_preDV hP hK hD [5, 6, 7, 8, 9] rfl rfl rfl rfl 5 rfl) rfl rfl hl.1 rfl (lv_room (Nat.le_of_ble_eq_true rfl)) dL_law_754 ⟨hcs, hss⟩) hP hD hS hA [5, 6, 7, 8, 9] [0, 1, 2, 3, 4, 10] rfl rfl rfl (by decide) [0, 1, 2, 3, 4, 6, 7, 8, 9, 10, 5] rfl rfl rfl rfl (fun r H locs hrv hP hD hS => ?_)
  refine lv_istore (lv' := [(6, .int r), (5, .int V.1), (0, .ref b), (1, .ref h), (2, .ref g), (3, .ref ol), (4, .int (nI i))]) hx hb dL_law_757 hl (by decide) rfl (fun ls hl => ?_)
  refine lv_aload_n hx hb dL_law_759 rfl (lv_at hl 4 rfl) ?_
  refine tv_callR (W.runV (As := []) (rest := []) ⟨hx, hb, hml, hown, hts⟩ (c_X1_thrown l D cI cZ cL g b1 b2 b3 b4 V.2.2.1 V.2.2.2.1 V.2.2.2.2.1 V.2.2.2.2.2 V.1) (cwV 0 hts gL_law_X1_thrown rfl rfl rfl (by decide +kernel) ⟨Nat.le_of_ble_eq_true rfl, Nat.le_of_ble_eq_true rfl⟩) (tv_preV (ws := tv_mw cI cZ g b1 b2 b3 b4 V.1 V.2.2) (hP.sub [5, 6, 7, 8, 9] rfl) hK rfl 0 rfl) rfl rfl hl.1 rfl (lv_room (Nat.le_of_ble_eq_true rfl)) dL_law_760 ⟨hcs, hss⟩) ?_
  refine lv_iload hx hb dL_law_763 (lv_at hl 1 rfl) ?_
  refine lv_icmp_eq (tgt := 770) hx hb dL_law_765 (by decide) (fun c_1 => ?_) (fun c_1 => ?_)
  · skip
    refine lv_iload hx hb dL_law_770 (lv_at hl 1 rfl) ?_
    refine lv_if_ne (tgt := 787) hx hb dL_law_772 (by decide) (fun c_2 => ?_) (fun c_2 => ?_)
    · skip
      refine lv_goto (tgt := 1672) hx hb dL_law_787 (by decide) ?_
      exact kk V.2.2 V.1 f H locs ls hop2 hP hD hS (lv_sub hl [2, 3, 4, 5, 6] rfl)
    · skip
      have hf0 := hf c_2
      have hr0 := hrv c_2
      refine lv_aload_n hx hb dL_law_775 rfl (lv_at hl 5 rfl) ?_
      refine lv_iconst (v := 0) hx hb dL_law_776 (by decide) ?_
      refine tv_lald0 (D := D) hx hb hK hP 10 rfl dL_law_777 ?_
      refine lv_iload hx hb dL_law_778 (lv_at hl 0 rfl) ?_
      refine lv_i2l hx hb dL_law_780 rfl ?_
      refine tv_lcmp0 hx hb (by rw [hf0, hr0]; rfl) dL_law_781 ?_
      refine lv_if_eq (tgt := 787) hx hb dL_law_782 (by decide) (fun c_3 => ?_) (fun c_3 => ?_)
      · skip
        refine lv_goto (tgt := 1672) hx hb dL_law_787 (by decide) ?_
        exact kk V.2.2 V.1 f H locs ls hop2 hP hD hS (lv_sub hl [2, 3, 4, 5, 6] rfl)
      · exact absurd rfl c_3
  · exact absurd rfl c_1
set_option maxHeartbeats 4000000 in
set_option maxRecDepth 100000 in
theorem k_watch {p : Program} {e : Env} {s : State} {m : MethodId} {below : List Frame} {meth : Method} {c : Code} {l : Launch} (hT : l.stackTraces = false) {b L : Nat} {xs : Nat → Int32} (hL : L ≤ 2560) (C0 : lw_At p s m meth c b L xs) {D : va_G} {cI cZ cL : ClassId} (hK : va_K D vwCl (tv_ty cI cZ cL) s) (hE : tv_E (fun q : Nat => s.heap.size ≤ q) s s.heap) (hC : tv_C s) {Q : State → Prop} {cells slots : Nat} (hcs : cells + 1 ≤ room_1.cells) (hss : slots + 6 ≤ room_1.slots) {h a1 a2 a3 a4 g b1 b2 b3 b4 ol : Nat} {rd lv op nt : Nat → Int32} {th : Int32} {f : Nat → Int64} (hop : ∀ j, op j = 0 ∨ op j = 1) {i : Nat} (hi : i + 5 ≤ L) {H : Heap} {locs : List Loc} (hP : va_P D vwCl (tv_lw cI cZ cL h a1 a2 a3 a4 g b1 b2 b3 b4 ol (rd, lv, op, nt) (rd, lv, op, nt) th f) H) (hD : va_D (fun q : Nat => s.heap.size ≤ q) (tv_lw cI cZ cL h a1 a2 a3 a4 g b1 b2 b3 b4 ol (rd, lv, op, nt) (rd, lv, op, nt) th f)) (hS : va_S (fun q : Nat => s.heap.size ≤ q) s.heap H locs) {ls : Array Slot} (hl : lv_has ls 7 [(0, .ref b), (1, .ref h), (2, .ref g), (3, .ref ol), (4, .int (nI i))])
    (kk : ∀ (σ : TS) (th : Int32) (f : Nat → Int64) (H : Heap) (locs : List Loc) (ls : Array Slot), (∀ j, σ.2.2.1 j = 0 ∨ σ.2.2.1 j = 1) → va_P D vwCl (tv_lw cI cZ cL h a1 a2 a3 a4 g b1 b2 b3 b4 ol σ σ th f) H → va_D (fun q : Nat => s.heap.size ≤ q) (tv_lw cI cZ cL h a1 a2 a3 a4 g b1 b2 b3 b4 ol σ σ th f) → va_S (fun q : Nat => s.heap.size ≤ q) s.heap H locs → lv_has ls 7 [(0, .ref b), (1, .ref h), (2, .ref g), (3, .ref ol), (4, .int (nI i))] → W p l e room_1 s m #[Value.ref b] below meth c H locs (cells + 1) (slots + 6) Q (F0 m 1672 ls [])) : W p l e room_1 s m #[Value.ref b] below meth c H locs cells slots Q (F0 m 790 ls []) := by
  obtain ⟨hx, hb, hr, hml, hown, hts0, hX, hbl, hlocks, hgv⟩ := C0
  have hb : c.code = cL_law := hb
  have hown : s.vm.findClass RL = some m.cls := hown
  have hts : ∀ w ∈ wsL_law, w.before #[Value.ref b] s = true := fun w h => hts0 w (wsL_law_in w h)
  have hA : ∀ q : Nat, s.heap.size ≤ q → (fun q : Nat => s.heap.size ≤ q) q := fun _ h => h
  have hbA : ¬ (fun q : Nat => s.heap.size ≤ q) b := Nat.not_le.mpr hbl
  have hL31 : L < 2 ^ 31 := by omega
  refine lv_aload_n hx hb dL_law_790 rfl (lv_at hl 1 rfl) ?_
  refine lv_aload_n hx hb dL_law_791 rfl (lv_at hl 0 rfl) ?_
  refine lv_iload hx hb dL_law_792 (lv_at hl 4 rfl) ?_
  refine lv_iconst (v := 1) hx hb dL_law_794 (by decide) ?_
  refine lv_iadd hx hb dL_law_795 ?_
  refine tv_top (nI (i + 1)) (tv_ik i 1 rfl) ?_
  refine tv_sld hx hb hX hbl hbA hS (i := (i + 1)) (by omega) hL31 dL_law_796 ?_
  refine lv_aload_n hx hb dL_law_797 rfl (lv_at hl 0 rfl) ?_
  refine lv_iload hx hb dL_law_798 (lv_at hl 4 rfl) ?_
  refine lv_iconst (v := 2) hx hb dL_law_800 (by decide) ?_
  refine lv_iadd hx hb dL_law_801 ?_
  refine tv_top (nI (i + 2)) (tv_ik i 2 rfl) ?_
  refine tv_sld hx hb hX hbl hbA hS (i := (i + 2)) (by omega) hL31 dL_law_802 ?_
  refine lv_aload_n hx hb dL_law_803 rfl (lv_at hl 0 rfl) ?_
  refine lv_iload hx hb dL_law_804 (lv_at hl 4 rfl) ?_
  refine lv_iconst (v := 3) hx hb dL_law_806 (by decide) ?_
  refine lv_iadd hx hb dL_law_807 ?_
  refine tv_top (nI (i + 3)) (tv_ik i 3 rfl) ?_
  refine tv_sld hx hb hX hbl hbA hS (i := (i + 3)) (by omega) hL31 dL_law_808 ?_
  refine lv_if_eq (tgt := 816) hx hb dL_law_809 (by decide) (fun c_1 => ?_) (fun c_1 => ?_)
  · skip
    refine lv_iconst (v := 0) hx hb dL_law_816 (by decide) ?_
    refine lv_aload_n hx hb dL_law_817 rfl (lv_at hl 3 rfl) ?_
    obtain ⟨V, hV⟩ : ∃ V : TV, V = sp_watch (xs (i + 1)) (xs (i + 2)) 0 (rd, lv, op, nt) := ⟨_, rfl⟩
    have hop2 : ∀ j, V.2.2.2.2.1 j = 0 ∨ V.2.2.2.2.1 j = 1 := by rw [hV]; exact o_watch hop
    refine tv_callH (D := D) (V := V) (R64 := R64i) (wf := tv_hw cI cZ cL h a1 a2 a3 a4 ol) (ws := tv_lw cI cZ cL h a1 a2 a3 a4 g b1 b2 b3 b4 ol (rd, lv, op, nt) (rd, lv, op, nt) th f) (wc := tv_hw cI cZ cL h a1 a2 a3 a4 ol (rd, lv, op, nt) f) (wr := tv_mw cI cZ g b1 b2 b3 b4 th (rd, lv, op, nt)) (wN := fun f => tv_lw cI cZ cL h a1 a2 a3 a4 g b1 b2 b3 b4 ol V.2.2 (rd, lv, op, nt) th f) (vx_runSW (As := [.ref h, .int (xs (i + 1)), .int (xs (i + 2)), .int 0, .ref ol]) (rest := []) ⟨hx, hb, hml, hown, hts⟩ (c_L_watch l hT D cI cZ cL h a1 a2 a3 a4 rd lv op nt ol f H.size (xs (i + 1)) (xs (i + 2)) 0 V hV hop) (vx_cwSW 5 hts gL_law_L_watch rfl rfl rfl (by decide +kernel) ⟨Nat.le_of_ble_eq_true rfl, Nat.le_of_ble_eq_true rfl⟩) (tv_preH hP hK hD hS hA hE hC [0, 1, 2, 3, 4, 10] rfl rfl rfl) rfl rfl hl.1 rfl (lv_room (Nat.le_of_ble_eq_true rfl)) dL_law_818 ⟨hcs, hss⟩) hP hD hS hA [0, 1, 2, 3, 4, 10] [5, 6, 7, 8, 9] rfl rfl rfl (by decide) [5, 6, 7, 8, 9, 0, 1, 2, 3, 4, 10] (fun _ => rfl) (fun _ => rfl) rfl (fun f H locs hf hP hD hS => ?_)
    refine lv_istore (lv' := [(5, .int V.1), (0, .ref b), (1, .ref h), (2, .ref g), (3, .ref ol), (4, .int (nI i))]) hx hb dL_law_821 hl (by decide) rfl (fun ls hl => ?_)
    refine lv_aload_n hx hb dL_law_823 rfl (lv_at hl 3 rfl) ?_
    refine lv_aload_n hx hb dL_law_824 rfl (lv_at hl 1 rfl) ?_
    refine lv_iload hx hb dL_law_825 (lv_at hl 5 rfl) ?_
    refine lv_iconst (v := 1) hx hb dL_law_827 (by decide) ?_
    refine lv_iadd hx hb dL_law_828 ?_
    refine tv_top (nI (i + 1)) (tv_ik i 1 rfl) ?_
    refine tv_sld hx hb hX hbl hbA hS (i := (i + 1)) (by omega) hL31 dL_law_829 ?_
    refine lv_aload_n hx hb dL_law_830 rfl (lv_at hl 1 rfl) ?_
    refine lv_iload hx hb dL_law_831 (lv_at hl 5 rfl) ?_
    refine lv_iconst (v := 2) hx hb dL_law_833 (by decide) ?_
    refine lv_iadd hx hb dL_law_834 ?_
    refine tv_top (nI (i + 2)) (tv_ik i 2 rfl) ?_
    refine tv_sld hx hb hX hbl hbA hS (i := (i + 2)) (by omega) hL31 dL_law_835 ?_
    refine lv_aload_n hx hb dL_law_836 rfl (lv_at hl 1 rfl) ?_
    refine lv_iload hx hb dL_law_837 (lv_at hl 5 rfl) ?_
    refine lv_iconst (v := 3) hx hb dL_law_839 (by decide) ?_
    refine lv_iadd hx hb dL_law_840 ?_
    refine tv_top (nI (i + 3)) (tv_ik i 3 rfl) ?_
    refine tv_sld hx hb hX hbl hbA hS (i := (i + 3)) (by omega) hL31 dL_law_841 ?_
    refine lv_if_eq (tgt := 849) hx hb dL_law_842 (by decide) (fun c_2 => ?_) (fun c_2 => ?_)
    · skip
      refine lv_iconst (v := 0) hx hb dL_law_849 (by decide) ?_
      refine tv_callM (D := D) (V := V) (wf := tv_mw cI cZ g b1 b2 b3 b4) (ws := tv_lw cI cZ cL h a1 a2 a3 a4 g b1 b2 b3 b4 ol V.2.2 (rd, lv, op, nt) th f) (wc := tv_mw cI cZ g b1 b2 b3 b4 th (rd, lv, op, nt)) (wr := [(h, .inr (0, [.ref a1, .ref a2, .ref a3, .ref a4])), (a1, .inl (cI, 96, .inl V.2.2.1)), (a2, .inl (cI, 8, .inl V.2.2.2.1)), (a3, .inl (cZ, 4, .inl V.2.2.2.2.1)), (a4, .inl (cI, 8, .inl V.2.2.2.2.2)), (ol, .inl (cL, 1, .inr (.inl f)))]) (wsN := tv_lw cI cZ cL h a1 a2 a3 a4 g b1 b2 b3 b4 ol V.2.2 V.2.2 V.1 f) (va_runV (As := [.int (xs (i + 1)), .int (xs (i + 2)), .int 0]) (rest := []) ⟨hx, hb, hml, hown, hts⟩ (c_X1_watch l D cI cZ cL g b1 b2 b3 b4 rd lv op nt th H.size (xs (i + 1)) (xs (i + 2)) 0 V hV) (cwV 3 hts gL_law_X1_watch rfl rfl rfl (by decide +kernel) ⟨Nat.le_of_ble_eq_true rfl, Nat.le_of_ble_eq_true rfl⟩) (tv_preDV hP hK hD [5, 6, 7, 8, 9] rfl rfl rfl rfl 5 rfl) rfl rfl hl.1 rfl (lv_room (Nat.le_of_ble_eq_true rfl)) dL_law_850 ⟨hcs, hss⟩) hP hD hS hA [5, 6, 7, 8, 9] [0, 1, 2, 3, 4, 10] rfl rfl rfl (by decide) [0, 1, 2, 3, 4, 6, 7, 8, 9, 10, 5] rfl rfl rfl rfl (fun r H locs hrv hP hD hS => ?_)
      refine lv_istore (lv' := [(6, .int r), (5, .int V.1), (0, .ref b), (1, .ref h), (2, .ref g), (3, .ref ol), (4, .int (nI i))]) hx hb dL_law_853 hl (by decide) rfl (fun ls hl => ?_)
      refine lv_aload_n hx hb dL_law_855 rfl (lv_at hl 4 rfl) ?_
      refine tv_callR (W.runV (As := []) (rest := []) ⟨hx, hb, hml, hown, hts⟩ (c_X1_thrown l D cI cZ cL g b1 b2 b3 b4 V.2.2.1 V.2.2.2.1 V.2.2.2.2.1 V.2.2.2.2.2 V.1) (cwV 0 hts gL_law_X1_thrown rfl rfl rfl (by decide +kernel) ⟨Nat.le_of_ble_eq_true rfl, Nat.le_of_ble_eq_true rfl⟩) (tv_preV (ws := tv_mw cI cZ g b1 b2 b3 b4 V.1 V.2.2) (hP.sub [5, 6, 7, 8, 9] rfl) hK rfl 0 rfl) rfl rfl hl.1 rfl (lv_room (Nat.le_of_ble_eq_true rfl)) dL_law_856 ⟨hcs, hss⟩) ?_
      refine lv_iload hx hb dL_law_859 (lv_at hl 1 rfl) ?_
      refine lv_icmp_eq (tgt := 866) hx hb dL_law_861 (by decide) (fun c_3 => ?_) (fun c_3 => ?_)
      · skip
        refine lv_iload hx hb dL_law_866 (lv_at hl 1 rfl) ?_
        refine lv_if_ne (tgt := 883) hx hb dL_law_868 (by decide) (fun c_4 => ?_) (fun c_4 => ?_)
        · skip
          refine lv_goto (tgt := 1672) hx hb dL_law_883 (by decide) ?_
          exact kk V.2.2 V.1 f H locs ls hop2 hP hD hS (lv_sub hl [2, 3, 4, 5, 6] rfl)
        · skip
          have hf0 := hf c_4
          have hr0 := hrv c_4
          refine lv_aload_n hx hb dL_law_871 rfl (lv_at hl 5 rfl) ?_
          refine lv_iconst (v := 0) hx hb dL_law_872 (by decide) ?_
          refine tv_lald0 (D := D) hx hb hK hP 10 rfl dL_law_873 ?_
          refine lv_iload hx hb dL_law_874 (lv_at hl 0 rfl) ?_
          refine lv_i2l hx hb dL_law_876 rfl ?_
          refine tv_lcmp0 hx hb (by rw [hf0, hr0]; rfl) dL_law_877 ?_
          refine lv_if_eq (tgt := 883) hx hb dL_law_878 (by decide) (fun c_5 => ?_) (fun c_5 => ?_)
          · skip
            refine lv_goto (tgt := 1672) hx hb dL_law_883 (by decide) ?_
            exact kk V.2.2 V.1 f H locs ls hop2 hP hD hS (lv_sub hl [2, 3, 4, 5, 6] rfl)
          · exact absurd rfl c_5
      · exact absurd rfl c_3
    · exact absurd c_1 c_2
  · skip
    refine lv_iconst (v := 1) hx hb dL_law_812 (by decide) ?_
    refine lv_goto (tgt := 817) hx hb dL_law_813 (by decide) ?_
    refine lv_aload_n hx hb dL_law_817 rfl (lv_at hl 3 rfl) ?_
    obtain ⟨V, hV⟩ : ∃ V : TV, V = sp_watch (xs (i + 1)) (xs (i + 2)) 1 (rd, lv, op, nt) := ⟨_, rfl⟩
    have hop2 : ∀ j, V.2.2.2.2.1 j = 0 ∨ V.2.2.2.2.1 j = 1 := by rw [hV]; exact o_watch hop
    refine tv_callH (D := D) (V := V) (R64 := R64i) (wf := tv_hw cI cZ cL h a1 a2 a3 a4 ol) (ws := tv_lw cI cZ cL h a1 a2 a3 a4 g b1 b2 b3 b4 ol (rd, lv, op, nt) (rd, lv, op, nt) th f) (wc := tv_hw cI cZ cL h a1 a2 a3 a4 ol (rd, lv, op, nt) f) (wr := tv_mw cI cZ g b1 b2 b3 b4 th (rd, lv, op, nt)) (wN := fun f => tv_lw cI cZ cL h a1 a2 a3 a4 g b1 b2 b3 b4 ol V.2.2 (rd, lv, op, nt) th f) (vx_runSW (As := [.ref h, .int (xs (i + 1)), .int (xs (i + 2)), .int 1, .ref ol]) (rest := []) ⟨hx, hb, hml, hown, hts⟩ (c_L_watch l hT D cI cZ cL h a1 a2 a3 a4 rd lv op nt ol f H.size (xs (i + 1)) (xs (i + 2)) 1 V hV hop) (vx_cwSW 5 hts gL_law_L_watch rfl rfl rfl (by decide +kernel) ⟨Nat.le_of_ble_eq_true rfl, Nat.le_of_ble_eq_true rfl⟩) (tv_preH hP hK hD hS hA hE hC [0, 1, 2, 3, 4, 10] rfl rfl rfl) rfl rfl hl.1 rfl (lv_room (Nat.le_of_ble_eq_true rfl)) dL_law_818 ⟨hcs, hss⟩) hP hD hS hA [0, 1, 2, 3, 4, 10] [5, 6, 7, 8, 9] rfl rfl rfl (by decide) [5, 6, 7, 8, 9, 0, 1, 2, 3, 4, 10] (fun _ => rfl) (fun _ => rfl) rfl (fun f H locs hf hP hD hS => ?_)
    refine lv_istore (lv' := [(5, .int V.1), (0, .ref b), (1, .ref h), (2, .ref g), (3, .ref ol), (4, .int (nI i))]) hx hb dL_law_821 hl (by decide) rfl (fun ls hl => ?_)
    refine lv_aload_n hx hb dL_law_823 rfl (lv_at hl 3 rfl) ?_
    refine lv_aload_n hx hb dL_law_824 rfl (lv_at hl 1 rfl) ?_
    refine lv_iload hx hb dL_law_825 (lv_at hl 5 rfl) ?_
    refine lv_iconst (v := 1) hx hb dL_law_827 (by decide) ?_
    refine lv_iadd hx hb dL_law_828 ?_
    refine tv_top (nI (i + 1)) (tv_ik i 1 rfl) ?_
    refine tv_sld hx hb hX hbl hbA hS (i := (i + 1)) (by omega) hL31 dL_law_829 ?_
    refine lv_aload_n hx hb dL_law_830 rfl (lv_at hl 1 rfl) ?_
    refine lv_iload hx hb dL_law_831 (lv_at hl 5 rfl) ?_
    refine lv_iconst (v := 2) hx hb dL_law_833 (by decide) ?_
    refine lv_iadd hx hb dL_law_834 ?_
    refine tv_top (nI (i + 2)) (tv_ik i 2 rfl) ?_
    refine tv_sld hx hb hX hbl hbA hS (i := (i + 2)) (by omega) hL31 dL_law_835 ?_
    refine lv_aload_n hx hb dL_law_836 rfl (lv_at hl 1 rfl) ?_
    refine lv_iload hx hb dL_law_837 (lv_at hl 5 rfl) ?_
    refine lv_iconst (v := 3) hx hb dL_law_839 (by decide) ?_
    refine lv_iadd hx hb dL_law_840 ?_
    refine tv_top (nI (i + 3)) (tv_ik i 3 rfl) ?_
    refine tv_sld hx hb hX hbl hbA hS (i := (i + 3)) (by omega) hL31 dL_law_841 ?_
    refine lv_if_eq (tgt := 849) hx hb dL_law_842 (by decide) (fun c_6 => ?_) (fun c_6 => ?_)
    · exact absurd c_6 c_1
    · skip
      refine lv_iconst (v := 1) hx hb dL_law_845 (by decide) ?_
      refine lv_goto (tgt := 850) hx hb dL_law_846 (by decide) ?_
      refine tv_callM (D := D) (V := V) (wf := tv_mw cI cZ g b1 b2 b3 b4) (ws := tv_lw cI cZ cL h a1 a2 a3 a4 g b1 b2 b3 b4 ol V.2.2 (rd, lv, op, nt) th f) (wc := tv_mw cI cZ g b1 b2 b3 b4 th (rd, lv, op, nt)) (wr := [(h, .inr (0, [.ref a1, .ref a2, .ref a3, .ref a4])), (a1, .inl (cI, 96, .inl V.2.2.1)), (a2, .inl (cI, 8, .inl V.2.2.2.1)), (a3, .inl (cZ, 4, .inl V.2.2.2.2.1)), (a4, .inl (cI, 8, .inl V.2.2.2.2.2)), (ol, .inl (cL, 1, .inr (.inl f)))]) (wsN := tv_lw cI cZ cL h a1 a2 a3 a4 g b1 b2 b3 b4 ol V.2.2 V.2.2 V.1 f) (va_runV (As := [.int (xs (i + 1)), .int (xs (i + 2)), .int 1]) (rest := []) ⟨hx, hb, hml, hown, hts⟩ (c_X1_watch l D cI cZ cL g b1 b2 b3 b4 rd lv op nt th H.size (xs (i + 1)) (xs (i + 2)) 1 V hV) (cwV 3 hts gL_law_X1_watch rfl rfl rfl (by decide +kernel) ⟨Nat.le_of_ble_eq_true rfl, Nat.le_of_ble_eq_true rfl⟩) (tv_preDV hP hK hD [5, 6, 7, 8, 9] rfl rfl rfl rfl 5 rfl) rfl rfl hl.1 rfl (lv_room (Nat.le_of_ble_eq_true rfl)) dL_law_850 ⟨hcs, hss⟩) hP hD hS hA [5, 6, 7, 8, 9] [0, 1, 2, 3, 4, 10] rfl rfl rfl (by decide) [0, 1, 2, 3, 4, 6, 7, 8, 9, 10, 5] rfl rfl rfl rfl (fun r H locs hrv hP hD hS => ?_)
      refine lv_istore (lv' := [(6, .int r), (5, .int V.1), (0, .ref b), (1, .ref h), (2, .ref g), (3, .ref ol), (4, .int (nI i))]) hx hb dL_law_853 hl (by decide) rfl (fun ls hl => ?_)
      refine lv_aload_n hx hb dL_law_855 rfl (lv_at hl 4 rfl) ?_
      refine tv_callR (W.runV (As := []) (rest := []) ⟨hx, hb, hml, hown, hts⟩ (c_X1_thrown l D cI cZ cL g b1 b2 b3 b4 V.2.2.1 V.2.2.2.1 V.2.2.2.2.1 V.2.2.2.2.2 V.1) (cwV 0 hts gL_law_X1_thrown rfl rfl rfl (by decide +kernel) ⟨Nat.le_of_ble_eq_true rfl, Nat.le_of_ble_eq_true rfl⟩) (tv_preV (ws := tv_mw cI cZ g b1 b2 b3 b4 V.1 V.2.2) (hP.sub [5, 6, 7, 8, 9] rfl) hK rfl 0 rfl) rfl rfl hl.1 rfl (lv_room (Nat.le_of_ble_eq_true rfl)) dL_law_856 ⟨hcs, hss⟩) ?_
      refine lv_iload hx hb dL_law_859 (lv_at hl 1 rfl) ?_
      refine lv_icmp_eq (tgt := 866) hx hb dL_law_861 (by decide) (fun c_7 => ?_) (fun c_7 => ?_)
      · skip
        refine lv_iload hx hb dL_law_866 (lv_at hl 1 rfl) ?_
        refine lv_if_ne (tgt := 883) hx hb dL_law_868 (by decide) (fun c_8 => ?_) (fun c_8 => ?_)
        · skip
          refine lv_goto (tgt := 1672) hx hb dL_law_883 (by decide) ?_
          exact kk V.2.2 V.1 f H locs ls hop2 hP hD hS (lv_sub hl [2, 3, 4, 5, 6] rfl)
        · skip
          have hf0 := hf c_8
          have hr0 := hrv c_8
          refine lv_aload_n hx hb dL_law_871 rfl (lv_at hl 5 rfl) ?_
          refine lv_iconst (v := 0) hx hb dL_law_872 (by decide) ?_
          refine tv_lald0 (D := D) hx hb hK hP 10 rfl dL_law_873 ?_
          refine lv_iload hx hb dL_law_874 (lv_at hl 0 rfl) ?_
          refine lv_i2l hx hb dL_law_876 rfl ?_
          refine tv_lcmp0 hx hb (by rw [hf0, hr0]; rfl) dL_law_877 ?_
          refine lv_if_eq (tgt := 883) hx hb dL_law_878 (by decide) (fun c_9 => ?_) (fun c_9 => ?_)
          · skip
            refine lv_goto (tgt := 1672) hx hb dL_law_883 (by decide) ?_
            exact kk V.2.2 V.1 f H locs ls hop2 hP hD hS (lv_sub hl [2, 3, 4, 5, 6] rfl)
          · exact absurd rfl c_9
      · exact absurd rfl c_7
set_option maxHeartbeats 4000000 in
set_option maxRecDepth 100000 in
theorem k_isOpen {p : Program} {e : Env} {s : State} {m : MethodId} {below : List Frame} {meth : Method} {c : Code} {l : Launch} (hT : l.stackTraces = false) {b L : Nat} {xs : Nat → Int32} (hL : L ≤ 2560) (C0 : lw_At p s m meth c b L xs) {D : va_G} {cI cZ cL : ClassId} (hK : va_K D vwCl (tv_ty cI cZ cL) s) (hE : tv_E (fun q : Nat => s.heap.size ≤ q) s s.heap) (hC : tv_C s) {Q : State → Prop} {cells slots : Nat} (hcs : cells + 1 ≤ room_1.cells) (hss : slots + 6 ≤ room_1.slots) {h a1 a2 a3 a4 g b1 b2 b3 b4 ol : Nat} {rd lv op nt : Nat → Int32} {th : Int32} {f : Nat → Int64} (hop : ∀ j, op j = 0 ∨ op j = 1) {i : Nat} (hi : i + 5 ≤ L) {H : Heap} {locs : List Loc} (hP : va_P D vwCl (tv_lw cI cZ cL h a1 a2 a3 a4 g b1 b2 b3 b4 ol (rd, lv, op, nt) (rd, lv, op, nt) th f) H) (hD : va_D (fun q : Nat => s.heap.size ≤ q) (tv_lw cI cZ cL h a1 a2 a3 a4 g b1 b2 b3 b4 ol (rd, lv, op, nt) (rd, lv, op, nt) th f)) (hS : va_S (fun q : Nat => s.heap.size ≤ q) s.heap H locs) {ls : Array Slot} (hl : lv_has ls 7 [(0, .ref b), (1, .ref h), (2, .ref g), (3, .ref ol), (4, .int (nI i))])
    (kk : ∀ (σ : TS) (th : Int32) (f : Nat → Int64) (H : Heap) (locs : List Loc) (ls : Array Slot), (∀ j, σ.2.2.1 j = 0 ∨ σ.2.2.1 j = 1) → va_P D vwCl (tv_lw cI cZ cL h a1 a2 a3 a4 g b1 b2 b3 b4 ol σ σ th f) H → va_D (fun q : Nat => s.heap.size ≤ q) (tv_lw cI cZ cL h a1 a2 a3 a4 g b1 b2 b3 b4 ol σ σ th f) → va_S (fun q : Nat => s.heap.size ≤ q) s.heap H locs → lv_has ls 7 [(0, .ref b), (1, .ref h), (2, .ref g), (3, .ref ol), (4, .int (nI i))] → W p l e room_1 s m #[Value.ref b] below meth c H locs (cells + 1) (slots + 6) Q (F0 m 1672 ls [])) : W p l e room_1 s m #[Value.ref b] below meth c H locs cells slots Q (F0 m 886 ls []) := by
  obtain ⟨hx, hb, hr, hml, hown, hts0, hX, hbl, hlocks, hgv⟩ := C0
  have hb : c.code = cL_law := hb
  have hown : s.vm.findClass RL = some m.cls := hown
  have hts : ∀ w ∈ wsL_law, w.before #[Value.ref b] s = true := fun w h => hts0 w (wsL_law_in w h)
  have hA : ∀ q : Nat, s.heap.size ≤ q → (fun q : Nat => s.heap.size ≤ q) q := fun _ h => h
  have hbA : ¬ (fun q : Nat => s.heap.size ≤ q) b := Nat.not_le.mpr hbl
  have hL31 : L < 2 ^ 31 := by omega
  refine lv_aload_n hx hb dL_law_886 rfl (lv_at hl 1 rfl) ?_
  refine lv_aload_n hx hb dL_law_887 rfl (lv_at hl 0 rfl) ?_
  refine lv_iload hx hb dL_law_888 (lv_at hl 4 rfl) ?_
  refine lv_iconst (v := 1) hx hb dL_law_890 (by decide) ?_
  refine lv_iadd hx hb dL_law_891 ?_
  refine tv_top (nI (i + 1)) (tv_ik i 1 rfl) ?_
  refine tv_sld hx hb hX hbl hbA hS (i := (i + 1)) (by omega) hL31 dL_law_892 ?_
  refine lv_aload_n hx hb dL_law_893 rfl (lv_at hl 3 rfl) ?_
  obtain ⟨V, hV⟩ : ∃ V : TV, V = sp_isOpen (xs (i + 1)) (rd, lv, op, nt) := ⟨_, rfl⟩
  have hop2 : ∀ j, V.2.2.2.2.1 j = 0 ∨ V.2.2.2.2.1 j = 1 := by rw [hV]; exact o_isOpen hop
  refine tv_callH (D := D) (V := V) (R64 := R64z) (wf := tv_hw cI cZ cL h a1 a2 a3 a4 ol) (ws := tv_lw cI cZ cL h a1 a2 a3 a4 g b1 b2 b3 b4 ol (rd, lv, op, nt) (rd, lv, op, nt) th f) (wc := tv_hw cI cZ cL h a1 a2 a3 a4 ol (rd, lv, op, nt) f) (wr := tv_mw cI cZ g b1 b2 b3 b4 th (rd, lv, op, nt)) (wN := fun f => tv_lw cI cZ cL h a1 a2 a3 a4 g b1 b2 b3 b4 ol V.2.2 (rd, lv, op, nt) th f) (vx_runSW (As := [.ref h, .int (xs (i + 1)), .ref ol]) (rest := []) ⟨hx, hb, hml, hown, hts⟩ (c_L_isOpen l hT D cI cZ cL h a1 a2 a3 a4 rd lv op nt ol f H.size (xs (i + 1)) V hV hop) (vx_cwSW 3 hts gL_law_L_isOpen rfl rfl rfl (by decide +kernel) ⟨Nat.le_of_ble_eq_true rfl, Nat.le_of_ble_eq_true rfl⟩) (tv_preH hP hK hD hS hA hE hC [0, 1, 2, 3, 4, 10] rfl rfl rfl) rfl rfl hl.1 rfl (lv_room (Nat.le_of_ble_eq_true rfl)) dL_law_894 ⟨hcs, hss⟩) hP hD hS hA [0, 1, 2, 3, 4, 10] [5, 6, 7, 8, 9] rfl rfl rfl (by decide) [5, 6, 7, 8, 9, 0, 1, 2, 3, 4, 10] (fun _ => rfl) (fun _ => rfl) rfl (fun f H locs hf hP hD hS => ?_)
  refine lv_istore (lv' := [(5, .int V.1), (0, .ref b), (1, .ref h), (2, .ref g), (3, .ref ol), (4, .int (nI i))]) hx hb dL_law_897 hl (by decide) rfl (fun ls hl => ?_)
  refine lv_aload_n hx hb dL_law_899 rfl (lv_at hl 3 rfl) ?_
  refine lv_aload_n hx hb dL_law_900 rfl (lv_at hl 1 rfl) ?_
  refine lv_iload hx hb dL_law_901 (lv_at hl 5 rfl) ?_
  refine lv_iconst (v := 1) hx hb dL_law_903 (by decide) ?_
  refine lv_iadd hx hb dL_law_904 ?_
  refine tv_top (nI (i + 1)) (tv_ik i 1 rfl) ?_
  refine tv_sld hx hb hX hbl hbA hS (i := (i + 1)) (by omega) hL31 dL_law_905 ?_
  refine tv_callM (D := D) (V := V) (wf := tv_mw cI cZ g b1 b2 b3 b4) (ws := tv_lw cI cZ cL h a1 a2 a3 a4 g b1 b2 b3 b4 ol V.2.2 (rd, lv, op, nt) th f) (wc := tv_mw cI cZ g b1 b2 b3 b4 th (rd, lv, op, nt)) (wr := [(h, .inr (0, [.ref a1, .ref a2, .ref a3, .ref a4])), (a1, .inl (cI, 96, .inl V.2.2.1)), (a2, .inl (cI, 8, .inl V.2.2.2.1)), (a3, .inl (cZ, 4, .inl V.2.2.2.2.1)), (a4, .inl (cI, 8, .inl V.2.2.2.2.2)), (ol, .inl (cL, 1, .inr (.inl f)))]) (wsN := tv_lw cI cZ cL h a1 a2 a3 a4 g b1 b2 b3 b4 ol V.2.2 V.2.2 V.1 f) (va_runV (As := [.int (xs (i + 1))]) (rest := []) ⟨hx, hb, hml, hown, hts⟩ (c_X1_isOpen l D cI cZ cL g b1 b2 b3 b4 rd lv op nt th H.size (xs (i + 1)) V hV hop) (cwV 1 hts gL_law_X1_isOpen rfl rfl rfl (by decide +kernel) ⟨Nat.le_of_ble_eq_true rfl, Nat.le_of_ble_eq_true rfl⟩) (tv_preDV hP hK hD [5, 6, 7, 8, 9] rfl rfl rfl rfl 5 rfl) rfl rfl hl.1 rfl (lv_room (Nat.le_of_ble_eq_true rfl)) dL_law_906 ⟨hcs, hss⟩) hP hD hS hA [5, 6, 7, 8, 9] [0, 1, 2, 3, 4, 10] rfl rfl rfl (by decide) [0, 1, 2, 3, 4, 6, 7, 8, 9, 10, 5] rfl rfl rfl rfl (fun r H locs hrv hP hD hS => ?_)
  refine lv_istore (lv' := [(6, .int r), (5, .int V.1), (0, .ref b), (1, .ref h), (2, .ref g), (3, .ref ol), (4, .int (nI i))]) hx hb dL_law_909 hl (by decide) rfl (fun ls hl => ?_)
  refine lv_aload_n hx hb dL_law_911 rfl (lv_at hl 4 rfl) ?_
  refine tv_callR (W.runV (As := []) (rest := []) ⟨hx, hb, hml, hown, hts⟩ (c_X1_thrown l D cI cZ cL g b1 b2 b3 b4 V.2.2.1 V.2.2.2.1 V.2.2.2.2.1 V.2.2.2.2.2 V.1) (cwV 0 hts gL_law_X1_thrown rfl rfl rfl (by decide +kernel) ⟨Nat.le_of_ble_eq_true rfl, Nat.le_of_ble_eq_true rfl⟩) (tv_preV (ws := tv_mw cI cZ g b1 b2 b3 b4 V.1 V.2.2) (hP.sub [5, 6, 7, 8, 9] rfl) hK rfl 0 rfl) rfl rfl hl.1 rfl (lv_room (Nat.le_of_ble_eq_true rfl)) dL_law_912 ⟨hcs, hss⟩) ?_
  refine lv_iload hx hb dL_law_915 (lv_at hl 1 rfl) ?_
  refine lv_icmp_eq (tgt := 922) hx hb dL_law_917 (by decide) (fun c_1 => ?_) (fun c_1 => ?_)
  · skip
    refine lv_iload hx hb dL_law_922 (lv_at hl 1 rfl) ?_
    refine lv_if_ne (tgt := 946) hx hb dL_law_924 (by decide) (fun c_2 => ?_) (fun c_2 => ?_)
    · skip
      refine lv_goto (tgt := 1672) hx hb dL_law_946 (by decide) ?_
      exact kk V.2.2 V.1 f H locs ls hop2 hP hD hS (lv_sub hl [2, 3, 4, 5, 6] rfl)
    · skip
      have hf0 := hf c_2
      have hr0 := hrv c_2
      refine lv_aload_n hx hb dL_law_927 rfl (lv_at hl 5 rfl) ?_
      refine lv_iconst (v := 0) hx hb dL_law_928 (by decide) ?_
      refine tv_lald0 (D := D) hx hb hK hP 10 rfl dL_law_929 ?_
      refine lv_iload hx hb dL_law_930 (lv_at hl 0 rfl) ?_
      refine lv_if_eq (tgt := 939) hx hb dL_law_932 (by decide) (fun c_3 => ?_) (fun c_3 => ?_)
      · skip
        refine lv_lconst (v := 0) hx hb dL_law_939 (by decide) ?_
        refine tv_lcmp0 hx hb (by rw [hf0, R64z, if_pos (hr0.symm.trans c_3)]) dL_law_940 ?_
        refine lv_if_eq (tgt := 946) hx hb dL_law_941 (by decide) (fun c_4 => ?_) (fun c_4 => ?_)
        · skip
          refine lv_goto (tgt := 1672) hx hb dL_law_946 (by decide) ?_
          exact kk V.2.2 V.1 f H locs ls hop2 hP hD hS (lv_sub hl [2, 3, 4, 5, 6] rfl)
        · exact absurd rfl c_4
      · skip
        refine lv_lconst (v := 1) hx hb dL_law_935 (by decide) ?_
        refine lv_goto (tgt := 940) hx hb dL_law_936 (by decide) ?_
        refine tv_lcmp0 hx hb (by rw [hf0, R64z, if_neg (fun q => c_3 (hr0.trans q))]) dL_law_940 ?_
        refine lv_if_eq (tgt := 946) hx hb dL_law_941 (by decide) (fun c_5 => ?_) (fun c_5 => ?_)
        · skip
          refine lv_goto (tgt := 1672) hx hb dL_law_946 (by decide) ?_
          exact kk V.2.2 V.1 f H locs ls hop2 hP hD hS (lv_sub hl [2, 3, 4, 5, 6] rfl)
        · exact absurd rfl c_5
  · exact absurd rfl c_1
set_option maxHeartbeats 4000000 in
set_option maxRecDepth 100000 in
theorem k_climb {p : Program} {e : Env} {s : State} {m : MethodId} {below : List Frame} {meth : Method} {c : Code} {l : Launch} (hT : l.stackTraces = false) {b L : Nat} {xs : Nat → Int32} (hL : L ≤ 2560) (C0 : lw_At p s m meth c b L xs) {D : va_G} {cI cZ cL : ClassId} (hK : va_K D vwCl (tv_ty cI cZ cL) s) (hE : tv_E (fun q : Nat => s.heap.size ≤ q) s s.heap) (hC : tv_C s) {Q : State → Prop} {cells slots : Nat} (hcs : cells + 1 ≤ room_1.cells) (hss : slots + 6 ≤ room_1.slots) {h a1 a2 a3 a4 g b1 b2 b3 b4 ol : Nat} {rd lv op nt : Nat → Int32} {th : Int32} {f : Nat → Int64} (hop : ∀ j, op j = 0 ∨ op j = 1) {i : Nat} (hi : i + 5 ≤ L) {H : Heap} {locs : List Loc} (hP : va_P D vwCl (tv_lw cI cZ cL h a1 a2 a3 a4 g b1 b2 b3 b4 ol (rd, lv, op, nt) (rd, lv, op, nt) th f) H) (hD : va_D (fun q : Nat => s.heap.size ≤ q) (tv_lw cI cZ cL h a1 a2 a3 a4 g b1 b2 b3 b4 ol (rd, lv, op, nt) (rd, lv, op, nt) th f)) (hS : va_S (fun q : Nat => s.heap.size ≤ q) s.heap H locs) {ls : Array Slot} (hl : lv_has ls 7 [(0, .ref b), (1, .ref h), (2, .ref g), (3, .ref ol), (4, .int (nI i))])
    (kk : ∀ (σ : TS) (th : Int32) (f : Nat → Int64) (H : Heap) (locs : List Loc) (ls : Array Slot), (∀ j, σ.2.2.1 j = 0 ∨ σ.2.2.1 j = 1) → va_P D vwCl (tv_lw cI cZ cL h a1 a2 a3 a4 g b1 b2 b3 b4 ol σ σ th f) H → va_D (fun q : Nat => s.heap.size ≤ q) (tv_lw cI cZ cL h a1 a2 a3 a4 g b1 b2 b3 b4 ol σ σ th f) → va_S (fun q : Nat => s.heap.size ≤ q) s.heap H locs → lv_has ls 7 [(0, .ref b), (1, .ref h), (2, .ref g), (3, .ref ol), (4, .int (nI i))] → W p l e room_1 s m #[Value.ref b] below meth c H locs (cells + 1) (slots + 6) Q (F0 m 1672 ls [])) : W p l e room_1 s m #[Value.ref b] below meth c H locs cells slots Q (F0 m 949 ls []) := by
  obtain ⟨hx, hb, hr, hml, hown, hts0, hX, hbl, hlocks, hgv⟩ := C0
  have hb : c.code = cL_law := hb
  have hown : s.vm.findClass RL = some m.cls := hown
  have hts : ∀ w ∈ wsL_law, w.before #[Value.ref b] s = true := fun w h => hts0 w (wsL_law_in w h)
  have hA : ∀ q : Nat, s.heap.size ≤ q → (fun q : Nat => s.heap.size ≤ q) q := fun _ h => h
  have hbA : ¬ (fun q : Nat => s.heap.size ≤ q) b := Nat.not_le.mpr hbl
  have hL31 : L < 2 ^ 31 := by omega
  refine lv_aload_n hx hb dL_law_949 rfl (lv_at hl 1 rfl) ?_
  refine lv_aload_n hx hb dL_law_950 rfl (lv_at hl 0 rfl) ?_
  refine lv_iload hx hb dL_law_951 (lv_at hl 4 rfl) ?_
  refine lv_iconst (v := 1) hx hb dL_law_953 (by decide) ?_
  refine lv_iadd hx hb dL_law_954 ?_
  refine tv_top (nI (i + 1)) (tv_ik i 1 rfl) ?_
  refine tv_sld hx hb hX hbl hbA hS (i := (i + 1)) (by omega) hL31 dL_law_955 ?_
  refine lv_aload_n hx hb dL_law_956 rfl (lv_at hl 0 rfl) ?_
  refine lv_iload hx hb dL_law_957 (lv_at hl 4 rfl) ?_
  refine lv_iconst (v := 2) hx hb dL_law_959 (by decide) ?_
  refine lv_iadd hx hb dL_law_960 ?_
  refine tv_top (nI (i + 2)) (tv_ik i 2 rfl) ?_
  refine tv_sld hx hb hX hbl hbA hS (i := (i + 2)) (by omega) hL31 dL_law_961 ?_
  refine lv_aload_n hx hb dL_law_962 rfl (lv_at hl 0 rfl) ?_
  refine lv_iload hx hb dL_law_963 (lv_at hl 4 rfl) ?_
  refine lv_iconst (v := 3) hx hb dL_law_965 (by decide) ?_
  refine lv_iadd hx hb dL_law_966 ?_
  refine tv_top (nI (i + 3)) (tv_ik i 3 rfl) ?_
  refine tv_sld hx hb hX hbl hbA hS (i := (i + 3)) (by omega) hL31 dL_law_967 ?_
  refine lv_aload_n hx hb dL_law_968 rfl (lv_at hl 3 rfl) ?_
  obtain ⟨V, hV⟩ : ∃ V : TV, V = sp_climb (xs (i + 1)) (xs (i + 2)) (xs (i + 3)) (rd, lv, op, nt) := ⟨_, rfl⟩
  have hop2 : ∀ j, V.2.2.2.2.1 j = 0 ∨ V.2.2.2.2.1 j = 1 := by rw [hV]; exact o_climb hop
  refine tv_callH (D := D) (V := V) (R64 := R64i) (wf := tv_hw cI cZ cL h a1 a2 a3 a4 ol) (ws := tv_lw cI cZ cL h a1 a2 a3 a4 g b1 b2 b3 b4 ol (rd, lv, op, nt) (rd, lv, op, nt) th f) (wc := tv_hw cI cZ cL h a1 a2 a3 a4 ol (rd, lv, op, nt) f) (wr := tv_mw cI cZ g b1 b2 b3 b4 th (rd, lv, op, nt)) (wN := fun f => tv_lw cI cZ cL h a1 a2 a3 a4 g b1 b2 b3 b4 ol V.2.2 (rd, lv, op, nt) th f) (vx_runSW (As := [.ref h, .int (xs (i + 1)), .int (xs (i + 2)), .int (xs (i + 3)), .ref ol]) (rest := []) ⟨hx, hb, hml, hown, hts⟩ (c_L_climb l hT D cI cZ cL h a1 a2 a3 a4 rd lv op nt ol f H.size (xs (i + 1)) (xs (i + 2)) (xs (i + 3)) V hV) (vx_cwSW 5 hts gL_law_L_climb rfl rfl rfl (by decide +kernel) ⟨Nat.le_of_ble_eq_true rfl, Nat.le_of_ble_eq_true rfl⟩) (tv_preH hP hK hD hS hA hE hC [0, 1, 2, 3, 4, 10] rfl rfl rfl) rfl rfl hl.1 rfl (lv_room (Nat.le_of_ble_eq_true rfl)) dL_law_969 ⟨hcs, hss⟩) hP hD hS hA [0, 1, 2, 3, 4, 10] [5, 6, 7, 8, 9] rfl rfl rfl (by decide) [5, 6, 7, 8, 9, 0, 1, 2, 3, 4, 10] (fun _ => rfl) (fun _ => rfl) rfl (fun f H locs hf hP hD hS => ?_)
  refine lv_istore (lv' := [(5, .int V.1), (0, .ref b), (1, .ref h), (2, .ref g), (3, .ref ol), (4, .int (nI i))]) hx hb dL_law_972 hl (by decide) rfl (fun ls hl => ?_)
  refine lv_aload_n hx hb dL_law_974 rfl (lv_at hl 3 rfl) ?_
  refine lv_aload_n hx hb dL_law_975 rfl (lv_at hl 1 rfl) ?_
  refine lv_iload hx hb dL_law_976 (lv_at hl 5 rfl) ?_
  refine lv_iconst (v := 1) hx hb dL_law_978 (by decide) ?_
  refine lv_iadd hx hb dL_law_979 ?_
  refine tv_top (nI (i + 1)) (tv_ik i 1 rfl) ?_
  refine tv_sld hx hb hX hbl hbA hS (i := (i + 1)) (by omega) hL31 dL_law_980 ?_
  refine lv_aload_n hx hb dL_law_981 rfl (lv_at hl 1 rfl) ?_
  refine lv_iload hx hb dL_law_982 (lv_at hl 5 rfl) ?_
  refine lv_iconst (v := 2) hx hb dL_law_984 (by decide) ?_
  refine lv_iadd hx hb dL_law_985 ?_
  refine tv_top (nI (i + 2)) (tv_ik i 2 rfl) ?_
  refine tv_sld hx hb hX hbl hbA hS (i := (i + 2)) (by omega) hL31 dL_law_986 ?_
  refine lv_aload_n hx hb dL_law_987 rfl (lv_at hl 1 rfl) ?_
  refine lv_iload hx hb dL_law_988 (lv_at hl 5 rfl) ?_
  refine lv_iconst (v := 3) hx hb dL_law_990 (by decide) ?_
  refine lv_iadd hx hb dL_law_991 ?_
  refine tv_top (nI (i + 3)) (tv_ik i 3 rfl) ?_
  refine tv_sld hx hb hX hbl hbA hS (i := (i + 3)) (by omega) hL31 dL_law_992 ?_
  refine tv_callM (D := D) (V := V) (wf := tv_mw cI cZ g b1 b2 b3 b4) (ws := tv_lw cI cZ cL h a1 a2 a3 a4 g b1 b2 b3 b4 ol V.2.2 (rd, lv, op, nt) th f) (wc := tv_mw cI cZ g b1 b2 b3 b4 th (rd, lv, op, nt)) (wr := [(h, .inr (0, [.ref a1, .ref a2, .ref a3, .ref a4])), (a1, .inl (cI, 96, .inl V.2.2.1)), (a2, .inl (cI, 8, .inl V.2.2.2.1)), (a3, .inl (cZ, 4, .inl V.2.2.2.2.1)), (a4, .inl (cI, 8, .inl V.2.2.2.2.2)), (ol, .inl (cL, 1, .inr (.inl f)))]) (wsN := tv_lw cI cZ cL h a1 a2 a3 a4 g b1 b2 b3 b4 ol V.2.2 V.2.2 V.1 f) (va_runV (As := [.int (xs (i + 1)), .int (xs (i + 2)), .int (xs (i + 3))]) (rest := []) ⟨hx, hb, hml, hown, hts⟩ (c_X1_climb l D cI cZ cL g b1 b2 b3 b4 rd lv op nt th H.size (xs (i + 1)) (xs (i + 2)) (xs (i + 3)) V hV) (cwV 3 hts gL_law_X1_climb rfl rfl rfl (by decide +kernel) ⟨Nat.le_of_ble_eq_true rfl, Nat.le_of_ble_eq_true rfl⟩) (tv_preDV hP hK hD [5, 6, 7, 8, 9] rfl rfl rfl rfl 5 rfl) rfl rfl hl.1 rfl (lv_room (Nat.le_of_ble_eq_true rfl)) dL_law_993 ⟨hcs, hss⟩) hP hD hS hA [5, 6, 7, 8, 9] [0, 1, 2, 3, 4, 10] rfl rfl rfl (by decide) [0, 1, 2, 3, 4, 6, 7, 8, 9, 10, 5] rfl rfl rfl rfl (fun r H locs hrv hP hD hS => ?_)
  refine lv_istore (lv' := [(6, .int r), (5, .int V.1), (0, .ref b), (1, .ref h), (2, .ref g), (3, .ref ol), (4, .int (nI i))]) hx hb dL_law_996 hl (by decide) rfl (fun ls hl => ?_)
  refine lv_aload_n hx hb dL_law_998 rfl (lv_at hl 4 rfl) ?_
  refine tv_callR (W.runV (As := []) (rest := []) ⟨hx, hb, hml, hown, hts⟩ (c_X1_thrown l D cI cZ cL g b1 b2 b3 b4 V.2.2.1 V.2.2.2.1 V.2.2.2.2.1 V.2.2.2.2.2 V.1) (cwV 0 hts gL_law_X1_thrown rfl rfl rfl (by decide +kernel) ⟨Nat.le_of_ble_eq_true rfl, Nat.le_of_ble_eq_true rfl⟩) (tv_preV (ws := tv_mw cI cZ g b1 b2 b3 b4 V.1 V.2.2) (hP.sub [5, 6, 7, 8, 9] rfl) hK rfl 0 rfl) rfl rfl hl.1 rfl (lv_room (Nat.le_of_ble_eq_true rfl)) dL_law_999 ⟨hcs, hss⟩) ?_
  refine lv_iload hx hb dL_law_1002 (lv_at hl 1 rfl) ?_
  refine lv_icmp_eq (tgt := 1009) hx hb dL_law_1004 (by decide) (fun c_1 => ?_) (fun c_1 => ?_)
  · skip
    refine lv_iload hx hb dL_law_1009 (lv_at hl 1 rfl) ?_
    refine lv_if_ne (tgt := 1026) hx hb dL_law_1011 (by decide) (fun c_2 => ?_) (fun c_2 => ?_)
    · skip
      refine lv_goto (tgt := 1672) hx hb dL_law_1026 (by decide) ?_
      exact kk V.2.2 V.1 f H locs ls hop2 hP hD hS (lv_sub hl [2, 3, 4, 5, 6] rfl)
    · skip
      have hf0 := hf c_2
      have hr0 := hrv c_2
      refine lv_aload_n hx hb dL_law_1014 rfl (lv_at hl 5 rfl) ?_
      refine lv_iconst (v := 0) hx hb dL_law_1015 (by decide) ?_
      refine tv_lald0 (D := D) hx hb hK hP 10 rfl dL_law_1016 ?_
      refine lv_iload hx hb dL_law_1017 (lv_at hl 0 rfl) ?_
      refine lv_i2l hx hb dL_law_1019 rfl ?_
      refine tv_lcmp0 hx hb (by rw [hf0, hr0]; rfl) dL_law_1020 ?_
      refine lv_if_eq (tgt := 1026) hx hb dL_law_1021 (by decide) (fun c_3 => ?_) (fun c_3 => ?_)
      · skip
        refine lv_goto (tgt := 1672) hx hb dL_law_1026 (by decide) ?_
        exact kk V.2.2 V.1 f H locs ls hop2 hP hD hS (lv_sub hl [2, 3, 4, 5, 6] rfl)
      · exact absurd rfl c_3
  · exact absurd rfl c_1
set_option maxHeartbeats 4000000 in
set_option maxRecDepth 100000 in
theorem k_drift {p : Program} {e : Env} {s : State} {m : MethodId} {below : List Frame} {meth : Method} {c : Code} {l : Launch} (hT : l.stackTraces = false) {b L : Nat} {xs : Nat → Int32} (hL : L ≤ 2560) (C0 : lw_At p s m meth c b L xs) {D : va_G} {cI cZ cL : ClassId} (hK : va_K D vwCl (tv_ty cI cZ cL) s) (hE : tv_E (fun q : Nat => s.heap.size ≤ q) s s.heap) (hC : tv_C s) {Q : State → Prop} {cells slots : Nat} (hcs : cells + 1 ≤ room_1.cells) (hss : slots + 6 ≤ room_1.slots) {h a1 a2 a3 a4 g b1 b2 b3 b4 ol : Nat} {rd lv op nt : Nat → Int32} {th : Int32} {f : Nat → Int64} (hop : ∀ j, op j = 0 ∨ op j = 1) {i : Nat} (hi : i + 5 ≤ L) {H : Heap} {locs : List Loc} (hP : va_P D vwCl (tv_lw cI cZ cL h a1 a2 a3 a4 g b1 b2 b3 b4 ol (rd, lv, op, nt) (rd, lv, op, nt) th f) H) (hD : va_D (fun q : Nat => s.heap.size ≤ q) (tv_lw cI cZ cL h a1 a2 a3 a4 g b1 b2 b3 b4 ol (rd, lv, op, nt) (rd, lv, op, nt) th f)) (hS : va_S (fun q : Nat => s.heap.size ≤ q) s.heap H locs) {ls : Array Slot} (hl : lv_has ls 7 [(0, .ref b), (1, .ref h), (2, .ref g), (3, .ref ol), (4, .int (nI i))])
    (kk : ∀ (σ : TS) (th : Int32) (f : Nat → Int64) (H : Heap) (locs : List Loc) (ls : Array Slot), (∀ j, σ.2.2.1 j = 0 ∨ σ.2.2.1 j = 1) → va_P D vwCl (tv_lw cI cZ cL h a1 a2 a3 a4 g b1 b2 b3 b4 ol σ σ th f) H → va_D (fun q : Nat => s.heap.size ≤ q) (tv_lw cI cZ cL h a1 a2 a3 a4 g b1 b2 b3 b4 ol σ σ th f) → va_S (fun q : Nat => s.heap.size ≤ q) s.heap H locs → lv_has ls 7 [(0, .ref b), (1, .ref h), (2, .ref g), (3, .ref ol), (4, .int (nI i))] → W p l e room_1 s m #[Value.ref b] below meth c H locs (cells + 1) (slots + 6) Q (F0 m 1672 ls [])) : W p l e room_1 s m #[Value.ref b] below meth c H locs cells slots Q (F0 m 1029 ls []) := by
  obtain ⟨hx, hb, hr, hml, hown, hts0, hX, hbl, hlocks, hgv⟩ := C0
  have hb : c.code = cL_law := hb
  have hown : s.vm.findClass RL = some m.cls := hown
  have hts : ∀ w ∈ wsL_law, w.before #[Value.ref b] s = true := fun w h => hts0 w (wsL_law_in w h)
  have hA : ∀ q : Nat, s.heap.size ≤ q → (fun q : Nat => s.heap.size ≤ q) q := fun _ h => h
  have hbA : ¬ (fun q : Nat => s.heap.size ≤ q) b := Nat.not_le.mpr hbl
  have hL31 : L < 2 ^ 31 := by omega
  refine lv_aload_n hx hb dL_law_1029 rfl (lv_at hl 1 rfl) ?_
  refine lv_aload_n hx hb dL_law_1030 rfl (lv_at hl 0 rfl) ?_
  refine lv_iload hx hb dL_law_1031 (lv_at hl 4 rfl) ?_
  refine lv_iconst (v := 1) hx hb dL_law_1033 (by decide) ?_
  refine lv_iadd hx hb dL_law_1034 ?_
  refine tv_top (nI (i + 1)) (tv_ik i 1 rfl) ?_
  refine tv_sld hx hb hX hbl hbA hS (i := (i + 1)) (by omega) hL31 dL_law_1035 ?_
  refine lv_aload_n hx hb dL_law_1036 rfl (lv_at hl 0 rfl) ?_
  refine lv_iload hx hb dL_law_1037 (lv_at hl 4 rfl) ?_
  refine lv_iconst (v := 2) hx hb dL_law_1039 (by decide) ?_
  refine lv_iadd hx hb dL_law_1040 ?_
  refine tv_top (nI (i + 2)) (tv_ik i 2 rfl) ?_
  refine tv_sld hx hb hX hbl hbA hS (i := (i + 2)) (by omega) hL31 dL_law_1041 ?_
  refine lv_aload_n hx hb dL_law_1042 rfl (lv_at hl 0 rfl) ?_
  refine lv_iload hx hb dL_law_1043 (lv_at hl 4 rfl) ?_
  refine lv_iconst (v := 3) hx hb dL_law_1045 (by decide) ?_
  refine lv_iadd hx hb dL_law_1046 ?_
  refine tv_top (nI (i + 3)) (tv_ik i 3 rfl) ?_
  refine tv_sld hx hb hX hbl hbA hS (i := (i + 3)) (by omega) hL31 dL_law_1047 ?_
  refine lv_aload_n hx hb dL_law_1048 rfl (lv_at hl 3 rfl) ?_
  obtain ⟨V, hV⟩ : ∃ V : TV, V = sp_drift (xs (i + 1)) (xs (i + 2)) (xs (i + 3)) (rd, lv, op, nt) := ⟨_, rfl⟩
  have hop2 : ∀ j, V.2.2.2.2.1 j = 0 ∨ V.2.2.2.2.1 j = 1 := by rw [hV]; exact o_drift hop
  refine tv_callH (D := D) (V := V) (R64 := R64i) (wf := tv_hw cI cZ cL h a1 a2 a3 a4 ol) (ws := tv_lw cI cZ cL h a1 a2 a3 a4 g b1 b2 b3 b4 ol (rd, lv, op, nt) (rd, lv, op, nt) th f) (wc := tv_hw cI cZ cL h a1 a2 a3 a4 ol (rd, lv, op, nt) f) (wr := tv_mw cI cZ g b1 b2 b3 b4 th (rd, lv, op, nt)) (wN := fun f => tv_lw cI cZ cL h a1 a2 a3 a4 g b1 b2 b3 b4 ol V.2.2 (rd, lv, op, nt) th f) (vx_runSW (As := [.ref h, .int (xs (i + 1)), .int (xs (i + 2)), .int (xs (i + 3)), .ref ol]) (rest := []) ⟨hx, hb, hml, hown, hts⟩ (c_L_drift l hT D cI cZ cL h a1 a2 a3 a4 rd lv op nt ol f H.size (xs (i + 1)) (xs (i + 2)) (xs (i + 3)) V hV) (vx_cwSW 5 hts gL_law_L_drift rfl rfl rfl (by decide +kernel) ⟨Nat.le_of_ble_eq_true rfl, Nat.le_of_ble_eq_true rfl⟩) (tv_preH hP hK hD hS hA hE hC [0, 1, 2, 3, 4, 10] rfl rfl rfl) rfl rfl hl.1 rfl (lv_room (Nat.le_of_ble_eq_true rfl)) dL_law_1049 ⟨hcs, hss⟩) hP hD hS hA [0, 1, 2, 3, 4, 10] [5, 6, 7, 8, 9] rfl rfl rfl (by decide) [5, 6, 7, 8, 9, 0, 1, 2, 3, 4, 10] (fun _ => rfl) (fun _ => rfl) rfl (fun f H locs hf hP hD hS => ?_)
  refine lv_istore (lv' := [(5, .int V.1), (0, .ref b), (1, .ref h), (2, .ref g), (3, .ref ol), (4, .int (nI i))]) hx hb dL_law_1052 hl (by decide) rfl (fun ls hl => ?_)
  refine lv_aload_n hx hb dL_law_1054 rfl (lv_at hl 3 rfl) ?_
  refine lv_aload_n hx hb dL_law_1055 rfl (lv_at hl 1 rfl) ?_
  refine lv_iload hx hb dL_law_1056 (lv_at hl 5 rfl) ?_
  refine lv_iconst (v := 1) hx hb dL_law_1058 (by decide) ?_
  refine lv_iadd hx hb dL_law_1059 ?_
  refine tv_top (nI (i + 1)) (tv_ik i 1 rfl) ?_
  refine tv_sld hx hb hX hbl hbA hS (i := (i + 1)) (by omega) hL31 dL_law_1060 ?_
  refine lv_aload_n hx hb dL_law_1061 rfl (lv_at hl 1 rfl) ?_
  refine lv_iload hx hb dL_law_1062 (lv_at hl 5 rfl) ?_
  refine lv_iconst (v := 2) hx hb dL_law_1064 (by decide) ?_
  refine lv_iadd hx hb dL_law_1065 ?_
  refine tv_top (nI (i + 2)) (tv_ik i 2 rfl) ?_
  refine tv_sld hx hb hX hbl hbA hS (i := (i + 2)) (by omega) hL31 dL_law_1066 ?_
  refine lv_aload_n hx hb dL_law_1067 rfl (lv_at hl 1 rfl) ?_
  refine lv_iload hx hb dL_law_1068 (lv_at hl 5 rfl) ?_
  refine lv_iconst (v := 3) hx hb dL_law_1070 (by decide) ?_
  refine lv_iadd hx hb dL_law_1071 ?_
  refine tv_top (nI (i + 3)) (tv_ik i 3 rfl) ?_
  refine tv_sld hx hb hX hbl hbA hS (i := (i + 3)) (by omega) hL31 dL_law_1072 ?_
  refine tv_callM (D := D) (V := V) (wf := tv_mw cI cZ g b1 b2 b3 b4) (ws := tv_lw cI cZ cL h a1 a2 a3 a4 g b1 b2 b3 b4 ol V.2.2 (rd, lv, op, nt) th f) (wc := tv_mw cI cZ g b1 b2 b3 b4 th (rd, lv, op, nt)) (wr := [(h, .inr (0, [.ref a1, .ref a2, .ref a3, .ref a4])), (a1, .inl (cI, 96, .inl V.2.2.1)), (a2, .inl (cI, 8, .inl V.2.2.2.1)), (a3, .inl (cZ, 4, .inl V.2.2.2.2.1)), (a4, .inl (cI, 8, .inl V.2.2.2.2.2)), (ol, .inl (cL, 1, .inr (.inl f)))]) (wsN := tv_lw cI cZ cL h a1 a2 a3 a4 g b1 b2 b3 b4 ol V.2.2 V.2.2 V.1 f) (va_runV (As := [.int (xs (i + 1)), .int (xs (i + 2)), .int (xs (i + 3))]) (rest := []) ⟨hx, hb, hml, hown, hts⟩ (c_X1_drift l D cI cZ cL g b1 b2 b3 b4 rd lv op nt th H.size (xs (i + 1)) (xs (i + 2)) (xs (i + 3)) V hV) (cwV 3 hts gL_law_X1_drift rfl rfl rfl (by decide +kernel) ⟨Nat.le_of_ble_eq_true rfl, Nat.le_of_ble_eq_true rfl⟩) (tv_preDV hP hK hD [5, 6, 7, 8, 9] rfl rfl rfl rfl 5 rfl) rfl rfl hl.1 rfl (lv_room (Nat.le_of_ble_eq_true rfl)) dL_law_1073 ⟨hcs, hss⟩) hP hD hS hA [5, 6, 7, 8, 9] [0, 1, 2, 3, 4, 10] rfl rfl rfl (by decide) [0, 1, 2, 3, 4, 6, 7, 8, 9, 10, 5] rfl rfl rfl rfl (fun r H locs hrv hP hD hS => ?_)
  refine lv_istore (lv' := [(6, .int r), (5, .int V.1), (0, .ref b), (1, .ref h), (2, .ref g), (3, .ref ol), (4, .int (nI i))]) hx hb dL_law_1076 hl (by decide) rfl (fun ls hl => ?_)
  refine lv_aload_n hx hb dL_law_1078 rfl (lv_at hl 4 rfl) ?_
  refine tv_callR (W.runV (As := []) (rest := []) ⟨hx, hb, hml, hown, hts⟩ (c_X1_thrown l D cI cZ cL g b1 b2 b3 b4 V.2.2.1 V.2.2.2.1 V.2.2.2.2.1 V.2.2.2.2.2 V.1) (cwV 0 hts gL_law_X1_thrown rfl rfl rfl (by decide +kernel) ⟨Nat.le_of_ble_eq_true rfl, Nat.le_of_ble_eq_true rfl⟩) (tv_preV (ws := tv_mw cI cZ g b1 b2 b3 b4 V.1 V.2.2) (hP.sub [5, 6, 7, 8, 9] rfl) hK rfl 0 rfl) rfl rfl hl.1 rfl (lv_room (Nat.le_of_ble_eq_true rfl)) dL_law_1079 ⟨hcs, hss⟩) ?_
  refine lv_iload hx hb dL_law_1082 (lv_at hl 1 rfl) ?_
  refine lv_icmp_eq (tgt := 1089) hx hb dL_law_1084 (by decide) (fun c_1 => ?_) (fun c_1 => ?_)
  · skip
    refine lv_iload hx hb dL_law_1089 (lv_at hl 1 rfl) ?_
    refine lv_if_ne (tgt := 1106) hx hb dL_law_1091 (by decide) (fun c_2 => ?_) (fun c_2 => ?_)
    · skip
      refine lv_goto (tgt := 1672) hx hb dL_law_1106 (by decide) ?_
      exact kk V.2.2 V.1 f H locs ls hop2 hP hD hS (lv_sub hl [2, 3, 4, 5, 6] rfl)
    · skip
      have hf0 := hf c_2
      have hr0 := hrv c_2
      refine lv_aload_n hx hb dL_law_1094 rfl (lv_at hl 5 rfl) ?_
      refine lv_iconst (v := 0) hx hb dL_law_1095 (by decide) ?_
      refine tv_lald0 (D := D) hx hb hK hP 10 rfl dL_law_1096 ?_
      refine lv_iload hx hb dL_law_1097 (lv_at hl 0 rfl) ?_
      refine lv_i2l hx hb dL_law_1099 rfl ?_
      refine tv_lcmp0 hx hb (by rw [hf0, hr0]; rfl) dL_law_1100 ?_
      refine lv_if_eq (tgt := 1106) hx hb dL_law_1101 (by decide) (fun c_3 => ?_) (fun c_3 => ?_)
      · skip
        refine lv_goto (tgt := 1672) hx hb dL_law_1106 (by decide) ?_
        exact kk V.2.2 V.1 f H locs ls hop2 hP hD hS (lv_sub hl [2, 3, 4, 5, 6] rfl)
      · exact absurd rfl c_3
  · exact absurd rfl c_1
set_option maxHeartbeats 4000000 in
set_option maxRecDepth 100000 in
theorem k_pick {p : Program} {e : Env} {s : State} {m : MethodId} {below : List Frame} {meth : Method} {c : Code} {l : Launch} (hT : l.stackTraces = false) {b L : Nat} {xs : Nat → Int32} (hL : L ≤ 2560) (C0 : lw_At p s m meth c b L xs) {D : va_G} {cI cZ cL : ClassId} (hK : va_K D vwCl (tv_ty cI cZ cL) s) (hE : tv_E (fun q : Nat => s.heap.size ≤ q) s s.heap) (hC : tv_C s) {Q : State → Prop} {cells slots : Nat} (hcs : cells + 1 ≤ room_1.cells) (hss : slots + 6 ≤ room_1.slots) {h a1 a2 a3 a4 g b1 b2 b3 b4 ol : Nat} {rd lv op nt : Nat → Int32} {th : Int32} {f : Nat → Int64} (hop : ∀ j, op j = 0 ∨ op j = 1) {i : Nat} (hi : i + 5 ≤ L) {H : Heap} {locs : List Loc} (hP : va_P D vwCl (tv_lw cI cZ cL h a1 a2 a3 a4 g b1 b2 b3 b4 ol (rd, lv, op, nt) (rd, lv, op, nt) th f) H) (hD : va_D (fun q : Nat => s.heap.size ≤ q) (tv_lw cI cZ cL h a1 a2 a3 a4 g b1 b2 b3 b4 ol (rd, lv, op, nt) (rd, lv, op, nt) th f)) (hS : va_S (fun q : Nat => s.heap.size ≤ q) s.heap H locs) {ls : Array Slot} (hl : lv_has ls 7 [(0, .ref b), (1, .ref h), (2, .ref g), (3, .ref ol), (4, .int (nI i))])
    (kk : ∀ (σ : TS) (th : Int32) (f : Nat → Int64) (H : Heap) (locs : List Loc) (ls : Array Slot), (∀ j, σ.2.2.1 j = 0 ∨ σ.2.2.1 j = 1) → va_P D vwCl (tv_lw cI cZ cL h a1 a2 a3 a4 g b1 b2 b3 b4 ol σ σ th f) H → va_D (fun q : Nat => s.heap.size ≤ q) (tv_lw cI cZ cL h a1 a2 a3 a4 g b1 b2 b3 b4 ol σ σ th f) → va_S (fun q : Nat => s.heap.size ≤ q) s.heap H locs → lv_has ls 7 [(0, .ref b), (1, .ref h), (2, .ref g), (3, .ref ol), (4, .int (nI i))] → W p l e room_1 s m #[Value.ref b] below meth c H locs (cells + 1) (slots + 6) Q (F0 m 1672 ls [])) : W p l e room_1 s m #[Value.ref b] below meth c H locs cells slots Q (F0 m 1109 ls []) := by
  obtain ⟨hx, hb, hr, hml, hown, hts0, hX, hbl, hlocks, hgv⟩ := C0
  have hb : c.code = cL_law := hb
  have hown : s.vm.findClass RL = some m.cls := hown
  have hts : ∀ w ∈ wsL_law, w.before #[Value.ref b] s = true := fun w h => hts0 w (wsL_law_in w h)
  have hA : ∀ q : Nat, s.heap.size ≤ q → (fun q : Nat => s.heap.size ≤ q) q := fun _ h => h
  have hbA : ¬ (fun q : Nat => s.heap.size ≤ q) b := Nat.not_le.mpr hbl
  have hL31 : L < 2 ^ 31 := by omega
  refine lv_aload_n hx hb dL_law_1109 rfl (lv_at hl 1 rfl) ?_
  refine lv_aload_n hx hb dL_law_1110 rfl (lv_at hl 0 rfl) ?_
  refine lv_iload hx hb dL_law_1111 (lv_at hl 4 rfl) ?_
  refine lv_iconst (v := 1) hx hb dL_law_1113 (by decide) ?_
  refine lv_iadd hx hb dL_law_1114 ?_
  refine tv_top (nI (i + 1)) (tv_ik i 1 rfl) ?_
  refine tv_sld hx hb hX hbl hbA hS (i := (i + 1)) (by omega) hL31 dL_law_1115 ?_
  refine lv_aload_n hx hb dL_law_1116 rfl (lv_at hl 0 rfl) ?_
  refine lv_iload hx hb dL_law_1117 (lv_at hl 4 rfl) ?_
  refine lv_iconst (v := 2) hx hb dL_law_1119 (by decide) ?_
  refine lv_iadd hx hb dL_law_1120 ?_
  refine tv_top (nI (i + 2)) (tv_ik i 2 rfl) ?_
  refine tv_sld hx hb hX hbl hbA hS (i := (i + 2)) (by omega) hL31 dL_law_1121 ?_
  refine lv_aload_n hx hb dL_law_1122 rfl (lv_at hl 3 rfl) ?_
  obtain ⟨V, hV⟩ : ∃ V : TV, V = sp_pick (xs (i + 1)) (xs (i + 2)) (rd, lv, op, nt) := ⟨_, rfl⟩
  have hop2 : ∀ j, V.2.2.2.2.1 j = 0 ∨ V.2.2.2.2.1 j = 1 := by rw [hV]; exact o_pick hop
  refine tv_callH (D := D) (V := V) (R64 := R64i) (wf := tv_hw cI cZ cL h a1 a2 a3 a4 ol) (ws := tv_lw cI cZ cL h a1 a2 a3 a4 g b1 b2 b3 b4 ol (rd, lv, op, nt) (rd, lv, op, nt) th f) (wc := tv_hw cI cZ cL h a1 a2 a3 a4 ol (rd, lv, op, nt) f) (wr := tv_mw cI cZ g b1 b2 b3 b4 th (rd, lv, op, nt)) (wN := fun f => tv_lw cI cZ cL h a1 a2 a3 a4 g b1 b2 b3 b4 ol V.2.2 (rd, lv, op, nt) th f) (vx_runSW (As := [.ref h, .int (xs (i + 1)), .int (xs (i + 2)), .ref ol]) (rest := []) ⟨hx, hb, hml, hown, hts⟩ (c_L_pick l hT D cI cZ cL h a1 a2 a3 a4 rd lv op nt ol f H.size (xs (i + 1)) (xs (i + 2)) V hV) (vx_cwSW 4 hts gL_law_L_pick rfl rfl rfl (by decide +kernel) ⟨Nat.le_of_ble_eq_true rfl, Nat.le_of_ble_eq_true rfl⟩) (tv_preH hP hK hD hS hA hE hC [0, 1, 2, 3, 4, 10] rfl rfl rfl) rfl rfl hl.1 rfl (lv_room (Nat.le_of_ble_eq_true rfl)) dL_law_1123 ⟨hcs, hss⟩) hP hD hS hA [0, 1, 2, 3, 4, 10] [5, 6, 7, 8, 9] rfl rfl rfl (by decide) [5, 6, 7, 8, 9, 0, 1, 2, 3, 4, 10] (fun _ => rfl) (fun _ => rfl) rfl (fun f H locs hf hP hD hS => ?_)
  refine lv_istore (lv' := [(5, .int V.1), (0, .ref b), (1, .ref h), (2, .ref g), (3, .ref ol), (4, .int (nI i))]) hx hb dL_law_1126 hl (by decide) rfl (fun ls hl => ?_)
  refine lv_aload_n hx hb dL_law_1128 rfl (lv_at hl 3 rfl) ?_
  refine lv_aload_n hx hb dL_law_1129 rfl (lv_at hl 1 rfl) ?_
  refine lv_iload hx hb dL_law_1130 (lv_at hl 5 rfl) ?_
  refine lv_iconst (v := 1) hx hb dL_law_1132 (by decide) ?_
  refine lv_iadd hx hb dL_law_1133 ?_
  refine tv_top (nI (i + 1)) (tv_ik i 1 rfl) ?_
  refine tv_sld hx hb hX hbl hbA hS (i := (i + 1)) (by omega) hL31 dL_law_1134 ?_
  refine lv_aload_n hx hb dL_law_1135 rfl (lv_at hl 1 rfl) ?_
  refine lv_iload hx hb dL_law_1136 (lv_at hl 5 rfl) ?_
  refine lv_iconst (v := 2) hx hb dL_law_1138 (by decide) ?_
  refine lv_iadd hx hb dL_law_1139 ?_
  refine tv_top (nI (i + 2)) (tv_ik i 2 rfl) ?_
  refine tv_sld hx hb hX hbl hbA hS (i := (i + 2)) (by omega) hL31 dL_law_1140 ?_
  refine tv_callM (D := D) (V := V) (wf := tv_mw cI cZ g b1 b2 b3 b4) (ws := tv_lw cI cZ cL h a1 a2 a3 a4 g b1 b2 b3 b4 ol V.2.2 (rd, lv, op, nt) th f) (wc := tv_mw cI cZ g b1 b2 b3 b4 th (rd, lv, op, nt)) (wr := [(h, .inr (0, [.ref a1, .ref a2, .ref a3, .ref a4])), (a1, .inl (cI, 96, .inl V.2.2.1)), (a2, .inl (cI, 8, .inl V.2.2.2.1)), (a3, .inl (cZ, 4, .inl V.2.2.2.2.1)), (a4, .inl (cI, 8, .inl V.2.2.2.2.2)), (ol, .inl (cL, 1, .inr (.inl f)))]) (wsN := tv_lw cI cZ cL h a1 a2 a3 a4 g b1 b2 b3 b4 ol V.2.2 V.2.2 V.1 f) (va_runV (As := [.int (xs (i + 1)), .int (xs (i + 2))]) (rest := []) ⟨hx, hb, hml, hown, hts⟩ (c_X1_pick l D cI cZ cL g b1 b2 b3 b4 rd lv op nt th H.size (xs (i + 1)) (xs (i + 2)) V hV) (cwV 2 hts gL_law_X1_pick rfl rfl rfl (by decide +kernel) ⟨Nat.le_of_ble_eq_true rfl, Nat.le_of_ble_eq_true rfl⟩) (tv_preDV hP hK hD [5, 6, 7, 8, 9] rfl rfl rfl rfl 5 rfl) rfl rfl hl.1 rfl (lv_room (Nat.le_of_ble_eq_true rfl)) dL_law_1141 ⟨hcs, hss⟩) hP hD hS hA [5, 6, 7, 8, 9] [0, 1, 2, 3, 4, 10] rfl rfl rfl (by decide) [0, 1, 2, 3, 4, 6, 7, 8, 9, 10, 5] rfl rfl rfl rfl (fun r H locs hrv hP hD hS => ?_)
  refine lv_istore (lv' := [(6, .int r), (5, .int V.1), (0, .ref b), (1, .ref h), (2, .ref g), (3, .ref ol), (4, .int (nI i))]) hx hb dL_law_1144 hl (by decide) rfl (fun ls hl => ?_)
  refine lv_aload_n hx hb dL_law_1146 rfl (lv_at hl 4 rfl) ?_
  refine tv_callR (W.runV (As := []) (rest := []) ⟨hx, hb, hml, hown, hts⟩ (c_X1_thrown l D cI cZ cL g b1 b2 b3 b4 V.2.2.1 V.2.2.2.1 V.2.2.2.2.1 V.2.2.2.2.2 V.1) (cwV 0 hts gL_law_X1_thrown rfl rfl rfl (by decide +kernel) ⟨Nat.le_of_ble_eq_true rfl, Nat.le_of_ble_eq_true rfl⟩) (tv_preV (ws := tv_mw cI cZ g b1 b2 b3 b4 V.1 V.2.2) (hP.sub [5, 6, 7, 8, 9] rfl) hK rfl 0 rfl) rfl rfl hl.1 rfl (lv_room (Nat.le_of_ble_eq_true rfl)) dL_law_1147 ⟨hcs, hss⟩) ?_
  refine lv_iload hx hb dL_law_1150 (lv_at hl 1 rfl) ?_
  refine lv_icmp_eq (tgt := 1157) hx hb dL_law_1152 (by decide) (fun c_1 => ?_) (fun c_1 => ?_)
  · skip
    refine lv_iload hx hb dL_law_1157 (lv_at hl 1 rfl) ?_
    refine lv_if_ne (tgt := 1174) hx hb dL_law_1159 (by decide) (fun c_2 => ?_) (fun c_2 => ?_)
    · skip
      refine lv_goto (tgt := 1672) hx hb dL_law_1174 (by decide) ?_
      exact kk V.2.2 V.1 f H locs ls hop2 hP hD hS (lv_sub hl [2, 3, 4, 5, 6] rfl)
    · skip
      have hf0 := hf c_2
      have hr0 := hrv c_2
      refine lv_aload_n hx hb dL_law_1162 rfl (lv_at hl 5 rfl) ?_
      refine lv_iconst (v := 0) hx hb dL_law_1163 (by decide) ?_
      refine tv_lald0 (D := D) hx hb hK hP 10 rfl dL_law_1164 ?_
      refine lv_iload hx hb dL_law_1165 (lv_at hl 0 rfl) ?_
      refine lv_i2l hx hb dL_law_1167 rfl ?_
      refine tv_lcmp0 hx hb (by rw [hf0, hr0]; rfl) dL_law_1168 ?_
      refine lv_if_eq (tgt := 1174) hx hb dL_law_1169 (by decide) (fun c_3 => ?_) (fun c_3 => ?_)
      · skip
        refine lv_goto (tgt := 1672) hx hb dL_law_1174 (by decide) ?_
        exact kk V.2.2 V.1 f H locs ls hop2 hP hD hS (lv_sub hl [2, 3, 4, 5, 6] rfl)
      · exact absurd rfl c_3
  · exact absurd rfl c_1
set_option maxHeartbeats 4000000 in
set_option maxRecDepth 100000 in
theorem k_keep {p : Program} {e : Env} {s : State} {m : MethodId} {below : List Frame} {meth : Method} {c : Code} {l : Launch} (hT : l.stackTraces = false) {b L : Nat} {xs : Nat → Int32} (hL : L ≤ 2560) (C0 : lw_At p s m meth c b L xs) {D : va_G} {cI cZ cL : ClassId} (hK : va_K D vwCl (tv_ty cI cZ cL) s) (hE : tv_E (fun q : Nat => s.heap.size ≤ q) s s.heap) (hC : tv_C s) {Q : State → Prop} {cells slots : Nat} (hcs : cells + 1 ≤ room_1.cells) (hss : slots + 6 ≤ room_1.slots) {h a1 a2 a3 a4 g b1 b2 b3 b4 ol : Nat} {rd lv op nt : Nat → Int32} {th : Int32} {f : Nat → Int64} (hop : ∀ j, op j = 0 ∨ op j = 1) {i : Nat} (hi : i + 5 ≤ L) {H : Heap} {locs : List Loc} (hP : va_P D vwCl (tv_lw cI cZ cL h a1 a2 a3 a4 g b1 b2 b3 b4 ol (rd, lv, op, nt) (rd, lv, op, nt) th f) H) (hD : va_D (fun q : Nat => s.heap.size ≤ q) (tv_lw cI cZ cL h a1 a2 a3 a4 g b1 b2 b3 b4 ol (rd, lv, op, nt) (rd, lv, op, nt) th f)) (hS : va_S (fun q : Nat => s.heap.size ≤ q) s.heap H locs) {ls : Array Slot} (hl : lv_has ls 7 [(0, .ref b), (1, .ref h), (2, .ref g), (3, .ref ol), (4, .int (nI i))])
    (kk : ∀ (σ : TS) (th : Int32) (f : Nat → Int64) (H : Heap) (locs : List Loc) (ls : Array Slot), (∀ j, σ.2.2.1 j = 0 ∨ σ.2.2.1 j = 1) → va_P D vwCl (tv_lw cI cZ cL h a1 a2 a3 a4 g b1 b2 b3 b4 ol σ σ th f) H → va_D (fun q : Nat => s.heap.size ≤ q) (tv_lw cI cZ cL h a1 a2 a3 a4 g b1 b2 b3 b4 ol σ σ th f) → va_S (fun q : Nat => s.heap.size ≤ q) s.heap H locs → lv_has ls 7 [(0, .ref b), (1, .ref h), (2, .ref g), (3, .ref ol), (4, .int (nI i))] → W p l e room_1 s m #[Value.ref b] below meth c H locs (cells + 1) (slots + 6) Q (F0 m 1672 ls [])) : W p l e room_1 s m #[Value.ref b] below meth c H locs cells slots Q (F0 m 1177 ls []) := by
  obtain ⟨hx, hb, hr, hml, hown, hts0, hX, hbl, hlocks, hgv⟩ := C0
  have hb : c.code = cL_law := hb
  have hown : s.vm.findClass RL = some m.cls := hown
  have hts : ∀ w ∈ wsL_law, w.before #[Value.ref b] s = true := fun w h => hts0 w (wsL_law_in w h)
  have hA : ∀ q : Nat, s.heap.size ≤ q → (fun q : Nat => s.heap.size ≤ q) q := fun _ h => h
  have hbA : ¬ (fun q : Nat => s.heap.size ≤ q) b := Nat.not_le.mpr hbl
  have hL31 : L < 2 ^ 31 := by omega
  refine lv_aload_n hx hb dL_law_1177 rfl (lv_at hl 1 rfl) ?_
  refine lv_aload_n hx hb dL_law_1178 rfl (lv_at hl 0 rfl) ?_
  refine lv_iload hx hb dL_law_1179 (lv_at hl 4 rfl) ?_
  refine lv_iconst (v := 1) hx hb dL_law_1181 (by decide) ?_
  refine lv_iadd hx hb dL_law_1182 ?_
  refine tv_top (nI (i + 1)) (tv_ik i 1 rfl) ?_
  refine tv_sld hx hb hX hbl hbA hS (i := (i + 1)) (by omega) hL31 dL_law_1183 ?_
  refine lv_aload_n hx hb dL_law_1184 rfl (lv_at hl 0 rfl) ?_
  refine lv_iload hx hb dL_law_1185 (lv_at hl 4 rfl) ?_
  refine lv_iconst (v := 2) hx hb dL_law_1187 (by decide) ?_
  refine lv_iadd hx hb dL_law_1188 ?_
  refine tv_top (nI (i + 2)) (tv_ik i 2 rfl) ?_
  refine tv_sld hx hb hX hbl hbA hS (i := (i + 2)) (by omega) hL31 dL_law_1189 ?_
  refine lv_aload_n hx hb dL_law_1190 rfl (lv_at hl 3 rfl) ?_
  obtain ⟨V, hV⟩ : ∃ V : TV, V = sp_keep (xs (i + 1)) (xs (i + 2)) (rd, lv, op, nt) := ⟨_, rfl⟩
  have hop2 : ∀ j, V.2.2.2.2.1 j = 0 ∨ V.2.2.2.2.1 j = 1 := by rw [hV]; exact o_keep hop
  refine tv_callH (D := D) (V := V) (R64 := R64i) (wf := tv_hw cI cZ cL h a1 a2 a3 a4 ol) (ws := tv_lw cI cZ cL h a1 a2 a3 a4 g b1 b2 b3 b4 ol (rd, lv, op, nt) (rd, lv, op, nt) th f) (wc := tv_hw cI cZ cL h a1 a2 a3 a4 ol (rd, lv, op, nt) f) (wr := tv_mw cI cZ g b1 b2 b3 b4 th (rd, lv, op, nt)) (wN := fun f => tv_lw cI cZ cL h a1 a2 a3 a4 g b1 b2 b3 b4 ol V.2.2 (rd, lv, op, nt) th f) (vx_runSW (As := [.ref h, .int (xs (i + 1)), .int (xs (i + 2)), .ref ol]) (rest := []) ⟨hx, hb, hml, hown, hts⟩ (c_L_keep l hT D cI cZ cL h a1 a2 a3 a4 rd lv op nt ol f H.size (xs (i + 1)) (xs (i + 2)) V hV) (vx_cwSW 4 hts gL_law_L_keep rfl rfl rfl (by decide +kernel) ⟨Nat.le_of_ble_eq_true rfl, Nat.le_of_ble_eq_true rfl⟩) (tv_preH hP hK hD hS hA hE hC [0, 1, 2, 3, 4, 10] rfl rfl rfl) rfl rfl hl.1 rfl (lv_room (Nat.le_of_ble_eq_true rfl)) dL_law_1191 ⟨hcs, hss⟩) hP hD hS hA [0, 1, 2, 3, 4, 10] [5, 6, 7, 8, 9] rfl rfl rfl (by decide) [5, 6, 7, 8, 9, 0, 1, 2, 3, 4, 10] (fun _ => rfl) (fun _ => rfl) rfl (fun f H locs hf hP hD hS => ?_)
  refine lv_istore (lv' := [(5, .int V.1), (0, .ref b), (1, .ref h), (2, .ref g), (3, .ref ol), (4, .int (nI i))]) hx hb dL_law_1194 hl (by decide) rfl (fun ls hl => ?_)
  refine lv_aload_n hx hb dL_law_1196 rfl (lv_at hl 3 rfl) ?_
  refine lv_aload_n hx hb dL_law_1197 rfl (lv_at hl 1 rfl) ?_
  refine lv_iload hx hb dL_law_1198 (lv_at hl 5 rfl) ?_
  refine lv_iconst (v := 1) hx hb dL_law_1200 (by decide) ?_
  refine lv_iadd hx hb dL_law_1201 ?_
  refine tv_top (nI (i + 1)) (tv_ik i 1 rfl) ?_
  refine tv_sld hx hb hX hbl hbA hS (i := (i + 1)) (by omega) hL31 dL_law_1202 ?_
  refine lv_aload_n hx hb dL_law_1203 rfl (lv_at hl 1 rfl) ?_
  refine lv_iload hx hb dL_law_1204 (lv_at hl 5 rfl) ?_
  refine lv_iconst (v := 2) hx hb dL_law_1206 (by decide) ?_
  refine lv_iadd hx hb dL_law_1207 ?_
  refine tv_top (nI (i + 2)) (tv_ik i 2 rfl) ?_
  refine tv_sld hx hb hX hbl hbA hS (i := (i + 2)) (by omega) hL31 dL_law_1208 ?_
  refine tv_callM (D := D) (V := V) (wf := tv_mw cI cZ g b1 b2 b3 b4) (ws := tv_lw cI cZ cL h a1 a2 a3 a4 g b1 b2 b3 b4 ol V.2.2 (rd, lv, op, nt) th f) (wc := tv_mw cI cZ g b1 b2 b3 b4 th (rd, lv, op, nt)) (wr := [(h, .inr (0, [.ref a1, .ref a2, .ref a3, .ref a4])), (a1, .inl (cI, 96, .inl V.2.2.1)), (a2, .inl (cI, 8, .inl V.2.2.2.1)), (a3, .inl (cZ, 4, .inl V.2.2.2.2.1)), (a4, .inl (cI, 8, .inl V.2.2.2.2.2)), (ol, .inl (cL, 1, .inr (.inl f)))]) (wsN := tv_lw cI cZ cL h a1 a2 a3 a4 g b1 b2 b3 b4 ol V.2.2 V.2.2 V.1 f) (va_runV (As := [.int (xs (i + 1)), .int (xs (i + 2))]) (rest := []) ⟨hx, hb, hml, hown, hts⟩ (c_X1_keep l D cI cZ cL g b1 b2 b3 b4 rd lv op nt th H.size (xs (i + 1)) (xs (i + 2)) V hV) (cwV 2 hts gL_law_X1_keep rfl rfl rfl (by decide +kernel) ⟨Nat.le_of_ble_eq_true rfl, Nat.le_of_ble_eq_true rfl⟩) (tv_preDV hP hK hD [5, 6, 7, 8, 9] rfl rfl rfl rfl 5 rfl) rfl rfl hl.1 rfl (lv_room (Nat.le_of_ble_eq_true rfl)) dL_law_1209 ⟨hcs, hss⟩) hP hD hS hA [5, 6, 7, 8, 9] [0, 1, 2, 3, 4, 10] rfl rfl rfl (by decide) [0, 1, 2, 3, 4, 6, 7, 8, 9, 10, 5] rfl rfl rfl rfl (fun r H locs hrv hP hD hS => ?_)
  refine lv_istore (lv' := [(6, .int r), (5, .int V.1), (0, .ref b), (1, .ref h), (2, .ref g), (3, .ref ol), (4, .int (nI i))]) hx hb dL_law_1212 hl (by decide) rfl (fun ls hl => ?_)
  refine lv_aload_n hx hb dL_law_1214 rfl (lv_at hl 4 rfl) ?_
  refine tv_callR (W.runV (As := []) (rest := []) ⟨hx, hb, hml, hown, hts⟩ (c_X1_thrown l D cI cZ cL g b1 b2 b3 b4 V.2.2.1 V.2.2.2.1 V.2.2.2.2.1 V.2.2.2.2.2 V.1) (cwV 0 hts gL_law_X1_thrown rfl rfl rfl (by decide +kernel) ⟨Nat.le_of_ble_eq_true rfl, Nat.le_of_ble_eq_true rfl⟩) (tv_preV (ws := tv_mw cI cZ g b1 b2 b3 b4 V.1 V.2.2) (hP.sub [5, 6, 7, 8, 9] rfl) hK rfl 0 rfl) rfl rfl hl.1 rfl (lv_room (Nat.le_of_ble_eq_true rfl)) dL_law_1215 ⟨hcs, hss⟩) ?_
  refine lv_iload hx hb dL_law_1218 (lv_at hl 1 rfl) ?_
  refine lv_icmp_eq (tgt := 1225) hx hb dL_law_1220 (by decide) (fun c_1 => ?_) (fun c_1 => ?_)
  · skip
    refine lv_iload hx hb dL_law_1225 (lv_at hl 1 rfl) ?_
    refine lv_if_ne (tgt := 1242) hx hb dL_law_1227 (by decide) (fun c_2 => ?_) (fun c_2 => ?_)
    · skip
      refine lv_goto (tgt := 1672) hx hb dL_law_1242 (by decide) ?_
      exact kk V.2.2 V.1 f H locs ls hop2 hP hD hS (lv_sub hl [2, 3, 4, 5, 6] rfl)
    · skip
      have hf0 := hf c_2
      have hr0 := hrv c_2
      refine lv_aload_n hx hb dL_law_1230 rfl (lv_at hl 5 rfl) ?_
      refine lv_iconst (v := 0) hx hb dL_law_1231 (by decide) ?_
      refine tv_lald0 (D := D) hx hb hK hP 10 rfl dL_law_1232 ?_
      refine lv_iload hx hb dL_law_1233 (lv_at hl 0 rfl) ?_
      refine lv_i2l hx hb dL_law_1235 rfl ?_
      refine tv_lcmp0 hx hb (by rw [hf0, hr0]; rfl) dL_law_1236 ?_
      refine lv_if_eq (tgt := 1242) hx hb dL_law_1237 (by decide) (fun c_3 => ?_) (fun c_3 => ?_)
      · skip
        refine lv_goto (tgt := 1672) hx hb dL_law_1242 (by decide) ?_
        exact kk V.2.2 V.1 f H locs ls hop2 hP hD hS (lv_sub hl [2, 3, 4, 5, 6] rfl)
      · exact absurd rfl c_3
  · exact absurd rfl c_1
