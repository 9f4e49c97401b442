abbrev tv_rmM : Room := { frames := 3, cells := 0, slots := 0, locals := 60 }
abbrev tv_rmG : Room := { frames := 2, cells := 0, slots := 0, locals := 30 }
def sp_goOn (x1 x2 x3 x4 : Int32) (σ : TS) : TV := sp (tv_in 8 x1 && tv_in 12 x2) (tv_sg x3) (0, nI (wk x3 x4 (rw12 σ.1 (tN x1)) 12 (tN x2)), σ) σ
theorem iX1_put : ∀ w ∈ wsX10, w ∈ wsX1_put := by decide +kernel
set_option maxHeartbeats 4000000 in
set_option maxRecDepth 100000 in
theorem c_X1_put (l : Launch) (D : va_G) (cI cZ cL : ClassId) (h a1 a2 a3 a4 : Nat) (rd lv op nt : Nat → Int32) (th : Int32) (sz : Nat) (x1 x2 x3 : Int32) (V : TV) (hV : V = sp_put x1 x2 x3 (rd, lv, op, nt)) : Met l yX1_put wsX1_put tv_rmM (tv_Pd D cI cZ cL (tv_mw cI cZ h a1 a2 a3 a4 th (rd, lv, op, nt)) sz [.ref h, .int x1, .int x2, .int x3]) (tv_QM D cI cZ cL (tv_mw cI cZ h a1 a2 a3 a4) (tv_mw cI cZ h a1 a2 a3 a4 th (rd, lv, op, nt)) sz V) 0 0 (va_A (tv_mw cI cZ h a1 a2 a3 a4 th (rd, lv, op, nt)) sz) := by
  refine Met.ofW (cc := cX1_put) (maxL := 5) (ret := (some .boolean)) (by decide) rfl ?_
  intro p e s m args below meth c s₁ B hml hv
  obtain ⟨rfl, hsz, hP, hK, hD0⟩ := hv
  subst hsz
  have hx := B.exec
  have hb := B.bytes
  have hr := B.returns
  have hts := atoms_spec (ws := wsX1_put) B.pre
  have hown : s.vm.findClass RX1 = some m.cls := findClass_of_methodNamed B.named
  have hlocks := B.notSynchronized
  have hD := hD0.self (sz := s.heap.size)
  obtain ⟨A, hAe⟩ : ∃ A, A = va_A (tv_mw cI cZ h a1 a2 a3 a4 th (rd, lv, op, nt)) s.heap.size := ⟨_, rfl⟩
  rw [← hAe] at hD
  have hA : ∀ q : Nat, s.heap.size ≤ q → A q := fun q h => by rw [hAe]; exact Or.inr h
  have hS : va_S A s.heap s.heap [] := va_S.rf
  clear hD0
  have hl := lv_entry ([.ref h, .int x1, .int x2, .int x3]) (n := 5) (Nat.le_of_ble_eq_true rfl)
  rw [lg_entry_eq]
  generalize (lg_sl ([.ref h, .int x1, .int x2, .int x3]) ++ List.replicate (5 - (lg_sl ([.ref h, .int x1, .int x2, .int x3])).length) Slot.unset).toArray = ls at hl ⊢
  have hl : lv_has ls 5 [(0, .ref h), (1, .int x1), (2, .int x2), (3, .int x3)] := hl
  refine lv_aload_n hx hb dX1_put_0 rfl (lv_at hl 0 rfl) ?_
  have j1 : ∀ X : Bool, X = (tv_in 8 x1 && tv_in 12 x2) → W p l e (headSpec wsX1_put tv_rmM).room s m ([.ref h, .int x1, .int x2, .int x3] : List Value).toArray below meth c s.heap [] 0 0 (MQ below (tv_QM D cI cZ cL (tv_mw cI cZ h a1 a2 a3 a4) (tv_mw cI cZ h a1 a2 a3 a4 th (rd, lv, op, nt)) s.heap.size V) ([.ref h, .int x1, .int x2, .int x3] : List Value).toArray s 0 0 (va_A (tv_mw cI cZ h a1 a2 a3 a4 th (rd, lv, op, nt)) s.heap.size)) (F0 m 20 ls [.int (tv_b X), .ref h]) := by
    intro X hX
    have j2 : ∀ Y : Bool, Y = (tv_num x3) → W p l e (headSpec wsX1_put tv_rmM).room s m ([.ref h, .int x1, .int x2, .int x3] : List Value).toArray below meth c s.heap [] 0 0 (MQ below (tv_QM D cI cZ cL (tv_mw cI cZ h a1 a2 a3 a4) (tv_mw cI cZ h a1 a2 a3 a4 th (rd, lv, op, nt)) s.heap.size V) ([.ref h, .int x1, .int x2, .int x3] : List Value).toArray s 0 0 (va_A (tv_mw cI cZ h a1 a2 a3 a4 th (rd, lv, op, nt)) s.heap.size)) (F0 m 24 ls [.int (tv_b Y), .int (tv_b X), .ref h]) := by
      intro Y hY
      refine tv_callW (D := D) (ws := tv_mw cI cZ h a1 a2 a3 a4 th (rd, lv, op, nt)) (wc := [(h, .inr (1, [.ref a1, .ref a2, .ref a3, .ref a4, .int th]))]) (wr := [(a1, .inl (cI, 96, .inl (rd))), (a2, .inl (cI, 8, .inl (lv))), (a3, .inl (cZ, 4, .inl (op))), (a4, .inl (cI, 8, .inl (nt)))]) (wc' := [(h, .inr (1, [.ref a1, .ref a2, .ref a3, .ref a4, .int (tv_cd X Y)]))]) (wsN := tv_mw cI cZ h a1 a2 a3 a4 (tv_cd X Y) (rd, lv, op, nt)) (r := tv_b (X && Y)) (va_runV (As := [.int (tv_b X), .int (tv_b Y)]) (rest := []) ⟨hx, hb, hml, hown, hts⟩ (c_X1_may l D cI cZ cL h a1 a2 a3 a4 th s.heap.size X Y) (cwV 2 hts gX1_put_X1_may rfl rfl rfl (by decide +kernel) ⟨Nat.le_of_ble_eq_true rfl, Nat.le_of_ble_eq_true rfl⟩) (tv_preDV hP hK hD [0] rfl rfl rfl rfl 0 rfl) rfl rfl hl.1 rfl (lv_room (Nat.le_of_ble_eq_true rfl)) dX1_put_24 ⟨Nat.le_of_ble_eq_true rfl, Nat.le_of_ble_eq_true rfl⟩) hP hD hS hA [0] [1, 2, 3, 4] rfl rfl rfl (by decide) [4, 0, 1, 2, 3] rfl rfl rfl (fun H locs hP hD hS => ?_)
      cases hab : (X && Y) with
      | false =>
        have hV1 : V = (tv_cd X Y, 0, (rd, lv, op, nt)) := by
          rw [hV]; unfold sp_put; rw [← hX, ← hY]; exact sp_cd hab
        refine lv_if_ne (tgt := 32) hx hb dX1_put_27 (by decide) (fun c_1 => ?_) (fun c_1 => ?_)
        · exact absurd rfl c_1
        · skip
          refine lv_iconst (v := 0) hx hb dX1_put_30 (by decide) ?_
          exact tv_zretM (by decide) (wf := (tv_mw cI cZ h a1 a2 a3 a4)) (th := tv_cd X Y) (z := 0) (σ := (rd, lv, op, nt)) (r := 0) hAe hV1 (fun _ => rfl) hx hb hr hP hK hD hS dX1_put_31 hlocks
      | true =>
        obtain ⟨hX1, hY1⟩ := Bool.and_eq_true_iff.mp hab
        subst hX1
        subst hY1
        refine lv_if_ne (tgt := 32) hx hb dX1_put_27 (by decide) (fun c_2 => ?_) (fun c_2 => ?_)
        · skip
          have hP : va_P D vwCl (tv_mw cI cZ h a1 a2 a3 a4 0 (rd, lv, op, nt)) H := hP
          have hD : va_D A (tv_mw cI cZ h a1 a2 a3 a4 0 (rd, lv, op, nt)) := hD
          have hX := hX.symm
          simp only [Bool.and_eq_true] at hX
          obtain ⟨g1, g2⟩ := hX
          have hY := hY.symm
          have g3 := hY
          obtain ⟨r, hr8, rfl⟩ := tv_in_of (by omega) g1
          obtain ⟨k, hk8, rfl⟩ := tv_in_of (by omega) g2
          refine lv_aload_n hx hb dX1_put_32 rfl (lv_at hl 0 rfl) ?_
          refine lv_iload_n hx hb dX1_put_33 rfl (lv_at hl 1 rfl) ?_
          refine lv_iload_n hx hb dX1_put_34 rfl (lv_at hl 2 rfl) ?_
          refine tv_callR (W.runV (As := [.int (nI r), .int (nI k)]) (rest := []) ⟨hx, hb, hml, hown, hts⟩ (c_X1_at l D cI cZ cL h a1 a2 a3 a4 rd lv op nt 0 r k hr8 (by omega)) (cwV 2 hts gX1_put_X1_at rfl rfl rfl (by decide +kernel) ⟨Nat.le_of_ble_eq_true rfl, Nat.le_of_ble_eq_true rfl⟩) (tv_preV hP hK rfl 0 rfl) rfl rfl hl.1 rfl (lv_room (Nat.le_of_ble_eq_true rfl)) dX1_put_35 ⟨Nat.le_of_ble_eq_true rfl, Nat.le_of_ble_eq_true rfl⟩) ?_
          refine lv_iload_n hx hb dX1_put_38 rfl (lv_at hl 3 rfl) ?_
          refine lv_icmp_eq (tgt := 46) hx hb dX1_put_39 (by decide) (fun c_3 => ?_) (fun c_3 => ?_)
          · skip
            refine lv_iconst (v := 0) hx hb dX1_put_46 (by decide) ?_
            refine lv_istore (lv' := [(4, .int 0), (0, .ref h), (1, .int (nI r)), (2, .int (nI k)), (3, .int x3)]) hx hb dX1_put_47 hl (by decide) rfl (fun ls hl => ?_)
            refine lv_aload_n hx hb dX1_put_49 rfl (lv_at hl 1 rfl) ?_
            refine va_get (D := D) (ci := 1) (v := .ref a1) (C := RX1) (T := TX1) (N := 5) hx hb hts iX1_put hown hK hP 0 rfl rfl 0 (by decide) (hts (.fieldLink RX1 7 "TideHouseModel" "readings" "[I") (by decide +kernel)) (fun _ h9 => h9) rfl dX1_put_50 ?_
            refine lv_bipush (v := 12) hx hb dX1_put_53 (by decide) ?_
            refine lv_iload_n hx hb dX1_put_55 rfl (lv_at hl 2 rfl) ?_
            refine lv_imul hx hb dX1_put_56 ?_
            refine lv_iload_n hx hb dX1_put_57 rfl (lv_at hl 3 rfl) ?_
            refine lv_iadd hx hb dX1_put_58 ?_
            refine tv_top (nI (12 * r + k)) (tv_ix2 r k) ?_
            refine lv_iload_n hx hb dX1_put_59 rfl (lv_at hl 4 rfl) ?_
            refine tv_iast (D := D) (cA := cI) (n := 96) (f := rd) (k := (12 * r + k)) (x := x3) (ws1 := tv_mw cI cZ h a1 a2 a3 a4 0 (upd rd (12 * r + k) x3, lv, op, nt)) hx hb hK hP hD hS 1 0 rfl rfl (by omega) (by omega) rfl dX1_put_60 (fun H locs hP hD hS => ?_)
            refine lv_iload hx hb dX1_put_61 (lv_at hl 0 rfl) ?_
            have hV0 : V = (0, (if rd (12 * r + k) = x3 then 0 else 1), (upd rd (12 * r + k) x3, lv, op, nt)) := by
              rw [hV]; simp only [sp_put, tN, nI_clamp (show r < 2 ^ 31 by omega), nI_clamp (show k < 2 ^ 31 by omega), g1, g2, g3, Bool.and_false, Bool.false_and, Bool.and_true, Bool.true_and, Bool.and_self, sp_f, sp_tf, sp_tt]
            refine tv_top (if rd (12 * r + k) = x3 then 0 else 1) ((if_pos c_3).symm) ?_
            exact tv_zretM tv_if01 (wf := (tv_mw cI cZ h a1 a2 a3 a4)) (th := 0) (z := (if rd (12 * r + k) = x3 then 0 else 1)) (σ := (upd rd (12 * r + k) x3, lv, op, nt)) (r := (if rd (12 * r + k) = x3 then 0 else 1)) hAe hV0 (fun _ => rfl) hx hb hr hP hK hD hS dX1_put_63 hlocks
          · skip
            refine lv_iconst (v := 1) hx hb dX1_put_42 (by decide) ?_
            refine lv_goto (tgt := 47) hx hb dX1_put_43 (by decide) ?_
            refine lv_istore (lv' := [(4, .int 1), (0, .ref h), (1, .int (nI r)), (2, .int (nI k)), (3, .int x3)]) hx hb dX1_put_47 hl (by decide) rfl (fun ls hl => ?_)
            refine lv_aload_n hx hb dX1_put_49 rfl (lv_at hl 1 rfl) ?_
            refine va_get (D := D) (ci := 1) (v := .ref a1) (C := RX1) (T := TX1) (N := 5) hx hb hts iX1_put hown hK hP 0 rfl rfl 0 (by decide) (hts (.fieldLink RX1 7 "TideHouseModel" "readings" "[I") (by decide +kernel)) (fun _ h9 => h9) rfl dX1_put_50 ?_
            refine lv_bipush (v := 12) hx hb dX1_put_53 (by decide) ?_
            refine lv_iload_n hx hb dX1_put_55 rfl (lv_at hl 2 rfl) ?_
            refine lv_imul hx hb dX1_put_56 ?_
            refine lv_iload_n hx hb dX1_put_57 rfl (lv_at hl 3 rfl) ?_
            refine lv_iadd hx hb dX1_put_58 ?_
            refine tv_top (nI (12 * r + k)) (tv_ix2 r k) ?_
            refine lv_iload_n hx hb dX1_put_59 rfl (lv_at hl 4 rfl) ?_
            refine tv_iast (D := D) (cA := cI) (n := 96) (f := rd) (k := (12 * r + k)) (x := x3) (ws1 := tv_mw cI cZ h a1 a2 a3 a4 0 (upd rd (12 * r + k) x3, lv, op, nt)) hx hb hK hP hD hS 1 0 rfl rfl (by omega) (by omega) rfl dX1_put_60 (fun H locs hP hD hS => ?_)
            refine lv_iload hx hb dX1_put_61 (lv_at hl 0 rfl) ?_
            have hV0 : V = (0, (if rd (12 * r + k) = x3 then 0 else 1), (upd rd (12 * r + k) x3, lv, op, nt)) := by
              rw [hV]; simp only [sp_put, tN, nI_clamp (show r < 2 ^ 31 by omega), nI_clamp (show k < 2 ^ 31 by omega), g1, g2, g3, Bool.and_false, Bool.false_and, Bool.and_true, Bool.true_and, Bool.and_self, sp_f, sp_tf, sp_tt]
            refine tv_top (if rd (12 * r + k) = x3 then 0 else 1) ((if_neg c_3).symm) ?_
            exact tv_zretM tv_if01 (wf := (tv_mw cI cZ h a1 a2 a3 a4)) (th := 0) (z := (if rd (12 * r + k) = x3 then 0 else 1)) (σ := (upd rd (12 * r + k) x3, lv, op, nt)) (r := (if rd (12 * r + k) = x3 then 0 else 1)) hAe hV0 (fun _ => rfl) hx hb hr hP hK hD hS dX1_put_63 hlocks
        · exact absurd c_2 (by decide)
    refine lv_iload_n hx hb dX1_put_20 rfl (lv_at hl 3 rfl) ?_
    refine tv_callR (W.runS (As := [.int x3]) (rest := [.int (tv_b X), .ref h]) ⟨hx, hb, hml, hown, hts⟩ (c_X1_isNumber l x3) (va_cwS 1 hts gX1_put_X1_isNumber rfl rfl rfl (by decide +kernel) ⟨Nat.le_of_ble_eq_true rfl, Nat.le_of_ble_eq_true rfl⟩) preEq rfl rfl hl.1 rfl (lv_room (Nat.le_of_ble_eq_true rfl)) dX1_put_21 ⟨Nat.le_of_ble_eq_true rfl, Nat.le_of_ble_eq_true rfl⟩) ?_
    exact j2 _ rfl
  refine lv_iload_n hx hb dX1_put_1 rfl (lv_at hl 1 rfl) ?_
  cases w1 : (tv_in 8 x1) with
  | false =>
    refine tv_callR (W.runS (As := [.int x1]) (rest := [.ref h]) ⟨hx, hb, hml, hown, hts⟩ (c_X1_isRow l x1) (va_cwS 1 hts gX1_put_X1_isRow rfl rfl rfl (by decide +kernel) ⟨Nat.le_of_ble_eq_true rfl, Nat.le_of_ble_eq_true rfl⟩) preEq rfl rfl hl.1 rfl (lv_room (Nat.le_of_ble_eq_true rfl)) dX1_put_2 ⟨Nat.le_of_ble_eq_true rfl, Nat.le_of_ble_eq_true rfl⟩) ?_
    refine tv_top 0 (by rw [w1]; rfl) ?_
    refine lv_if_eq (tgt := 19) hx hb dX1_put_5 (by decide) (fun c_4 => ?_) (fun c_4 => ?_)
    · skip
      refine lv_iconst (v := 0) hx hb dX1_put_19 (by decide) ?_
      refine tv_top (tv_b false) rfl ?_
      exact j1 false (by simp only [w1, Bool.true_and, Bool.false_and, Bool.and_false, Bool.and_true, Bool.and_self])
    · exact absurd rfl c_4
  | true =>
    refine tv_callR (W.runS (As := [.int x1]) (rest := [.ref h]) ⟨hx, hb, hml, hown, hts⟩ (c_X1_isRow l x1) (va_cwS 1 hts gX1_put_X1_isRow rfl rfl rfl (by decide +kernel) ⟨Nat.le_of_ble_eq_true rfl, Nat.le_of_ble_eq_true rfl⟩) preEq rfl rfl hl.1 rfl (lv_room (Nat.le_of_ble_eq_true rfl)) dX1_put_2 ⟨Nat.le_of_ble_eq_true rfl, Nat.le_of_ble_eq_true rfl⟩) ?_
    refine tv_top 1 (by rw [w1]; rfl) ?_
    refine lv_if_eq (tgt := 19) hx hb dX1_put_5 (by decide) (fun c_5 => ?_) (fun c_5 => ?_)
    · exact absurd c_5 (by decide)
    · skip
      refine lv_iload_n hx hb dX1_put_8 rfl (lv_at hl 2 rfl) ?_
      cases w2 : (tv_in 12 x2) with
      | false =>
        refine tv_callR (W.runS (As := [.int x2]) (rest := [.ref h]) ⟨hx, hb, hml, hown, hts⟩ (c_X1_isPlace l x2) (va_cwS 1 hts gX1_put_X1_isPlace rfl rfl rfl (by decide +kernel) ⟨Nat.le_of_ble_eq_true rfl, Nat.le_of_ble_eq_true rfl⟩) preEq rfl rfl hl.1 rfl (lv_room (Nat.le_of_ble_eq_true rfl)) dX1_put_9 ⟨Nat.le_of_ble_eq_true rfl, Nat.le_of_ble_eq_true rfl⟩) ?_
        refine tv_top 0 (by rw [w2]; rfl) ?_
        refine lv_if_eq (tgt := 19) hx hb dX1_put_12 (by decide) (fun c_6 => ?_) (fun c_6 => ?_)
        · skip
          refine lv_iconst (v := 0) hx hb dX1_put_19 (by decide) ?_
          refine tv_top (tv_b false) rfl ?_
          exact j1 false (by simp only [w1, w2, Bool.true_and, Bool.false_and, Bool.and_false, Bool.and_true, Bool.and_self])
        · exact absurd rfl c_6
      | true =>
        refine tv_callR (W.runS (As := [.int x2]) (rest := [.ref h]) ⟨hx, hb, hml, hown, hts⟩ (c_X1_isPlace l x2) (va_cwS 1 hts gX1_put_X1_isPlace rfl rfl rfl (by decide +kernel) ⟨Nat.le_of_ble_eq_true rfl, Nat.le_of_ble_eq_true rfl⟩) preEq rfl rfl hl.1 rfl (lv_room (Nat.le_of_ble_eq_true rfl)) dX1_put_9 ⟨Nat.le_of_ble_eq_true rfl, Nat.le_of_ble_eq_true rfl⟩) ?_
        refine tv_top 1 (by rw [w2]; rfl) ?_
        refine lv_if_eq (tgt := 19) hx hb dX1_put_12 (by decide) (fun c_7 => ?_) (fun c_7 => ?_)
        · exact absurd c_7 (by decide)
        · skip
          refine lv_iconst (v := 1) hx hb dX1_put_15 (by decide) ?_
          refine lv_goto (tgt := 20) hx hb dX1_put_16 (by decide) ?_
          refine tv_top (tv_b true) rfl ?_
          exact j1 true (by simp only [w1, w2, Bool.true_and, Bool.false_and, Bool.and_false, Bool.and_true, Bool.and_self])
set_option maxHeartbeats 4000000 in
set_option maxRecDepth 100000 in
theorem c_X1_reading (l : Launch) (D : va_G) (cI cZ cL : ClassId) (h a1 a2 a3 a4 : Nat) (rd lv op nt : Nat → Int32) (th : Int32) (sz : Nat) (x1 x2 : Int32) (V : TV) (hV : V = sp_reading x1 x2 (rd, lv, op, nt)) : Met l yX1_reading wsX1_reading tv_rmM (tv_Pd D cI cZ cL (tv_mw cI cZ h a1 a2 a3 a4 th (rd, lv, op, nt)) sz [.ref h, .int x1, .int x2]) (tv_QM D cI cZ cL (tv_mw cI cZ h a1 a2 a3 a4) (tv_mw cI cZ h a1 a2 a3 a4 th (rd, lv, op, nt)) sz V) 0 0 (va_A (tv_mw cI cZ h a1 a2 a3 a4 th (rd, lv, op, nt)) sz) := by
  refine Met.ofW (cc := cX1_reading) (maxL := 3) (ret := (some .int)) (by decide) rfl ?_
  intro p e s m args below meth c s₁ B hml hv
  obtain ⟨rfl, hsz, hP, hK, hD0⟩ := hv
  subst hsz
  have hx := B.exec
  have hb := B.bytes
  have hr := B.returns
  have hts := atoms_spec (ws := wsX1_reading) B.pre
  have hown : s.vm.findClass RX1 = some m.cls := findClass_of_methodNamed B.named
  have hlocks := B.notSynchronized
  have hD := hD0.self (sz := s.heap.size)
  obtain ⟨A, hAe⟩ : ∃ A, A = va_A (tv_mw cI cZ h a1 a2 a3 a4 th (rd, lv, op, nt)) s.heap.size := ⟨_, rfl⟩
  rw [← hAe] at hD
  have hA : ∀ q : Nat, s.heap.size ≤ q → A q := fun q h => by rw [hAe]; exact Or.inr h
  have hS : va_S A s.heap s.heap [] := va_S.rf
  clear hD0
  have hl := lv_entry ([.ref h, .int x1, .int x2]) (n := 3) (Nat.le_of_ble_eq_true rfl)
  rw [lg_entry_eq]
  generalize (lg_sl ([.ref h, .int x1, .int x2]) ++ List.replicate (3 - (lg_sl ([.ref h, .int x1, .int x2])).length) Slot.unset).toArray = ls at hl ⊢
  have hl : lv_has ls 3 [(0, .ref h), (1, .int x1), (2, .int x2)] := hl
  refine lv_aload_n hx hb dX1_reading_0 rfl (lv_at hl 0 rfl) ?_
  have j1 : ∀ X : Bool, X = (tv_in 8 x1 && tv_in 12 x2) → W p l e (headSpec wsX1_reading tv_rmM).room s m ([.ref h, .int x1, .int x2] : List Value).toArray below meth c s.heap [] 0 0 (MQ below (tv_QM D cI cZ cL (tv_mw cI cZ h a1 a2 a3 a4) (tv_mw cI cZ h a1 a2 a3 a4 th (rd, lv, op, nt)) s.heap.size V) ([.ref h, .int x1, .int x2] : List Value).toArray s 0 0 (va_A (tv_mw cI cZ h a1 a2 a3 a4 th (rd, lv, op, nt)) s.heap.size)) (F0 m 20 ls [.int (tv_b X), .ref h]) := by
    intro X hX
    refine lv_iconst (v := 1) hx hb dX1_reading_20 (by decide) ?_
    refine tv_top (tv_b true) rfl ?_
    refine tv_callW (D := D) (ws := tv_mw cI cZ h a1 a2 a3 a4 th (rd, lv, op, nt)) (wc := [(h, .inr (1, [.ref a1, .ref a2, .ref a3, .ref a4, .int th]))]) (wr := [(a1, .inl (cI, 96, .inl (rd))), (a2, .inl (cI, 8, .inl (lv))), (a3, .inl (cZ, 4, .inl (op))), (a4, .inl (cI, 8, .inl (nt)))]) (wc' := [(h, .inr (1, [.ref a1, .ref a2, .ref a3, .ref a4, .int (tv_cd X true)]))]) (wsN := tv_mw cI cZ h a1 a2 a3 a4 (tv_cd X true) (rd, lv, op, nt)) (r := tv_b (X && true)) (va_runV (As := [.int (tv_b X), .int (tv_b true)]) (rest := []) ⟨hx, hb, hml, hown, hts⟩ (c_X1_may l D cI cZ cL h a1 a2 a3 a4 th s.heap.size X true) (cwV 2 hts gX1_reading_X1_may rfl rfl rfl (by decide +kernel) ⟨Nat.le_of_ble_eq_true rfl, Nat.le_of_ble_eq_true rfl⟩) (tv_preDV hP hK hD [0] rfl rfl rfl rfl 0 rfl) rfl rfl hl.1 rfl (lv_room (Nat.le_of_ble_eq_true rfl)) dX1_reading_21 ⟨Nat.le_of_ble_eq_true rfl, Nat.le_of_ble_eq_true rfl⟩) hP hD hS hA [0] [1, 2, 3, 4] rfl rfl rfl (by decide) [4, 0, 1, 2, 3] rfl rfl rfl (fun H locs hP hD hS => ?_)
    cases hab : (X && true) with
    | false =>
      have hV1 : V = (tv_cd X true, 0, (rd, lv, op, nt)) := by
        rw [hV]; unfold sp_reading; rw [← hX]; exact sp_cd hab
      refine lv_if_ne (tgt := 29) hx hb dX1_reading_24 (by decide) (fun c_1 => ?_) (fun c_1 => ?_)
      · exact absurd rfl c_1
      · skip
        refine lv_iconst (v := 0) hx hb dX1_reading_27 (by decide) ?_
        exact tv_iretM (wf := (tv_mw cI cZ h a1 a2 a3 a4)) (th := tv_cd X true) (z := 0) (σ := (rd, lv, op, nt)) (r := 0) hAe hV1 (fun _ => rfl) hx hb hr hP hK hD hS dX1_reading_28 hlocks
    | true =>
      obtain ⟨hX1, hY1⟩ := Bool.and_eq_true_iff.mp hab
      subst hX1
      refine lv_if_ne (tgt := 29) hx hb dX1_reading_24 (by decide) (fun c_2 => ?_) (fun c_2 => ?_)
      · skip
        have hP : va_P D vwCl (tv_mw cI cZ h a1 a2 a3 a4 0 (rd, lv, op, nt)) H := hP
        have hD : va_D A (tv_mw cI cZ h a1 a2 a3 a4 0 (rd, lv, op, nt)) := hD
        have hX := hX.symm
        simp only [Bool.and_eq_true] at hX
        obtain ⟨g1, g2⟩ := hX
        obtain ⟨r, hr8, rfl⟩ := tv_in_of (by omega) g1
        obtain ⟨k, hk8, rfl⟩ := tv_in_of (by omega) g2
        refine lv_aload_n hx hb dX1_reading_29 rfl (lv_at hl 0 rfl) ?_
        refine lv_iload_n hx hb dX1_reading_30 rfl (lv_at hl 1 rfl) ?_
        refine lv_iload_n hx hb dX1_reading_31 rfl (lv_at hl 2 rfl) ?_
        refine tv_callR (W.runV (As := [.int (nI r), .int (nI k)]) (rest := []) ⟨hx, hb, hml, hown, hts⟩ (c_X1_at l D cI cZ cL h a1 a2 a3 a4 rd lv op nt 0 r k hr8 (by omega)) (cwV 2 hts gX1_reading_X1_at rfl rfl rfl (by decide +kernel) ⟨Nat.le_of_ble_eq_true rfl, Nat.le_of_ble_eq_true rfl⟩) (tv_preV hP hK rfl 0 rfl) rfl rfl hl.1 rfl (lv_room (Nat.le_of_ble_eq_true rfl)) dX1_reading_32 ⟨Nat.le_of_ble_eq_true rfl, Nat.le_of_ble_eq_true rfl⟩) ?_
        have hV0 : V = (0, rd (12 * r + k), (rd, lv, op, nt)) := by
          rw [hV]; simp only [sp_reading, tN, nI_clamp (show r < 2 ^ 31 by omega), nI_clamp (show k < 2 ^ 31 by omega), g1, g2, Bool.and_false, Bool.false_and, Bool.and_true, Bool.true_and, Bool.and_self, sp_f, sp_tf, sp_tt]
        exact tv_iretM (wf := (tv_mw cI cZ h a1 a2 a3 a4)) (th := 0) (z := rd (12 * r + k)) (σ := (rd, lv, op, nt)) (r := rd (12 * r + k)) hAe hV0 (fun _ => rfl) hx hb hr hP hK hD hS dX1_reading_35 hlocks
      · exact absurd c_2 (by decide)
  refine lv_iload_n hx hb dX1_reading_1 rfl (lv_at hl 1 rfl) ?_
  cases w1 : (tv_in 8 x1) with
  | false =>
    refine tv_callR (W.runS (As := [.int x1]) (rest := [.ref h]) ⟨hx, hb, hml, hown, hts⟩ (c_X1_isRow l x1) (va_cwS 1 hts gX1_reading_X1_isRow rfl rfl rfl (by decide +kernel) ⟨Nat.le_of_ble_eq_true rfl, Nat.le_of_ble_eq_true rfl⟩) preEq rfl rfl hl.1 rfl (lv_room (Nat.le_of_ble_eq_true rfl)) dX1_reading_2 ⟨Nat.le_of_ble_eq_true rfl, Nat.le_of_ble_eq_true rfl⟩) ?_
    refine tv_top 0 (by rw [w1]; rfl) ?_
    refine lv_if_eq (tgt := 19) hx hb dX1_reading_5 (by decide) (fun c_3 => ?_) (fun c_3 => ?_)
    · skip
      refine lv_iconst (v := 0) hx hb dX1_reading_19 (by decide) ?_
      refine tv_top (tv_b false) rfl ?_
      exact j1 false (by simp only [w1, Bool.true_and, Bool.false_and, Bool.and_false, Bool.and_true, Bool.and_self])
    · exact absurd rfl c_3
  | true =>
    refine tv_callR (W.runS (As := [.int x1]) (rest := [.ref h]) ⟨hx, hb, hml, hown, hts⟩ (c_X1_isRow l x1) (va_cwS 1 hts gX1_reading_X1_isRow rfl rfl rfl (by decide +kernel) ⟨Nat.le_of_ble_eq_true rfl, Nat.le_of_ble_eq_true rfl⟩) preEq rfl rfl hl.1 rfl (lv_room (Nat.le_of_ble_eq_true rfl)) dX1_reading_2 ⟨Nat.le_of_ble_eq_true rfl, Nat.le_of_ble_eq_true rfl⟩) ?_
    refine tv_top 1 (by rw [w1]; rfl) ?_
    refine lv_if_eq (tgt := 19) hx hb dX1_reading_5 (by decide) (fun c_4 => ?_) (fun c_4 => ?_)
    · exact absurd c_4 (by decide)
    · skip
      refine lv_iload_n hx hb dX1_reading_8 rfl (lv_at hl 2 rfl) ?_
      cases w2 : (tv_in 12 x2) with
      | false =>
        refine tv_callR (W.runS (As := [.int x2]) (rest := [.ref h]) ⟨hx, hb, hml, hown, hts⟩ (c_X1_isPlace l x2) (va_cwS 1 hts gX1_reading_X1_isPlace rfl rfl rfl (by decide +kernel) ⟨Nat.le_of_ble_eq_true rfl, Nat.le_of_ble_eq_true rfl⟩) preEq rfl rfl hl.1 rfl (lv_room (Nat.le_of_ble_eq_true rfl)) dX1_reading_9 ⟨Nat.le_of_ble_eq_true rfl, Nat.le_of_ble_eq_true rfl⟩) ?_
        refine tv_top 0 (by rw [w2]; rfl) ?_
        refine lv_if_eq (tgt := 19) hx hb dX1_reading_12 (by decide) (fun c_5 => ?_) (fun c_5 => ?_)
        · skip
          refine lv_iconst (v := 0) hx hb dX1_reading_19 (by decide) ?_
          refine tv_top (tv_b false) rfl ?_
          exact j1 false (by simp only [w1, w2, Bool.true_and, Bool.false_and, Bool.and_false, Bool.and_true, Bool.and_self])
        · exact absurd rfl c_5
      | true =>
        refine tv_callR (W.runS (As := [.int x2]) (rest := [.ref h]) ⟨hx, hb, hml, hown, hts⟩ (c_X1_isPlace l x2) (va_cwS 1 hts gX1_reading_X1_isPlace rfl rfl rfl (by decide +kernel) ⟨Nat.le_of_ble_eq_true rfl, Nat.le_of_ble_eq_true rfl⟩) preEq rfl rfl hl.1 rfl (lv_room (Nat.le_of_ble_eq_true rfl)) dX1_reading_9 ⟨Nat.le_of_ble_eq_true rfl, Nat.le_of_ble_eq_true rfl⟩) ?_
        refine tv_top 1 (by rw [w2]; rfl) ?_
        refine lv_if_eq (tgt := 19) hx hb dX1_reading_12 (by decide) (fun c_6 => ?_) (fun c_6 => ?_)
        · exact absurd c_6 (by decide)
        · skip
          refine lv_iconst (v := 1) hx hb dX1_reading_15 (by decide) ?_
          refine lv_goto (tgt := 20) hx hb dX1_reading_16 (by decide) ?_
          refine tv_top (tv_b true) rfl ?_
          exact j1 true (by simp only [w1, w2, Bool.true_and, Bool.false_and, Bool.and_false, Bool.and_true, Bool.and_self])
theorem iX1_level : ∀ w ∈ wsX10, w ∈ wsX1_level := by decide +kernel
set_option maxHeartbeats 4000000 in
set_option maxRecDepth 100000 in
theorem c_X1_level (l : Launch) (D : va_G) (cI cZ cL : ClassId) (h a1 a2 a3 a4 : Nat) (rd lv op nt : Nat → Int32) (th : Int32) (sz : Nat) (x1 x2 x3 : Int32) (V : TV) (hV : V = sp_level x1 x2 x3 (rd, lv, op, nt)) : Met l yX1_level wsX1_level tv_rmM (tv_Pd D cI cZ cL (tv_mw cI cZ h a1 a2 a3 a4 th (rd, lv, op, nt)) sz [.ref h, .int x1, .int x2, .int x3]) (tv_QM D cI cZ cL (tv_mw cI cZ h a1 a2 a3 a4) (tv_mw cI cZ h a1 a2 a3 a4 th (rd, lv, op, nt)) sz V) 0 0 (va_A (tv_mw cI cZ h a1 a2 a3 a4 th (rd, lv, op, nt)) sz) := by
  refine Met.ofW (cc := cX1_level) (maxL := 6) (ret := (some .boolean)) (by decide) rfl ?_
  intro p e s m args below meth c s₁ B hml hv
  obtain ⟨rfl, hsz, hP, hK, hD0⟩ := hv
  subst hsz
  have hx := B.exec
  have hb := B.bytes
  have hr := B.returns
  have hts := atoms_spec (ws := wsX1_level) B.pre
  have hown : s.vm.findClass RX1 = some m.cls := findClass_of_methodNamed B.named
  have hlocks := B.notSynchronized
  have hD := hD0.self (sz := s.heap.size)
  obtain ⟨A, hAe⟩ : ∃ A, A = va_A (tv_mw cI cZ h a1 a2 a3 a4 th (rd, lv, op, nt)) s.heap.size := ⟨_, rfl⟩
  rw [← hAe] at hD
  have hA : ∀ q : Nat, s.heap.size ≤ q → A q := fun q h => by rw [hAe]; exact Or.inr h
  have hS : va_S A s.heap s.heap [] := va_S.rf
  clear hD0
  have hl := lv_entry ([.ref h, .int x1, .int x2, .int x3]) (n := 6) (Nat.le_of_ble_eq_true rfl)
  rw [lg_entry_eq]
  generalize (lg_sl ([.ref h, .int x1, .int x2, .int x3]) ++ List.replicate (6 - (lg_sl ([.ref h, .int x1, .int x2, .int x3])).length) Slot.unset).toArray = ls at hl ⊢
  have hl : lv_has ls 6 [(0, .ref h), (1, .int x1), (2, .int x2), (3, .int x3)] := hl
  refine lv_aload_n hx hb dX1_level_0 rfl (lv_at hl 0 rfl) ?_
  have j1 : ∀ X : Bool, X = (tv_in 4 x1) → W p l e (headSpec wsX1_level tv_rmM).room s m ([.ref h, .int x1, .int x2, .int x3] : List Value).toArray below meth c s.heap [] 0 0 (MQ below (tv_QM D cI cZ cL (tv_mw cI cZ h a1 a2 a3 a4) (tv_mw cI cZ h a1 a2 a3 a4 th (rd, lv, op, nt)) s.heap.size V) ([.ref h, .int x1, .int x2, .int x3] : List Value).toArray s 0 0 (va_A (tv_mw cI cZ h a1 a2 a3 a4 th (rd, lv, op, nt)) s.heap.size)) (F0 m 5 ls [.int (tv_b X), .ref h]) := by
    intro X hX
    have j2 : ∀ Y : Bool, Y = (tv_num x3) → W p l e (headSpec wsX1_level tv_rmM).room s m ([.ref h, .int x1, .int x2, .int x3] : List Value).toArray below meth c s.heap [] 0 0 (MQ below (tv_QM D cI cZ cL (tv_mw cI cZ h a1 a2 a3 a4) (tv_mw cI cZ h a1 a2 a3 a4 th (rd, lv, op, nt)) s.heap.size V) ([.ref h, .int x1, .int x2, .int x3] : List Value).toArray s 0 0 (va_A (tv_mw cI cZ h a1 a2 a3 a4 th (rd, lv, op, nt)) s.heap.size)) (F0 m 9 ls [.int (tv_b Y), .int (tv_b X), .ref h]) := by
      intro Y hY
      refine tv_callW (D := D) (ws := tv_mw cI cZ h a1 a2 a3 a4 th (rd, lv, op, nt)) (wc := [(h, .inr (1, [.ref a1, .ref a2, .ref a3, .ref a4, .int th]))]) (wr := [(a1, .inl (cI, 96, .inl (rd))), (a2, .inl (cI, 8, .inl (lv))), (a3, .inl (cZ, 4, .inl (op))), (a4, .inl (cI, 8, .inl (nt)))]) (wc' := [(h, .inr (1, [.ref a1, .ref a2, .ref a3, .ref a4, .int (tv_cd X Y)]))]) (wsN := tv_mw cI cZ h a1 a2 a3 a4 (tv_cd X Y) (rd, lv, op, nt)) (r := tv_b (X && Y)) (va_runV (As := [.int (tv_b X), .int (tv_b Y)]) (rest := []) ⟨hx, hb, hml, hown, hts⟩ (c_X1_may l D cI cZ cL h a1 a2 a3 a4 th s.heap.size X Y) (cwV 2 hts gX1_level_X1_may rfl rfl rfl (by decide +kernel) ⟨Nat.le_of_ble_eq_true rfl, Nat.le_of_ble_eq_true rfl⟩) (tv_preDV hP hK hD [0] rfl rfl rfl rfl 0 rfl) rfl rfl hl.1 rfl (lv_room (Nat.le_of_ble_eq_true rfl)) dX1_level_9 ⟨Nat.le_of_ble_eq_true rfl, Nat.le_of_ble_eq_true rfl⟩) hP hD hS hA [0] [1, 2, 3, 4] rfl rfl rfl (by decide) [4, 0, 1, 2, 3] rfl rfl rfl (fun H locs hP hD hS => ?_)
      cases hab : (X && Y) with
      | false =>
        have hV1 : V = (tv_cd X Y, 0, (rd, lv, op, nt)) := by
          rw [hV]; unfold sp_level; rw [← hX, ← hY]; exact sp_cd hab
        refine lv_if_ne (tgt := 17) hx hb dX1_level_12 (by decide) (fun c_1 => ?_) (fun c_1 => ?_)
        · exact absurd rfl c_1
        · skip
          refine lv_iconst (v := 0) hx hb dX1_level_15 (by decide) ?_
          exact tv_zretM (by decide) (wf := (tv_mw cI cZ h a1 a2 a3 a4)) (th := tv_cd X Y) (z := 0) (σ := (rd, lv, op, nt)) (r := 0) hAe hV1 (fun _ => rfl) hx hb hr hP hK hD hS dX1_level_16 hlocks
      | true =>
        obtain ⟨hX1, hY1⟩ := Bool.and_eq_true_iff.mp hab
        subst hX1
        subst hY1
        refine lv_if_ne (tgt := 17) hx hb dX1_level_12 (by decide) (fun c_2 => ?_) (fun c_2 => ?_)
        · skip
          have hP : va_P D vwCl (tv_mw cI cZ h a1 a2 a3 a4 0 (rd, lv, op, nt)) H := hP
          have hD : va_D A (tv_mw cI cZ h a1 a2 a3 a4 0 (rd, lv, op, nt)) := hD
          have hX := hX.symm
          have g1 := hX
          have hY := hY.symm
          have g2 := hY
          obtain ⟨g, hg8, rfl⟩ := tv_in_of (by omega) g1
          refine lv_iload_n hx hb dX1_level_17 rfl (lv_at hl 2 rfl) ?_
          refine lv_if_eq (tgt := 29) hx hb dX1_level_18 (by decide) (fun c_3 => ?_) (fun c_3 => ?_)
          · skip
            refine lv_iconst (v := 2) hx hb dX1_level_29 (by decide) ?_
            refine lv_iload_n hx hb dX1_level_30 rfl (lv_at hl 1 rfl) ?_
            refine lv_imul hx hb dX1_level_31 ?_
            refine tv_top (nI (2 * g + (if x2 = 0 then 0 else 1))) (by rw [if_pos c_3]; exact (show 2 * nI g = nI (2 * g) from pk_mul 2 g)) ?_
            have hb8 : 2 * g + (if x2 = 0 then 0 else 1) < 8 := by split <;> omega
            refine lv_istore (lv' := [(4, .int (nI (2 * g + (if x2 = 0 then 0 else 1)))), (0, .ref h), (1, .int (nI g)), (2, .int x2), (3, .int x3)]) hx hb dX1_level_32 hl (by decide) rfl (fun ls hl => ?_)
            refine lv_aload_n hx hb dX1_level_34 rfl (lv_at hl 1 rfl) ?_
            refine va_get (D := D) (ci := 1) (v := .ref a2) (C := RX1) (T := TX1) (N := 5) hx hb hts iX1_level hown hK hP 0 rfl rfl 1 (by decide) (hts (.fieldLink RX1 13 "TideHouseModel" "levels" "[I") (by decide +kernel)) (fun _ h9 => h9) rfl dX1_level_35 ?_
            refine lv_iload hx hb dX1_level_38 (lv_at hl 0 rfl) ?_
            refine tv_iald (D := D) (cA := cI) (n := 8) (f := lv) (k := (2 * g + (if x2 = 0 then 0 else 1))) hx hb hK hP 2 0 rfl rfl (by omega) (by omega) dX1_level_40 ?_
            refine lv_iload_n hx hb dX1_level_41 rfl (lv_at hl 4 rfl) ?_
            refine lv_icmp_eq (tgt := 49) hx hb dX1_level_42 (by decide) (fun c_4 => ?_) (fun c_4 => ?_)
            · skip
              refine lv_iconst (v := 0) hx hb dX1_level_49 (by decide) ?_
              refine lv_istore (lv' := [(5, .int 0), (4, .int (nI (2 * g + (if x2 = 0 then 0 else 1)))), (0, .ref h), (1, .int (nI g)), (2, .int x2), (3, .int x3)]) hx hb dX1_level_50 hl (by decide) rfl (fun ls hl => ?_)
              refine lv_aload_n hx hb dX1_level_52 rfl (lv_at hl 2 rfl) ?_
              refine va_get (D := D) (ci := 1) (v := .ref a2) (C := RX1) (T := TX1) (N := 5) hx hb hts iX1_level hown hK hP 0 rfl rfl 1 (by decide) (hts (.fieldLink RX1 13 "TideHouseModel" "levels" "[I") (by decide +kernel)) (fun _ h9 => h9) rfl dX1_level_53 ?_
              refine lv_iload hx hb dX1_level_56 (lv_at hl 1 rfl) ?_
              refine lv_iload_n hx hb dX1_level_58 rfl (lv_at hl 5 rfl) ?_
              refine tv_iast (D := D) (cA := cI) (n := 8) (f := lv) (k := (2 * g + (if x2 = 0 then 0 else 1))) (x := x3) (ws1 := tv_mw cI cZ h a1 a2 a3 a4 0 (rd, upd lv (2 * g + (if x2 = 0 then 0 else 1)) x3, op, nt)) hx hb hK hP hD hS 2 0 rfl rfl (by omega) (by omega) rfl dX1_level_59 (fun H locs hP hD hS => ?_)
              refine lv_iload hx hb dX1_level_60 (lv_at hl 0 rfl) ?_
              have hV0 : V = (0, (if lv (2 * g + (if x2 = 0 then 0 else 1)) = x3 then 0 else 1), (rd, upd lv (2 * g + (if x2 = 0 then 0 else 1)) x3, op, nt)) := by
                rw [hV]; simp only [sp_level, tN, nI_clamp (show g < 2 ^ 31 by omega), g1, g2, Bool.and_false, Bool.false_and, Bool.and_true, Bool.true_and, Bool.and_self, sp_f, sp_tf, sp_tt]
              refine tv_top (if lv (2 * g + (if x2 = 0 then 0 else 1)) = x3 then 0 else 1) ((if_pos c_4).symm) ?_
              exact tv_zretM tv_if01 (wf := (tv_mw cI cZ h a1 a2 a3 a4)) (th := 0) (z := (if lv (2 * g + (if x2 = 0 then 0 else 1)) = x3 then 0 else 1)) (σ := (rd, upd lv (2 * g + (if x2 = 0 then 0 else 1)) x3, op, nt)) (r := (if lv (2 * g + (if x2 = 0 then 0 else 1)) = x3 then 0 else 1)) hAe hV0 (fun _ => rfl) hx hb hr hP hK hD hS dX1_level_62 hlocks
            · skip
              refine lv_iconst (v := 1) hx hb dX1_level_45 (by decide) ?_
              refine lv_goto (tgt := 50) hx hb dX1_level_46 (by decide) ?_
              refine lv_istore (lv' := [(5, .int 1), (4, .int (nI (2 * g + (if x2 = 0 then 0 else 1)))), (0, .ref h), (1, .int (nI g)), (2, .int x2), (3, .int x3)]) hx hb dX1_level_50 hl (by decide) rfl (fun ls hl => ?_)
              refine lv_aload_n hx hb dX1_level_52 rfl (lv_at hl 2 rfl) ?_
              refine va_get (D := D) (ci := 1) (v := .ref a2) (C := RX1) (T := TX1) (N := 5) hx hb hts iX1_level hown hK hP 0 rfl rfl 1 (by decide) (hts (.fieldLink RX1 13 "TideHouseModel" "levels" "[I") (by decide +kernel)) (fun _ h9 => h9) rfl dX1_level_53 ?_
              refine lv_iload hx hb dX1_level_56 (lv_at hl 1 rfl) ?_
              refine lv_iload_n hx hb dX1_level_58 rfl (lv_at hl 5 rfl) ?_
              refine tv_iast (D := D) (cA := cI) (n := 8) (f := lv) (k := (2 * g + (if x2 = 0 then 0 else 1))) (x := x3) (ws1 := tv_mw cI cZ h a1 a2 a3 a4 0 (rd, upd lv (2 * g + (if x2 = 0 then 0 else 1)) x3, op, nt)) hx hb hK hP hD hS 2 0 rfl rfl (by omega) (by omega) rfl dX1_level_59 (fun H locs hP hD hS => ?_)
              refine lv_iload hx hb dX1_level_60 (lv_at hl 0 rfl) ?_
              have hV0 : V = (0, (if lv (2 * g + (if x2 = 0 then 0 else 1)) = x3 then 0 else 1), (rd, upd lv (2 * g + (if x2 = 0 then 0 else 1)) x3, op, nt)) := by
                rw [hV]; simp only [sp_level, tN, nI_clamp (show g < 2 ^ 31 by omega), g1, g2, Bool.and_false, Bool.false_and, Bool.and_true, Bool.true_and, Bool.and_self, sp_f, sp_tf, sp_tt]
              refine tv_top (if lv (2 * g + (if x2 = 0 then 0 else 1)) = x3 then 0 else 1) ((if_neg c_4).symm) ?_
              exact tv_zretM tv_if01 (wf := (tv_mw cI cZ h a1 a2 a3 a4)) (th := 0) (z := (if lv (2 * g + (if x2 = 0 then 0 else 1)) = x3 then 0 else 1)) (σ := (rd, upd lv (2 * g + (if x2 = 0 then 0 else 1)) x3, op, nt)) (r := (if lv (2 * g + (if x2 = 0 then 0 else 1)) = x3 then 0 else 1)) hAe hV0 (fun _ => rfl) hx hb hr hP hK hD hS dX1_level_62 hlocks
          · skip
            refine lv_iconst (v := 2) hx hb dX1_level_21 (by decide) ?_
            refine lv_iload_n hx hb dX1_level_22 rfl (lv_at hl 1 rfl) ?_
            refine lv_imul hx hb dX1_level_23 ?_
            refine lv_iconst (v := 1) hx hb dX1_level_24 (by decide) ?_
            refine lv_iadd hx hb dX1_level_25 ?_
            refine lv_goto (tgt := 32) hx hb dX1_level_26 (by decide) ?_
            refine tv_top (nI (2 * g + (if x2 = 0 then 0 else 1))) (by rw [if_neg c_3]; exact tv_lx2 g 1) ?_
            have hb8 : 2 * g + (if x2 = 0 then 0 else 1) < 8 := by split <;> omega
            refine lv_istore (lv' := [(4, .int (nI (2 * g + (if x2 = 0 then 0 else 1)))), (0, .ref h), (1, .int (nI g)), (2, .int x2), (3, .int x3)]) hx hb dX1_level_32 hl (by decide) rfl (fun ls hl => ?_)
            refine lv_aload_n hx hb dX1_level_34 rfl (lv_at hl 1 rfl) ?_
            refine va_get (D := D) (ci := 1) (v := .ref a2) (C := RX1) (T := TX1) (N := 5) hx hb hts iX1_level hown hK hP 0 rfl rfl 1 (by decide) (hts (.fieldLink RX1 13 "TideHouseModel" "levels" "[I") (by decide +kernel)) (fun _ h9 => h9) rfl dX1_level_35 ?_
            refine lv_iload hx hb dX1_level_38 (lv_at hl 0 rfl) ?_
            refine tv_iald (D := D) (cA := cI) (n := 8) (f := lv) (k := (2 * g + (if x2 = 0 then 0 else 1))) hx hb hK hP 2 0 rfl rfl (by omega) (by omega) dX1_level_40 ?_
            refine lv_iload_n hx hb dX1_level_41 rfl (lv_at hl 4 rfl) ?_
            refine lv_icmp_eq (tgt := 49) hx hb dX1_level_42 (by decide) (fun c_5 => ?_) (fun c_5 => ?_)
            · skip
              refine lv_iconst (v := 0) hx hb dX1_level_49 (by decide) ?_
              refine lv_istore (lv' := [(5, .int 0), (4, .int (nI (2 * g + (if x2 = 0 then 0 else 1)))), (0, .ref h), (1, .int (nI g)), (2, .int x2), (3, .int x3)]) hx hb dX1_level_50 hl (by decide) rfl (fun ls hl => ?_)
              refine lv_aload_n hx hb dX1_level_52 rfl (lv_at hl 2 rfl) ?_
              refine va_get (D := D) (ci := 1) (v := .ref a2) (C := RX1) (T := TX1) (N := 5) hx hb hts iX1_level hown hK hP 0 rfl rfl 1 (by decide) (hts (.fieldLink RX1 13 "TideHouseModel" "levels" "[I") (by decide +kernel)) (fun _ h9 => h9) rfl dX1_level_53 ?_
              refine lv_iload hx hb dX1_level_56 (lv_at hl 1 rfl) ?_
              refine lv_iload_n hx hb dX1_level_58 rfl (lv_at hl 5 rfl) ?_
              refine tv_iast (D := D) (cA := cI) (n := 8) (f := lv) (k := (2 * g + (if x2 = 0 then 0 else 1))) (x := x3) (ws1 := tv_mw cI cZ h a1 a2 a3 a4 0 (rd, upd lv (2 * g + (if x2 = 0 then 0 else 1)) x3, op, nt)) hx hb hK hP hD hS 2 0 rfl rfl (by omega) (by omega) rfl dX1_level_59 (fun H locs hP hD hS => ?_)
              refine lv_iload hx hb dX1_level_60 (lv_at hl 0 rfl) ?_
              have hV0 : V = (0, (if lv (2 * g + (if x2 = 0 then 0 else 1)) = x3 then 0 else 1), (rd, upd lv (2 * g + (if x2 = 0 then 0 else 1)) x3, op, nt)) := by
                rw [hV]; simp only [sp_level, tN, nI_clamp (show g < 2 ^ 31 by omega), g1, g2, Bool.and_false, Bool.false_and, Bool.and_true, Bool.true_and, Bool.and_self, sp_f, sp_tf, sp_tt]
              refine tv_top (if lv (2 * g + (if x2 = 0 then 0 else 1)) = x3 then 0 else 1) ((if_pos c_5).symm) ?_
              exact tv_zretM tv_if01 (wf := (tv_mw cI cZ h a1 a2 a3 a4)) (th := 0) (z := (if lv (2 * g + (if x2 = 0 then 0 else 1)) = x3 then 0 else 1)) (σ := (rd, upd lv (2 * g + (if x2 = 0 then 0 else 1)) x3, op, nt)) (r := (if lv (2 * g + (if x2 = 0 then 0 else 1)) = x3 then 0 else 1)) hAe hV0 (fun _ => rfl) hx hb hr hP hK hD hS dX1_level_62 hlocks
            · skip
              refine lv_iconst (v := 1) hx hb dX1_level_45 (by decide) ?_
              refine lv_goto (tgt := 50) hx hb dX1_level_46 (by decide) ?_
              refine lv_istore (lv' := [(5, .int 1), (4, .int (nI (2 * g + (if x2 = 0 then 0 else 1)))), (0, .ref h), (1, .int (nI g)), (2, .int x2), (3, .int x3)]) hx hb dX1_level_50 hl (by decide) rfl (fun ls hl => ?_)
              refine lv_aload_n hx hb dX1_level_52 rfl (lv_at hl 2 rfl) ?_
              refine va_get (D := D) (ci := 1) (v := .ref a2) (C := RX1) (T := TX1) (N := 5) hx hb hts iX1_level hown hK hP 0 rfl rfl 1 (by decide) (hts (.fieldLink RX1 13 "TideHouseModel" "levels" "[I") (by decide +kernel)) (fun _ h9 => h9) rfl dX1_level_53 ?_
              refine lv_iload hx hb dX1_level_56 (lv_at hl 1 rfl) ?_
              refine lv_iload_n hx hb dX1_level_58 rfl (lv_at hl 5 rfl) ?_
              refine tv_iast (D := D) (cA := cI) (n := 8) (f := lv) (k := (2 * g + (if x2 = 0 then 0 else 1))) (x := x3) (ws1 := tv_mw cI cZ h a1 a2 a3 a4 0 (rd, upd lv (2 * g + (if x2 = 0 then 0 else 1)) x3, op, nt)) hx hb hK hP hD hS 2 0 rfl rfl (by omega) (by omega) rfl dX1_level_59 (fun H locs hP hD hS => ?_)
              refine lv_iload hx hb dX1_level_60 (lv_at hl 0 rfl) ?_
              have hV0 : V = (0, (if lv (2 * g + (if x2 = 0 then 0 else 1)) = x3 then 0 else 1), (rd, upd lv (2 * g + (if x2 = 0 then 0 else 1)) x3, op, nt)) := by
                rw [hV]; simp only [sp_level, tN, nI_clamp (show g < 2 ^ 31 by omega), g1, g2, Bool.and_false, Bool.false_and, Bool.and_true, Bool.true_and, Bool.and_self, sp_f, sp_tf, sp_tt]
              refine tv_top (if lv (2 * g + (if x2 = 0 then 0 else 1)) = x3 then 0 else 1) ((if_neg c_5).symm) ?_
              exact tv_zretM tv_if01 (wf := (tv_mw cI cZ h a1 a2 a3 a4)) (th := 0) (z := (if lv (2 * g + (if x2 = 0 then 0 else 1)) = x3 then 0 else 1)) (σ := (rd, upd lv (2 * g + (if x2 = 0 then 0 else 1)) x3, op, nt)) (r := (if lv (2 * g + (if x2 = 0 then 0 else 1)) = x3 then 0 else 1)) hAe hV0 (fun _ => rfl) hx hb hr hP hK hD hS dX1_level_62 hlocks
        · exact absurd c_2 (by decide)
    refine lv_iload_n hx hb dX1_level_5 rfl (lv_at hl 3 rfl) ?_
    refine tv_callR (W.runS (As := [.int x3]) (rest := [.int (tv_b X), .ref h]) ⟨hx, hb, hml, hown, hts⟩ (c_X1_isNumber l x3) (va_cwS 1 hts gX1_level_X1_isNumber rfl rfl rfl (by decide +kernel) ⟨Nat.le_of_ble_eq_true rfl, Nat.le_of_ble_eq_true rfl⟩) preEq rfl rfl hl.1 rfl (lv_room (Nat.le_of_ble_eq_true rfl)) dX1_level_6 ⟨Nat.le_of_ble_eq_true rfl, Nat.le_of_ble_eq_true rfl⟩) ?_
    exact j2 _ rfl
  refine lv_iload_n hx hb dX1_level_1 rfl (lv_at hl 1 rfl) ?_
  refine tv_callR (W.runS (As := [.int x1]) (rest := [.ref h]) ⟨hx, hb, hml, hown, hts⟩ (c_X1_isGate l x1) (va_cwS 1 hts gX1_level_X1_isGate rfl rfl rfl (by decide +kernel) ⟨Nat.le_of_ble_eq_true rfl, Nat.le_of_ble_eq_true rfl⟩) preEq rfl rfl hl.1 rfl (lv_room (Nat.le_of_ble_eq_true rfl)) dX1_level_2 ⟨Nat.le_of_ble_eq_true rfl, Nat.le_of_ble_eq_true rfl⟩) ?_
  exact j1 _ rfl
theorem iX1_isOpen : ∀ w ∈ wsX10, w ∈ wsX1_isOpen := by decide +kernel
set_option maxHeartbeats 4000000 in
set_option maxRecDepth 100000 in
theorem c_X1_isOpen (l : Launch) (D : va_G) (cI cZ cL : ClassId) (h a1 a2 a3 a4 : Nat) (rd lv op nt : Nat → Int32) (th : Int32) (sz : Nat) (x1 : Int32) (V : TV) (hV : V = sp_isOpen x1 (rd, lv, op, nt)) (hop : ∀ j, op j = 0 ∨ op j = 1) : Met l yX1_isOpen wsX1_isOpen tv_rmM (tv_Pd D cI cZ cL (tv_mw cI cZ h a1 a2 a3 a4 th (rd, lv, op, nt)) sz [.ref h, .int x1]) (tv_QM D cI cZ cL (tv_mw cI cZ h a1 a2 a3 a4) (tv_mw cI cZ h a1 a2 a3 a4 th (rd, lv, op, nt)) sz V) 0 0 (va_A (tv_mw cI cZ h a1 a2 a3 a4 th (rd, lv, op, nt)) sz) := by
  refine Met.ofW (cc := cX1_isOpen) (maxL := 2) (ret := (some .boolean)) (by decide) rfl ?_
  intro p e s m args below meth c s₁ B hml hv
  obtain ⟨rfl, hsz, hP, hK, hD0⟩ := hv
  subst hsz
  have hx := B.exec
  have hb := B.bytes
  have hr := B.returns
  have hts := atoms_spec (ws := wsX1_isOpen) B.pre
  have hown : s.vm.findClass RX1 = some m.cls := findClass_of_methodNamed B.named
  have hlocks := B.notSynchronized
  have hD := hD0.self (sz := s.heap.size)
  obtain ⟨A, hAe⟩ : ∃ A, A = va_A (tv_mw cI cZ h a1 a2 a3 a4 th (rd, lv, op, nt)) s.heap.size := ⟨_, rfl⟩
  rw [← hAe] at hD
  have hA : ∀ q : Nat, s.heap.size ≤ q → A q := fun q h => by rw [hAe]; exact Or.inr h
  have hS : va_S A s.heap s.heap [] := va_S.rf
  clear hD0
  have hl := lv_entry ([.ref h, .int x1]) (n := 2) (Nat.le_of_ble_eq_true rfl)
  rw [lg_entry_eq]
  generalize (lg_sl ([.ref h, .int x1]) ++ List.replicate (2 - (lg_sl ([.ref h, .int x1])).length) Slot.unset).toArray = ls at hl ⊢
  have hl : lv_has ls 2 [(0, .ref h), (1, .int x1)] := hl
  refine lv_aload_n hx hb dX1_isOpen_0 rfl (lv_at hl 0 rfl) ?_
  have j1 : ∀ X : Bool, X = (tv_in 4 x1) → W p l e (headSpec wsX1_isOpen tv_rmM).room s m ([.ref h, .int x1] : List Value).toArray below meth c s.heap [] 0 0 (MQ below (tv_QM D cI cZ cL (tv_mw cI cZ h a1 a2 a3 a4) (tv_mw cI cZ h a1 a2 a3 a4 th (rd, lv, op, nt)) s.heap.size V) ([.ref h, .int x1] : List Value).toArray s 0 0 (va_A (tv_mw cI cZ h a1 a2 a3 a4 th (rd, lv, op, nt)) s.heap.size)) (F0 m 5 ls [.int (tv_b X), .ref h]) := by
    intro X hX
    refine lv_iconst (v := 1) hx hb dX1_isOpen_5 (by decide) ?_
    refine tv_top (tv_b true) rfl ?_
    refine tv_callW (D := D) (ws := tv_mw cI cZ h a1 a2 a3 a4 th (rd, lv, op, nt)) (wc := [(h, .inr (1, [.ref a1, .ref a2, .ref a3, .ref a4, .int th]))]) (wr := [(a1, .inl (cI, 96, .inl (rd))), (a2, .inl (cI, 8, .inl (lv))), (a3, .inl (cZ, 4, .inl (op))), (a4, .inl (cI, 8, .inl (nt)))]) (wc' := [(h, .inr (1, [.ref a1, .ref a2, .ref a3, .ref a4, .int (tv_cd X true)]))]) (wsN := tv_mw cI cZ h a1 a2 a3 a4 (tv_cd X true) (rd, lv, op, nt)) (r := tv_b (X && true)) (va_runV (As := [.int (tv_b X), .int (tv_b true)]) (rest := []) ⟨hx, hb, hml, hown, hts⟩ (c_X1_may l D cI cZ cL h a1 a2 a3 a4 th s.heap.size X true) (cwV 2 hts gX1_isOpen_X1_may rfl rfl rfl (by decide +kernel) ⟨Nat.le_of_ble_eq_true rfl, Nat.le_of_ble_eq_true rfl⟩) (tv_preDV hP hK hD [0] rfl rfl rfl rfl 0 rfl) rfl rfl hl.1 rfl (lv_room (Nat.le_of_ble_eq_true rfl)) dX1_isOpen_6 ⟨Nat.le_of_ble_eq_true rfl, Nat.le_of_ble_eq_true rfl⟩) hP hD hS hA [0] [1, 2, 3, 4] rfl rfl rfl (by decide) [4, 0, 1, 2, 3] rfl rfl rfl (fun H locs hP hD hS => ?_)
    cases hab : (X && true) with
    | false =>
      have hV1 : V = (tv_cd X true, 0, (rd, lv, op, nt)) := by
        rw [hV]; unfold sp_isOpen; rw [← hX]; exact sp_cd hab
      refine lv_if_ne (tgt := 14) hx hb dX1_isOpen_9 (by decide) (fun c_1 => ?_) (fun c_1 => ?_)
      · exact absurd rfl c_1
      · skip
        refine lv_iconst (v := 0) hx hb dX1_isOpen_12 (by decide) ?_
        exact tv_zretM (by decide) (wf := (tv_mw cI cZ h a1 a2 a3 a4)) (th := tv_cd X true) (z := 0) (σ := (rd, lv, op, nt)) (r := 0) hAe hV1 (fun _ => rfl) hx hb hr hP hK hD hS dX1_isOpen_13 hlocks
    | true =>
      obtain ⟨hX1, hY1⟩ := Bool.and_eq_true_iff.mp hab
      subst hX1
      refine lv_if_ne (tgt := 14) hx hb dX1_isOpen_9 (by decide) (fun c_2 => ?_) (fun c_2 => ?_)
      · skip
        have hP : va_P D vwCl (tv_mw cI cZ h a1 a2 a3 a4 0 (rd, lv, op, nt)) H := hP
        have hD : va_D A (tv_mw cI cZ h a1 a2 a3 a4 0 (rd, lv, op, nt)) := hD
        have hX := hX.symm
        have g1 := hX
        obtain ⟨g, hg8, rfl⟩ := tv_in_of (by omega) g1
        refine lv_aload_n hx hb dX1_isOpen_14 rfl (lv_at hl 0 rfl) ?_
        refine va_get (D := D) (ci := 1) (v := .ref a3) (C := RX1) (T := TX1) (N := 5) hx hb hts iX1_isOpen hown hK hP 0 rfl rfl 2 (by decide) (hts (.fieldLink RX1 16 "TideHouseModel" "open" "[Z") (by decide +kernel)) (fun _ h9 => h9) rfl dX1_isOpen_15 ?_
        refine lv_iload_n hx hb dX1_isOpen_18 rfl (lv_at hl 1 rfl) ?_
        refine tv_zald (D := D) (cA := cZ) (n := 4) (f := op) (k := g) hx hb hK hP 3 1 rfl rfl (by omega) (by omega) dX1_isOpen_19 ?_
        have hV0 : V = (0, op g, (rd, lv, op, nt)) := by
          rw [hV]; simp only [sp_isOpen, tN, nI_clamp (show g < 2 ^ 31 by omega), g1, Bool.and_false, Bool.false_and, Bool.and_true, Bool.true_and, Bool.and_self, sp_f, sp_tf, sp_tt]
        exact tv_zretM (hop g) (wf := (tv_mw cI cZ h a1 a2 a3 a4)) (th := 0) (z := op g) (σ := (rd, lv, op, nt)) (r := op g) hAe hV0 (fun _ => rfl) hx hb hr hP hK hD hS dX1_isOpen_20 hlocks
      · exact absurd c_2 (by decide)
  refine lv_iload_n hx hb dX1_isOpen_1 rfl (lv_at hl 1 rfl) ?_
  refine tv_callR (W.runS (As := [.int x1]) (rest := [.ref h]) ⟨hx, hb, hml, hown, hts⟩ (c_X1_isGate l x1) (va_cwS 1 hts gX1_isOpen_X1_isGate rfl rfl rfl (by decide +kernel) ⟨Nat.le_of_ble_eq_true rfl, Nat.le_of_ble_eq_true rfl⟩) preEq rfl rfl hl.1 rfl (lv_room (Nat.le_of_ble_eq_true rfl)) dX1_isOpen_2 ⟨Nat.le_of_ble_eq_true rfl, Nat.le_of_ble_eq_true rfl⟩) ?_
  exact j1 _ rfl
theorem iX1_notes : ∀ w ∈ wsX10, w ∈ wsX1_notes := by decide +kernel
set_option maxHeartbeats 4000000 in
set_option maxRecDepth 100000 in
theorem c_X1_notes (l : Launch) (D : va_G) (cI cZ cL : ClassId) (h a1 a2 a3 a4 : Nat) (rd lv op nt : Nat → Int32) (th : Int32) (sz : Nat) (x1 : Int32) (V : TV) (hV : V = sp_notes x1 (rd, lv, op, nt)) : Met l yX1_notes wsX1_notes tv_rmM (tv_Pd D cI cZ cL (tv_mw cI cZ h a1 a2 a3 a4 th (rd, lv, op, nt)) sz [.ref h, .int x1]) (tv_QM D cI cZ cL (tv_mw cI cZ h a1 a2 a3 a4) (tv_mw cI cZ h a1 a2 a3 a4 th (rd, lv, op, nt)) sz V) 0 0 (va_A (tv_mw cI cZ h a1 a2 a3 a4 th (rd, lv, op, nt)) sz) := by
  refine Met.ofW (cc := cX1_notes) (maxL := 2) (ret := (some .int)) (by decide) rfl ?_
  intro p e s m args below meth c s₁ B hml hv
  obtain ⟨rfl, hsz, hP, hK, hD0⟩ := hv
  subst hsz
  have hx := B.exec
  have hb := B.bytes
  have hr := B.returns
  have hts := atoms_spec (ws := wsX1_notes) B.pre
  have hown : s.vm.findClass RX1 = some m.cls := findClass_of_methodNamed B.named
  have hlocks := B.notSynchronized
  have hD := hD0.self (sz := s.heap.size)
  obtain ⟨A, hAe⟩ : ∃ A, A = va_A (tv_mw cI cZ h a1 a2 a3 a4 th (rd, lv, op, nt)) s.heap.size := ⟨_, rfl⟩
  rw [← hAe] at hD
  have hA : ∀ q : Nat, s.heap.size ≤ q → A q := fun q h => by rw [hAe]; exact Or.inr h
  have hS : va_S A s.heap s.heap [] := va_S.rf
  clear hD0
  have hl := lv_entry ([.ref h, .int x1]) (n := 2) (Nat.le_of_ble_eq_true rfl)
  rw [lg_entry_eq]
  generalize (lg_sl ([.ref h, .int x1]) ++ List.replicate (2 - (lg_sl ([.ref h, .int x1])).length) Slot.unset).toArray = ls at hl ⊢
  have hl : lv_has ls 2 [(0, .ref h), (1, .int x1)] := hl
  refine lv_aload_n hx hb dX1_notes_0 rfl (lv_at hl 0 rfl) ?_
  have j1 : ∀ X : Bool, X = (tv_in 8 x1) → W p l e (headSpec wsX1_notes tv_rmM).room s m ([.ref h, .int x1] : List Value).toArray below meth c s.heap [] 0 0 (MQ below (tv_QM D cI cZ cL (tv_mw cI cZ h a1 a2 a3 a4) (tv_mw cI cZ h a1 a2 a3 a4 th (rd, lv, op, nt)) s.heap.size V) ([.ref h, .int x1] : List Value).toArray s 0 0 (va_A (tv_mw cI cZ h a1 a2 a3 a4 th (rd, lv, op, nt)) s.heap.size)) (F0 m 5 ls [.int (tv_b X), .ref h]) := by
    intro X hX
    refine lv_iconst (v := 1) hx hb dX1_notes_5 (by decide) ?_
    refine tv_top (tv_b true) rfl ?_
    refine tv_callW (D := D) (ws := tv_mw cI cZ h a1 a2 a3 a4 th (rd, lv, op, nt)) (wc := [(h, .inr (1, [.ref a1, .ref a2, .ref a3, .ref a4, .int th]))]) (wr := [(a1, .inl (cI, 96, .inl (rd))), (a2, .inl (cI, 8, .inl (lv))), (a3, .inl (cZ, 4, .inl (op))), (a4, .inl (cI, 8, .inl (nt)))]) (wc' := [(h, .inr (1, [.ref a1, .ref a2, .ref a3, .ref a4, .int (tv_cd X true)]))]) (wsN := tv_mw cI cZ h a1 a2 a3 a4 (tv_cd X true) (rd, lv, op, nt)) (r := tv_b (X && true)) (va_runV (As := [.int (tv_b X), .int (tv_b true)]) (rest := []) ⟨hx, hb, hml, hown, hts⟩ (c_X1_may l D cI cZ cL h a1 a2 a3 a4 th s.heap.size X true) (cwV 2 hts gX1_notes_X1_may rfl rfl rfl (by decide +kernel) ⟨Nat.le_of_ble_eq_true rfl, Nat.le_of_ble_eq_true rfl⟩) (tv_preDV hP hK hD [0] rfl rfl rfl rfl 0 rfl) rfl rfl hl.1 rfl (lv_room (Nat.le_of_ble_eq_true rfl)) dX1_notes_6 ⟨Nat.le_of_ble_eq_true rfl, Nat.le_of_ble_eq_true rfl⟩) hP hD hS hA [0] [1, 2, 3, 4] rfl rfl rfl (by decide) [4, 0, 1, 2, 3] rfl rfl rfl (fun H locs hP hD hS => ?_)
    cases hab : (X && true) with
    | false =>
      have hV1 : V = (tv_cd X true, 0, (rd, lv, op, nt)) := by
        rw [hV]; unfold sp_notes; rw [← hX]; exact sp_cd hab
      refine lv_if_ne (tgt := 14) hx hb dX1_notes_9 (by decide) (fun c_1 => ?_) (fun c_1 => ?_)
      · exact absurd rfl c_1
      · skip
        refine lv_iconst (v := 0) hx hb dX1_notes_12 (by decide) ?_
        exact tv_iretM (wf := (tv_mw cI cZ h a1 a2 a3 a4)) (th := tv_cd X true) (z := 0) (σ := (rd, lv, op, nt)) (r := 0) hAe hV1 (fun _ => rfl) hx hb hr hP hK hD hS dX1_notes_13 hlocks
    | true =>
      obtain ⟨hX1, hY1⟩ := Bool.and_eq_true_iff.mp hab
      subst hX1
      refine lv_if_ne (tgt := 14) hx hb dX1_notes_9 (by decide) (fun c_2 => ?_) (fun c_2 => ?_)
      · skip
        have hP : va_P D vwCl (tv_mw cI cZ h a1 a2 a3 a4 0 (rd, lv, op, nt)) H := hP
        have hD : va_D A (tv_mw cI cZ h a1 a2 a3 a4 0 (rd, lv, op, nt)) := hD
        have hX := hX.symm
        have g1 := hX
        obtain ⟨r, hr8, rfl⟩ := tv_in_of (by omega) g1
        refine lv_aload_n hx hb dX1_notes_14 rfl (lv_at hl 0 rfl) ?_
        refine va_get (D := D) (ci := 1) (v := .ref a4) (C := RX1) (T := TX1) (N := 5) hx hb hts iX1_notes hown hK hP 0 rfl rfl 3 (by decide) (hts (.fieldLink RX1 20 "TideHouseModel" "notes" "[I") (by decide +kernel)) (fun _ h9 => h9) rfl dX1_notes_15 ?_
        refine lv_iload_n hx hb dX1_notes_18 rfl (lv_at hl 1 rfl) ?_
        refine tv_iald (D := D) (cA := cI) (n := 8) (f := nt) (k := r) hx hb hK hP 4 0 rfl rfl (by omega) (by omega) dX1_notes_19 ?_
        have hV0 : V = (0, nt r, (rd, lv, op, nt)) := by
          rw [hV]; simp only [sp_notes, tN, nI_clamp (show r < 2 ^ 31 by omega), g1, Bool.and_false, Bool.false_and, Bool.and_true, Bool.true_and, Bool.and_self, sp_f, sp_tf, sp_tt]
        exact tv_iretM (wf := (tv_mw cI cZ h a1 a2 a3 a4)) (th := 0) (z := nt r) (σ := (rd, lv, op, nt)) (r := nt r) hAe hV0 (fun _ => rfl) hx hb hr hP hK hD hS dX1_notes_20 hlocks
      · exact absurd c_2 (by decide)
  refine lv_iload_n hx hb dX1_notes_1 rfl (lv_at hl 1 rfl) ?_
  refine tv_callR (W.runS (As := [.int x1]) (rest := [.ref h]) ⟨hx, hb, hml, hown, hts⟩ (c_X1_isRow l x1) (va_cwS 1 hts gX1_notes_X1_isRow rfl rfl rfl (by decide +kernel) ⟨Nat.le_of_ble_eq_true rfl, Nat.le_of_ble_eq_true rfl⟩) preEq rfl rfl hl.1 rfl (lv_room (Nat.le_of_ble_eq_true rfl)) dX1_notes_2 ⟨Nat.le_of_ble_eq_true rfl, Nat.le_of_ble_eq_true rfl⟩) ?_
  exact j1 _ rfl
set_option maxHeartbeats 4000000 in
set_option maxRecDepth 100000 in
theorem c_X1_straight (l : Launch) (D : va_G) (cI cZ cL : ClassId) (h a1 a2 a3 a4 : Nat) (rd lv op nt : Nat → Int32) (th : Int32) (sz : Nat) (x1 x2 x3 : Int32) (V : TV) (hV : V = sp_straight x1 x2 x3 (rd, lv, op, nt)) : Met l yX1_straight wsX1_straight tv_rmM (tv_Pd D cI cZ cL (tv_mw cI cZ h a1 a2 a3 a4 th (rd, lv, op, nt)) sz [.ref h, .int x1, .int x2, .int x3]) (tv_QM D cI cZ cL (tv_mw cI cZ h a1 a2 a3 a4) (tv_mw cI cZ h a1 a2 a3 a4 th (rd, lv, op, nt)) sz V) 0 0 (va_A (tv_mw cI cZ h a1 a2 a3 a4 th (rd, lv, op, nt)) sz) := by
  refine Met.ofW (cc := cX1_straight) (maxL := 6) (ret := (some .int)) (by decide) rfl ?_
  intro p e s m args below meth c s₁ B hml hv
  obtain ⟨rfl, hsz, hP, hK, hD0⟩ := hv
  subst hsz
  have hx := B.exec
  have hb := B.bytes
  have hr := B.returns
  have hts := atoms_spec (ws := wsX1_straight) B.pre
  have hown : s.vm.findClass RX1 = some m.cls := findClass_of_methodNamed B.named
  have hlocks := B.notSynchronized
  have hD := hD0.self (sz := s.heap.size)
  obtain ⟨A, hAe⟩ : ∃ A, A = va_A (tv_mw cI cZ h a1 a2 a3 a4 th (rd, lv, op, nt)) s.heap.size := ⟨_, rfl⟩
  rw [← hAe] at hD
  have hA : ∀ q : Nat, s.heap.size ≤ q → A q := fun q h => by rw [hAe]; exact Or.inr h
  have hS : va_S A s.heap s.heap [] := va_S.rf
  clear hD0
  have hl := lv_entry ([.ref h, .int x1, .int x2, .int x3]) (n := 6) (Nat.le_of_ble_eq_true rfl)
  rw [lg_entry_eq]
  generalize (lg_sl ([.ref h, .int x1, .int x2, .int x3]) ++ List.replicate (6 - (lg_sl ([.ref h, .int x1, .int x2, .int x3])).length) Slot.unset).toArray = ls at hl ⊢
  have hl : lv_has ls 6 [(0, .ref h), (1, .int x1), (2, .int x2), (3, .int x3)] := hl
  refine lv_aload_n hx hb dX1_straight_0 rfl (lv_at hl 0 rfl) ?_
  have j1 : ∀ X : Bool, X = (tv_in 8 x1 && tv_in 4 x3) → W p l e (headSpec wsX1_straight tv_rmM).room s m ([.ref h, .int x1, .int x2, .int x3] : List Value).toArray below meth c s.heap [] 0 0 (MQ below (tv_QM D cI cZ cL (tv_mw cI cZ h a1 a2 a3 a4) (tv_mw cI cZ h a1 a2 a3 a4 th (rd, lv, op, nt)) s.heap.size V) ([.ref h, .int x1, .int x2, .int x3] : List Value).toArray s 0 0 (va_A (tv_mw cI cZ h a1 a2 a3 a4 th (rd, lv, op, nt)) s.heap.size)) (F0 m 20 ls [.int (tv_b X), .ref h]) := by
    intro X hX
    have j2 : ∀ Y : Bool, Y = (tv_sg x2) → W p l e (headSpec wsX1_straight tv_rmM).room s m ([.ref h, .int x1, .int x2, .int x3] : List Value).toArray below meth c s.heap [] 0 0 (MQ below (tv_QM D cI cZ cL (tv_mw cI cZ h a1 a2 a3 a4) (tv_mw cI cZ h a1 a2 a3 a4 th (rd, lv, op, nt)) s.heap.size V) ([.ref h, .int x1, .int x2, .int x3] : List Value).toArray s 0 0 (va_A (tv_mw cI cZ h a1 a2 a3 a4 th (rd, lv, op, nt)) s.heap.size)) (F0 m 24 ls [.int (tv_b Y), .int (tv_b X), .ref h]) := by
      intro Y hY
      refine tv_callW (D := D) (ws := tv_mw cI cZ h a1 a2 a3 a4 th (rd, lv, op, nt)) (wc := [(h, .inr (1, [.ref a1, .ref a2, .ref a3, .ref a4, .int th]))]) (wr := [(a1, .inl (cI, 96, .inl (rd))), (a2, .inl (cI, 8, .inl (lv))), (a3, .inl (cZ, 4, .inl (op))), (a4, .inl (cI, 8, .inl (nt)))]) (wc' := [(h, .inr (1, [.ref a1, .ref a2, .ref a3, .ref a4, .int (tv_cd X Y)]))]) (wsN := tv_mw cI cZ h a1 a2 a3 a4 (tv_cd X Y) (rd, lv, op, nt)) (r := tv_b (X && Y)) (va_runV (As := [.int (tv_b X), .int (tv_b Y)]) (rest := []) ⟨hx, hb, hml, hown, hts⟩ (c_X1_may l D cI cZ cL h a1 a2 a3 a4 th s.heap.size X Y) (cwV 2 hts gX1_straight_X1_may rfl rfl rfl (by decide +kernel) ⟨Nat.le_of_ble_eq_true rfl, Nat.le_of_ble_eq_true rfl⟩) (tv_preDV hP hK hD [0] rfl rfl rfl rfl 0 rfl) rfl rfl hl.1 rfl (lv_room (Nat.le_of_ble_eq_true rfl)) dX1_straight_24 ⟨Nat.le_of_ble_eq_true rfl, Nat.le_of_ble_eq_true rfl⟩) hP hD hS hA [0] [1, 2, 3, 4] rfl rfl rfl (by decide) [4, 0, 1, 2, 3] rfl rfl rfl (fun H locs hP hD hS => ?_)
      cases hab : (X && Y) with
      | false =>
        have hV1 : V = (tv_cd X Y, 0, (rd, lv, op, nt)) := by
          rw [hV]; unfold sp_straight; rw [← hX, ← hY]; exact sp_cd hab
        refine lv_if_ne (tgt := 32) hx hb dX1_straight_27 (by decide) (fun c_1 => ?_) (fun c_1 => ?_)
        · exact absurd rfl c_1
        · skip
          refine lv_iconst (v := 0) hx hb dX1_straight_30 (by decide) ?_
          exact tv_iretM (wf := (tv_mw cI cZ h a1 a2 a3 a4)) (th := tv_cd X Y) (z := 0) (σ := (rd, lv, op, nt)) (r := 0) hAe hV1 (fun _ => rfl) hx hb hr hP hK hD hS dX1_straight_31 hlocks
      | true =>
        obtain ⟨hX1, hY1⟩ := Bool.and_eq_true_iff.mp hab
        subst hX1
        subst hY1
        refine lv_if_ne (tgt := 32) hx hb dX1_straight_27 (by decide) (fun c_2 => ?_) (fun c_2 => ?_)
        · skip
          have hP : va_P D vwCl (tv_mw cI cZ h a1 a2 a3 a4 0 (rd, lv, op, nt)) H := hP
          have hD : va_D A (tv_mw cI cZ h a1 a2 a3 a4 0 (rd, lv, op, nt)) := hD
          have hX := hX.symm
          simp only [Bool.and_eq_true] at hX
          obtain ⟨g1, g2⟩ := hX
          have hY := hY.symm
          have g3 := hY
          obtain ⟨r, hr8, rfl⟩ := tv_in_of (by omega) g1
          obtain ⟨g, hg8, rfl⟩ := tv_in_of (by omega) g2
          refine lv_iconst (v := 0) hx hb dX1_straight_32 (by decide) ?_
          refine lv_istore (lv' := [(4, .int 0), (0, .ref h), (1, .int (nI r)), (2, .int x2), (3, .int (nI g))]) hx hb dX1_straight_33 hl (by decide) rfl (fun ls hl => ?_)
          refine lv_iconst (v := 0) hx hb dX1_straight_35 (by decide) ?_
          refine lv_istore (lv' := [(5, .int 0), (4, .int 0), (0, .ref h), (1, .int (nI r)), (2, .int x2), (3, .int (nI g))]) hx hb dX1_straight_36 hl (by decide) rfl (fun ls hl => ?_)
          have hV0 : V = (0, cn (fun k => tq x2 (rw12 rd r k) (lvl lv g r)) 12, (rd, lv, op, nt)) := by
            rw [hV]; simp only [sp_straight, tN, nI_clamp (show r < 2 ^ 31 by omega), nI_clamp (show g < 2 ^ 31 by omega), g1, g2, g3, Bool.and_false, Bool.false_and, Bool.and_true, Bool.true_and, Bool.and_self, sp_f, sp_tf, sp_tt]
          have loop : ∀ (n k : Nat), k + n = 12 → ∀ ls : Array Slot, lv_has ls 6 [(0, .ref h), (1, .int (nI r)), (2, .int x2), (3, .int (nI g)), (4, .int (cn (fun k => tq x2 (rw12 rd r k) (lvl lv g r)) k)), (5, .int (nI k))] → W p l e (headSpec wsX1_straight tv_rmM).room s m ([.ref h, .int (nI r), .int x2, .int (nI g)] : List Value).toArray below meth c H locs 0 0 (MQ below (tv_QM D cI cZ cL (tv_mw cI cZ h a1 a2 a3 a4) (tv_mw cI cZ h a1 a2 a3 a4 th (rd, lv, op, nt)) s.heap.size V) ([.ref h, .int (nI r), .int x2, .int (nI g)] : List Value).toArray s 0 0 (va_A (tv_mw cI cZ h a1 a2 a3 a4 th (rd, lv, op, nt)) s.heap.size)) (F0 m 38 ls []) := by
            intro n
            induction n with
            | zero =>
              intro k hk ls hl
              have hk2 : k = 12 := by omega
              subst hk2
              refine lv_iload hx hb dX1_straight_38 (lv_at hl 5 rfl) ?_
              refine lv_bipush (v := 12) hx hb dX1_straight_40 (by decide) ?_
              refine lv_icmp_ge (tgt := 81) hx hb dX1_straight_42 (by decide) (fun c_3 => ?_) (fun c_3 => ?_)
              · skip
                refine lv_iload hx hb dX1_straight_81 (lv_at hl 4 rfl) ?_
                exact tv_iretM (wf := (tv_mw cI cZ h a1 a2 a3 a4)) (th := 0) (z := cn (fun k => tq x2 (rw12 rd r k) (lvl lv g r)) 12) (σ := (rd, lv, op, nt)) (r := cn (fun k => tq x2 (rw12 rd r k) (lvl lv g r)) 12) hAe hV0 (fun _ => rfl) hx hb hr hP hK hD hS dX1_straight_83 hlocks
              · exact absurd (show nI 12 ≤ nI 12 from nI_le (Nat.le_refl _) (by omega)) c_3
            | succ n ih =>
              intro k hk ls hl
              refine lv_iload hx hb dX1_straight_38 (lv_at hl 5 rfl) ?_
              refine lv_bipush (v := 12) hx hb dX1_straight_40 (by decide) ?_
              refine lv_icmp_ge (tgt := 81) hx hb dX1_straight_42 (by decide) (fun c_4 => ?_) (fun c_4 => ?_)
              · exact absurd (show nI 12 ≤ nI k from c_4) (nI_ge (by omega) (by omega))
              · skip
                refine lv_iload hx hb dX1_straight_45 (lv_at hl 4 rfl) ?_
                refine lv_iload_n hx hb dX1_straight_47 rfl (lv_at hl 2 rfl) ?_
                refine lv_aload_n hx hb dX1_straight_48 rfl (lv_at hl 0 rfl) ?_
                refine lv_iload_n hx hb dX1_straight_49 rfl (lv_at hl 1 rfl) ?_
                refine lv_iload hx hb dX1_straight_50 (lv_at hl 5 rfl) ?_
                refine tv_callR (W.runV (As := [.int (nI r), .int (nI k)]) (rest := [.int x2, .int (cn (fun k => tq x2 (rw12 rd r k) (lvl lv g r)) k)]) ⟨hx, hb, hml, hown, hts⟩ (c_X1_at l D cI cZ cL h a1 a2 a3 a4 rd lv op nt 0 r k hr8 (by omega)) (cwV 2 hts gX1_straight_X1_at rfl rfl rfl (by decide +kernel) ⟨Nat.le_of_ble_eq_true rfl, Nat.le_of_ble_eq_true rfl⟩) (tv_preV hP hK rfl 0 rfl) rfl rfl hl.1 rfl (lv_room (Nat.le_of_ble_eq_true rfl)) dX1_straight_52 ⟨Nat.le_of_ble_eq_true rfl, Nat.le_of_ble_eq_true rfl⟩) ?_
                refine lv_aload_n hx hb dX1_straight_55 rfl (lv_at hl 0 rfl) ?_
                refine lv_iload_n hx hb dX1_straight_56 rfl (lv_at hl 3 rfl) ?_
                refine lv_iload_n hx hb dX1_straight_57 rfl (lv_at hl 1 rfl) ?_
                refine tv_callR (W.runV (As := [.int (nI g), .int (nI r)]) (rest := [.int (rd (12 * r + k)), .int x2, .int (cn (fun k => tq x2 (rw12 rd r k) (lvl lv g r)) k)]) ⟨hx, hb, hml, hown, hts⟩ (c_X1_levelFor l D cI cZ cL h a1 a2 a3 a4 rd lv op nt 0 g r hg8 hr8) (cwV 2 hts gX1_straight_X1_levelFor rfl rfl rfl (by decide +kernel) ⟨Nat.le_of_ble_eq_true rfl, Nat.le_of_ble_eq_true rfl⟩) (tv_preV hP hK rfl 0 rfl) rfl rfl hl.1 rfl (lv_room (Nat.le_of_ble_eq_true rfl)) dX1_straight_58 ⟨Nat.le_of_ble_eq_true rfl, Nat.le_of_ble_eq_true rfl⟩) ?_
                refine tv_callR (W.runS (As := [.int x2, .int (rd (12 * r + k)), .int (lvl lv g r)]) (rest := [.int (cn (fun k => tq x2 (rw12 rd r k) (lvl lv g r)) k)]) ⟨hx, hb, hml, hown, hts⟩ (c_X1_isTrue l x2 (rd (12 * r + k)) (lvl lv g r)) (va_cwS 3 hts gX1_straight_X1_isTrue rfl rfl rfl (by decide +kernel) ⟨Nat.le_of_ble_eq_true rfl, Nat.le_of_ble_eq_true rfl⟩) preEq rfl rfl hl.1 rfl (lv_room (Nat.le_of_ble_eq_true rfl)) dX1_straight_61 ⟨Nat.le_of_ble_eq_true rfl, Nat.le_of_ble_eq_true rfl⟩) ?_
                refine lv_if_eq (tgt := 71) hx hb dX1_straight_64 (by decide) (fun c_5 => ?_) (fun c_5 => ?_)
                · skip
                  refine lv_iconst (v := 0) hx hb dX1_straight_71 (by decide) ?_
                  refine lv_iadd hx hb dX1_straight_72 ?_
                  refine lv_istore (lv' := [(4, .int ((cn (fun k => tq x2 (rw12 rd r k) (lvl lv g r)) k) + 0)), (0, .ref h), (1, .int (nI r)), (2, .int x2), (3, .int (nI g)), (5, .int (nI k))]) hx hb dX1_straight_73 hl (by decide) rfl (fun ls hl => ?_)
                  refine lv_iinc (v := nI (k + 1)) (lv' := [(5, .int (nI (k + 1))), (4, .int ((cn (fun k => tq x2 (rw12 rd r k) (lvl lv g r)) k) + 0)), (0, .ref h), (1, .int (nI r)), (2, .int x2), (3, .int (nI g))]) hx hb dX1_straight_75 hl (k := 5) rfl (nI_1 k) (by decide) rfl (fun ls hl => ?_)
                  refine lv_goto (tgt := 38) hx hb dX1_straight_78 (by decide) ?_
                  exact ih (k + 1) (by omega) ls (by rw [show cn (fun k => tq x2 (rw12 rd r k) (lvl lv g r)) (k + 1) = (cn (fun k => tq x2 (rw12 rd r k) (lvl lv g r)) k) + 0 from congrArg _ c_5]; exact lv_sub hl [2, 3, 4, 5, 1, 0] rfl)
                · skip
                  refine lv_iconst (v := 1) hx hb dX1_straight_67 (by decide) ?_
                  refine lv_goto (tgt := 72) hx hb dX1_straight_68 (by decide) ?_
                  refine lv_iadd hx hb dX1_straight_72 ?_
                  refine lv_istore (lv' := [(4, .int ((cn (fun k => tq x2 (rw12 rd r k) (lvl lv g r)) k) + 1)), (0, .ref h), (1, .int (nI r)), (2, .int x2), (3, .int (nI g)), (5, .int (nI k))]) hx hb dX1_straight_73 hl (by decide) rfl (fun ls hl => ?_)
                  refine lv_iinc (v := nI (k + 1)) (lv' := [(5, .int (nI (k + 1))), (4, .int ((cn (fun k => tq x2 (rw12 rd r k) (lvl lv g r)) k) + 1)), (0, .ref h), (1, .int (nI r)), (2, .int x2), (3, .int (nI g))]) hx hb dX1_straight_75 hl (k := 5) rfl (nI_1 k) (by decide) rfl (fun ls hl => ?_)
                  refine lv_goto (tgt := 38) hx hb dX1_straight_78 (by decide) ?_
                  exact ih (k + 1) (by omega) ls (by rw [show cn (fun k => tq x2 (rw12 rd r k) (lvl lv g r)) (k + 1) = (cn (fun k => tq x2 (rw12 rd r k) (lvl lv g r)) k) + 1 from congrArg _ (tq1 c_5)]; exact lv_sub hl [2, 3, 4, 5, 1, 0] rfl)
          exact loop 12 0 (by omega) ls (by rw [show cn (fun k => tq x2 (rw12 rd r k) (lvl lv g r)) 0 = 0 from rfl, show nI 0 = 0 from nI_0]; exact lv_sub hl [2, 3, 4, 5, 1, 0] rfl)
        · exact absurd c_2 (by decide)
    refine lv_iload_n hx hb dX1_straight_20 rfl (lv_at hl 2 rfl) ?_
    refine tv_callR (W.runS (As := [.int x2]) (rest := [.int (tv_b X), .ref h]) ⟨hx, hb, hml, hown, hts⟩ (c_X1_isSign l x2) (va_cwS 1 hts gX1_straight_X1_isSign rfl rfl rfl (by decide +kernel) ⟨Nat.le_of_ble_eq_true rfl, Nat.le_of_ble_eq_true rfl⟩) preEq rfl rfl hl.1 rfl (lv_room (Nat.le_of_ble_eq_true rfl)) dX1_straight_21 ⟨Nat.le_of_ble_eq_true rfl, Nat.le_of_ble_eq_true rfl⟩) ?_
    exact j2 _ rfl
  refine lv_iload_n hx hb dX1_straight_1 rfl (lv_at hl 1 rfl) ?_
  cases w1 : (tv_in 8 x1) with
  | false =>
    refine tv_callR (W.runS (As := [.int x1]) (rest := [.ref h]) ⟨hx, hb, hml, hown, hts⟩ (c_X1_isRow l x1) (va_cwS 1 hts gX1_straight_X1_isRow rfl rfl rfl (by decide +kernel) ⟨Nat.le_of_ble_eq_true rfl, Nat.le_of_ble_eq_true rfl⟩) preEq rfl rfl hl.1 rfl (lv_room (Nat.le_of_ble_eq_true rfl)) dX1_straight_2 ⟨Nat.le_of_ble_eq_true rfl, Nat.le_of_ble_eq_true rfl⟩) ?_
    refine tv_top 0 (by rw [w1]; rfl) ?_
    refine lv_if_eq (tgt := 19) hx hb dX1_straight_5 (by decide) (fun c_6 => ?_) (fun c_6 => ?_)
    · skip
      refine lv_iconst (v := 0) hx hb dX1_straight_19 (by decide) ?_
      refine tv_top (tv_b false) rfl ?_
      exact j1 false (by simp only [w1, Bool.true_and, Bool.false_and, Bool.and_false, Bool.and_true, Bool.and_self])
    · exact absurd rfl c_6
  | true =>
    refine tv_callR (W.runS (As := [.int x1]) (rest := [.ref h]) ⟨hx, hb, hml, hown, hts⟩ (c_X1_isRow l x1) (va_cwS 1 hts gX1_straight_X1_isRow rfl rfl rfl (by decide +kernel) ⟨Nat.le_of_ble_eq_true rfl, Nat.le_of_ble_eq_true rfl⟩) preEq rfl rfl hl.1 rfl (lv_room (Nat.le_of_ble_eq_true rfl)) dX1_straight_2 ⟨Nat.le_of_ble_eq_true rfl, Nat.le_of_ble_eq_true rfl⟩) ?_
    refine tv_top 1 (by rw [w1]; rfl) ?_
    refine lv_if_eq (tgt := 19) hx hb dX1_straight_5 (by decide) (fun c_7 => ?_) (fun c_7 => ?_)
    · exact absurd c_7 (by decide)
    · skip
      refine lv_iload_n hx hb dX1_straight_8 rfl (lv_at hl 3 rfl) ?_
      cases w2 : (tv_in 4 x3) with
      | false =>
        refine tv_callR (W.runS (As := [.int x3]) (rest := [.ref h]) ⟨hx, hb, hml, hown, hts⟩ (c_X1_isGate l x3) (va_cwS 1 hts gX1_straight_X1_isGate rfl rfl rfl (by decide +kernel) ⟨Nat.le_of_ble_eq_true rfl, Nat.le_of_ble_eq_true rfl⟩) preEq rfl rfl hl.1 rfl (lv_room (Nat.le_of_ble_eq_true rfl)) dX1_straight_9 ⟨Nat.le_of_ble_eq_true rfl, Nat.le_of_ble_eq_true rfl⟩) ?_
        refine tv_top 0 (by rw [w2]; rfl) ?_
        refine lv_if_eq (tgt := 19) hx hb dX1_straight_12 (by decide) (fun c_8 => ?_) (fun c_8 => ?_)
        · skip
          refine lv_iconst (v := 0) hx hb dX1_straight_19 (by decide) ?_
          refine tv_top (tv_b false) rfl ?_
          exact j1 false (by simp only [w1, w2, Bool.true_and, Bool.false_and, Bool.and_false, Bool.and_true, Bool.and_self])
        · exact absurd rfl c_8
      | true =>
        refine tv_callR (W.runS (As := [.int x3]) (rest := [.ref h]) ⟨hx, hb, hml, hown, hts⟩ (c_X1_isGate l x3) (va_cwS 1 hts gX1_straight_X1_isGate rfl rfl rfl (by decide +kernel) ⟨Nat.le_of_ble_eq_true rfl, Nat.le_of_ble_eq_true rfl⟩) preEq rfl rfl hl.1 rfl (lv_room (Nat.le_of_ble_eq_true rfl)) dX1_straight_9 ⟨Nat.le_of_ble_eq_true rfl, Nat.le_of_ble_eq_true rfl⟩) ?_
        refine tv_top 1 (by rw [w2]; rfl) ?_
        refine lv_if_eq (tgt := 19) hx hb dX1_straight_12 (by decide) (fun c_9 => ?_) (fun c_9 => ?_)
        · exact absurd c_9 (by decide)
        · skip
          refine lv_iconst (v := 1) hx hb dX1_straight_15 (by decide) ?_
          refine lv_goto (tgt := 20) hx hb dX1_straight_16 (by decide) ?_
          refine tv_top (tv_b true) rfl ?_
          exact j1 true (by simp only [w1, w2, Bool.true_and, Bool.false_and, Bool.and_false, Bool.and_true, Bool.and_self])
set_option maxHeartbeats 4000000 in
set_option maxRecDepth 100000 in
theorem c_X1_turned (l : Launch) (D : va_G) (cI cZ cL : ClassId) (h a1 a2 a3 a4 : Nat) (rd lv op nt : Nat → Int32) (th : Int32) (sz : Nat) (x1 x2 x3 : Int32) (V : TV) (hV : V = sp_turned x1 x2 x3 (rd, lv, op, nt)) : Met l yX1_turned wsX1_turned tv_rmM (tv_Pd D cI cZ cL (tv_mw cI cZ h a1 a2 a3 a4 th (rd, lv, op, nt)) sz [.ref h, .int x1, .int x2, .int x3]) (tv_QM D cI cZ cL (tv_mw cI cZ h a1 a2 a3 a4) (tv_mw cI cZ h a1 a2 a3 a4 th (rd, lv, op, nt)) sz V) 0 0 (va_A (tv_mw cI cZ h a1 a2 a3 a4 th (rd, lv, op, nt)) sz) := by
  refine Met.ofW (cc := cX1_turned) (maxL := 6) (ret := (some .int)) (by decide) rfl ?_
  intro p e s m args below meth c s₁ B hml hv
  obtain ⟨rfl, hsz, hP, hK, hD0⟩ := hv
  subst hsz
  have hx := B.exec
  have hb := B.bytes
  have hr := B.returns
  have hts := atoms_spec (ws := wsX1_turned) B.pre
  have hown : s.vm.findClass RX1 = some m.cls := findClass_of_methodNamed B.named
  have hlocks := B.notSynchronized
  have hD := hD0.self (sz := s.heap.size)
  obtain ⟨A, hAe⟩ : ∃ A, A = va_A (tv_mw cI cZ h a1 a2 a3 a4 th (rd, lv, op, nt)) s.heap.size := ⟨_, rfl⟩
  rw [← hAe] at hD
  have hA : ∀ q : Nat, s.heap.size ≤ q → A q := fun q h => by rw [hAe]; exact Or.inr h
  have hS : va_S A s.heap s.heap [] := va_S.rf
  clear hD0
  have hl := lv_entry ([.ref h, .int x1, .int x2, .int x3]) (n := 6) (Nat.le_of_ble_eq_true rfl)
  rw [lg_entry_eq]
  generalize (lg_sl ([.ref h, .int x1, .int x2, .int x3]) ++ List.replicate (6 - (lg_sl ([.ref h, .int x1, .int x2, .int x3])).length) Slot.unset).toArray = ls at hl ⊢
  have hl : lv_has ls 6 [(0, .ref h), (1, .int x1), (2, .int x2), (3, .int x3)] := hl
  refine lv_aload_n hx hb dX1_turned_0 rfl (lv_at hl 0 rfl) ?_
  have j1 : ∀ X : Bool, X = (tv_in 8 x1 && tv_in 4 x3) → W p l e (headSpec wsX1_turned tv_rmM).room s m ([.ref h, .int x1, .int x2, .int x3] : List Value).toArray below meth c s.heap [] 0 0 (MQ below (tv_QM D cI cZ cL (tv_mw cI cZ h a1 a2 a3 a4) (tv_mw cI cZ h a1 a2 a3 a4 th (rd, lv, op, nt)) s.heap.size V) ([.ref h, .int x1, .int x2, .int x3] : List Value).toArray s 0 0 (va_A (tv_mw cI cZ h a1 a2 a3 a4 th (rd, lv, op, nt)) s.heap.size)) (F0 m 20 ls [.int (tv_b X), .ref h]) := by
    intro X hX
    have j2 : ∀ Y : Bool, Y = (tv_sg x2) → W p l e (headSpec wsX1_turned tv_rmM).room s m ([.ref h, .int x1, .int x2, .int x3] : List Value).toArray below meth c s.heap [] 0 0 (MQ below (tv_QM D cI cZ cL (tv_mw cI cZ h a1 a2 a3 a4) (tv_mw cI cZ h a1 a2 a3 a4 th (rd, lv, op, nt)) s.heap.size V) ([.ref h, .int x1, .int x2, .int x3] : List Value).toArray s 0 0 (va_A (tv_mw cI cZ h a1 a2 a3 a4 th (rd, lv, op, nt)) s.heap.size)) (F0 m 24 ls [.int (tv_b Y), .int (tv_b X), .ref h]) := by
      intro Y hY
      refine tv_callW (D := D) (ws := tv_mw cI cZ h a1 a2 a3 a4 th (rd, lv, op, nt)) (wc := [(h, .inr (1, [.ref a1, .ref a2, .ref a3, .ref a4, .int th]))]) (wr := [(a1, .inl (cI, 96, .inl (rd))), (a2, .inl (cI, 8, .inl (lv))), (a3, .inl (cZ, 4, .inl (op))), (a4, .inl (cI, 8, .inl (nt)))]) (wc' := [(h, .inr (1, [.ref a1, .ref a2, .ref a3, .ref a4, .int (tv_cd X Y)]))]) (wsN := tv_mw cI cZ h a1 a2 a3 a4 (tv_cd X Y) (rd, lv, op, nt)) (r := tv_b (X && Y)) (va_runV (As := [.int (tv_b X), .int (tv_b Y)]) (rest := []) ⟨hx, hb, hml, hown, hts⟩ (c_X1_may l D cI cZ cL h a1 a2 a3 a4 th s.heap.size X Y) (cwV 2 hts gX1_turned_X1_may rfl rfl rfl (by decide +kernel) ⟨Nat.le_of_ble_eq_true rfl, Nat.le_of_ble_eq_true rfl⟩) (tv_preDV hP hK hD [0] rfl rfl rfl rfl 0 rfl) rfl rfl hl.1 rfl (lv_room (Nat.le_of_ble_eq_true rfl)) dX1_turned_24 ⟨Nat.le_of_ble_eq_true rfl, Nat.le_of_ble_eq_true rfl⟩) hP hD hS hA [0] [1, 2, 3, 4] rfl rfl rfl (by decide) [4, 0, 1, 2, 3] rfl rfl rfl (fun H locs hP hD hS => ?_)
      cases hab : (X && Y) with
      | false =>
        have hV1 : V = (tv_cd X Y, 0, (rd, lv, op, nt)) := by
          rw [hV]; unfold sp_turned; rw [← hX, ← hY]; exact sp_cd hab
        refine lv_if_ne (tgt := 32) hx hb dX1_turned_27 (by decide) (fun c_1 => ?_) (fun c_1 => ?_)
        · exact absurd rfl c_1
        · skip
          refine lv_iconst (v := 0) hx hb dX1_turned_30 (by decide) ?_
          exact tv_iretM (wf := (tv_mw cI cZ h a1 a2 a3 a4)) (th := tv_cd X Y) (z := 0) (σ := (rd, lv, op, nt)) (r := 0) hAe hV1 (fun _ => rfl) hx hb hr hP hK hD hS dX1_turned_31 hlocks
      | true =>
        obtain ⟨hX1, hY1⟩ := Bool.and_eq_true_iff.mp hab
        subst hX1
        subst hY1
        refine lv_if_ne (tgt := 32) hx hb dX1_turned_27 (by decide) (fun c_2 => ?_) (fun c_2 => ?_)
        · skip
          have hP : va_P D vwCl (tv_mw cI cZ h a1 a2 a3 a4 0 (rd, lv, op, nt)) H := hP
          have hD : va_D A (tv_mw cI cZ h a1 a2 a3 a4 0 (rd, lv, op, nt)) := hD
          have hX := hX.symm
          simp only [Bool.and_eq_true] at hX
          obtain ⟨g1, g2⟩ := hX
          have hY := hY.symm
          have g3 := hY
          obtain ⟨r, hr8, rfl⟩ := tv_in_of (by omega) g1
          obtain ⟨g, hg8, rfl⟩ := tv_in_of (by omega) g2
          refine lv_iconst (v := 0) hx hb dX1_turned_32 (by decide) ?_
          refine lv_istore (lv' := [(4, .int 0), (0, .ref h), (1, .int (nI r)), (2, .int x2), (3, .int (nI g))]) hx hb dX1_turned_33 hl (by decide) rfl (fun ls hl => ?_)
          refine lv_iconst (v := 0) hx hb dX1_turned_35 (by decide) ?_
          refine lv_istore (lv' := [(5, .int 0), (4, .int 0), (0, .ref h), (1, .int (nI r)), (2, .int x2), (3, .int (nI g))]) hx hb dX1_turned_36 hl (by decide) rfl (fun ls hl => ?_)
          have hV0 : V = (0, cn (fun k => if tq x2 (lvl lv g r) (rw12 rd r k) = 0 then 1 else 0) 12, (rd, lv, op, nt)) := by
            rw [hV]; simp only [sp_turned, tN, nI_clamp (show r < 2 ^ 31 by omega), nI_clamp (show g < 2 ^ 31 by omega), g1, g2, g3, Bool.and_false, Bool.false_and, Bool.and_true, Bool.true_and, Bool.and_self, sp_f, sp_tf, sp_tt]
          have loop : ∀ (n k : Nat), k + n = 12 → ∀ ls : Array Slot, lv_has ls 6 [(0, .ref h), (1, .int (nI r)), (2, .int x2), (3, .int (nI g)), (4, .int (cn (fun k => if tq x2 (lvl lv g r) (rw12 rd r k) = 0 then 1 else 0) k)), (5, .int (nI k))] → W p l e (headSpec wsX1_turned tv_rmM).room s m ([.ref h, .int (nI r), .int x2, .int (nI g)] : List Value).toArray below meth c H locs 0 0 (MQ below (tv_QM D cI cZ cL (tv_mw cI cZ h a1 a2 a3 a4) (tv_mw cI cZ h a1 a2 a3 a4 th (rd, lv, op, nt)) s.heap.size V) ([.ref h, .int (nI r), .int x2, .int (nI g)] : List Value).toArray s 0 0 (va_A (tv_mw cI cZ h a1 a2 a3 a4 th (rd, lv, op, nt)) s.heap.size)) (F0 m 38 ls []) := by
            intro n
            induction n with
            | zero =>
              intro k hk ls hl
              have hk2 : k = 12 := by omega
              subst hk2
              refine lv_iload hx hb dX1_turned_38 (lv_at hl 5 rfl) ?_
              refine lv_bipush (v := 12) hx hb dX1_turned_40 (by decide) ?_
              refine lv_icmp_ge (tgt := 81) hx hb dX1_turned_42 (by decide) (fun c_3 => ?_) (fun c_3 => ?_)
              · skip
                refine lv_iload hx hb dX1_turned_81 (lv_at hl 4 rfl) ?_
                exact tv_iretM (wf := (tv_mw cI cZ h a1 a2 a3 a4)) (th := 0) (z := cn (fun k => if tq x2 (lvl lv g r) (rw12 rd r k) = 0 then 1 else 0) 12) (σ := (rd, lv, op, nt)) (r := cn (fun k => if tq x2 (lvl lv g r) (rw12 rd r k) = 0 then 1 else 0) 12) hAe hV0 (fun _ => rfl) hx hb hr hP hK hD hS dX1_turned_83 hlocks
              · exact absurd (show nI 12 ≤ nI 12 from nI_le (Nat.le_refl _) (by omega)) c_3
            | succ n ih =>
              intro k hk ls hl
              refine lv_iload hx hb dX1_turned_38 (lv_at hl 5 rfl) ?_
              refine lv_bipush (v := 12) hx hb dX1_turned_40 (by decide) ?_
              refine lv_icmp_ge (tgt := 81) hx hb dX1_turned_42 (by decide) (fun c_4 => ?_) (fun c_4 => ?_)
              · exact absurd (show nI 12 ≤ nI k from c_4) (nI_ge (by omega) (by omega))
              · skip
                refine lv_iload hx hb dX1_turned_45 (lv_at hl 4 rfl) ?_
                refine lv_iload_n hx hb dX1_turned_47 rfl (lv_at hl 2 rfl) ?_
                refine lv_aload_n hx hb dX1_turned_48 rfl (lv_at hl 0 rfl) ?_
                refine lv_iload_n hx hb dX1_turned_49 rfl (lv_at hl 3 rfl) ?_
                refine lv_iload_n hx hb dX1_turned_50 rfl (lv_at hl 1 rfl) ?_
                refine tv_callR (W.runV (As := [.int (nI g), .int (nI r)]) (rest := [.int x2, .int (cn (fun k => if tq x2 (lvl lv g r) (rw12 rd r k) = 0 then 1 else 0) k)]) ⟨hx, hb, hml, hown, hts⟩ (c_X1_levelFor l D cI cZ cL h a1 a2 a3 a4 rd lv op nt 0 g r hg8 hr8) (cwV 2 hts gX1_turned_X1_levelFor rfl rfl rfl (by decide +kernel) ⟨Nat.le_of_ble_eq_true rfl, Nat.le_of_ble_eq_true rfl⟩) (tv_preV hP hK rfl 0 rfl) rfl rfl hl.1 rfl (lv_room (Nat.le_of_ble_eq_true rfl)) dX1_turned_51 ⟨Nat.le_of_ble_eq_true rfl, Nat.le_of_ble_eq_true rfl⟩) ?_
                refine lv_aload_n hx hb dX1_turned_54 rfl (lv_at hl 0 rfl) ?_
                refine lv_iload_n hx hb dX1_turned_55 rfl (lv_at hl 1 rfl) ?_
                refine lv_iload hx hb dX1_turned_56 (lv_at hl 5 rfl) ?_
                refine tv_callR (W.runV (As := [.int (nI r), .int (nI k)]) (rest := [.int (lvl lv g r), .int x2, .int (cn (fun k => if tq x2 (lvl lv g r) (rw12 rd r k) = 0 then 1 else 0) k)]) ⟨hx, hb, hml, hown, hts⟩ (c_X1_at l D cI cZ cL h a1 a2 a3 a4 rd lv op nt 0 r k hr8 (by omega)) (cwV 2 hts gX1_turned_X1_at rfl rfl rfl (by decide +kernel) ⟨Nat.le_of_ble_eq_true rfl, Nat.le_of_ble_eq_true rfl⟩) (tv_preV hP hK rfl 0 rfl) rfl rfl hl.1 rfl (lv_room (Nat.le_of_ble_eq_true rfl)) dX1_turned_58 ⟨Nat.le_of_ble_eq_true rfl, Nat.le_of_ble_eq_true rfl⟩) ?_
                refine tv_callR (W.runS (As := [.int x2, .int (lvl lv g r), .int (rd (12 * r + k))]) (rest := [.int (cn (fun k => if tq x2 (lvl lv g r) (rw12 rd r k) = 0 then 1 else 0) k)]) ⟨hx, hb, hml, hown, hts⟩ (c_X1_isTrue l x2 (lvl lv g r) (rd (12 * r + k))) (va_cwS 3 hts gX1_turned_X1_isTrue rfl rfl rfl (by decide +kernel) ⟨Nat.le_of_ble_eq_true rfl, Nat.le_of_ble_eq_true rfl⟩) preEq rfl rfl hl.1 rfl (lv_room (Nat.le_of_ble_eq_true rfl)) dX1_turned_61 ⟨Nat.le_of_ble_eq_true rfl, Nat.le_of_ble_eq_true rfl⟩) ?_
                refine lv_if_eq (tgt := 71) hx hb dX1_turned_64 (by decide) (fun c_5 => ?_) (fun c_5 => ?_)
                · skip
                  refine lv_iconst (v := 1) hx hb dX1_turned_71 (by decide) ?_
                  refine lv_iadd hx hb dX1_turned_72 ?_
                  refine lv_istore (lv' := [(4, .int ((cn (fun k => if tq x2 (lvl lv g r) (rw12 rd r k) = 0 then 1 else 0) k) + 1)), (0, .ref h), (1, .int (nI r)), (2, .int x2), (3, .int (nI g)), (5, .int (nI k))]) hx hb dX1_turned_73 hl (by decide) rfl (fun ls hl => ?_)
                  refine lv_iinc (v := nI (k + 1)) (lv' := [(5, .int (nI (k + 1))), (4, .int ((cn (fun k => if tq x2 (lvl lv g r) (rw12 rd r k) = 0 then 1 else 0) k) + 1)), (0, .ref h), (1, .int (nI r)), (2, .int x2), (3, .int (nI g))]) hx hb dX1_turned_75 hl (k := 5) rfl (nI_1 k) (by decide) rfl (fun ls hl => ?_)
                  refine lv_goto (tgt := 38) hx hb dX1_turned_78 (by decide) ?_
                  exact ih (k + 1) (by omega) ls (by rw [show cn (fun k => if tq x2 (lvl lv g r) (rw12 rd r k) = 0 then 1 else 0) (k + 1) = (cn (fun k => if tq x2 (lvl lv g r) (rw12 rd r k) = 0 then 1 else 0) k) + 1 from congrArg _ (if_pos c_5)]; exact lv_sub hl [2, 3, 4, 5, 1, 0] rfl)
                · skip
                  refine lv_iconst (v := 0) hx hb dX1_turned_67 (by decide) ?_
                  refine lv_goto (tgt := 72) hx hb dX1_turned_68 (by decide) ?_
                  refine lv_iadd hx hb dX1_turned_72 ?_
                  refine lv_istore (lv' := [(4, .int ((cn (fun k => if tq x2 (lvl lv g r) (rw12 rd r k) = 0 then 1 else 0) k) + 0)), (0, .ref h), (1, .int (nI r)), (2, .int x2), (3, .int (nI g)), (5, .int (nI k))]) hx hb dX1_turned_73 hl (by decide) rfl (fun ls hl => ?_)
                  refine lv_iinc (v := nI (k + 1)) (lv' := [(5, .int (nI (k + 1))), (4, .int ((cn (fun k => if tq x2 (lvl lv g r) (rw12 rd r k) = 0 then 1 else 0) k) + 0)), (0, .ref h), (1, .int (nI r)), (2, .int x2), (3, .int (nI g))]) hx hb dX1_turned_75 hl (k := 5) rfl (nI_1 k) (by decide) rfl (fun ls hl => ?_)
                  refine lv_goto (tgt := 38) hx hb dX1_turned_78 (by decide) ?_
                  exact ih (k + 1) (by omega) ls (by rw [show cn (fun k => if tq x2 (lvl lv g r) (rw12 rd r k) = 0 then 1 else 0) (k + 1) = (cn (fun k => if tq x2 (lvl lv g r) (rw12 rd r k) = 0 then 1 else 0) k) + 0 from congrArg _ (if_neg c_5)]; exact lv_sub hl [2, 3, 4, 5, 1, 0] rfl)
          exact loop 12 0 (by omega) ls (by rw [show cn (fun k => if tq x2 (lvl lv g r) (rw12 rd r k) = 0 then 1 else 0) 0 = 0 from rfl, show nI 0 = 0 from nI_0]; exact lv_sub hl [2, 3, 4, 5, 1, 0] rfl)
        · exact absurd c_2 (by decide)
    refine lv_iload_n hx hb dX1_turned_20 rfl (lv_at hl 2 rfl) ?_
    refine tv_callR (W.runS (As := [.int x2]) (rest := [.int (tv_b X), .ref h]) ⟨hx, hb, hml, hown, hts⟩ (c_X1_isSign l x2) (va_cwS 1 hts gX1_turned_X1_isSign rfl rfl rfl (by decide +kernel) ⟨Nat.le_of_ble_eq_true rfl, Nat.le_of_ble_eq_true rfl⟩) preEq rfl rfl hl.1 rfl (lv_room (Nat.le_of_ble_eq_true rfl)) dX1_turned_21 ⟨Nat.le_of_ble_eq_true rfl, Nat.le_of_ble_eq_true rfl⟩) ?_
    exact j2 _ rfl
  refine lv_iload_n hx hb dX1_turned_1 rfl (lv_at hl 1 rfl) ?_
  cases w1 : (tv_in 8 x1) with
  | false =>
    refine tv_callR (W.runS (As := [.int x1]) (rest := [.ref h]) ⟨hx, hb, hml, hown, hts⟩ (c_X1_isRow l x1) (va_cwS 1 hts gX1_turned_X1_isRow rfl rfl rfl (by decide +kernel) ⟨Nat.le_of_ble_eq_true rfl, Nat.le_of_ble_eq_true rfl⟩) preEq rfl rfl hl.1 rfl (lv_room (Nat.le_of_ble_eq_true rfl)) dX1_turned_2 ⟨Nat.le_of_ble_eq_true rfl, Nat.le_of_ble_eq_true rfl⟩) ?_
    refine tv_top 0 (by rw [w1]; rfl) ?_
    refine lv_if_eq (tgt := 19) hx hb dX1_turned_5 (by decide) (fun c_6 => ?_) (fun c_6 => ?_)
    · skip
      refine lv_iconst (v := 0) hx hb dX1_turned_19 (by decide) ?_
      refine tv_top (tv_b false) rfl ?_
      exact j1 false (by simp only [w1, Bool.true_and, Bool.false_and, Bool.and_false, Bool.and_true, Bool.and_self])
    · exact absurd rfl c_6
  | true =>
    refine tv_callR (W.runS (As := [.int x1]) (rest := [.ref h]) ⟨hx, hb, hml, hown, hts⟩ (c_X1_isRow l x1) (va_cwS 1 hts gX1_turned_X1_isRow rfl rfl rfl (by decide +kernel) ⟨Nat.le_of_ble_eq_true rfl, Nat.le_of_ble_eq_true rfl⟩) preEq rfl rfl hl.1 rfl (lv_room (Nat.le_of_ble_eq_true rfl)) dX1_turned_2 ⟨Nat.le_of_ble_eq_true rfl, Nat.le_of_ble_eq_true rfl⟩) ?_
    refine tv_top 1 (by rw [w1]; rfl) ?_
    refine lv_if_eq (tgt := 19) hx hb dX1_turned_5 (by decide) (fun c_7 => ?_) (fun c_7 => ?_)
    · exact absurd c_7 (by decide)
    · skip
      refine lv_iload_n hx hb dX1_turned_8 rfl (lv_at hl 3 rfl) ?_
      cases w2 : (tv_in 4 x3) with
      | false =>
        refine tv_callR (W.runS (As := [.int x3]) (rest := [.ref h]) ⟨hx, hb, hml, hown, hts⟩ (c_X1_isGate l x3) (va_cwS 1 hts gX1_turned_X1_isGate rfl rfl rfl (by decide +kernel) ⟨Nat.le_of_ble_eq_true rfl, Nat.le_of_ble_eq_true rfl⟩) preEq rfl rfl hl.1 rfl (lv_room (Nat.le_of_ble_eq_true rfl)) dX1_turned_9 ⟨Nat.le_of_ble_eq_true rfl, Nat.le_of_ble_eq_true rfl⟩) ?_
        refine tv_top 0 (by rw [w2]; rfl) ?_
        refine lv_if_eq (tgt := 19) hx hb dX1_turned_12 (by decide) (fun c_8 => ?_) (fun c_8 => ?_)
        · skip
          refine lv_iconst (v := 0) hx hb dX1_turned_19 (by decide) ?_
          refine tv_top (tv_b false) rfl ?_
          exact j1 false (by simp only [w1, w2, Bool.true_and, Bool.false_and, Bool.and_false, Bool.and_true, Bool.and_self])
        · exact absurd rfl c_8
      | true =>
        refine tv_callR (W.runS (As := [.int x3]) (rest := [.ref h]) ⟨hx, hb, hml, hown, hts⟩ (c_X1_isGate l x3) (va_cwS 1 hts gX1_turned_X1_isGate rfl rfl rfl (by decide +kernel) ⟨Nat.le_of_ble_eq_true rfl, Nat.le_of_ble_eq_true rfl⟩) preEq rfl rfl hl.1 rfl (lv_room (Nat.le_of_ble_eq_true rfl)) dX1_turned_9 ⟨Nat.le_of_ble_eq_true rfl, Nat.le_of_ble_eq_true rfl⟩) ?_
        refine tv_top 1 (by rw [w2]; rfl) ?_
        refine lv_if_eq (tgt := 19) hx hb dX1_turned_12 (by decide) (fun c_9 => ?_) (fun c_9 => ?_)
        · exact absurd c_9 (by decide)
        · skip
          refine lv_iconst (v := 1) hx hb dX1_turned_15 (by decide) ?_
          refine lv_goto (tgt := 20) hx hb dX1_turned_16 (by decide) ?_
          refine tv_top (tv_b true) rfl ?_
          exact j1 true (by simp only [w1, w2, Bool.true_and, Bool.false_and, Bool.and_false, Bool.and_true, Bool.and_self])
set_option maxHeartbeats 4000000 in
set_option maxRecDepth 100000 in
theorem c_X1_gaps (l : Launch) (D : va_G) (cI cZ cL : ClassId) (h a1 a2 a3 a4 : Nat) (rd lv op nt : Nat → Int32) (th : Int32) (sz : Nat) (x1 : Int32) (V : TV) (hV : V = sp_gaps x1 (rd, lv, op, nt)) : Met l yX1_gaps wsX1_gaps tv_rmM (tv_Pd D cI cZ cL (tv_mw cI cZ h a1 a2 a3 a4 th (rd, lv, op, nt)) sz [.ref h, .int x1]) (tv_QM D cI cZ cL (tv_mw cI cZ h a1 a2 a3 a4) (tv_mw cI cZ h a1 a2 a3 a4 th (rd, lv, op, nt)) sz V) 0 0 (va_A (tv_mw cI cZ h a1 a2 a3 a4 th (rd, lv, op, nt)) sz) := by
  refine Met.ofW (cc := cX1_gaps) (maxL := 4) (ret := (some .int)) (by decide) rfl ?_
  intro p e s m args below meth c s₁ B hml hv
  obtain ⟨rfl, hsz, hP, hK, hD0⟩ := hv
  subst hsz
  have hx := B.exec
  have hb := B.bytes
  have hr := B.returns
  have hts := atoms_spec (ws := wsX1_gaps) B.pre
  have hown : s.vm.findClass RX1 = some m.cls := findClass_of_methodNamed B.named
  have hlocks := B.notSynchronized
  have hD := hD0.self (sz := s.heap.size)
  obtain ⟨A, hAe⟩ : ∃ A, A = va_A (tv_mw cI cZ h a1 a2 a3 a4 th (rd, lv, op, nt)) s.heap.size := ⟨_, rfl⟩
  rw [← hAe] at hD
  have hA : ∀ q : Nat, s.heap.size ≤ q → A q := fun q h => by rw [hAe]; exact Or.inr h
  have hS : va_S A s.heap s.heap [] := va_S.rf
  clear hD0
  have hl := lv_entry ([.ref h, .int x1]) (n := 4) (Nat.le_of_ble_eq_true rfl)
  rw [lg_entry_eq]
  generalize (lg_sl ([.ref h, .int x1]) ++ List.replicate (4 - (lg_sl ([.ref h, .int x1])).length) Slot.unset).toArray = ls at hl ⊢
  have hl : lv_has ls 4 [(0, .ref h), (1, .int x1)] := hl
  refine lv_aload_n hx hb dX1_gaps_0 rfl (lv_at hl 0 rfl) ?_
  have j1 : ∀ X : Bool, X = (tv_in 8 x1) → W p l e (headSpec wsX1_gaps tv_rmM).room s m ([.ref h, .int x1] : List Value).toArray below meth c s.heap [] 0 0 (MQ below (tv_QM D cI cZ cL (tv_mw cI cZ h a1 a2 a3 a4) (tv_mw cI cZ h a1 a2 a3 a4 th (rd, lv, op, nt)) s.heap.size V) ([.ref h, .int x1] : List Value).toArray s 0 0 (va_A (tv_mw cI cZ h a1 a2 a3 a4 th (rd, lv, op, nt)) s.heap.size)) (F0 m 5 ls [.int (tv_b X), .ref h]) := by
    intro X hX
    refine lv_iconst (v := 1) hx hb dX1_gaps_5 (by decide) ?_
    refine tv_top (tv_b true) rfl ?_
    refine tv_callW (D := D) (ws := tv_mw cI cZ h a1 a2 a3 a4 th (rd, lv, op, nt)) (wc := [(h, .inr (1, [.ref a1, .ref a2, .ref a3, .ref a4, .int th]))]) (wr := [(a1, .inl (cI, 96, .inl (rd))), (a2, .inl (cI, 8, .inl (lv))), (a3, .inl (cZ, 4, .inl (op))), (a4, .inl (cI, 8, .inl (nt)))]) (wc' := [(h, .inr (1, [.ref a1, .ref a2, .ref a3, .ref a4, .int (tv_cd X true)]))]) (wsN := tv_mw cI cZ h a1 a2 a3 a4 (tv_cd X true) (rd, lv, op, nt)) (r := tv_b (X && true)) (va_runV (As := [.int (tv_b X), .int (tv_b true)]) (rest := []) ⟨hx, hb, hml, hown, hts⟩ (c_X1_may l D cI cZ cL h a1 a2 a3 a4 th s.heap.size X true) (cwV 2 hts gX1_gaps_X1_may rfl rfl rfl (by decide +kernel) ⟨Nat.le_of_ble_eq_true rfl, Nat.le_of_ble_eq_true rfl⟩) (tv_preDV hP hK hD [0] rfl rfl rfl rfl 0 rfl) rfl rfl hl.1 rfl (lv_room (Nat.le_of_ble_eq_true rfl)) dX1_gaps_6 ⟨Nat.le_of_ble_eq_true rfl, Nat.le_of_ble_eq_true rfl⟩) hP hD hS hA [0] [1, 2, 3, 4] rfl rfl rfl (by decide) [4, 0, 1, 2, 3] rfl rfl rfl (fun H locs hP hD hS => ?_)
    cases hab : (X && true) with
    | false =>
      have hV1 : V = (tv_cd X true, 0, (rd, lv, op, nt)) := by
        rw [hV]; unfold sp_gaps; rw [← hX]; exact sp_cd hab
      refine lv_if_ne (tgt := 14) hx hb dX1_gaps_9 (by decide) (fun c_1 => ?_) (fun c_1 => ?_)
      · exact absurd rfl c_1
      · skip
        refine lv_iconst (v := 0) hx hb dX1_gaps_12 (by decide) ?_
        exact tv_iretM (wf := (tv_mw cI cZ h a1 a2 a3 a4)) (th := tv_cd X true) (z := 0) (σ := (rd, lv, op, nt)) (r := 0) hAe hV1 (fun _ => rfl) hx hb hr hP hK hD hS dX1_gaps_13 hlocks
    | true =>
      obtain ⟨hX1, hY1⟩ := Bool.and_eq_true_iff.mp hab
      subst hX1
      refine lv_if_ne (tgt := 14) hx hb dX1_gaps_9 (by decide) (fun c_2 => ?_) (fun c_2 => ?_)
      · skip
        have hP : va_P D vwCl (tv_mw cI cZ h a1 a2 a3 a4 0 (rd, lv, op, nt)) H := hP
        have hD : va_D A (tv_mw cI cZ h a1 a2 a3 a4 0 (rd, lv, op, nt)) := hD
        have hX := hX.symm
        have g1 := hX
        obtain ⟨r, hr8, rfl⟩ := tv_in_of (by omega) g1
        refine lv_iconst (v := 0) hx hb dX1_gaps_14 (by decide) ?_
        refine lv_istore_n (lv' := [(2, .int 0), (0, .ref h), (1, .int (nI r))]) hx hb dX1_gaps_15 rfl hl (by decide) rfl (fun ls hl => ?_)
        refine lv_iconst (v := 0) hx hb dX1_gaps_16 (by decide) ?_
        refine lv_istore_n (lv' := [(3, .int 0), (2, .int 0), (0, .ref h), (1, .int (nI r))]) hx hb dX1_gaps_17 rfl hl (by decide) rfl (fun ls hl => ?_)
        have hV0 : V = (0, cn (fun k => if rw12 rd r k = -2147483648 then 1 else 0) 12, (rd, lv, op, nt)) := by
          rw [hV]; simp only [sp_gaps, tN, nI_clamp (show r < 2 ^ 31 by omega), g1, Bool.and_false, Bool.false_and, Bool.and_true, Bool.true_and, Bool.and_self, sp_f, sp_tf, sp_tt]
        have loop : ∀ (n k : Nat), k + n = 12 → ∀ ls : Array Slot, lv_has ls 4 [(0, .ref h), (1, .int (nI r)), (2, .int (cn (fun k => if rw12 rd r k = -2147483648 then 1 else 0) k)), (3, .int (nI k))] → W p l e (headSpec wsX1_gaps tv_rmM).room s m ([.ref h, .int (nI r)] : List Value).toArray below meth c H locs 0 0 (MQ below (tv_QM D cI cZ cL (tv_mw cI cZ h a1 a2 a3 a4) (tv_mw cI cZ h a1 a2 a3 a4 th (rd, lv, op, nt)) s.heap.size V) ([.ref h, .int (nI r)] : List Value).toArray s 0 0 (va_A (tv_mw cI cZ h a1 a2 a3 a4 th (rd, lv, op, nt)) s.heap.size)) (F0 m 18 ls []) := by
          intro n
          induction n with
          | zero =>
            intro k hk ls hl
            have hk2 : k = 12 := by omega
            subst hk2
            refine lv_iload_n hx hb dX1_gaps_18 rfl (lv_at hl 3 rfl) ?_
            refine lv_bipush (v := 12) hx hb dX1_gaps_19 (by decide) ?_
            refine lv_icmp_ge (tgt := 49) hx hb dX1_gaps_21 (by decide) (fun c_3 => ?_) (fun c_3 => ?_)
            · skip
              refine lv_iload_n hx hb dX1_gaps_49 rfl (lv_at hl 2 rfl) ?_
              exact tv_iretM (wf := (tv_mw cI cZ h a1 a2 a3 a4)) (th := 0) (z := cn (fun k => if rw12 rd r k = -2147483648 then 1 else 0) 12) (σ := (rd, lv, op, nt)) (r := cn (fun k => if rw12 rd r k = -2147483648 then 1 else 0) 12) hAe hV0 (fun _ => rfl) hx hb hr hP hK hD hS dX1_gaps_50 hlocks
            · exact absurd (show nI 12 ≤ nI 12 from nI_le (Nat.le_refl _) (by omega)) c_3
          | succ n ih =>
            intro k hk ls hl
            refine lv_iload_n hx hb dX1_gaps_18 rfl (lv_at hl 3 rfl) ?_
            refine lv_bipush (v := 12) hx hb dX1_gaps_19 (by decide) ?_
            refine lv_icmp_ge (tgt := 49) hx hb dX1_gaps_21 (by decide) (fun c_4 => ?_) (fun c_4 => ?_)
            · exact absurd (show nI 12 ≤ nI k from c_4) (nI_ge (by omega) (by omega))
            · skip
              refine lv_iload_n hx hb dX1_gaps_24 rfl (lv_at hl 2 rfl) ?_
              refine lv_aload_n hx hb dX1_gaps_25 rfl (lv_at hl 0 rfl) ?_
              refine lv_iload_n hx hb dX1_gaps_26 rfl (lv_at hl 1 rfl) ?_
              refine lv_iload_n hx hb dX1_gaps_27 rfl (lv_at hl 3 rfl) ?_
              refine tv_callR (W.runV (As := [.int (nI r), .int (nI k)]) (rest := [.int (cn (fun k => if rw12 rd r k = -2147483648 then 1 else 0) k)]) ⟨hx, hb, hml, hown, hts⟩ (c_X1_at l D cI cZ cL h a1 a2 a3 a4 rd lv op nt 0 r k hr8 (by omega)) (cwV 2 hts gX1_gaps_X1_at rfl rfl rfl (by decide +kernel) ⟨Nat.le_of_ble_eq_true rfl, Nat.le_of_ble_eq_true rfl⟩) (tv_preV hP hK rfl 0 rfl) rfl rfl hl.1 rfl (lv_room (Nat.le_of_ble_eq_true rfl)) dX1_gaps_28 ⟨Nat.le_of_ble_eq_true rfl, Nat.le_of_ble_eq_true rfl⟩) ?_
              refine lv_ldc (v := -2147483648) hx hb hown (hts (.constant RX1 23 (-2147483648)) (by decide +kernel)) dX1_gaps_31 ?_
              refine lv_icmp_ne (tgt := 40) hx hb dX1_gaps_33 (by decide) (fun c_5 => ?_) (fun c_5 => ?_)
              · skip
                refine lv_iconst (v := 0) hx hb dX1_gaps_40 (by decide) ?_
                refine lv_iadd hx hb dX1_gaps_41 ?_
                refine lv_istore_n (lv' := [(2, .int ((cn (fun k => if rw12 rd r k = -2147483648 then 1 else 0) k) + 0)), (0, .ref h), (1, .int (nI r)), (3, .int (nI k))]) hx hb dX1_gaps_42 rfl hl (by decide) rfl (fun ls hl => ?_)
                refine lv_iinc (v := nI (k + 1)) (lv' := [(3, .int (nI (k + 1))), (2, .int ((cn (fun k => if rw12 rd r k = -2147483648 then 1 else 0) k) + 0)), (0, .ref h), (1, .int (nI r))]) hx hb dX1_gaps_43 hl (k := 3) rfl (nI_1 k) (by decide) rfl (fun ls hl => ?_)
                refine lv_goto (tgt := 18) hx hb dX1_gaps_46 (by decide) ?_
                exact ih (k + 1) (by omega) ls (by rw [show cn (fun k => if rw12 rd r k = -2147483648 then 1 else 0) (k + 1) = (cn (fun k => if rw12 rd r k = -2147483648 then 1 else 0) k) + 0 from congrArg _ (if_neg c_5)]; exact lv_sub hl [2, 3, 1, 0] rfl)
              · skip
                refine lv_iconst (v := 1) hx hb dX1_gaps_36 (by decide) ?_
                refine lv_goto (tgt := 41) hx hb dX1_gaps_37 (by decide) ?_
                refine lv_iadd hx hb dX1_gaps_41 ?_
                refine lv_istore_n (lv' := [(2, .int ((cn (fun k => if rw12 rd r k = -2147483648 then 1 else 0) k) + 1)), (0, .ref h), (1, .int (nI r)), (3, .int (nI k))]) hx hb dX1_gaps_42 rfl hl (by decide) rfl (fun ls hl => ?_)
                refine lv_iinc (v := nI (k + 1)) (lv' := [(3, .int (nI (k + 1))), (2, .int ((cn (fun k => if rw12 rd r k = -2147483648 then 1 else 0) k) + 1)), (0, .ref h), (1, .int (nI r))]) hx hb dX1_gaps_43 hl (k := 3) rfl (nI_1 k) (by decide) rfl (fun ls hl => ?_)
                refine lv_goto (tgt := 18) hx hb dX1_gaps_46 (by decide) ?_
                exact ih (k + 1) (by omega) ls (by rw [show cn (fun k => if rw12 rd r k = -2147483648 then 1 else 0) (k + 1) = (cn (fun k => if rw12 rd r k = -2147483648 then 1 else 0) k) + 1 from congrArg _ (if_pos c_5)]; exact lv_sub hl [2, 3, 1, 0] rfl)
        exact loop 12 0 (by omega) ls (by rw [show cn (fun k => if rw12 rd r k = -2147483648 then 1 else 0) 0 = 0 from rfl, show nI 0 = 0 from nI_0]; exact lv_sub hl [2, 3, 1, 0] rfl)
      · exact absurd c_2 (by decide)
  refine lv_iload_n hx hb dX1_gaps_1 rfl (lv_at hl 1 rfl) ?_
  refine tv_callR (W.runS (As := [.int x1]) (rest := [.ref h]) ⟨hx, hb, hml, hown, hts⟩ (c_X1_isRow l x1) (va_cwS 1 hts gX1_gaps_X1_isRow rfl rfl rfl (by decide +kernel) ⟨Nat.le_of_ble_eq_true rfl, Nat.le_of_ble_eq_true rfl⟩) preEq rfl rfl hl.1 rfl (lv_room (Nat.le_of_ble_eq_true rfl)) dX1_gaps_2 ⟨Nat.le_of_ble_eq_true rfl, Nat.le_of_ble_eq_true rfl⟩) ?_
  exact j1 _ rfl
set_option maxHeartbeats 4000000 in
set_option maxRecDepth 100000 in
theorem c_X1_meet (l : Launch) (D : va_G) (cI cZ cL : ClassId) (h a1 a2 a3 a4 : Nat) (rd lv op nt : Nat → Int32) (th : Int32) (sz : Nat) (x1 x2 x3 : Int32) (V : TV) (hV : V = sp_meet x1 x2 x3 (rd, lv, op, nt)) : Met l yX1_meet wsX1_meet tv_rmM (tv_Pd D cI cZ cL (tv_mw cI cZ h a1 a2 a3 a4 th (rd, lv, op, nt)) sz [.ref h, .int x1, .int x2, .int x3]) (tv_QM D cI cZ cL (tv_mw cI cZ h a1 a2 a3 a4) (tv_mw cI cZ h a1 a2 a3 a4 th (rd, lv, op, nt)) sz V) 0 0 (va_A (tv_mw cI cZ h a1 a2 a3 a4 th (rd, lv, op, nt)) sz) := by
  refine Met.ofW (cc := cX1_meet) (maxL := 6) (ret := (some .int)) (by decide) rfl ?_
  intro p e s m args below meth c s₁ B hml hv
  obtain ⟨rfl, hsz, hP, hK, hD0⟩ := hv
  subst hsz
  have hx := B.exec
  have hb := B.bytes
  have hr := B.returns
  have hts := atoms_spec (ws := wsX1_meet) B.pre
  have hown : s.vm.findClass RX1 = some m.cls := findClass_of_methodNamed B.named
  have hlocks := B.notSynchronized
  have hD := hD0.self (sz := s.heap.size)
  obtain ⟨A, hAe⟩ : ∃ A, A = va_A (tv_mw cI cZ h a1 a2 a3 a4 th (rd, lv, op, nt)) s.heap.size := ⟨_, rfl⟩
  rw [← hAe] at hD
  have hA : ∀ q : Nat, s.heap.size ≤ q → A q := fun q h => by rw [hAe]; exact Or.inr h
  have hS : va_S A s.heap s.heap [] := va_S.rf
  clear hD0
  have hl := lv_entry ([.ref h, .int x1, .int x2, .int x3]) (n := 6) (Nat.le_of_ble_eq_true rfl)
  rw [lg_entry_eq]
  generalize (lg_sl ([.ref h, .int x1, .int x2, .int x3]) ++ List.replicate (6 - (lg_sl ([.ref h, .int x1, .int x2, .int x3])).length) Slot.unset).toArray = ls at hl ⊢
  have hl : lv_has ls 6 [(0, .ref h), (1, .int x1), (2, .int x2), (3, .int x3)] := hl
  refine lv_aload_n hx hb dX1_meet_0 rfl (lv_at hl 0 rfl) ?_
  have j1 : ∀ X : Bool, X = (tv_in 8 x1 && tv_in 8 x2) → W p l e (headSpec wsX1_meet tv_rmM).room s m ([.ref h, .int x1, .int x2, .int x3] : List Value).toArray below meth c s.heap [] 0 0 (MQ below (tv_QM D cI cZ cL (tv_mw cI cZ h a1 a2 a3 a4) (tv_mw cI cZ h a1 a2 a3 a4 th (rd, lv, op, nt)) s.heap.size V) ([.ref h, .int x1, .int x2, .int x3] : List Value).toArray s 0 0 (va_A (tv_mw cI cZ h a1 a2 a3 a4 th (rd, lv, op, nt)) s.heap.size)) (F0 m 20 ls [.int (tv_b X), .ref h]) := by
    intro X hX
    have j2 : ∀ Y : Bool, Y = (tv_sg x3 && tv_os x1 x2) → W p l e (headSpec wsX1_meet tv_rmM).room s m ([.ref h, .int x1, .int x2, .int x3] : List Value).toArray below meth c s.heap [] 0 0 (MQ below (tv_QM D cI cZ cL (tv_mw cI cZ h a1 a2 a3 a4) (tv_mw cI cZ h a1 a2 a3 a4 th (rd, lv, op, nt)) s.heap.size V) ([.ref h, .int x1, .int x2, .int x3] : List Value).toArray s 0 0 (va_A (tv_mw cI cZ h a1 a2 a3 a4 th (rd, lv, op, nt)) s.heap.size)) (F0 m 40 ls [.int (tv_b Y), .int (tv_b X), .ref h]) := by
      intro Y hY
      refine tv_callW (D := D) (ws := tv_mw cI cZ h a1 a2 a3 a4 th (rd, lv, op, nt)) (wc := [(h, .inr (1, [.ref a1, .ref a2, .ref a3, .ref a4, .int th]))]) (wr := [(a1, .inl (cI, 96, .inl (rd))), (a2, .inl (cI, 8, .inl (lv))), (a3, .inl (cZ, 4, .inl (op))), (a4, .inl (cI, 8, .inl (nt)))]) (wc' := [(h, .inr (1, [.ref a1, .ref a2, .ref a3, .ref a4, .int (tv_cd X Y)]))]) (wsN := tv_mw cI cZ h a1 a2 a3 a4 (tv_cd X Y) (rd, lv, op, nt)) (r := tv_b (X && Y)) (va_runV (As := [.int (tv_b X), .int (tv_b Y)]) (rest := []) ⟨hx, hb, hml, hown, hts⟩ (c_X1_may l D cI cZ cL h a1 a2 a3 a4 th s.heap.size X Y) (cwV 2 hts gX1_meet_X1_may rfl rfl rfl (by decide +kernel) ⟨Nat.le_of_ble_eq_true rfl, Nat.le_of_ble_eq_true rfl⟩) (tv_preDV hP hK hD [0] rfl rfl rfl rfl 0 rfl) rfl rfl hl.1 rfl (lv_room (Nat.le_of_ble_eq_true rfl)) dX1_meet_40 ⟨Nat.le_of_ble_eq_true rfl, Nat.le_of_ble_eq_true rfl⟩) hP hD hS hA [0] [1, 2, 3, 4] rfl rfl rfl (by decide) [4, 0, 1, 2, 3] rfl rfl rfl (fun H locs hP hD hS => ?_)
      cases hab : (X && Y) with
      | false =>
        have hV1 : V = (tv_cd X Y, 0, (rd, lv, op, nt)) := by
          rw [hV]; unfold sp_meet; rw [← hX, ← hY]; exact sp_cd hab
        refine lv_if_ne (tgt := 48) hx hb dX1_meet_43 (by decide) (fun c_1 => ?_) (fun c_1 => ?_)
        · exact absurd rfl c_1
        · skip
          refine lv_iconst (v := 0) hx hb dX1_meet_46 (by decide) ?_
          exact tv_iretM (wf := (tv_mw cI cZ h a1 a2 a3 a4)) (th := tv_cd X Y) (z := 0) (σ := (rd, lv, op, nt)) (r := 0) hAe hV1 (fun _ => rfl) hx hb hr hP hK hD hS dX1_meet_47 hlocks
      | true =>
        obtain ⟨hX1, hY1⟩ := Bool.and_eq_true_iff.mp hab
        subst hX1
        subst hY1
        refine lv_if_ne (tgt := 48) hx hb dX1_meet_43 (by decide) (fun c_2 => ?_) (fun c_2 => ?_)
        · skip
          have hP : va_P D vwCl (tv_mw cI cZ h a1 a2 a3 a4 0 (rd, lv, op, nt)) H := hP
          have hD : va_D A (tv_mw cI cZ h a1 a2 a3 a4 0 (rd, lv, op, nt)) := hD
          have hX := hX.symm
          simp only [Bool.and_eq_true] at hX
          obtain ⟨g1, g2⟩ := hX
          have hY := hY.symm
          simp only [Bool.and_eq_true] at hY
          obtain ⟨g3, g4⟩ := hY
          obtain ⟨r, hr8, rfl⟩ := tv_in_of (by omega) g1
          obtain ⟨q, hq8, rfl⟩ := tv_in_of (by omega) g2
          refine lv_iconst (v := 0) hx hb dX1_meet_48 (by decide) ?_
          refine lv_istore (lv' := [(4, .int 0), (0, .ref h), (1, .int (nI r)), (2, .int (nI q)), (3, .int x3)]) hx hb dX1_meet_49 hl (by decide) rfl (fun ls hl => ?_)
          refine lv_iconst (v := 0) hx hb dX1_meet_51 (by decide) ?_
          refine lv_istore (lv' := [(5, .int 0), (4, .int 0), (0, .ref h), (1, .int (nI r)), (2, .int (nI q)), (3, .int x3)]) hx hb dX1_meet_52 hl (by decide) rfl (fun ls hl => ?_)
          have hV0 : V = (0, cn (fun k => tq x3 (rw12 rd r k) (rw12 rd q k)) 12, (rd, lv, op, nt)) := by
            rw [hV]; simp only [sp_meet, tN, nI_clamp (show r < 2 ^ 31 by omega), nI_clamp (show q < 2 ^ 31 by omega), g1, g2, g3, g4, Bool.and_false, Bool.false_and, Bool.and_true, Bool.true_and, Bool.and_self, sp_f, sp_tf, sp_tt]
          have loop : ∀ (n k : Nat), k + n = 12 → ∀ ls : Array Slot, lv_has ls 6 [(0, .ref h), (1, .int (nI r)), (2, .int (nI q)), (3, .int x3), (4, .int (cn (fun k => tq x3 (rw12 rd r k) (rw12 rd q k)) k)), (5, .int (nI k))] → W p l e (headSpec wsX1_meet tv_rmM).room s m ([.ref h, .int (nI r), .int (nI q), .int x3] : List Value).toArray below meth c H locs 0 0 (MQ below (tv_QM D cI cZ cL (tv_mw cI cZ h a1 a2 a3 a4) (tv_mw cI cZ h a1 a2 a3 a4 th (rd, lv, op, nt)) s.heap.size V) ([.ref h, .int (nI r), .int (nI q), .int x3] : List Value).toArray s 0 0 (va_A (tv_mw cI cZ h a1 a2 a3 a4 th (rd, lv, op, nt)) s.heap.size)) (F0 m 54 ls []) := by
            intro n
            induction n with
            | zero =>
              intro k hk ls hl
              have hk2 : k = 12 := by omega
              subst hk2
              refine lv_iload hx hb dX1_meet_54 (lv_at hl 5 rfl) ?_
              refine lv_bipush (v := 12) hx hb dX1_meet_56 (by decide) ?_
              refine lv_icmp_ge (tgt := 98) hx hb dX1_meet_58 (by decide) (fun c_3 => ?_) (fun c_3 => ?_)
              · skip
                refine lv_iload hx hb dX1_meet_98 (lv_at hl 4 rfl) ?_
                exact tv_iretM (wf := (tv_mw cI cZ h a1 a2 a3 a4)) (th := 0) (z := cn (fun k => tq x3 (rw12 rd r k) (rw12 rd q k)) 12) (σ := (rd, lv, op, nt)) (r := cn (fun k => tq x3 (rw12 rd r k) (rw12 rd q k)) 12) hAe hV0 (fun _ => rfl) hx hb hr hP hK hD hS dX1_meet_100 hlocks
              · exact absurd (show nI 12 ≤ nI 12 from nI_le (Nat.le_refl _) (by omega)) c_3
            | succ n ih =>
              intro k hk ls hl
              refine lv_iload hx hb dX1_meet_54 (lv_at hl 5 rfl) ?_
              refine lv_bipush (v := 12) hx hb dX1_meet_56 (by decide) ?_
              refine lv_icmp_ge (tgt := 98) hx hb dX1_meet_58 (by decide) (fun c_4 => ?_) (fun c_4 => ?_)
              · exact absurd (show nI 12 ≤ nI k from c_4) (nI_ge (by omega) (by omega))
              · skip
                refine lv_iload hx hb dX1_meet_61 (lv_at hl 4 rfl) ?_
                refine lv_iload_n hx hb dX1_meet_63 rfl (lv_at hl 3 rfl) ?_
                refine lv_aload_n hx hb dX1_meet_64 rfl (lv_at hl 0 rfl) ?_
                refine lv_iload_n hx hb dX1_meet_65 rfl (lv_at hl 1 rfl) ?_
                refine lv_iload hx hb dX1_meet_66 (lv_at hl 5 rfl) ?_
                refine tv_callR (W.runV (As := [.int (nI r), .int (nI k)]) (rest := [.int x3, .int (cn (fun k => tq x3 (rw12 rd r k) (rw12 rd q k)) k)]) ⟨hx, hb, hml, hown, hts⟩ (c_X1_at l D cI cZ cL h a1 a2 a3 a4 rd lv op nt 0 r k hr8 (by omega)) (cwV 2 hts gX1_meet_X1_at rfl rfl rfl (by decide +kernel) ⟨Nat.le_of_ble_eq_true rfl, Nat.le_of_ble_eq_true rfl⟩) (tv_preV hP hK rfl 0 rfl) rfl rfl hl.1 rfl (lv_room (Nat.le_of_ble_eq_true rfl)) dX1_meet_68 ⟨Nat.le_of_ble_eq_true rfl, Nat.le_of_ble_eq_true rfl⟩) ?_
                refine lv_aload_n hx hb dX1_meet_71 rfl (lv_at hl 0 rfl) ?_
                refine lv_iload_n hx hb dX1_meet_72 rfl (lv_at hl 2 rfl) ?_
                refine lv_iload hx hb dX1_meet_73 (lv_at hl 5 rfl) ?_
                refine tv_callR (W.runV (As := [.int (nI q), .int (nI k)]) (rest := [.int (rd (12 * r + k)), .int x3, .int (cn (fun k => tq x3 (rw12 rd r k) (rw12 rd q k)) k)]) ⟨hx, hb, hml, hown, hts⟩ (c_X1_at l D cI cZ cL h a1 a2 a3 a4 rd lv op nt 0 q k hq8 (by omega)) (cwV 2 hts gX1_meet_X1_at rfl rfl rfl (by decide +kernel) ⟨Nat.le_of_ble_eq_true rfl, Nat.le_of_ble_eq_true rfl⟩) (tv_preV hP hK rfl 0 rfl) rfl rfl hl.1 rfl (lv_room (Nat.le_of_ble_eq_true rfl)) dX1_meet_75 ⟨Nat.le_of_ble_eq_true rfl, Nat.le_of_ble_eq_true rfl⟩) ?_
                refine tv_callR (W.runS (As := [.int x3, .int (rd (12 * r + k)), .int (rd (12 * q + k))]) (rest := [.int (cn (fun k => tq x3 (rw12 rd r k) (rw12 rd q k)) k)]) ⟨hx, hb, hml, hown, hts⟩ (c_X1_isTrue l x3 (rd (12 * r + k)) (rd (12 * q + k))) (va_cwS 3 hts gX1_meet_X1_isTrue rfl rfl rfl (by decide +kernel) ⟨Nat.le_of_ble_eq_true rfl, Nat.le_of_ble_eq_true rfl⟩) preEq rfl rfl hl.1 rfl (lv_room (Nat.le_of_ble_eq_true rfl)) dX1_meet_78 ⟨Nat.le_of_ble_eq_true rfl, Nat.le_of_ble_eq_true rfl⟩) ?_
                refine lv_if_eq (tgt := 88) hx hb dX1_meet_81 (by decide) (fun c_5 => ?_) (fun c_5 => ?_)
                · skip
                  refine lv_iconst (v := 0) hx hb dX1_meet_88 (by decide) ?_
                  refine lv_iadd hx hb dX1_meet_89 ?_
                  refine lv_istore (lv' := [(4, .int ((cn (fun k => tq x3 (rw12 rd r k) (rw12 rd q k)) k) + 0)), (0, .ref h), (1, .int (nI r)), (2, .int (nI q)), (3, .int x3), (5, .int (nI k))]) hx hb dX1_meet_90 hl (by decide) rfl (fun ls hl => ?_)
                  refine lv_iinc (v := nI (k + 1)) (lv' := [(5, .int (nI (k + 1))), (4, .int ((cn (fun k => tq x3 (rw12 rd r k) (rw12 rd q k)) k) + 0)), (0, .ref h), (1, .int (nI r)), (2, .int (nI q)), (3, .int x3)]) hx hb dX1_meet_92 hl (k := 5) rfl (nI_1 k) (by decide) rfl (fun ls hl => ?_)
                  refine lv_goto (tgt := 54) hx hb dX1_meet_95 (by decide) ?_
                  exact ih (k + 1) (by omega) ls (by rw [show cn (fun k => tq x3 (rw12 rd r k) (rw12 rd q k)) (k + 1) = (cn (fun k => tq x3 (rw12 rd r k) (rw12 rd q k)) k) + 0 from congrArg _ c_5]; exact lv_sub hl [2, 3, 4, 5, 1, 0] rfl)
                · skip
                  refine lv_iconst (v := 1) hx hb dX1_meet_84 (by decide) ?_
                  refine lv_goto (tgt := 89) hx hb dX1_meet_85 (by decide) ?_
                  refine lv_iadd hx hb dX1_meet_89 ?_
                  refine lv_istore (lv' := [(4, .int ((cn (fun k => tq x3 (rw12 rd r k) (rw12 rd q k)) k) + 1)), (0, .ref h), (1, .int (nI r)), (2, .int (nI q)), (3, .int x3), (5, .int (nI k))]) hx hb dX1_meet_90 hl (by decide) rfl (fun ls hl => ?_)
                  refine lv_iinc (v := nI (k + 1)) (lv' := [(5, .int (nI (k + 1))), (4, .int ((cn (fun k => tq x3 (rw12 rd r k) (rw12 rd q k)) k) + 1)), (0, .ref h), (1, .int (nI r)), (2, .int (nI q)), (3, .int x3)]) hx hb dX1_meet_92 hl (k := 5) rfl (nI_1 k) (by decide) rfl (fun ls hl => ?_)
                  refine lv_goto (tgt := 54) hx hb dX1_meet_95 (by decide) ?_
                  exact ih (k + 1) (by omega) ls (by rw [show cn (fun k => tq x3 (rw12 rd r k) (rw12 rd q k)) (k + 1) = (cn (fun k => tq x3 (rw12 rd r k) (rw12 rd q k)) k) + 1 from congrArg _ (tq1 c_5)]; exact lv_sub hl [2, 3, 4, 5, 1, 0] rfl)
          exact loop 12 0 (by omega) ls (by rw [show cn (fun k => tq x3 (rw12 rd r k) (rw12 rd q k)) 0 = 0 from rfl, show nI 0 = 0 from nI_0]; exact lv_sub hl [2, 3, 4, 5, 1, 0] rfl)
        · exact absurd c_2 (by decide)
    refine lv_iload_n hx hb dX1_meet_20 rfl (lv_at hl 3 rfl) ?_
    cases u1 : (tv_sg x3) with
    | false =>
      refine tv_callR (W.runS (As := [.int x3]) (rest := [.int (tv_b X), .ref h]) ⟨hx, hb, hml, hown, hts⟩ (c_X1_isSign l x3) (va_cwS 1 hts gX1_meet_X1_isSign rfl rfl rfl (by decide +kernel) ⟨Nat.le_of_ble_eq_true rfl, Nat.le_of_ble_eq_true rfl⟩) preEq rfl rfl hl.1 rfl (lv_room (Nat.le_of_ble_eq_true rfl)) dX1_meet_21 ⟨Nat.le_of_ble_eq_true rfl, Nat.le_of_ble_eq_true rfl⟩) ?_
      refine tv_top 0 (by rw [u1]; rfl) ?_
      refine lv_if_eq (tgt := 39) hx hb dX1_meet_24 (by decide) (fun c_6 => ?_) (fun c_6 => ?_)
      · skip
        refine lv_iconst (v := 0) hx hb dX1_meet_39 (by decide) ?_
        refine tv_top (tv_b false) rfl ?_
        exact j2 false (by simp only [u1, Bool.true_and, Bool.false_and, Bool.and_false, Bool.and_true, Bool.and_self])
      · exact absurd rfl c_6
    | true =>
      refine tv_callR (W.runS (As := [.int x3]) (rest := [.int (tv_b X), .ref h]) ⟨hx, hb, hml, hown, hts⟩ (c_X1_isSign l x3) (va_cwS 1 hts gX1_meet_X1_isSign rfl rfl rfl (by decide +kernel) ⟨Nat.le_of_ble_eq_true rfl, Nat.le_of_ble_eq_true rfl⟩) preEq rfl rfl hl.1 rfl (lv_room (Nat.le_of_ble_eq_true rfl)) dX1_meet_21 ⟨Nat.le_of_ble_eq_true rfl, Nat.le_of_ble_eq_true rfl⟩) ?_
      refine tv_top 1 (by rw [u1]; rfl) ?_
      refine lv_if_eq (tgt := 39) hx hb dX1_meet_24 (by decide) (fun c_7 => ?_) (fun c_7 => ?_)
      · exact absurd c_7 (by decide)
      · skip
        refine lv_iload_n hx hb dX1_meet_27 rfl (lv_at hl 1 rfl) ?_
        refine lv_iload_n hx hb dX1_meet_28 rfl (lv_at hl 2 rfl) ?_
        cases u2 : (tv_os x1 x2) with
        | false =>
          refine tv_callR (W.runS (As := [.int x1, .int x2]) (rest := [.int (tv_b X), .ref h]) ⟨hx, hb, hml, hown, hts⟩ (c_X1_areOneSort l x1 x2) (va_cwS 2 hts gX1_meet_X1_areOneSort rfl rfl rfl (by decide +kernel) ⟨Nat.le_of_ble_eq_true rfl, Nat.le_of_ble_eq_true rfl⟩) preEq rfl rfl hl.1 rfl (lv_room (Nat.le_of_ble_eq_true rfl)) dX1_meet_29 ⟨Nat.le_of_ble_eq_true rfl, Nat.le_of_ble_eq_true rfl⟩) ?_
          refine tv_top 0 (by rw [u2]; rfl) ?_
          refine lv_if_eq (tgt := 39) hx hb dX1_meet_32 (by decide) (fun c_8 => ?_) (fun c_8 => ?_)
          · skip
            refine lv_iconst (v := 0) hx hb dX1_meet_39 (by decide) ?_
            refine tv_top (tv_b false) rfl ?_
            exact j2 false (by simp only [u1, u2, Bool.true_and, Bool.false_and, Bool.and_false, Bool.and_true, Bool.and_self])
          · exact absurd rfl c_8
        | true =>
          refine tv_callR (W.runS (As := [.int x1, .int x2]) (rest := [.int (tv_b X), .ref h]) ⟨hx, hb, hml, hown, hts⟩ (c_X1_areOneSort l x1 x2) (va_cwS 2 hts gX1_meet_X1_areOneSort rfl rfl rfl (by decide +kernel) ⟨Nat.le_of_ble_eq_true rfl, Nat.le_of_ble_eq_true rfl⟩) preEq rfl rfl hl.1 rfl (lv_room (Nat.le_of_ble_eq_true rfl)) dX1_meet_29 ⟨Nat.le_of_ble_eq_true rfl, Nat.le_of_ble_eq_true rfl⟩) ?_
          refine tv_top 1 (by rw [u2]; rfl) ?_
          refine lv_if_eq (tgt := 39) hx hb dX1_meet_32 (by decide) (fun c_9 => ?_) (fun c_9 => ?_)
          · exact absurd c_9 (by decide)
          · skip
            refine lv_iconst (v := 1) hx hb dX1_meet_35 (by decide) ?_
            refine lv_goto (tgt := 40) hx hb dX1_meet_36 (by decide) ?_
            refine tv_top (tv_b true) rfl ?_
            exact j2 true (by simp only [u1, u2, Bool.true_and, Bool.false_and, Bool.and_false, Bool.and_true, Bool.and_self])
  refine lv_iload_n hx hb dX1_meet_1 rfl (lv_at hl 1 rfl) ?_
  cases w1 : (tv_in 8 x1) with
  | false =>
    refine tv_callR (W.runS (As := [.int x1]) (rest := [.ref h]) ⟨hx, hb, hml, hown, hts⟩ (c_X1_isRow l x1) (va_cwS 1 hts gX1_meet_X1_isRow rfl rfl rfl (by decide +kernel) ⟨Nat.le_of_ble_eq_true rfl, Nat.le_of_ble_eq_true rfl⟩) preEq rfl rfl hl.1 rfl (lv_room (Nat.le_of_ble_eq_true rfl)) dX1_meet_2 ⟨Nat.le_of_ble_eq_true rfl, Nat.le_of_ble_eq_true rfl⟩) ?_
    refine tv_top 0 (by rw [w1]; rfl) ?_
    refine lv_if_eq (tgt := 19) hx hb dX1_meet_5 (by decide) (fun c_10 => ?_) (fun c_10 => ?_)
    · skip
      refine lv_iconst (v := 0) hx hb dX1_meet_19 (by decide) ?_
      refine tv_top (tv_b false) rfl ?_
      exact j1 false (by simp only [w1, Bool.true_and, Bool.false_and, Bool.and_false, Bool.and_true, Bool.and_self])
    · exact absurd rfl c_10
  | true =>
    refine tv_callR (W.runS (As := [.int x1]) (rest := [.ref h]) ⟨hx, hb, hml, hown, hts⟩ (c_X1_isRow l x1) (va_cwS 1 hts gX1_meet_X1_isRow rfl rfl rfl (by decide +kernel) ⟨Nat.le_of_ble_eq_true rfl, Nat.le_of_ble_eq_true rfl⟩) preEq rfl rfl hl.1 rfl (lv_room (Nat.le_of_ble_eq_true rfl)) dX1_meet_2 ⟨Nat.le_of_ble_eq_true rfl, Nat.le_of_ble_eq_true rfl⟩) ?_
    refine tv_top 1 (by rw [w1]; rfl) ?_
    refine lv_if_eq (tgt := 19) hx hb dX1_meet_5 (by decide) (fun c_11 => ?_) (fun c_11 => ?_)
    · exact absurd c_11 (by decide)
    · skip
      refine lv_iload_n hx hb dX1_meet_8 rfl (lv_at hl 2 rfl) ?_
      cases w2 : (tv_in 8 x2) with
      | false =>
        refine tv_callR (W.runS (As := [.int x2]) (rest := [.ref h]) ⟨hx, hb, hml, hown, hts⟩ (c_X1_isRow l x2) (va_cwS 1 hts gX1_meet_X1_isRow rfl rfl rfl (by decide +kernel) ⟨Nat.le_of_ble_eq_true rfl, Nat.le_of_ble_eq_true rfl⟩) preEq rfl rfl hl.1 rfl (lv_room (Nat.le_of_ble_eq_true rfl)) dX1_meet_9 ⟨Nat.le_of_ble_eq_true rfl, Nat.le_of_ble_eq_true rfl⟩) ?_
        refine tv_top 0 (by rw [w2]; rfl) ?_
        refine lv_if_eq (tgt := 19) hx hb dX1_meet_12 (by decide) (fun c_12 => ?_) (fun c_12 => ?_)
        · skip
          refine lv_iconst (v := 0) hx hb dX1_meet_19 (by decide) ?_
          refine tv_top (tv_b false) rfl ?_
          exact j1 false (by simp only [w1, w2, Bool.true_and, Bool.false_and, Bool.and_false, Bool.and_true, Bool.and_self])
        · exact absurd rfl c_12
      | true =>
        refine tv_callR (W.runS (As := [.int x2]) (rest := [.ref h]) ⟨hx, hb, hml, hown, hts⟩ (c_X1_isRow l x2) (va_cwS 1 hts gX1_meet_X1_isRow rfl rfl rfl (by decide +kernel) ⟨Nat.le_of_ble_eq_true rfl, Nat.le_of_ble_eq_true rfl⟩) preEq rfl rfl hl.1 rfl (lv_room (Nat.le_of_ble_eq_true rfl)) dX1_meet_9 ⟨Nat.le_of_ble_eq_true rfl, Nat.le_of_ble_eq_true rfl⟩) ?_
        refine tv_top 1 (by rw [w2]; rfl) ?_
        refine lv_if_eq (tgt := 19) hx hb dX1_meet_12 (by decide) (fun c_13 => ?_) (fun c_13 => ?_)
        · exact absurd c_13 (by decide)
        · skip
          refine lv_iconst (v := 1) hx hb dX1_meet_15 (by decide) ?_
          refine lv_goto (tgt := 20) hx hb dX1_meet_16 (by decide) ?_
          refine tv_top (tv_b true) rfl ?_
          exact j1 true (by simp only [w1, w2, Bool.true_and, Bool.false_and, Bool.and_false, Bool.and_true, Bool.and_self])
theorem iX1_must : ∀ w ∈ wsX10, w ∈ wsX1_must := by decide +kernel
set_option maxHeartbeats 4000000 in
set_option maxRecDepth 100000 in
theorem c_X1_must (l : Launch) (D : va_G) (cI cZ cL : ClassId) (h a1 a2 a3 a4 : Nat) (rd lv op nt : Nat → Int32) (th : Int32) (sz : Nat) (x1 x2 x3 x4 : Int32) (V : TV) (hV : V = sp_must x1 x2 x3 x4 (rd, lv, op, nt)) : Met l yX1_must wsX1_must tv_rmM (tv_Pd D cI cZ cL (tv_mw cI cZ h a1 a2 a3 a4 th (rd, lv, op, nt)) sz [.ref h, .int x1, .int x2, .int x3, .int x4]) (tv_QM D cI cZ cL (tv_mw cI cZ h a1 a2 a3 a4) (tv_mw cI cZ h a1 a2 a3 a4 th (rd, lv, op, nt)) sz V) 0 0 (va_A (tv_mw cI cZ h a1 a2 a3 a4 th (rd, lv, op, nt)) sz) := by
  refine Met.ofW (cc := cX1_must) (maxL := 5) (ret := (some .int)) (by decide) rfl ?_
  intro p e s m args below meth c s₁ B hml hv
  obtain ⟨rfl, hsz, hP, hK, hD0⟩ := hv
  subst hsz
  have hx := B.exec
  have hb := B.bytes
  have hr := B.returns
  have hts := atoms_spec (ws := wsX1_must) B.pre
  have hown : s.vm.findClass RX1 = some m.cls := findClass_of_methodNamed B.named
  have hlocks := B.notSynchronized
  have hD := hD0.self (sz := s.heap.size)
  obtain ⟨A, hAe⟩ : ∃ A, A = va_A (tv_mw cI cZ h a1 a2 a3 a4 th (rd, lv, op, nt)) s.heap.size := ⟨_, rfl⟩
  rw [← hAe] at hD
  have hA : ∀ q : Nat, s.heap.size ≤ q → A q := fun q h => by rw [hAe]; exact Or.inr h
  have hS : va_S A s.heap s.heap [] := va_S.rf
  clear hD0
  have hl := lv_entry ([.ref h, .int x1, .int x2, .int x3, .int x4]) (n := 5) (Nat.le_of_ble_eq_true rfl)
  rw [lg_entry_eq]
  generalize (lg_sl ([.ref h, .int x1, .int x2, .int x3, .int x4]) ++ List.replicate (5 - (lg_sl ([.ref h, .int x1, .int x2, .int x3, .int x4])).length) Slot.unset).toArray = ls at hl ⊢
  have hl : lv_has ls 5 [(0, .ref h), (1, .int x1), (2, .int x2), (3, .int x3), (4, .int x4)] := hl
  refine lv_aload_n hx hb dX1_must_0 rfl (lv_at hl 0 rfl) ?_
  have j1 : ∀ X : Bool, X = (tv_in 8 x1 && tv_in 12 x2 && tv_in 4 x4) → W p l e (headSpec wsX1_must tv_rmM).room s m ([.ref h, .int x1, .int x2, .int x3, .int x4] : List Value).toArray below meth c s.heap [] 0 0 (MQ below (tv_QM D cI cZ cL (tv_mw cI cZ h a1 a2 a3 a4) (tv_mw cI cZ h a1 a2 a3 a4 th (rd, lv, op, nt)) s.heap.size V) ([.ref h, .int x1, .int x2, .int x3, .int x4] : List Value).toArray s 0 0 (va_A (tv_mw cI cZ h a1 a2 a3 a4 th (rd, lv, op, nt)) s.heap.size)) (F0 m 28 ls [.int (tv_b X), .ref h]) := by
    intro X hX
    have j2 : ∀ Y : Bool, Y = (tv_sg x3) → W p l e (headSpec wsX1_must tv_rmM).room s m ([.ref h, .int x1, .int x2, .int x3, .int x4] : List Value).toArray below meth c s.heap [] 0 0 (MQ below (tv_QM D cI cZ cL (tv_mw cI cZ h a1 a2 a3 a4) (tv_mw cI cZ h a1 a2 a3 a4 th (rd, lv, op, nt)) s.heap.size V) ([.ref h, .int x1, .int x2, .int x3, .int x4] : List Value).toArray s 0 0 (va_A (tv_mw cI cZ h a1 a2 a3 a4 th (rd, lv, op, nt)) s.heap.size)) (F0 m 32 ls [.int (tv_b Y), .int (tv_b X), .ref h]) := by
      intro Y hY
      refine tv_callW (D := D) (ws := tv_mw cI cZ h a1 a2 a3 a4 th (rd, lv, op, nt)) (wc := [(h, .inr (1, [.ref a1, .ref a2, .ref a3, .ref a4, .int th]))]) (wr := [(a1, .inl (cI, 96, .inl (rd))), (a2, .inl (cI, 8, .inl (lv))), (a3, .inl (cZ, 4, .inl (op))), (a4, .inl (cI, 8, .inl (nt)))]) (wc' := [(h, .inr (1, [.ref a1, .ref a2, .ref a3, .ref a4, .int (tv_cd X Y)]))]) (wsN := tv_mw cI cZ h a1 a2 a3 a4 (tv_cd X Y) (rd, lv, op, nt)) (r := tv_b (X && Y)) (va_runV (As := [.int (tv_b X), .int (tv_b Y)]) (rest := []) ⟨hx, hb, hml, hown, hts⟩ (c_X1_may l D cI cZ cL h a1 a2 a3 a4 th s.heap.size X Y) (cwV 2 hts gX1_must_X1_may rfl rfl rfl (by decide +kernel) ⟨Nat.le_of_ble_eq_true rfl, Nat.le_of_ble_eq_true rfl⟩) (tv_preDV hP hK hD [0] rfl rfl rfl rfl 0 rfl) rfl rfl hl.1 rfl (lv_room (Nat.le_of_ble_eq_true rfl)) dX1_must_32 ⟨Nat.le_of_ble_eq_true rfl, Nat.le_of_ble_eq_true rfl⟩) hP hD hS hA [0] [1, 2, 3, 4] rfl rfl rfl (by decide) [4, 0, 1, 2, 3] rfl rfl rfl (fun H locs hP hD hS => ?_)
      cases hab : (X && Y) with
      | false =>
        have hV1 : V = (tv_cd X Y, 0, (rd, lv, op, nt)) := by
          rw [hV]; unfold sp_must; rw [← hX, ← hY]; exact sp_cd hab
        refine lv_if_ne (tgt := 40) hx hb dX1_must_35 (by decide) (fun c_1 => ?_) (fun c_1 => ?_)
        · exact absurd rfl c_1
        · skip
          refine lv_iconst (v := 0) hx hb dX1_must_38 (by decide) ?_
          exact tv_iretM (wf := (tv_mw cI cZ h a1 a2 a3 a4)) (th := tv_cd X Y) (z := 0) (σ := (rd, lv, op, nt)) (r := 0) hAe hV1 (fun _ => rfl) hx hb hr hP hK hD hS dX1_must_39 hlocks
      | true =>
        obtain ⟨hX1, hY1⟩ := Bool.and_eq_true_iff.mp hab
        subst hX1
        subst hY1
        refine lv_if_ne (tgt := 40) hx hb dX1_must_35 (by decide) (fun c_2 => ?_) (fun c_2 => ?_)
        · skip
          have hP : va_P D vwCl (tv_mw cI cZ h a1 a2 a3 a4 0 (rd, lv, op, nt)) H := hP
          have hD : va_D A (tv_mw cI cZ h a1 a2 a3 a4 0 (rd, lv, op, nt)) := hD
          have hX := hX.symm
          simp only [Bool.and_eq_true] at hX
          obtain ⟨⟨g1, g2⟩, g3⟩ := hX
          have hY := hY.symm
          have g4 := hY
          obtain ⟨r, hr8, rfl⟩ := tv_in_of (by omega) g1
          obtain ⟨k, hk8, rfl⟩ := tv_in_of (by omega) g2
          obtain ⟨g, hg8, rfl⟩ := tv_in_of (by omega) g3
          refine lv_iload_n hx hb dX1_must_40 rfl (lv_at hl 3 rfl) ?_
          refine lv_aload_n hx hb dX1_must_41 rfl (lv_at hl 0 rfl) ?_
          refine lv_iload_n hx hb dX1_must_42 rfl (lv_at hl 1 rfl) ?_
          refine lv_iload_n hx hb dX1_must_43 rfl (lv_at hl 2 rfl) ?_
          refine tv_callR (W.runV (As := [.int (nI r), .int (nI k)]) (rest := [.int x3]) ⟨hx, hb, hml, hown, hts⟩ (c_X1_at l D cI cZ cL h a1 a2 a3 a4 rd lv op nt 0 r k hr8 (by omega)) (cwV 2 hts gX1_must_X1_at rfl rfl rfl (by decide +kernel) ⟨Nat.le_of_ble_eq_true rfl, Nat.le_of_ble_eq_true rfl⟩) (tv_preV hP hK rfl 0 rfl) rfl rfl hl.1 rfl (lv_room (Nat.le_of_ble_eq_true rfl)) dX1_must_44 ⟨Nat.le_of_ble_eq_true rfl, Nat.le_of_ble_eq_true rfl⟩) ?_
          refine lv_aload_n hx hb dX1_must_47 rfl (lv_at hl 0 rfl) ?_
          refine lv_iload hx hb dX1_must_48 (lv_at hl 4 rfl) ?_
          refine lv_iload_n hx hb dX1_must_50 rfl (lv_at hl 1 rfl) ?_
          refine tv_callR (W.runV (As := [.int (nI g), .int (nI r)]) (rest := [.int (rd (12 * r + k)), .int x3]) ⟨hx, hb, hml, hown, hts⟩ (c_X1_levelFor l D cI cZ cL h a1 a2 a3 a4 rd lv op nt 0 g r hg8 hr8) (cwV 2 hts gX1_must_X1_levelFor rfl rfl rfl (by decide +kernel) ⟨Nat.le_of_ble_eq_true rfl, Nat.le_of_ble_eq_true rfl⟩) (tv_preV hP hK rfl 0 rfl) rfl rfl hl.1 rfl (lv_room (Nat.le_of_ble_eq_true rfl)) dX1_must_51 ⟨Nat.le_of_ble_eq_true rfl, Nat.le_of_ble_eq_true rfl⟩) ?_
          refine tv_callR (W.runS (As := [.int x3, .int (rd (12 * r + k)), .int (lvl lv g r)]) (rest := []) ⟨hx, hb, hml, hown, hts⟩ (c_X1_isTrue l x3 (rd (12 * r + k)) (lvl lv g r)) (va_cwS 3 hts gX1_must_X1_isTrue rfl rfl rfl (by decide +kernel) ⟨Nat.le_of_ble_eq_true rfl, Nat.le_of_ble_eq_true rfl⟩) preEq rfl rfl hl.1 rfl (lv_room (Nat.le_of_ble_eq_true rfl)) dX1_must_54 ⟨Nat.le_of_ble_eq_true rfl, Nat.le_of_ble_eq_true rfl⟩) ?_
          refine lv_if_ne (tgt := 67) hx hb dX1_must_57 (by decide) (fun c_3 => ?_) (fun c_3 => ?_)
          · have hV0 : V = (0, rd (12 * r + k), (rd, lv, op, nt)) := by
              rw [hV]; simp only [sp_must, tN, nI_clamp (show r < 2 ^ 31 by omega), nI_clamp (show k < 2 ^ 31 by omega), nI_clamp (show g < 2 ^ 31 by omega), g1, g2, g3, g4, Bool.and_false, Bool.false_and, Bool.and_true, Bool.true_and, Bool.and_self, sp_f, sp_tf, sp_tt]; exact if_neg c_3
            refine lv_aload_n hx hb dX1_must_67 rfl (lv_at hl 0 rfl) ?_
            refine lv_iload_n hx hb dX1_must_68 rfl (lv_at hl 1 rfl) ?_
            refine lv_iload_n hx hb dX1_must_69 rfl (lv_at hl 2 rfl) ?_
            refine tv_callR (W.runV (As := [.int (nI r), .int (nI k)]) (rest := []) ⟨hx, hb, hml, hown, hts⟩ (c_X1_at l D cI cZ cL h a1 a2 a3 a4 rd lv op nt 0 r k hr8 (by omega)) (cwV 2 hts gX1_must_X1_at rfl rfl rfl (by decide +kernel) ⟨Nat.le_of_ble_eq_true rfl, Nat.le_of_ble_eq_true rfl⟩) (tv_preV hP hK rfl 0 rfl) rfl rfl hl.1 rfl (lv_room (Nat.le_of_ble_eq_true rfl)) dX1_must_70 ⟨Nat.le_of_ble_eq_true rfl, Nat.le_of_ble_eq_true rfl⟩) ?_
            exact tv_iretM (wf := (tv_mw cI cZ h a1 a2 a3 a4)) (th := 0) (z := rd (12 * r + k)) (σ := (rd, lv, op, nt)) (r := rd (12 * r + k)) hAe hV0 (fun _ => rfl) hx hb hr hP hK hD hS dX1_must_73 hlocks
          · have hV1 : V = (3, 0, (rd, lv, op, nt)) := by
              rw [hV]; simp only [sp_must, tN, nI_clamp (show r < 2 ^ 31 by omega), nI_clamp (show k < 2 ^ 31 by omega), nI_clamp (show g < 2 ^ 31 by omega), g1, g2, g3, g4, Bool.and_false, Bool.false_and, Bool.and_true, Bool.true_and, Bool.and_self, sp_f, sp_tf, sp_tt]; exact if_pos c_3
            refine lv_aload_n hx hb dX1_must_60 rfl (lv_at hl 0 rfl) ?_
            refine lv_iconst (v := 3) hx hb dX1_must_61 (by decide) ?_
            refine va_put (D := D) (ci := 1) (v := .int 3) (ty := .int) (C := RX1) (T := TX1) (N := 5) hx hb hts iX1_must tyX1 tyX1_ok nmX1 hown hK hP hD hS 0 rfl rfl 4 (by decide) (hts (.fieldLink RX1 26 "TideHouseModel" "thrown" "I") (by decide +kernel)) (fun _ h9 => h9) rfl (by decide +kernel) rfl rfl (Nat.le_of_ble_eq_true rfl) dX1_must_62 (fun H locs hP hD hS => ?_)
            have hP : va_P D vwCl (tv_mw cI cZ h a1 a2 a3 a4 3 (rd, lv, op, nt)) H := hP
            have hD : va_D A (tv_mw cI cZ h a1 a2 a3 a4 3 (rd, lv, op, nt)) := hD
            refine lv_iconst (v := 0) hx hb dX1_must_65 (by decide) ?_
            exact tv_iretM (wf := (tv_mw cI cZ h a1 a2 a3 a4)) (th := 3) (z := 0) (σ := (rd, lv, op, nt)) (r := 0) hAe hV1 (fun _ => rfl) hx hb hr hP hK hD hS dX1_must_66 hlocks
        · exact absurd c_2 (by decide)
    refine lv_iload_n hx hb dX1_must_28 rfl (lv_at hl 3 rfl) ?_
    refine tv_callR (W.runS (As := [.int x3]) (rest := [.int (tv_b X), .ref h]) ⟨hx, hb, hml, hown, hts⟩ (c_X1_isSign l x3) (va_cwS 1 hts gX1_must_X1_isSign rfl rfl rfl (by decide +kernel) ⟨Nat.le_of_ble_eq_true rfl, Nat.le_of_ble_eq_true rfl⟩) preEq rfl rfl hl.1 rfl (lv_room (Nat.le_of_ble_eq_true rfl)) dX1_must_29 ⟨Nat.le_of_ble_eq_true rfl, Nat.le_of_ble_eq_true rfl⟩) ?_
    exact j2 _ rfl
  refine lv_iload_n hx hb dX1_must_1 rfl (lv_at hl 1 rfl) ?_
  cases w1 : (tv_in 8 x1) with
  | false =>
    refine tv_callR (W.runS (As := [.int x1]) (rest := [.ref h]) ⟨hx, hb, hml, hown, hts⟩ (c_X1_isRow l x1) (va_cwS 1 hts gX1_must_X1_isRow rfl rfl rfl (by decide +kernel) ⟨Nat.le_of_ble_eq_true rfl, Nat.le_of_ble_eq_true rfl⟩) preEq rfl rfl hl.1 rfl (lv_room (Nat.le_of_ble_eq_true rfl)) dX1_must_2 ⟨Nat.le_of_ble_eq_true rfl, Nat.le_of_ble_eq_true rfl⟩) ?_
    refine tv_top 0 (by rw [w1]; rfl) ?_
    refine lv_if_eq (tgt := 27) hx hb dX1_must_5 (by decide) (fun c_4 => ?_) (fun c_4 => ?_)
    · skip
      refine lv_iconst (v := 0) hx hb dX1_must_27 (by decide) ?_
      refine tv_top (tv_b false) rfl ?_
      exact j1 false (by simp only [w1, Bool.true_and, Bool.false_and, Bool.and_false, Bool.and_true, Bool.and_self])
    · exact absurd rfl c_4
  | true =>
    refine tv_callR (W.runS (As := [.int x1]) (rest := [.ref h]) ⟨hx, hb, hml, hown, hts⟩ (c_X1_isRow l x1) (va_cwS 1 hts gX1_must_X1_isRow rfl rfl rfl (by decide +kernel) ⟨Nat.le_of_ble_eq_true rfl, Nat.le_of_ble_eq_true rfl⟩) preEq rfl rfl hl.1 rfl (lv_room (Nat.le_of_ble_eq_true rfl)) dX1_must_2 ⟨Nat.le_of_ble_eq_true rfl, Nat.le_of_ble_eq_true rfl⟩) ?_
    refine tv_top 1 (by rw [w1]; rfl) ?_
    refine lv_if_eq (tgt := 27) hx hb dX1_must_5 (by decide) (fun c_5 => ?_) (fun c_5 => ?_)
    · exact absurd c_5 (by decide)
    · skip
      refine lv_iload_n hx hb dX1_must_8 rfl (lv_at hl 2 rfl) ?_
      cases w2 : (tv_in 12 x2) with
      | false =>
        refine tv_callR (W.runS (As := [.int x2]) (rest := [.ref h]) ⟨hx, hb, hml, hown, hts⟩ (c_X1_isPlace l x2) (va_cwS 1 hts gX1_must_X1_isPlace rfl rfl rfl (by decide +kernel) ⟨Nat.le_of_ble_eq_true rfl, Nat.le_of_ble_eq_true rfl⟩) preEq rfl rfl hl.1 rfl (lv_room (Nat.le_of_ble_eq_true rfl)) dX1_must_9 ⟨Nat.le_of_ble_eq_true rfl, Nat.le_of_ble_eq_true rfl⟩) ?_
        refine tv_top 0 (by rw [w2]; rfl) ?_
        refine lv_if_eq (tgt := 27) hx hb dX1_must_12 (by decide) (fun c_6 => ?_) (fun c_6 => ?_)
        · skip
          refine lv_iconst (v := 0) hx hb dX1_must_27 (by decide) ?_
          refine tv_top (tv_b false) rfl ?_
          exact j1 false (by simp only [w1, w2, Bool.true_and, Bool.false_and, Bool.and_false, Bool.and_true, Bool.and_self])
        · exact absurd rfl c_6
      | true =>
        refine tv_callR (W.runS (As := [.int x2]) (rest := [.ref h]) ⟨hx, hb, hml, hown, hts⟩ (c_X1_isPlace l x2) (va_cwS 1 hts gX1_must_X1_isPlace rfl rfl rfl (by decide +kernel) ⟨Nat.le_of_ble_eq_true rfl, Nat.le_of_ble_eq_true rfl⟩) preEq rfl rfl hl.1 rfl (lv_room (Nat.le_of_ble_eq_true rfl)) dX1_must_9 ⟨Nat.le_of_ble_eq_true rfl, Nat.le_of_ble_eq_true rfl⟩) ?_
        refine tv_top 1 (by rw [w2]; rfl) ?_
        refine lv_if_eq (tgt := 27) hx hb dX1_must_12 (by decide) (fun c_7 => ?_) (fun c_7 => ?_)
        · exact absurd c_7 (by decide)
        · skip
          refine lv_iload hx hb dX1_must_15 (lv_at hl 4 rfl) ?_
          cases w3 : (tv_in 4 x4) with
          | false =>
            refine tv_callR (W.runS (As := [.int x4]) (rest := [.ref h]) ⟨hx, hb, hml, hown, hts⟩ (c_X1_isGate l x4) (va_cwS 1 hts gX1_must_X1_isGate rfl rfl rfl (by decide +kernel) ⟨Nat.le_of_ble_eq_true rfl, Nat.le_of_ble_eq_true rfl⟩) preEq rfl rfl hl.1 rfl (lv_room (Nat.le_of_ble_eq_true rfl)) dX1_must_17 ⟨Nat.le_of_ble_eq_true rfl, Nat.le_of_ble_eq_true rfl⟩) ?_
            refine tv_top 0 (by rw [w3]; rfl) ?_
            refine lv_if_eq (tgt := 27) hx hb dX1_must_20 (by decide) (fun c_8 => ?_) (fun c_8 => ?_)
            · skip
              refine lv_iconst (v := 0) hx hb dX1_must_27 (by decide) ?_
              refine tv_top (tv_b false) rfl ?_
              exact j1 false (by simp only [w1, w2, w3, Bool.true_and, Bool.false_and, Bool.and_false, Bool.and_true, Bool.and_self])
            · exact absurd rfl c_8
          | true =>
            refine tv_callR (W.runS (As := [.int x4]) (rest := [.ref h]) ⟨hx, hb, hml, hown, hts⟩ (c_X1_isGate l x4) (va_cwS 1 hts gX1_must_X1_isGate rfl rfl rfl (by decide +kernel) ⟨Nat.le_of_ble_eq_true rfl, Nat.le_of_ble_eq_true rfl⟩) preEq rfl rfl hl.1 rfl (lv_room (Nat.le_of_ble_eq_true rfl)) dX1_must_17 ⟨Nat.le_of_ble_eq_true rfl, Nat.le_of_ble_eq_true rfl⟩) ?_
            refine tv_top 1 (by rw [w3]; rfl) ?_
            refine lv_if_eq (tgt := 27) hx hb dX1_must_20 (by decide) (fun c_9 => ?_) (fun c_9 => ?_)
            · exact absurd c_9 (by decide)
            · skip
              refine lv_iconst (v := 1) hx hb dX1_must_23 (by decide) ?_
              refine lv_goto (tgt := 28) hx hb dX1_must_24 (by decide) ?_
              refine tv_top (tv_b true) rfl ?_
              exact j1 true (by simp only [w1, w2, w3, Bool.true_and, Bool.false_and, Bool.and_false, Bool.and_true, Bool.and_self])
