theorem cn_a {p : Nat → Int32} {k : Nat} {v : Int32} (h : p k = v) : cn p (k + 1) = cn p k + v := by rw [cn, h]
theorem iX1_copy : ∀ w ∈ wsX10, w ∈ wsX1_copy := by decide +kernel
set_option maxHeartbeats 4000000 in
set_option maxRecDepth 100000 in
theorem c_X1_copy (l : Launch) (D : va_G) (cI cZ cL : ClassId) (h a1 a2 a3 a4 : Nat) (rd lv op nt : Nat → Int32) (th : Int32) (sz : Nat) (x1 x2 : Int32) (V : TV) (hV : V = sp_copy x1 x2 (rd, lv, op, nt)) : Met l yX1_copy wsX1_copy tv_rmM (tv_Pd D cI cZ cL (tv_mw cI cZ h a1 a2 a3 a4 th (rd, lv, op, nt)) sz [.ref h, .int x1, .int x2]) (tv_QM D cI cZ cL (tv_mw cI cZ h a1 a2 a3 a4) (tv_mw cI cZ h a1 a2 a3 a4 th (rd, lv, op, nt)) sz V) 0 0 (va_A (tv_mw cI cZ h a1 a2 a3 a4 th (rd, lv, op, nt)) sz) := by
  refine Met.ofW (cc := cX1_copy) (maxL := 6) (ret := (some .int)) (by decide) rfl ?_
  intro p e s m args below meth c s₁ B hml hv
  obtain ⟨rfl, hsz, hP, hK, hD0⟩ := hv
  subst hsz
  have hx := B.exec
  have hb := B.bytes
  have hr := B.returns
  have hts := atoms_spec (ws := wsX1_copy) B.pre
  have hown : s.vm.findClass RX1 = some m.cls := findClass_of_methodNamed B.named
  have hlocks := B.notSynchronized
  have hD := hD0.self (sz := s.heap.size)
  obtain ⟨A, hAe⟩ : ∃ A, A = va_A (tv_mw cI cZ h a1 a2 a3 a4 th (rd, lv, op, nt)) s.heap.size := ⟨_, rfl⟩
  rw [← hAe] at hD
  have hA : ∀ q : Nat, s.heap.size ≤ q → A q := fun q h => by rw [hAe]; exact Or.inr h
  have hS : va_S A s.heap s.heap [] := va_S.rf
  clear hD0
  have hl := lv_entry ([.ref h, .int x1, .int x2]) (n := 6) (Nat.le_of_ble_eq_true rfl)
  rw [lg_entry_eq]
  generalize (lg_sl ([.ref h, .int x1, .int x2]) ++ List.replicate (6 - (lg_sl ([.ref h, .int x1, .int x2])).length) Slot.unset).toArray = ls at hl ⊢
  have hl : lv_has ls 6 [(0, .ref h), (1, .int x1), (2, .int x2)] := hl
  refine lv_aload_n hx hb dX1_copy_0 rfl (lv_at hl 0 rfl) ?_
  have j1 : ∀ X : Bool, X = (tv_in 8 x1 && tv_in 8 x2) → W p l e (headSpec wsX1_copy tv_rmM).room s m ([.ref h, .int x1, .int x2] : List Value).toArray below meth c s.heap [] 0 0 (MQ below (tv_QM D cI cZ cL (tv_mw cI cZ h a1 a2 a3 a4) (tv_mw cI cZ h a1 a2 a3 a4 th (rd, lv, op, nt)) s.heap.size V) ([.ref h, .int x1, .int x2] : List Value).toArray s 0 0 (va_A (tv_mw cI cZ h a1 a2 a3 a4 th (rd, lv, op, nt)) s.heap.size)) (F0 m 20 ls [.int (tv_b X), .ref h]) := by
    intro X hX
    have j2 : ∀ Y : Bool, Y = (tv_os x1 x2) → W p l e (headSpec wsX1_copy tv_rmM).room s m ([.ref h, .int x1, .int x2] : List Value).toArray below meth c s.heap [] 0 0 (MQ below (tv_QM D cI cZ cL (tv_mw cI cZ h a1 a2 a3 a4) (tv_mw cI cZ h a1 a2 a3 a4 th (rd, lv, op, nt)) s.heap.size V) ([.ref h, .int x1, .int x2] : List Value).toArray s 0 0 (va_A (tv_mw cI cZ h a1 a2 a3 a4 th (rd, lv, op, nt)) s.heap.size)) (F0 m 25 ls [.int (tv_b Y), .int (tv_b X), .ref h]) := by
      intro Y hY
      refine tv_callW (D := D) (ws := tv_mw cI cZ h a1 a2 a3 a4 th (rd, lv, op, nt)) (wc := [(h, .inr (1, [.ref a1, .ref a2, .ref a3, .ref a4, .int th]))]) (wr := [(a1, .inl (cI, 96, .inl (rd))), (a2, .inl (cI, 8, .inl (lv))), (a3, .inl (cZ, 4, .inl (op))), (a4, .inl (cI, 8, .inl (nt)))]) (wc' := [(h, .inr (1, [.ref a1, .ref a2, .ref a3, .ref a4, .int (tv_cd X Y)]))]) (wsN := tv_mw cI cZ h a1 a2 a3 a4 (tv_cd X Y) (rd, lv, op, nt)) (r := tv_b (X && Y)) (va_runV (As := [.int (tv_b X), .int (tv_b Y)]) (rest := []) ⟨hx, hb, hml, hown, hts⟩ (c_X1_may l D cI cZ cL h a1 a2 a3 a4 th s.heap.size X Y) (cwV 2 hts gX1_copy_X1_may rfl rfl rfl (by decide +kernel) ⟨Nat.le_of_ble_eq_true rfl, Nat.le_of_ble_eq_true rfl⟩) (tv_preDV hP hK hD [0] rfl rfl rfl rfl 0 rfl) rfl rfl hl.1 rfl (lv_room (Nat.le_of_ble_eq_true rfl)) dX1_copy_25 ⟨Nat.le_of_ble_eq_true rfl, Nat.le_of_ble_eq_true rfl⟩) hP hD hS hA [0] [1, 2, 3, 4] rfl rfl rfl (by decide) [4, 0, 1, 2, 3] rfl rfl rfl (fun H locs hP hD hS => ?_)
      cases hab : (X && Y) with
      | false =>
        have hV1 : V = (tv_cd X Y, 0, (rd, lv, op, nt)) := by
          rw [hV]; unfold sp_copy; rw [← hX, ← hY]; exact sp_cd hab
        refine lv_if_ne (tgt := 33) hx hb dX1_copy_28 (by decide) (fun c_1 => ?_) (fun c_1 => ?_)
        · exact absurd rfl c_1
        · skip
          refine lv_iconst (v := 0) hx hb dX1_copy_31 (by decide) ?_
          exact tv_iretM (wf := (tv_mw cI cZ h a1 a2 a3 a4)) (th := tv_cd X Y) (z := 0) (σ := (rd, lv, op, nt)) (r := 0) hAe hV1 (fun _ => rfl) hx hb hr hP hK hD hS dX1_copy_32 hlocks
      | true =>
        obtain ⟨hX1, hY1⟩ := Bool.and_eq_true_iff.mp hab
        subst hX1
        subst hY1
        refine lv_if_ne (tgt := 33) hx hb dX1_copy_28 (by decide) (fun c_2 => ?_) (fun c_2 => ?_)
        · skip
          have hP : va_P D vwCl (tv_mw cI cZ h a1 a2 a3 a4 0 (rd, lv, op, nt)) H := hP
          have hD : va_D A (tv_mw cI cZ h a1 a2 a3 a4 0 (rd, lv, op, nt)) := hD
          have hX := hX.symm
          simp only [Bool.and_eq_true] at hX
          obtain ⟨g1, g2⟩ := hX
          have hY := hY.symm
          have g3 := hY
          obtain ⟨r, hr8, rfl⟩ := tv_in_of (by omega) g1
          obtain ⟨q, hq8, rfl⟩ := tv_in_of (by omega) g2
          refine lv_iconst (v := 0) hx hb dX1_copy_33 (by decide) ?_
          refine lv_istore_n (lv' := [(3, .int 0), (0, .ref h), (1, .int (nI r)), (2, .int (nI q))]) hx hb dX1_copy_34 rfl hl (by decide) rfl (fun ls hl => ?_)
          refine lv_iconst (v := 0) hx hb dX1_copy_35 (by decide) ?_
          refine lv_istore (lv' := [(4, .int 0), (3, .int 0), (0, .ref h), (1, .int (nI r)), (2, .int (nI q))]) hx hb dX1_copy_36 hl (by decide) rfl (fun ls hl => ?_)
          have hV0 : V = (0, cn (fun k => if rd (12 * r + k) = -2147483648 then 1 else 0) 12, (cp r q rd 12, lv, op, nt)) := by
            rw [hV]; simp only [sp_copy, tN, nI_clamp (show r < 2 ^ 31 by omega), nI_clamp (show q < 2 ^ 31 by omega), g1, g2, g3, Bool.and_false, Bool.false_and, Bool.and_true, Bool.true_and, Bool.and_self, sp_f, sp_tf, sp_tt]
          have loop : ∀ (n k : Nat), k + n = 12 → ∀ (H : Heap) (locs : List Loc), va_P D vwCl (tv_mw cI cZ h a1 a2 a3 a4 0 (cp r q rd k, lv, op, nt)) H → va_D A (tv_mw cI cZ h a1 a2 a3 a4 0 (cp r q rd k, lv, op, nt)) → va_S A s.heap H locs → ∀ ls : Array Slot, lv_has ls 6 [(0, .ref h), (1, .int (nI r)), (2, .int (nI q)), (3, .int (cn (fun k => if rd (12 * r + k) = -2147483648 then 1 else 0) k)), (4, .int (nI k))] → W p l e (headSpec wsX1_copy tv_rmM).room s m ([.ref h, .int (nI r), .int (nI q)] : List Value).toArray below meth c H locs 0 0 (MQ below (tv_QM D cI cZ cL (tv_mw cI cZ h a1 a2 a3 a4) (tv_mw cI cZ h a1 a2 a3 a4 th (rd, lv, op, nt)) s.heap.size V) ([.ref h, .int (nI r), .int (nI q)] : List Value).toArray s 0 0 (va_A (tv_mw cI cZ h a1 a2 a3 a4 th (rd, lv, op, nt)) s.heap.size)) (F0 m 38 ls []) := by
            intro n
            induction n with
            | zero =>
              intro k hk H locs hP hD hS ls hl
              have hk2 : k = 12 := by omega
              subst hk2
              refine lv_iload hx hb dX1_copy_38 (lv_at hl 4 rfl) ?_
              refine lv_bipush (v := 12) hx hb dX1_copy_40 (by decide) ?_
              refine lv_icmp_ge (tgt := 89) hx hb dX1_copy_42 (by decide) (fun c_3 => ?_) (fun c_3 => ?_)
              · skip
                refine lv_iload_n hx hb dX1_copy_89 rfl (lv_at hl 3 rfl) ?_
                exact tv_iretM (wf := (tv_mw cI cZ h a1 a2 a3 a4)) (th := 0) (z := cn (fun k => if rd (12 * r + k) = -2147483648 then 1 else 0) 12) (σ := (cp r q rd 12, lv, op, nt)) (r := cn (fun k => if rd (12 * r + k) = -2147483648 then 1 else 0) 12) hAe hV0 (fun _ => rfl) hx hb hr hP hK hD hS dX1_copy_90 hlocks
              · exact absurd (show nI 12 ≤ nI 12 from nI_le (Nat.le_refl _) (by omega)) c_3
            | succ n ih =>
              intro k hk H locs hP hD hS ls hl
              refine lv_iload hx hb dX1_copy_38 (lv_at hl 4 rfl) ?_
              refine lv_bipush (v := 12) hx hb dX1_copy_40 (by decide) ?_
              refine lv_icmp_ge (tgt := 89) hx hb dX1_copy_42 (by decide) (fun c_4 => ?_) (fun c_4 => ?_)
              · exact absurd (show nI 12 ≤ nI k from c_4) (nI_ge (by omega) (by omega))
              · skip
                refine lv_aload_n hx hb dX1_copy_45 rfl (lv_at hl 0 rfl) ?_
                refine lv_iload_n hx hb dX1_copy_46 rfl (lv_at hl 1 rfl) ?_
                refine lv_iload hx hb dX1_copy_47 (lv_at hl 4 rfl) ?_
                refine tv_callR (W.runV (As := [.int (nI r), .int (nI k)]) (rest := []) ⟨hx, hb, hml, hown, hts⟩ (c_X1_at l D cI cZ cL h a1 a2 a3 a4 (cp r q rd k) lv op nt 0 r k hr8 (by omega)) (cwV 2 hts gX1_copy_X1_at rfl rfl rfl (by decide +kernel) ⟨Nat.le_of_ble_eq_true rfl, Nat.le_of_ble_eq_true rfl⟩) (tv_preV hP hK rfl 0 rfl) rfl rfl hl.1 rfl (lv_room (Nat.le_of_ble_eq_true rfl)) dX1_copy_49 ⟨Nat.le_of_ble_eq_true rfl, Nat.le_of_ble_eq_true rfl⟩) ?_
                refine lv_istore (lv' := [(5, .int ((cp r q rd k) (12 * r + k))), (0, .ref h), (1, .int (nI r)), (2, .int (nI q)), (3, .int (cn (fun k => if rd (12 * r + k) = -2147483648 then 1 else 0) k)), (4, .int (nI k))]) hx hb dX1_copy_52 hl (by decide) rfl (fun ls hl => ?_)
                refine lv_aload_n hx hb dX1_copy_54 rfl (lv_at hl 1 rfl) ?_
                refine va_get (D := D) (ci := 1) (v := .ref a1) (C := RX1) (T := TX1) (N := 5) hx hb hts iX1_copy hown hK hP 0 rfl rfl 0 (by decide) (hts (.fieldLink RX1 7 "TideHouseModel" "readings" "[I") (by decide +kernel)) (fun _ h9 => h9) rfl dX1_copy_55 ?_
                refine lv_bipush (v := 12) hx hb dX1_copy_58 (by decide) ?_
                refine lv_iload_n hx hb dX1_copy_60 rfl (lv_at hl 3 rfl) ?_
                refine lv_imul hx hb dX1_copy_61 ?_
                refine lv_iload hx hb dX1_copy_62 (lv_at hl 5 rfl) ?_
                refine lv_iadd hx hb dX1_copy_64 ?_
                refine tv_top (nI (12 * q + k)) (tv_ix2 q k) ?_
                refine lv_iload hx hb dX1_copy_65 (lv_at hl 0 rfl) ?_
                refine tv_iast (D := D) (cA := cI) (n := 96) (f := cp r q rd k) (k := (12 * q + k)) (x := (cp r q rd k) (12 * r + k)) (ws1 := tv_mw cI cZ h a1 a2 a3 a4 0 (upd (cp r q rd k) (12 * q + k) ((cp r q rd k) (12 * r + k)), lv, op, nt)) hx hb hK hP hD hS 1 0 rfl rfl (by omega) (by omega) rfl dX1_copy_67 (fun H locs hP hD hS => ?_)
                refine lv_iload_n hx hb dX1_copy_68 rfl (lv_at hl 4 rfl) ?_
                refine lv_iload hx hb dX1_copy_69 (lv_at hl 0 rfl) ?_
                refine lv_ldc (v := -2147483648) hx hb hown (hts (.constant RX1 23 (-2147483648)) (by decide +kernel)) dX1_copy_71 ?_
                refine lv_icmp_ne (tgt := 80) hx hb dX1_copy_73 (by decide) (fun c_5 => ?_) (fun c_5 => ?_)
                · skip
                  refine lv_iconst (v := 0) hx hb dX1_copy_80 (by decide) ?_
                  refine lv_iadd hx hb dX1_copy_81 ?_
                  refine lv_istore_n (lv' := [(3, .int ((cn (fun k => if rd (12 * r + k) = -2147483648 then 1 else 0) k) + 0)), (5, .int ((cp r q rd k) (12 * r + k))), (0, .ref h), (1, .int (nI r)), (2, .int (nI q)), (4, .int (nI k))]) hx hb dX1_copy_82 rfl hl (by decide) rfl (fun ls hl => ?_)
                  refine lv_iinc (v := nI (k + 1)) (lv' := [(4, .int (nI (k + 1))), (3, .int ((cn (fun k => if rd (12 * r + k) = -2147483648 then 1 else 0) k) + 0)), (5, .int ((cp r q rd k) (12 * r + k))), (0, .ref h), (1, .int (nI r)), (2, .int (nI q))]) hx hb dX1_copy_83 hl (k := 5) rfl (nI_1 k) (by decide) rfl (fun ls hl => ?_)
                  refine lv_goto (tgt := 38) hx hb dX1_copy_86 (by decide) ?_
                  have hP : va_P D vwCl (tv_mw cI cZ h a1 a2 a3 a4 0 (cp r q rd (k + 1), lv, op, nt)) H := by exact hP
                  have hD : va_D A (tv_mw cI cZ h a1 a2 a3 a4 0 (cp r q rd (k + 1), lv, op, nt)) := by exact hD
                  exact ih (k + 1) (by omega) H locs hP hD hS ls (by rw [show cn (fun k => if rd (12 * r + k) = -2147483648 then 1 else 0) (k + 1) = (cn (fun k => if rd (12 * r + k) = -2147483648 then 1 else 0) k) + 0 from congrArg _ (if_neg (fun z => c_5 ((cp_src rd (by omega)).trans z)))]; exact lv_sub hl [3, 4, 5, 1, 0] rfl)
                · skip
                  refine lv_iconst (v := 1) hx hb dX1_copy_76 (by decide) ?_
                  refine lv_goto (tgt := 81) hx hb dX1_copy_77 (by decide) ?_
                  refine lv_iadd hx hb dX1_copy_81 ?_
                  refine lv_istore_n (lv' := [(3, .int ((cn (fun k => if rd (12 * r + k) = -2147483648 then 1 else 0) k) + 1)), (5, .int ((cp r q rd k) (12 * r + k))), (0, .ref h), (1, .int (nI r)), (2, .int (nI q)), (4, .int (nI k))]) hx hb dX1_copy_82 rfl hl (by decide) rfl (fun ls hl => ?_)
                  refine lv_iinc (v := nI (k + 1)) (lv' := [(4, .int (nI (k + 1))), (3, .int ((cn (fun k => if rd (12 * r + k) = -2147483648 then 1 else 0) k) + 1)), (5, .int ((cp r q rd k) (12 * r + k))), (0, .ref h), (1, .int (nI r)), (2, .int (nI q))]) hx hb dX1_copy_83 hl (k := 5) rfl (nI_1 k) (by decide) rfl (fun ls hl => ?_)
                  refine lv_goto (tgt := 38) hx hb dX1_copy_86 (by decide) ?_
                  have hP : va_P D vwCl (tv_mw cI cZ h a1 a2 a3 a4 0 (cp r q rd (k + 1), lv, op, nt)) H := by exact hP
                  have hD : va_D A (tv_mw cI cZ h a1 a2 a3 a4 0 (cp r q rd (k + 1), lv, op, nt)) := by exact hD
                  exact ih (k + 1) (by omega) H locs hP hD hS ls (by rw [show cn (fun k => if rd (12 * r + k) = -2147483648 then 1 else 0) (k + 1) = (cn (fun k => if rd (12 * r + k) = -2147483648 then 1 else 0) k) + 1 from congrArg _ (if_pos ((cp_src rd (by omega)).symm.trans c_5))]; exact lv_sub hl [3, 4, 5, 1, 0] rfl)
          exact loop 12 0 (by omega) H locs hP hD hS ls (by rw [show cn (fun k => if rd (12 * r + k) = -2147483648 then 1 else 0) 0 = 0 from rfl, show nI 0 = 0 from nI_0]; exact lv_sub hl [2, 3, 4, 1, 0] rfl)
        · exact absurd c_2 (by decide)
    refine lv_iload_n hx hb dX1_copy_20 rfl (lv_at hl 1 rfl) ?_
    refine lv_iload_n hx hb dX1_copy_21 rfl (lv_at hl 2 rfl) ?_
    refine tv_callR (W.runS (As := [.int x1, .int x2]) (rest := [.int (tv_b X), .ref h]) ⟨hx, hb, hml, hown, hts⟩ (c_X1_areOneSort l x1 x2) (va_cwS 2 hts gX1_copy_X1_areOneSort rfl rfl rfl (by decide +kernel) ⟨Nat.le_of_ble_eq_true rfl, Nat.le_of_ble_eq_true rfl⟩) preEq rfl rfl hl.1 rfl (lv_room (Nat.le_of_ble_eq_true rfl)) dX1_copy_22 ⟨Nat.le_of_ble_eq_true rfl, Nat.le_of_ble_eq_true rfl⟩) ?_
    exact j2 _ rfl
  refine lv_iload_n hx hb dX1_copy_1 rfl (lv_at hl 1 rfl) ?_
  cases w1 : (tv_in 8 x1) with
  | false =>
    refine tv_callR (W.runS (As := [.int x1]) (rest := [.ref h]) ⟨hx, hb, hml, hown, hts⟩ (c_X1_isRow l x1) (va_cwS 1 hts gX1_copy_X1_isRow rfl rfl rfl (by decide +kernel) ⟨Nat.le_of_ble_eq_true rfl, Nat.le_of_ble_eq_true rfl⟩) preEq rfl rfl hl.1 rfl (lv_room (Nat.le_of_ble_eq_true rfl)) dX1_copy_2 ⟨Nat.le_of_ble_eq_true rfl, Nat.le_of_ble_eq_true rfl⟩) ?_
    refine tv_top 0 (by rw [w1]; rfl) ?_
    refine lv_if_eq (tgt := 19) hx hb dX1_copy_5 (by decide) (fun c_6 => ?_) (fun c_6 => ?_)
    · skip
      refine lv_iconst (v := 0) hx hb dX1_copy_19 (by decide) ?_
      refine tv_top (tv_b false) rfl ?_
      exact j1 false (by simp only [w1, Bool.true_and, Bool.false_and, Bool.and_false, Bool.and_true, Bool.and_self])
    · exact absurd rfl c_6
  | true =>
    refine tv_callR (W.runS (As := [.int x1]) (rest := [.ref h]) ⟨hx, hb, hml, hown, hts⟩ (c_X1_isRow l x1) (va_cwS 1 hts gX1_copy_X1_isRow rfl rfl rfl (by decide +kernel) ⟨Nat.le_of_ble_eq_true rfl, Nat.le_of_ble_eq_true rfl⟩) preEq rfl rfl hl.1 rfl (lv_room (Nat.le_of_ble_eq_true rfl)) dX1_copy_2 ⟨Nat.le_of_ble_eq_true rfl, Nat.le_of_ble_eq_true rfl⟩) ?_
    refine tv_top 1 (by rw [w1]; rfl) ?_
    refine lv_if_eq (tgt := 19) hx hb dX1_copy_5 (by decide) (fun c_7 => ?_) (fun c_7 => ?_)
    · exact absurd c_7 (by decide)
    · skip
      refine lv_iload_n hx hb dX1_copy_8 rfl (lv_at hl 2 rfl) ?_
      cases w2 : (tv_in 8 x2) with
      | false =>
        refine tv_callR (W.runS (As := [.int x2]) (rest := [.ref h]) ⟨hx, hb, hml, hown, hts⟩ (c_X1_isRow l x2) (va_cwS 1 hts gX1_copy_X1_isRow rfl rfl rfl (by decide +kernel) ⟨Nat.le_of_ble_eq_true rfl, Nat.le_of_ble_eq_true rfl⟩) preEq rfl rfl hl.1 rfl (lv_room (Nat.le_of_ble_eq_true rfl)) dX1_copy_9 ⟨Nat.le_of_ble_eq_true rfl, Nat.le_of_ble_eq_true rfl⟩) ?_
        refine tv_top 0 (by rw [w2]; rfl) ?_
        refine lv_if_eq (tgt := 19) hx hb dX1_copy_12 (by decide) (fun c_8 => ?_) (fun c_8 => ?_)
        · skip
          refine lv_iconst (v := 0) hx hb dX1_copy_19 (by decide) ?_
          refine tv_top (tv_b false) rfl ?_
          exact j1 false (by simp only [w1, w2, Bool.true_and, Bool.false_and, Bool.and_false, Bool.and_true, Bool.and_self])
        · exact absurd rfl c_8
      | true =>
        refine tv_callR (W.runS (As := [.int x2]) (rest := [.ref h]) ⟨hx, hb, hml, hown, hts⟩ (c_X1_isRow l x2) (va_cwS 1 hts gX1_copy_X1_isRow rfl rfl rfl (by decide +kernel) ⟨Nat.le_of_ble_eq_true rfl, Nat.le_of_ble_eq_true rfl⟩) preEq rfl rfl hl.1 rfl (lv_room (Nat.le_of_ble_eq_true rfl)) dX1_copy_9 ⟨Nat.le_of_ble_eq_true rfl, Nat.le_of_ble_eq_true rfl⟩) ?_
        refine tv_top 1 (by rw [w2]; rfl) ?_
        refine lv_if_eq (tgt := 19) hx hb dX1_copy_12 (by decide) (fun c_9 => ?_) (fun c_9 => ?_)
        · exact absurd c_9 (by decide)
        · skip
          refine lv_iconst (v := 1) hx hb dX1_copy_15 (by decide) ?_
          refine lv_goto (tgt := 20) hx hb dX1_copy_16 (by decide) ?_
          refine tv_top (tv_b true) rfl ?_
          exact j1 true (by simp only [w1, w2, Bool.true_and, Bool.false_and, Bool.and_false, Bool.and_true, Bool.and_self])
set_option maxHeartbeats 4000000 in
set_option maxRecDepth 100000 in
theorem c_X1_between (l : Launch) (D : va_G) (cI cZ cL : ClassId) (h a1 a2 a3 a4 : Nat) (rd lv op nt : Nat → Int32) (th : Int32) (sz : Nat) (x1 x2 x3 : Int32) (V : TV) (hV : V = sp_between x1 x2 x3 (rd, lv, op, nt)) : Met l yX1_between wsX1_between tv_rmM (tv_Pd D cI cZ cL (tv_mw cI cZ h a1 a2 a3 a4 th (rd, lv, op, nt)) sz [.ref h, .int x1, .int x2, .int x3]) (tv_QM D cI cZ cL (tv_mw cI cZ h a1 a2 a3 a4) (tv_mw cI cZ h a1 a2 a3 a4 th (rd, lv, op, nt)) sz V) 0 0 (va_A (tv_mw cI cZ h a1 a2 a3 a4 th (rd, lv, op, nt)) sz) := by
  refine Met.ofW (cc := cX1_between) (maxL := 10) (ret := (some .int)) (by decide) rfl ?_
  intro p e s m args below meth c s₁ B hml hv
  obtain ⟨rfl, hsz, hP, hK, hD0⟩ := hv
  subst hsz
  have hx := B.exec
  have hb := B.bytes
  have hr := B.returns
  have hts := atoms_spec (ws := wsX1_between) B.pre
  have hown : s.vm.findClass RX1 = some m.cls := findClass_of_methodNamed B.named
  have hlocks := B.notSynchronized
  have hD := hD0.self (sz := s.heap.size)
  obtain ⟨A, hAe⟩ : ∃ A, A = va_A (tv_mw cI cZ h a1 a2 a3 a4 th (rd, lv, op, nt)) s.heap.size := ⟨_, rfl⟩
  rw [← hAe] at hD
  have hA : ∀ q : Nat, s.heap.size ≤ q → A q := fun q h => by rw [hAe]; exact Or.inr h
  have hS : va_S A s.heap s.heap [] := va_S.rf
  clear hD0
  have hl := lv_entry ([.ref h, .int x1, .int x2, .int x3]) (n := 10) (Nat.le_of_ble_eq_true rfl)
  rw [lg_entry_eq]
  generalize (lg_sl ([.ref h, .int x1, .int x2, .int x3]) ++ List.replicate (10 - (lg_sl ([.ref h, .int x1, .int x2, .int x3])).length) Slot.unset).toArray = ls at hl ⊢
  have hl : lv_has ls 10 [(0, .ref h), (1, .int x1), (2, .int x2), (3, .int x3)] := hl
  refine lv_aload_n hx hb dX1_between_0 rfl (lv_at hl 0 rfl) ?_
  have j1 : ∀ X : Bool, X = (tv_in 8 x1 && tv_in 4 x2 && tv_in 4 x3) → W p l e (headSpec wsX1_between tv_rmM).room s m ([.ref h, .int x1, .int x2, .int x3] : List Value).toArray below meth c s.heap [] 0 0 (MQ below (tv_QM D cI cZ cL (tv_mw cI cZ h a1 a2 a3 a4) (tv_mw cI cZ h a1 a2 a3 a4 th (rd, lv, op, nt)) s.heap.size V) ([.ref h, .int x1, .int x2, .int x3] : List Value).toArray s 0 0 (va_A (tv_mw cI cZ h a1 a2 a3 a4 th (rd, lv, op, nt)) s.heap.size)) (F0 m 27 ls [.int (tv_b X), .ref h]) := by
    intro X hX
    refine lv_iconst (v := 1) hx hb dX1_between_27 (by decide) ?_
    refine tv_top (tv_b true) rfl ?_
    refine tv_callW (D := D) (ws := tv_mw cI cZ h a1 a2 a3 a4 th (rd, lv, op, nt)) (wc := [(h, .inr (1, [.ref a1, .ref a2, .ref a3, .ref a4, .int th]))]) (wr := [(a1, .inl (cI, 96, .inl (rd))), (a2, .inl (cI, 8, .inl (lv))), (a3, .inl (cZ, 4, .inl (op))), (a4, .inl (cI, 8, .inl (nt)))]) (wc' := [(h, .inr (1, [.ref a1, .ref a2, .ref a3, .ref a4, .int (tv_cd X true)]))]) (wsN := tv_mw cI cZ h a1 a2 a3 a4 (tv_cd X true) (rd, lv, op, nt)) (r := tv_b (X && true)) (va_runV (As := [.int (tv_b X), .int (tv_b true)]) (rest := []) ⟨hx, hb, hml, hown, hts⟩ (c_X1_may l D cI cZ cL h a1 a2 a3 a4 th s.heap.size X true) (cwV 2 hts gX1_between_X1_may rfl rfl rfl (by decide +kernel) ⟨Nat.le_of_ble_eq_true rfl, Nat.le_of_ble_eq_true rfl⟩) (tv_preDV hP hK hD [0] rfl rfl rfl rfl 0 rfl) rfl rfl hl.1 rfl (lv_room (Nat.le_of_ble_eq_true rfl)) dX1_between_28 ⟨Nat.le_of_ble_eq_true rfl, Nat.le_of_ble_eq_true rfl⟩) hP hD hS hA [0] [1, 2, 3, 4] rfl rfl rfl (by decide) [4, 0, 1, 2, 3] rfl rfl rfl (fun H locs hP hD hS => ?_)
    cases hab : (X && true) with
    | false =>
      have hV1 : V = (tv_cd X true, 0, (rd, lv, op, nt)) := by
        rw [hV]; unfold sp_between; rw [← hX]; exact sp_cd hab
      refine lv_if_ne (tgt := 36) hx hb dX1_between_31 (by decide) (fun c_1 => ?_) (fun c_1 => ?_)
      · exact absurd rfl c_1
      · skip
        refine lv_iconst (v := 0) hx hb dX1_between_34 (by decide) ?_
        exact tv_iretM (wf := (tv_mw cI cZ h a1 a2 a3 a4)) (th := tv_cd X true) (z := 0) (σ := (rd, lv, op, nt)) (r := 0) hAe hV1 (fun _ => rfl) hx hb hr hP hK hD hS dX1_between_35 hlocks
    | true =>
      obtain ⟨hX1, hY1⟩ := Bool.and_eq_true_iff.mp hab
      subst hX1
      refine lv_if_ne (tgt := 36) hx hb dX1_between_31 (by decide) (fun c_2 => ?_) (fun c_2 => ?_)
      · skip
        have hP : va_P D vwCl (tv_mw cI cZ h a1 a2 a3 a4 0 (rd, lv, op, nt)) H := hP
        have hD : va_D A (tv_mw cI cZ h a1 a2 a3 a4 0 (rd, lv, op, nt)) := hD
        have hX := hX.symm
        simp only [Bool.and_eq_true] at hX
        obtain ⟨⟨g1, g2⟩, g3⟩ := hX
        obtain ⟨r, hr8, rfl⟩ := tv_in_of (by omega) g1
        obtain ⟨g, hg8, rfl⟩ := tv_in_of (by omega) g2
        obtain ⟨u, hu8, rfl⟩ := tv_in_of (by omega) g3
        refine lv_aload_n hx hb dX1_between_36 rfl (lv_at hl 0 rfl) ?_
        refine lv_iload_n hx hb dX1_between_37 rfl (lv_at hl 2 rfl) ?_
        refine lv_iload_n hx hb dX1_between_38 rfl (lv_at hl 1 rfl) ?_
        refine tv_callR (W.runV (As := [.int (nI g), .int (nI r)]) (rest := []) ⟨hx, hb, hml, hown, hts⟩ (c_X1_levelFor l D cI cZ cL h a1 a2 a3 a4 rd lv op nt 0 g r hg8 hr8) (cwV 2 hts gX1_between_X1_levelFor rfl rfl rfl (by decide +kernel) ⟨Nat.le_of_ble_eq_true rfl, Nat.le_of_ble_eq_true rfl⟩) (tv_preV hP hK rfl 0 rfl) rfl rfl hl.1 rfl (lv_room (Nat.le_of_ble_eq_true rfl)) dX1_between_39 ⟨Nat.le_of_ble_eq_true rfl, Nat.le_of_ble_eq_true rfl⟩) ?_
        refine lv_istore (lv' := [(4, .int (lvl lv g r)), (0, .ref h), (1, .int (nI r)), (2, .int (nI g)), (3, .int (nI u))]) hx hb dX1_between_42 hl (by decide) rfl (fun ls hl => ?_)
        refine lv_aload_n hx hb dX1_between_44 rfl (lv_at hl 1 rfl) ?_
        refine lv_iload_n hx hb dX1_between_45 rfl (lv_at hl 4 rfl) ?_
        refine lv_iload_n hx hb dX1_between_46 rfl (lv_at hl 2 rfl) ?_
        refine tv_callR (W.runV (As := [.int (nI u), .int (nI r)]) (rest := []) ⟨hx, hb, hml, hown, hts⟩ (c_X1_levelFor l D cI cZ cL h a1 a2 a3 a4 rd lv op nt 0 u r hu8 hr8) (cwV 2 hts gX1_between_X1_levelFor rfl rfl rfl (by decide +kernel) ⟨Nat.le_of_ble_eq_true rfl, Nat.le_of_ble_eq_true rfl⟩) (tv_preV hP hK rfl 0 rfl) rfl rfl hl.1 rfl (lv_room (Nat.le_of_ble_eq_true rfl)) dX1_between_47 ⟨Nat.le_of_ble_eq_true rfl, Nat.le_of_ble_eq_true rfl⟩) ?_
        refine lv_istore (lv' := [(5, .int (lvl lv u r)), (4, .int (lvl lv g r)), (0, .ref h), (1, .int (nI r)), (2, .int (nI g)), (3, .int (nI u))]) hx hb dX1_between_50 hl (by decide) rfl (fun ls hl => ?_)
        refine lv_iconst (v := 0) hx hb dX1_between_52 (by decide) ?_
        refine lv_istore (lv' := [(6, .int 0), (5, .int (lvl lv u r)), (4, .int (lvl lv g r)), (0, .ref h), (1, .int (nI r)), (2, .int (nI g)), (3, .int (nI u))]) hx hb dX1_between_53 hl (by decide) rfl (fun ls hl => ?_)
        refine lv_iconst (v := 0) hx hb dX1_between_55 (by decide) ?_
        refine lv_istore (lv' := [(7, .int 0), (6, .int 0), (5, .int (lvl lv u r)), (4, .int (lvl lv g r)), (0, .ref h), (1, .int (nI r)), (2, .int (nI g)), (3, .int (nI u))]) hx hb dX1_between_56 hl (by decide) rfl (fun ls hl => ?_)
        refine lv_iconst (v := 0) hx hb dX1_between_58 (by decide) ?_
        refine lv_istore (lv' := [(8, .int 0), (7, .int 0), (6, .int 0), (5, .int (lvl lv u r)), (4, .int (lvl lv g r)), (0, .ref h), (1, .int (nI r)), (2, .int (nI g)), (3, .int (nI u))]) hx hb dX1_between_59 hl (by decide) rfl (fun ls hl => ?_)
        have hV0 : V = (0, 16 * cn (fun k => bt1 (rw12 rd r k) (lvl lv g r) (lvl lv u r)) 12 + cn (fun k => bt2 (rw12 rd r k) (lvl lv g r) (lvl lv u r)) 12, (rd, lv, op, nt)) := by
          rw [hV]; simp only [sp_between, tN, nI_clamp (show r < 2 ^ 31 by omega), nI_clamp (show g < 2 ^ 31 by omega), nI_clamp (show u < 2 ^ 31 by omega), g1, g2, g3, Bool.and_false, Bool.false_and, Bool.and_true, Bool.true_and, Bool.and_self, sp_f, sp_tf, sp_tt]
        have loop : ∀ (n k : Nat), k + n = 12 → ∀ ls : Array Slot, lv_has ls 10 [(0, .ref h), (1, .int (nI r)), (4, .int (lvl lv g r)), (5, .int (lvl lv u r)), (6, .int (cn (fun k => bt1 (rw12 rd r k) (lvl lv g r) (lvl lv u r)) k)), (7, .int (cn (fun k => bt2 (rw12 rd r k) (lvl lv g r) (lvl lv u r)) k)), (8, .int (nI k))] → W p l e (headSpec wsX1_between tv_rmM).room s m ([.ref h, .int (nI r), .int (nI g), .int (nI u)] : List Value).toArray below meth c H locs 0 0 (MQ below (tv_QM D cI cZ cL (tv_mw cI cZ h a1 a2 a3 a4) (tv_mw cI cZ h a1 a2 a3 a4 th (rd, lv, op, nt)) s.heap.size V) ([.ref h, .int (nI r), .int (nI g), .int (nI u)] : List Value).toArray s 0 0 (va_A (tv_mw cI cZ h a1 a2 a3 a4 th (rd, lv, op, nt)) s.heap.size)) (F0 m 61 ls []) := by
          intro n
          induction n with
          | zero =>
            intro k hk ls hl
            have hk2 : k = 12 := by omega
            subst hk2
            refine lv_iload hx hb dX1_between_61 (lv_at hl 6 rfl) ?_
            refine lv_bipush (v := 12) hx hb dX1_between_63 (by decide) ?_
            refine lv_icmp_ge (tgt := 147) hx hb dX1_between_65 (by decide) (fun c_3 => ?_) (fun c_3 => ?_)
            · skip
              refine lv_bipush (v := 16) hx hb dX1_between_147 (by decide) ?_
              refine lv_iload hx hb dX1_between_149 (lv_at hl 4 rfl) ?_
              refine lv_imul hx hb dX1_between_151 ?_
              refine lv_iload hx hb dX1_between_152 (lv_at hl 5 rfl) ?_
              refine lv_iadd hx hb dX1_between_154 ?_
              exact tv_iretM (wf := (tv_mw cI cZ h a1 a2 a3 a4)) (th := 0) (z := (16 * (cn (fun k => bt1 (rw12 rd r k) (lvl lv g r) (lvl lv u r)) 12)) + (cn (fun k => bt2 (rw12 rd r k) (lvl lv g r) (lvl lv u r)) 12)) (σ := (rd, lv, op, nt)) (r := (16 * (cn (fun k => bt1 (rw12 rd r k) (lvl lv g r) (lvl lv u r)) 12)) + (cn (fun k => bt2 (rw12 rd r k) (lvl lv g r) (lvl lv u r)) 12)) hAe hV0 (fun _ => rfl) hx hb hr hP hK hD hS dX1_between_155 hlocks
            · exact absurd (show nI 12 ≤ nI 12 from nI_le (Nat.le_refl _) (by omega)) c_3
          | succ n ih =>
            intro k hk ls hl
            refine lv_iload hx hb dX1_between_61 (lv_at hl 6 rfl) ?_
            refine lv_bipush (v := 12) hx hb dX1_between_63 (by decide) ?_
            refine lv_icmp_ge (tgt := 147) hx hb dX1_between_65 (by decide) (fun c_4 => ?_) (fun c_4 => ?_)
            · exact absurd (show nI 12 ≤ nI k from c_4) (nI_ge (by omega) (by omega))
            · skip
              refine lv_aload_n hx hb dX1_between_68 rfl (lv_at hl 0 rfl) ?_
              refine lv_iload_n hx hb dX1_between_69 rfl (lv_at hl 1 rfl) ?_
              refine lv_iload hx hb dX1_between_70 (lv_at hl 6 rfl) ?_
              refine tv_callR (W.runV (As := [.int (nI r), .int (nI k)]) (rest := []) ⟨hx, hb, hml, hown, hts⟩ (c_X1_at l D cI cZ cL h a1 a2 a3 a4 rd lv op nt 0 r k hr8 (by omega)) (cwV 2 hts gX1_between_X1_at rfl rfl rfl (by decide +kernel) ⟨Nat.le_of_ble_eq_true rfl, Nat.le_of_ble_eq_true rfl⟩) (tv_preV hP hK rfl 0 rfl) rfl rfl hl.1 rfl (lv_room (Nat.le_of_ble_eq_true rfl)) dX1_between_72 ⟨Nat.le_of_ble_eq_true rfl, Nat.le_of_ble_eq_true rfl⟩) ?_
              refine lv_istore (lv' := [(9, .int (rd (12 * r + k))), (0, .ref h), (1, .int (nI r)), (4, .int (lvl lv g r)), (5, .int (lvl lv u r)), (6, .int (cn (fun k => bt1 (rw12 rd r k) (lvl lv g r) (lvl lv u r)) k)), (7, .int (cn (fun k => bt2 (rw12 rd r k) (lvl lv g r) (lvl lv u r)) k)), (8, .int (nI k))]) hx hb dX1_between_75 hl (by decide) rfl (fun ls hl => ?_)
              refine lv_iload hx hb dX1_between_77 (lv_at hl 5 rfl) ?_
              refine lv_iconst (v := 3) hx hb dX1_between_79 (by decide) ?_
              refine lv_iload hx hb dX1_between_80 (lv_at hl 0 rfl) ?_
              refine lv_iload hx hb dX1_between_82 (lv_at hl 3 rfl) ?_
              refine tv_callR (W.runS (As := [.int 3, .int (rd (12 * r + k)), .int (lvl lv g r)]) (rest := [.int (cn (fun k => bt1 (rw12 rd r k) (lvl lv g r) (lvl lv u r)) k)]) ⟨hx, hb, hml, hown, hts⟩ (c_X1_isTrue l 3 (rd (12 * r + k)) (lvl lv g r)) (va_cwS 3 hts gX1_between_X1_isTrue rfl rfl rfl (by decide +kernel) ⟨Nat.le_of_ble_eq_true rfl, Nat.le_of_ble_eq_true rfl⟩) preEq rfl rfl hl.1 rfl (lv_room (Nat.le_of_ble_eq_true rfl)) dX1_between_84 ⟨Nat.le_of_ble_eq_true rfl, Nat.le_of_ble_eq_true rfl⟩) ?_
              refine lv_if_eq (tgt := 105) hx hb dX1_between_87 (by decide) (fun c_5 => ?_) (fun c_5 => ?_)
              · skip
                refine lv_iconst (v := 0) hx hb dX1_between_105 (by decide) ?_
                refine lv_iadd hx hb dX1_between_106 ?_
                refine lv_istore (lv' := [(6, .int ((cn (fun k => bt1 (rw12 rd r k) (lvl lv g r) (lvl lv u r)) k) + 0)), (9, .int (rd (12 * r + k))), (0, .ref h), (1, .int (nI r)), (4, .int (lvl lv g r)), (5, .int (lvl lv u r)), (7, .int (cn (fun k => bt2 (rw12 rd r k) (lvl lv g r) (lvl lv u r)) k)), (8, .int (nI k))]) hx hb dX1_between_107 hl (by decide) rfl (fun ls hl => ?_)
                refine lv_iload hx hb dX1_between_109 (lv_at hl 6 rfl) ?_
                refine lv_iconst (v := 0) hx hb dX1_between_111 (by decide) ?_
                refine lv_iload hx hb dX1_between_112 (lv_at hl 1 rfl) ?_
                refine lv_iload hx hb dX1_between_114 (lv_at hl 4 rfl) ?_
                refine tv_callR (W.runS (As := [.int 0, .int (rd (12 * r + k)), .int (lvl lv g r)]) (rest := [.int (cn (fun k => bt2 (rw12 rd r k) (lvl lv g r) (lvl lv u r)) k)]) ⟨hx, hb, hml, hown, hts⟩ (c_X1_isTrue l 0 (rd (12 * r + k)) (lvl lv g r)) (va_cwS 3 hts gX1_between_X1_isTrue rfl rfl rfl (by decide +kernel) ⟨Nat.le_of_ble_eq_true rfl, Nat.le_of_ble_eq_true rfl⟩) preEq rfl rfl hl.1 rfl (lv_room (Nat.le_of_ble_eq_true rfl)) dX1_between_116 ⟨Nat.le_of_ble_eq_true rfl, Nat.le_of_ble_eq_true rfl⟩) ?_
                refine lv_if_ne (tgt := 133) hx hb dX1_between_119 (by decide) (fun c_6 => ?_) (fun c_6 => ?_)
                · skip
                  refine lv_iconst (v := 1) hx hb dX1_between_133 (by decide) ?_
                  refine lv_goto (tgt := 138) hx hb dX1_between_134 (by decide) ?_
                  refine lv_iadd hx hb dX1_between_138 ?_
                  refine lv_istore (lv' := [(7, .int ((cn (fun k => bt2 (rw12 rd r k) (lvl lv g r) (lvl lv u r)) k) + 1)), (6, .int ((cn (fun k => bt1 (rw12 rd r k) (lvl lv g r) (lvl lv u r)) k) + 0)), (9, .int (rd (12 * r + k))), (0, .ref h), (1, .int (nI r)), (4, .int (lvl lv g r)), (5, .int (lvl lv u r)), (8, .int (nI k))]) hx hb dX1_between_139 hl (by decide) rfl (fun ls hl => ?_)
                  refine lv_iinc (v := nI (k + 1)) (lv' := [(8, .int (nI (k + 1))), (7, .int ((cn (fun k => bt2 (rw12 rd r k) (lvl lv g r) (lvl lv u r)) k) + 1)), (6, .int ((cn (fun k => bt1 (rw12 rd r k) (lvl lv g r) (lvl lv u r)) k) + 0)), (9, .int (rd (12 * r + k))), (0, .ref h), (1, .int (nI r)), (4, .int (lvl lv g r)), (5, .int (lvl lv u r))]) hx hb dX1_between_141 hl (k := 7) rfl (nI_1 k) (by decide) rfl (fun ls hl => ?_)
                  refine lv_goto (tgt := 61) hx hb dX1_between_144 (by decide) ?_
                  exact ih (k + 1) (by omega) ls (by rw [show cn (fun k => bt1 (rw12 rd r k) (lvl lv g r) (lvl lv u r)) (k + 1) = (cn (fun k => bt1 (rw12 rd r k) (lvl lv g r) (lvl lv u r)) k) + 0 from cn_a (by show bt1 _ _ _ = 0; rw [bt1, if_pos c_5]), show cn (fun k => bt2 (rw12 rd r k) (lvl lv g r) (lvl lv u r)) (k + 1) = (cn (fun k => bt2 (rw12 rd r k) (lvl lv g r) (lvl lv u r)) k) + 1 from cn_a (by show bt2 _ _ _ = 1; rw [bt2, if_neg c_6])]; exact lv_sub hl [4, 5, 6, 7, 2, 1, 0] rfl)
                · skip
                  refine lv_iconst (v := 2) hx hb dX1_between_122 (by decide) ?_
                  refine lv_iload hx hb dX1_between_123 (lv_at hl 1 rfl) ?_
                  refine lv_iload hx hb dX1_between_125 (lv_at hl 5 rfl) ?_
                  refine tv_callR (W.runS (As := [.int 2, .int (rd (12 * r + k)), .int (lvl lv u r)]) (rest := [.int (cn (fun k => bt2 (rw12 rd r k) (lvl lv g r) (lvl lv u r)) k)]) ⟨hx, hb, hml, hown, hts⟩ (c_X1_isTrue l 2 (rd (12 * r + k)) (lvl lv u r)) (va_cwS 3 hts gX1_between_X1_isTrue rfl rfl rfl (by decide +kernel) ⟨Nat.le_of_ble_eq_true rfl, Nat.le_of_ble_eq_true rfl⟩) preEq rfl rfl hl.1 rfl (lv_room (Nat.le_of_ble_eq_true rfl)) dX1_between_127 ⟨Nat.le_of_ble_eq_true rfl, Nat.le_of_ble_eq_true rfl⟩) ?_
                  refine lv_if_eq (tgt := 137) hx hb dX1_between_130 (by decide) (fun c_7 => ?_) (fun c_7 => ?_)
                  · skip
                    refine lv_iconst (v := 0) hx hb dX1_between_137 (by decide) ?_
                    refine lv_iadd hx hb dX1_between_138 ?_
                    refine lv_istore (lv' := [(7, .int ((cn (fun k => bt2 (rw12 rd r k) (lvl lv g r) (lvl lv u r)) k) + 0)), (6, .int ((cn (fun k => bt1 (rw12 rd r k) (lvl lv g r) (lvl lv u r)) k) + 0)), (9, .int (rd (12 * r + k))), (0, .ref h), (1, .int (nI r)), (4, .int (lvl lv g r)), (5, .int (lvl lv u r)), (8, .int (nI k))]) hx hb dX1_between_139 hl (by decide) rfl (fun ls hl => ?_)
                    refine lv_iinc (v := nI (k + 1)) (lv' := [(8, .int (nI (k + 1))), (7, .int ((cn (fun k => bt2 (rw12 rd r k) (lvl lv g r) (lvl lv u r)) k) + 0)), (6, .int ((cn (fun k => bt1 (rw12 rd r k) (lvl lv g r) (lvl lv u r)) k) + 0)), (9, .int (rd (12 * r + k))), (0, .ref h), (1, .int (nI r)), (4, .int (lvl lv g r)), (5, .int (lvl lv u r))]) hx hb dX1_between_141 hl (k := 7) rfl (nI_1 k) (by decide) rfl (fun ls hl => ?_)
                    refine lv_goto (tgt := 61) hx hb dX1_between_144 (by decide) ?_
                    exact ih (k + 1) (by omega) ls (by rw [show cn (fun k => bt1 (rw12 rd r k) (lvl lv g r) (lvl lv u r)) (k + 1) = (cn (fun k => bt1 (rw12 rd r k) (lvl lv g r) (lvl lv u r)) k) + 0 from cn_a (by show bt1 _ _ _ = 0; rw [bt1, if_pos c_5]), show cn (fun k => bt2 (rw12 rd r k) (lvl lv g r) (lvl lv u r)) (k + 1) = (cn (fun k => bt2 (rw12 rd r k) (lvl lv g r) (lvl lv u r)) k) + 0 from cn_a (by show bt2 _ _ _ = 0; rw [bt2, if_pos c_6]; exact c_7)]; exact lv_sub hl [4, 5, 6, 7, 2, 1, 0] rfl)
                  · skip
                    refine lv_iconst (v := 1) hx hb dX1_between_133 (by decide) ?_
                    refine lv_goto (tgt := 138) hx hb dX1_between_134 (by decide) ?_
                    refine lv_iadd hx hb dX1_between_138 ?_
                    refine lv_istore (lv' := [(7, .int ((cn (fun k => bt2 (rw12 rd r k) (lvl lv g r) (lvl lv u r)) k) + 1)), (6, .int ((cn (fun k => bt1 (rw12 rd r k) (lvl lv g r) (lvl lv u r)) k) + 0)), (9, .int (rd (12 * r + k))), (0, .ref h), (1, .int (nI r)), (4, .int (lvl lv g r)), (5, .int (lvl lv u r)), (8, .int (nI k))]) hx hb dX1_between_139 hl (by decide) rfl (fun ls hl => ?_)
                    refine lv_iinc (v := nI (k + 1)) (lv' := [(8, .int (nI (k + 1))), (7, .int ((cn (fun k => bt2 (rw12 rd r k) (lvl lv g r) (lvl lv u r)) k) + 1)), (6, .int ((cn (fun k => bt1 (rw12 rd r k) (lvl lv g r) (lvl lv u r)) k) + 0)), (9, .int (rd (12 * r + k))), (0, .ref h), (1, .int (nI r)), (4, .int (lvl lv g r)), (5, .int (lvl lv u r))]) hx hb dX1_between_141 hl (k := 7) rfl (nI_1 k) (by decide) rfl (fun ls hl => ?_)
                    refine lv_goto (tgt := 61) hx hb dX1_between_144 (by decide) ?_
                    exact ih (k + 1) (by omega) ls (by rw [show cn (fun k => bt1 (rw12 rd r k) (lvl lv g r) (lvl lv u r)) (k + 1) = (cn (fun k => bt1 (rw12 rd r k) (lvl lv g r) (lvl lv u r)) k) + 0 from cn_a (by show bt1 _ _ _ = 0; rw [bt1, if_pos c_5]), show cn (fun k => bt2 (rw12 rd r k) (lvl lv g r) (lvl lv u r)) (k + 1) = (cn (fun k => bt2 (rw12 rd r k) (lvl lv g r) (lvl lv u r)) k) + 1 from cn_a (by show bt2 _ _ _ = 1; rw [bt2, if_pos c_6]; exact tq1 c_7)]; exact lv_sub hl [4, 5, 6, 7, 2, 1, 0] rfl)
              · skip
                refine lv_iconst (v := 1) hx hb dX1_between_90 (by decide) ?_
                refine lv_iload hx hb dX1_between_91 (lv_at hl 0 rfl) ?_
                refine lv_iload hx hb dX1_between_93 (lv_at hl 4 rfl) ?_
                refine tv_callR (W.runS (As := [.int 1, .int (rd (12 * r + k)), .int (lvl lv u r)]) (rest := [.int (cn (fun k => bt1 (rw12 rd r k) (lvl lv g r) (lvl lv u r)) k)]) ⟨hx, hb, hml, hown, hts⟩ (c_X1_isTrue l 1 (rd (12 * r + k)) (lvl lv u r)) (va_cwS 3 hts gX1_between_X1_isTrue rfl rfl rfl (by decide +kernel) ⟨Nat.le_of_ble_eq_true rfl, Nat.le_of_ble_eq_true rfl⟩) preEq rfl rfl hl.1 rfl (lv_room (Nat.le_of_ble_eq_true rfl)) dX1_between_95 ⟨Nat.le_of_ble_eq_true rfl, Nat.le_of_ble_eq_true rfl⟩) ?_
                refine lv_if_eq (tgt := 105) hx hb dX1_between_98 (by decide) (fun c_8 => ?_) (fun c_8 => ?_)
                · skip
                  refine lv_iconst (v := 0) hx hb dX1_between_105 (by decide) ?_
                  refine lv_iadd hx hb dX1_between_106 ?_
                  refine lv_istore (lv' := [(6, .int ((cn (fun k => bt1 (rw12 rd r k) (lvl lv g r) (lvl lv u r)) k) + 0)), (9, .int (rd (12 * r + k))), (0, .ref h), (1, .int (nI r)), (4, .int (lvl lv g r)), (5, .int (lvl lv u r)), (7, .int (cn (fun k => bt2 (rw12 rd r k) (lvl lv g r) (lvl lv u r)) k)), (8, .int (nI k))]) hx hb dX1_between_107 hl (by decide) rfl (fun ls hl => ?_)
                  refine lv_iload hx hb dX1_between_109 (lv_at hl 6 rfl) ?_
                  refine lv_iconst (v := 0) hx hb dX1_between_111 (by decide) ?_
                  refine lv_iload hx hb dX1_between_112 (lv_at hl 1 rfl) ?_
                  refine lv_iload hx hb dX1_between_114 (lv_at hl 4 rfl) ?_
                  refine tv_callR (W.runS (As := [.int 0, .int (rd (12 * r + k)), .int (lvl lv g r)]) (rest := [.int (cn (fun k => bt2 (rw12 rd r k) (lvl lv g r) (lvl lv u r)) k)]) ⟨hx, hb, hml, hown, hts⟩ (c_X1_isTrue l 0 (rd (12 * r + k)) (lvl lv g r)) (va_cwS 3 hts gX1_between_X1_isTrue rfl rfl rfl (by decide +kernel) ⟨Nat.le_of_ble_eq_true rfl, Nat.le_of_ble_eq_true rfl⟩) preEq rfl rfl hl.1 rfl (lv_room (Nat.le_of_ble_eq_true rfl)) dX1_between_116 ⟨Nat.le_of_ble_eq_true rfl, Nat.le_of_ble_eq_true rfl⟩) ?_
                  refine lv_if_ne (tgt := 133) hx hb dX1_between_119 (by decide) (fun c_9 => ?_) (fun c_9 => ?_)
                  · skip
                    refine lv_iconst (v := 1) hx hb dX1_between_133 (by decide) ?_
                    refine lv_goto (tgt := 138) hx hb dX1_between_134 (by decide) ?_
                    refine lv_iadd hx hb dX1_between_138 ?_
                    refine lv_istore (lv' := [(7, .int ((cn (fun k => bt2 (rw12 rd r k) (lvl lv g r) (lvl lv u r)) k) + 1)), (6, .int ((cn (fun k => bt1 (rw12 rd r k) (lvl lv g r) (lvl lv u r)) k) + 0)), (9, .int (rd (12 * r + k))), (0, .ref h), (1, .int (nI r)), (4, .int (lvl lv g r)), (5, .int (lvl lv u r)), (8, .int (nI k))]) hx hb dX1_between_139 hl (by decide) rfl (fun ls hl => ?_)
                    refine lv_iinc (v := nI (k + 1)) (lv' := [(8, .int (nI (k + 1))), (7, .int ((cn (fun k => bt2 (rw12 rd r k) (lvl lv g r) (lvl lv u r)) k) + 1)), (6, .int ((cn (fun k => bt1 (rw12 rd r k) (lvl lv g r) (lvl lv u r)) k) + 0)), (9, .int (rd (12 * r + k))), (0, .ref h), (1, .int (nI r)), (4, .int (lvl lv g r)), (5, .int (lvl lv u r))]) hx hb dX1_between_141 hl (k := 7) rfl (nI_1 k) (by decide) rfl (fun ls hl => ?_)
                    refine lv_goto (tgt := 61) hx hb dX1_between_144 (by decide) ?_
                    exact ih (k + 1) (by omega) ls (by rw [show cn (fun k => bt1 (rw12 rd r k) (lvl lv g r) (lvl lv u r)) (k + 1) = (cn (fun k => bt1 (rw12 rd r k) (lvl lv g r) (lvl lv u r)) k) + 0 from cn_a (by show bt1 _ _ _ = 0; rw [bt1, if_neg c_5]; exact c_8), show cn (fun k => bt2 (rw12 rd r k) (lvl lv g r) (lvl lv u r)) (k + 1) = (cn (fun k => bt2 (rw12 rd r k) (lvl lv g r) (lvl lv u r)) k) + 1 from cn_a (by show bt2 _ _ _ = 1; rw [bt2, if_neg c_9])]; exact lv_sub hl [4, 5, 6, 7, 2, 1, 0] rfl)
                  · skip
                    refine lv_iconst (v := 2) hx hb dX1_between_122 (by decide) ?_
                    refine lv_iload hx hb dX1_between_123 (lv_at hl 1 rfl) ?_
                    refine lv_iload hx hb dX1_between_125 (lv_at hl 5 rfl) ?_
                    refine tv_callR (W.runS (As := [.int 2, .int (rd (12 * r + k)), .int (lvl lv u r)]) (rest := [.int (cn (fun k => bt2 (rw12 rd r k) (lvl lv g r) (lvl lv u r)) k)]) ⟨hx, hb, hml, hown, hts⟩ (c_X1_isTrue l 2 (rd (12 * r + k)) (lvl lv u r)) (va_cwS 3 hts gX1_between_X1_isTrue rfl rfl rfl (by decide +kernel) ⟨Nat.le_of_ble_eq_true rfl, Nat.le_of_ble_eq_true rfl⟩) preEq rfl rfl hl.1 rfl (lv_room (Nat.le_of_ble_eq_true rfl)) dX1_between_127 ⟨Nat.le_of_ble_eq_true rfl, Nat.le_of_ble_eq_true rfl⟩) ?_
                    refine lv_if_eq (tgt := 137) hx hb dX1_between_130 (by decide) (fun c_10 => ?_) (fun c_10 => ?_)
                    · skip
                      refine lv_iconst (v := 0) hx hb dX1_between_137 (by decide) ?_
                      refine lv_iadd hx hb dX1_between_138 ?_
                      refine lv_istore (lv' := [(7, .int ((cn (fun k => bt2 (rw12 rd r k) (lvl lv g r) (lvl lv u r)) k) + 0)), (6, .int ((cn (fun k => bt1 (rw12 rd r k) (lvl lv g r) (lvl lv u r)) k) + 0)), (9, .int (rd (12 * r + k))), (0, .ref h), (1, .int (nI r)), (4, .int (lvl lv g r)), (5, .int (lvl lv u r)), (8, .int (nI k))]) hx hb dX1_between_139 hl (by decide) rfl (fun ls hl => ?_)
                      refine lv_iinc (v := nI (k + 1)) (lv' := [(8, .int (nI (k + 1))), (7, .int ((cn (fun k => bt2 (rw12 rd r k) (lvl lv g r) (lvl lv u r)) k) + 0)), (6, .int ((cn (fun k => bt1 (rw12 rd r k) (lvl lv g r) (lvl lv u r)) k) + 0)), (9, .int (rd (12 * r + k))), (0, .ref h), (1, .int (nI r)), (4, .int (lvl lv g r)), (5, .int (lvl lv u r))]) hx hb dX1_between_141 hl (k := 7) rfl (nI_1 k) (by decide) rfl (fun ls hl => ?_)
                      refine lv_goto (tgt := 61) hx hb dX1_between_144 (by decide) ?_
                      exact ih (k + 1) (by omega) ls (by rw [show cn (fun k => bt1 (rw12 rd r k) (lvl lv g r) (lvl lv u r)) (k + 1) = (cn (fun k => bt1 (rw12 rd r k) (lvl lv g r) (lvl lv u r)) k) + 0 from cn_a (by show bt1 _ _ _ = 0; rw [bt1, if_neg c_5]; exact c_8), show cn (fun k => bt2 (rw12 rd r k) (lvl lv g r) (lvl lv u r)) (k + 1) = (cn (fun k => bt2 (rw12 rd r k) (lvl lv g r) (lvl lv u r)) k) + 0 from cn_a (by show bt2 _ _ _ = 0; rw [bt2, if_pos c_9]; exact c_10)]; exact lv_sub hl [4, 5, 6, 7, 2, 1, 0] rfl)
                    · skip
                      refine lv_iconst (v := 1) hx hb dX1_between_133 (by decide) ?_
                      refine lv_goto (tgt := 138) hx hb dX1_between_134 (by decide) ?_
                      refine lv_iadd hx hb dX1_between_138 ?_
                      refine lv_istore (lv' := [(7, .int ((cn (fun k => bt2 (rw12 rd r k) (lvl lv g r) (lvl lv u r)) k) + 1)), (6, .int ((cn (fun k => bt1 (rw12 rd r k) (lvl lv g r) (lvl lv u r)) k) + 0)), (9, .int (rd (12 * r + k))), (0, .ref h), (1, .int (nI r)), (4, .int (lvl lv g r)), (5, .int (lvl lv u r)), (8, .int (nI k))]) hx hb dX1_between_139 hl (by decide) rfl (fun ls hl => ?_)
                      refine lv_iinc (v := nI (k + 1)) (lv' := [(8, .int (nI (k + 1))), (7, .int ((cn (fun k => bt2 (rw12 rd r k) (lvl lv g r) (lvl lv u r)) k) + 1)), (6, .int ((cn (fun k => bt1 (rw12 rd r k) (lvl lv g r) (lvl lv u r)) k) + 0)), (9, .int (rd (12 * r + k))), (0, .ref h), (1, .int (nI r)), (4, .int (lvl lv g r)), (5, .int (lvl lv u r))]) hx hb dX1_between_141 hl (k := 7) rfl (nI_1 k) (by decide) rfl (fun ls hl => ?_)
                      refine lv_goto (tgt := 61) hx hb dX1_between_144 (by decide) ?_
                      exact ih (k + 1) (by omega) ls (by rw [show cn (fun k => bt1 (rw12 rd r k) (lvl lv g r) (lvl lv u r)) (k + 1) = (cn (fun k => bt1 (rw12 rd r k) (lvl lv g r) (lvl lv u r)) k) + 0 from cn_a (by show bt1 _ _ _ = 0; rw [bt1, if_neg c_5]; exact c_8), show cn (fun k => bt2 (rw12 rd r k) (lvl lv g r) (lvl lv u r)) (k + 1) = (cn (fun k => bt2 (rw12 rd r k) (lvl lv g r) (lvl lv u r)) k) + 1 from cn_a (by show bt2 _ _ _ = 1; rw [bt2, if_pos c_9]; exact tq1 c_10)]; exact lv_sub hl [4, 5, 6, 7, 2, 1, 0] rfl)
                · skip
                  refine lv_iconst (v := 1) hx hb dX1_between_101 (by decide) ?_
                  refine lv_goto (tgt := 106) hx hb dX1_between_102 (by decide) ?_
                  refine lv_iadd hx hb dX1_between_106 ?_
                  refine lv_istore (lv' := [(6, .int ((cn (fun k => bt1 (rw12 rd r k) (lvl lv g r) (lvl lv u r)) k) + 1)), (9, .int (rd (12 * r + k))), (0, .ref h), (1, .int (nI r)), (4, .int (lvl lv g r)), (5, .int (lvl lv u r)), (7, .int (cn (fun k => bt2 (rw12 rd r k) (lvl lv g r) (lvl lv u r)) k)), (8, .int (nI k))]) hx hb dX1_between_107 hl (by decide) rfl (fun ls hl => ?_)
                  refine lv_iload hx hb dX1_between_109 (lv_at hl 6 rfl) ?_
                  refine lv_iconst (v := 0) hx hb dX1_between_111 (by decide) ?_
                  refine lv_iload hx hb dX1_between_112 (lv_at hl 1 rfl) ?_
                  refine lv_iload hx hb dX1_between_114 (lv_at hl 4 rfl) ?_
                  refine tv_callR (W.runS (As := [.int 0, .int (rd (12 * r + k)), .int (lvl lv g r)]) (rest := [.int (cn (fun k => bt2 (rw12 rd r k) (lvl lv g r) (lvl lv u r)) k)]) ⟨hx, hb, hml, hown, hts⟩ (c_X1_isTrue l 0 (rd (12 * r + k)) (lvl lv g r)) (va_cwS 3 hts gX1_between_X1_isTrue rfl rfl rfl (by decide +kernel) ⟨Nat.le_of_ble_eq_true rfl, Nat.le_of_ble_eq_true rfl⟩) preEq rfl rfl hl.1 rfl (lv_room (Nat.le_of_ble_eq_true rfl)) dX1_between_116 ⟨Nat.le_of_ble_eq_true rfl, Nat.le_of_ble_eq_true rfl⟩) ?_
                  refine lv_if_ne (tgt := 133) hx hb dX1_between_119 (by decide) (fun c_11 => ?_) (fun c_11 => ?_)
                  · skip
                    refine lv_iconst (v := 1) hx hb dX1_between_133 (by decide) ?_
                    refine lv_goto (tgt := 138) hx hb dX1_between_134 (by decide) ?_
                    refine lv_iadd hx hb dX1_between_138 ?_
                    refine lv_istore (lv' := [(7, .int ((cn (fun k => bt2 (rw12 rd r k) (lvl lv g r) (lvl lv u r)) k) + 1)), (6, .int ((cn (fun k => bt1 (rw12 rd r k) (lvl lv g r) (lvl lv u r)) k) + 1)), (9, .int (rd (12 * r + k))), (0, .ref h), (1, .int (nI r)), (4, .int (lvl lv g r)), (5, .int (lvl lv u r)), (8, .int (nI k))]) hx hb dX1_between_139 hl (by decide) rfl (fun ls hl => ?_)
                    refine lv_iinc (v := nI (k + 1)) (lv' := [(8, .int (nI (k + 1))), (7, .int ((cn (fun k => bt2 (rw12 rd r k) (lvl lv g r) (lvl lv u r)) k) + 1)), (6, .int ((cn (fun k => bt1 (rw12 rd r k) (lvl lv g r) (lvl lv u r)) k) + 1)), (9, .int (rd (12 * r + k))), (0, .ref h), (1, .int (nI r)), (4, .int (lvl lv g r)), (5, .int (lvl lv u r))]) hx hb dX1_between_141 hl (k := 7) rfl (nI_1 k) (by decide) rfl (fun ls hl => ?_)
                    refine lv_goto (tgt := 61) hx hb dX1_between_144 (by decide) ?_
                    exact ih (k + 1) (by omega) ls (by rw [show cn (fun k => bt1 (rw12 rd r k) (lvl lv g r) (lvl lv u r)) (k + 1) = (cn (fun k => bt1 (rw12 rd r k) (lvl lv g r) (lvl lv u r)) k) + 1 from cn_a (by show bt1 _ _ _ = 1; rw [bt1, if_neg c_5]; exact tq1 c_8), show cn (fun k => bt2 (rw12 rd r k) (lvl lv g r) (lvl lv u r)) (k + 1) = (cn (fun k => bt2 (rw12 rd r k) (lvl lv g r) (lvl lv u r)) k) + 1 from cn_a (by show bt2 _ _ _ = 1; rw [bt2, if_neg c_11])]; exact lv_sub hl [4, 5, 6, 7, 2, 1, 0] rfl)
                  · skip
                    refine lv_iconst (v := 2) hx hb dX1_between_122 (by decide) ?_
                    refine lv_iload hx hb dX1_between_123 (lv_at hl 1 rfl) ?_
                    refine lv_iload hx hb dX1_between_125 (lv_at hl 5 rfl) ?_
                    refine tv_callR (W.runS (As := [.int 2, .int (rd (12 * r + k)), .int (lvl lv u r)]) (rest := [.int (cn (fun k => bt2 (rw12 rd r k) (lvl lv g r) (lvl lv u r)) k)]) ⟨hx, hb, hml, hown, hts⟩ (c_X1_isTrue l 2 (rd (12 * r + k)) (lvl lv u r)) (va_cwS 3 hts gX1_between_X1_isTrue rfl rfl rfl (by decide +kernel) ⟨Nat.le_of_ble_eq_true rfl, Nat.le_of_ble_eq_true rfl⟩) preEq rfl rfl hl.1 rfl (lv_room (Nat.le_of_ble_eq_true rfl)) dX1_between_127 ⟨Nat.le_of_ble_eq_true rfl, Nat.le_of_ble_eq_true rfl⟩) ?_
                    refine lv_if_eq (tgt := 137) hx hb dX1_between_130 (by decide) (fun c_12 => ?_) (fun c_12 => ?_)
                    · skip
                      refine lv_iconst (v := 0) hx hb dX1_between_137 (by decide) ?_
                      refine lv_iadd hx hb dX1_between_138 ?_
                      refine lv_istore (lv' := [(7, .int ((cn (fun k => bt2 (rw12 rd r k) (lvl lv g r) (lvl lv u r)) k) + 0)), (6, .int ((cn (fun k => bt1 (rw12 rd r k) (lvl lv g r) (lvl lv u r)) k) + 1)), (9, .int (rd (12 * r + k))), (0, .ref h), (1, .int (nI r)), (4, .int (lvl lv g r)), (5, .int (lvl lv u r)), (8, .int (nI k))]) hx hb dX1_between_139 hl (by decide) rfl (fun ls hl => ?_)
                      refine lv_iinc (v := nI (k + 1)) (lv' := [(8, .int (nI (k + 1))), (7, .int ((cn (fun k => bt2 (rw12 rd r k) (lvl lv g r) (lvl lv u r)) k) + 0)), (6, .int ((cn (fun k => bt1 (rw12 rd r k) (lvl lv g r) (lvl lv u r)) k) + 1)), (9, .int (rd (12 * r + k))), (0, .ref h), (1, .int (nI r)), (4, .int (lvl lv g r)), (5, .int (lvl lv u r))]) hx hb dX1_between_141 hl (k := 7) rfl (nI_1 k) (by decide) rfl (fun ls hl => ?_)
                      refine lv_goto (tgt := 61) hx hb dX1_between_144 (by decide) ?_
                      exact ih (k + 1) (by omega) ls (by rw [show cn (fun k => bt1 (rw12 rd r k) (lvl lv g r) (lvl lv u r)) (k + 1) = (cn (fun k => bt1 (rw12 rd r k) (lvl lv g r) (lvl lv u r)) k) + 1 from cn_a (by show bt1 _ _ _ = 1; rw [bt1, if_neg c_5]; exact tq1 c_8), show cn (fun k => bt2 (rw12 rd r k) (lvl lv g r) (lvl lv u r)) (k + 1) = (cn (fun k => bt2 (rw12 rd r k) (lvl lv g r) (lvl lv u r)) k) + 0 from cn_a (by show bt2 _ _ _ = 0; rw [bt2, if_pos c_11]; exact c_12)]; exact lv_sub hl [4, 5, 6, 7, 2, 1, 0] rfl)
                    · skip
                      refine lv_iconst (v := 1) hx hb dX1_between_133 (by decide) ?_
                      refine lv_goto (tgt := 138) hx hb dX1_between_134 (by decide) ?_
                      refine lv_iadd hx hb dX1_between_138 ?_
                      refine lv_istore (lv' := [(7, .int ((cn (fun k => bt2 (rw12 rd r k) (lvl lv g r) (lvl lv u r)) k) + 1)), (6, .int ((cn (fun k => bt1 (rw12 rd r k) (lvl lv g r) (lvl lv u r)) k) + 1)), (9, .int (rd (12 * r + k))), (0, .ref h), (1, .int (nI r)), (4, .int (lvl lv g r)), (5, .int (lvl lv u r)), (8, .int (nI k))]) hx hb dX1_between_139 hl (by decide) rfl (fun ls hl => ?_)
                      refine lv_iinc (v := nI (k + 1)) (lv' := [(8, .int (nI (k + 1))), (7, .int ((cn (fun k => bt2 (rw12 rd r k) (lvl lv g r) (lvl lv u r)) k) + 1)), (6, .int ((cn (fun k => bt1 (rw12 rd r k) (lvl lv g r) (lvl lv u r)) k) + 1)), (9, .int (rd (12 * r + k))), (0, .ref h), (1, .int (nI r)), (4, .int (lvl lv g r)), (5, .int (lvl lv u r))]) hx hb dX1_between_141 hl (k := 7) rfl (nI_1 k) (by decide) rfl (fun ls hl => ?_)
                      refine lv_goto (tgt := 61) hx hb dX1_between_144 (by decide) ?_
                      exact ih (k + 1) (by omega) ls (by rw [show cn (fun k => bt1 (rw12 rd r k) (lvl lv g r) (lvl lv u r)) (k + 1) = (cn (fun k => bt1 (rw12 rd r k) (lvl lv g r) (lvl lv u r)) k) + 1 from cn_a (by show bt1 _ _ _ = 1; rw [bt1, if_neg c_5]; exact tq1 c_8), show cn (fun k => bt2 (rw12 rd r k) (lvl lv g r) (lvl lv u r)) (k + 1) = (cn (fun k => bt2 (rw12 rd r k) (lvl lv g r) (lvl lv u r)) k) + 1 from cn_a (by show bt2 _ _ _ = 1; rw [bt2, if_pos c_11]; exact tq1 c_12)]; exact lv_sub hl [4, 5, 6, 7, 2, 1, 0] rfl)
        exact loop 12 0 (by omega) ls (by rw [show cn (fun k => bt1 (rw12 rd r k) (lvl lv g r) (lvl lv u r)) 0 = 0 from rfl, show cn (fun k => bt2 (rw12 rd r k) (lvl lv g r) (lvl lv u r)) 0 = 0 from rfl, show nI 0 = 0 from nI_0]; exact lv_sub hl [5, 6, 4, 3, 2, 1, 0] rfl)
      · exact absurd c_2 (by decide)
  refine lv_iload_n hx hb dX1_between_1 rfl (lv_at hl 1 rfl) ?_
  cases w1 : (tv_in 8 x1) with
  | false =>
    refine tv_callR (W.runS (As := [.int x1]) (rest := [.ref h]) ⟨hx, hb, hml, hown, hts⟩ (c_X1_isRow l x1) (va_cwS 1 hts gX1_between_X1_isRow rfl rfl rfl (by decide +kernel) ⟨Nat.le_of_ble_eq_true rfl, Nat.le_of_ble_eq_true rfl⟩) preEq rfl rfl hl.1 rfl (lv_room (Nat.le_of_ble_eq_true rfl)) dX1_between_2 ⟨Nat.le_of_ble_eq_true rfl, Nat.le_of_ble_eq_true rfl⟩) ?_
    refine tv_top 0 (by rw [w1]; rfl) ?_
    refine lv_if_eq (tgt := 26) hx hb dX1_between_5 (by decide) (fun c_13 => ?_) (fun c_13 => ?_)
    · skip
      refine lv_iconst (v := 0) hx hb dX1_between_26 (by decide) ?_
      refine tv_top (tv_b false) rfl ?_
      exact j1 false (by simp only [w1, Bool.true_and, Bool.false_and, Bool.and_false, Bool.and_true, Bool.and_self])
    · exact absurd rfl c_13
  | true =>
    refine tv_callR (W.runS (As := [.int x1]) (rest := [.ref h]) ⟨hx, hb, hml, hown, hts⟩ (c_X1_isRow l x1) (va_cwS 1 hts gX1_between_X1_isRow rfl rfl rfl (by decide +kernel) ⟨Nat.le_of_ble_eq_true rfl, Nat.le_of_ble_eq_true rfl⟩) preEq rfl rfl hl.1 rfl (lv_room (Nat.le_of_ble_eq_true rfl)) dX1_between_2 ⟨Nat.le_of_ble_eq_true rfl, Nat.le_of_ble_eq_true rfl⟩) ?_
    refine tv_top 1 (by rw [w1]; rfl) ?_
    refine lv_if_eq (tgt := 26) hx hb dX1_between_5 (by decide) (fun c_14 => ?_) (fun c_14 => ?_)
    · exact absurd c_14 (by decide)
    · skip
      refine lv_iload_n hx hb dX1_between_8 rfl (lv_at hl 2 rfl) ?_
      cases w2 : (tv_in 4 x2) with
      | false =>
        refine tv_callR (W.runS (As := [.int x2]) (rest := [.ref h]) ⟨hx, hb, hml, hown, hts⟩ (c_X1_isGate l x2) (va_cwS 1 hts gX1_between_X1_isGate rfl rfl rfl (by decide +kernel) ⟨Nat.le_of_ble_eq_true rfl, Nat.le_of_ble_eq_true rfl⟩) preEq rfl rfl hl.1 rfl (lv_room (Nat.le_of_ble_eq_true rfl)) dX1_between_9 ⟨Nat.le_of_ble_eq_true rfl, Nat.le_of_ble_eq_true rfl⟩) ?_
        refine tv_top 0 (by rw [w2]; rfl) ?_
        refine lv_if_eq (tgt := 26) hx hb dX1_between_12 (by decide) (fun c_15 => ?_) (fun c_15 => ?_)
        · skip
          refine lv_iconst (v := 0) hx hb dX1_between_26 (by decide) ?_
          refine tv_top (tv_b false) rfl ?_
          exact j1 false (by simp only [w1, w2, Bool.true_and, Bool.false_and, Bool.and_false, Bool.and_true, Bool.and_self])
        · exact absurd rfl c_15
      | true =>
        refine tv_callR (W.runS (As := [.int x2]) (rest := [.ref h]) ⟨hx, hb, hml, hown, hts⟩ (c_X1_isGate l x2) (va_cwS 1 hts gX1_between_X1_isGate rfl rfl rfl (by decide +kernel) ⟨Nat.le_of_ble_eq_true rfl, Nat.le_of_ble_eq_true rfl⟩) preEq rfl rfl hl.1 rfl (lv_room (Nat.le_of_ble_eq_true rfl)) dX1_between_9 ⟨Nat.le_of_ble_eq_true rfl, Nat.le_of_ble_eq_true rfl⟩) ?_
        refine tv_top 1 (by rw [w2]; rfl) ?_
        refine lv_if_eq (tgt := 26) hx hb dX1_between_12 (by decide) (fun c_16 => ?_) (fun c_16 => ?_)
        · exact absurd c_16 (by decide)
        · skip
          refine lv_iload_n hx hb dX1_between_15 rfl (lv_at hl 3 rfl) ?_
          cases w3 : (tv_in 4 x3) with
          | false =>
            refine tv_callR (W.runS (As := [.int x3]) (rest := [.ref h]) ⟨hx, hb, hml, hown, hts⟩ (c_X1_isGate l x3) (va_cwS 1 hts gX1_between_X1_isGate rfl rfl rfl (by decide +kernel) ⟨Nat.le_of_ble_eq_true rfl, Nat.le_of_ble_eq_true rfl⟩) preEq rfl rfl hl.1 rfl (lv_room (Nat.le_of_ble_eq_true rfl)) dX1_between_16 ⟨Nat.le_of_ble_eq_true rfl, Nat.le_of_ble_eq_true rfl⟩) ?_
            refine tv_top 0 (by rw [w3]; rfl) ?_
            refine lv_if_eq (tgt := 26) hx hb dX1_between_19 (by decide) (fun c_17 => ?_) (fun c_17 => ?_)
            · skip
              refine lv_iconst (v := 0) hx hb dX1_between_26 (by decide) ?_
              refine tv_top (tv_b false) rfl ?_
              exact j1 false (by simp only [w1, w2, w3, Bool.true_and, Bool.false_and, Bool.and_false, Bool.and_true, Bool.and_self])
            · exact absurd rfl c_17
          | true =>
            refine tv_callR (W.runS (As := [.int x3]) (rest := [.ref h]) ⟨hx, hb, hml, hown, hts⟩ (c_X1_isGate l x3) (va_cwS 1 hts gX1_between_X1_isGate rfl rfl rfl (by decide +kernel) ⟨Nat.le_of_ble_eq_true rfl, Nat.le_of_ble_eq_true rfl⟩) preEq rfl rfl hl.1 rfl (lv_room (Nat.le_of_ble_eq_true rfl)) dX1_between_16 ⟨Nat.le_of_ble_eq_true rfl, Nat.le_of_ble_eq_true rfl⟩) ?_
            refine tv_top 1 (by rw [w3]; rfl) ?_
            refine lv_if_eq (tgt := 26) hx hb dX1_between_19 (by decide) (fun c_18 => ?_) (fun c_18 => ?_)
            · exact absurd c_18 (by decide)
            · skip
              refine lv_iconst (v := 1) hx hb dX1_between_22 (by decide) ?_
              refine lv_goto (tgt := 27) hx hb dX1_between_23 (by decide) ?_
              refine tv_top (tv_b true) rfl ?_
              exact j1 true (by simp only [w1, w2, w3, Bool.true_and, Bool.false_and, Bool.and_false, Bool.and_true, Bool.and_self])
theorem iX1_watch : ∀ w ∈ wsX10, w ∈ wsX1_watch := by decide +kernel
set_option maxHeartbeats 4000000 in
set_option maxRecDepth 100000 in
theorem c_X1_watch (l : Launch) (D : va_G) (cI cZ cL : ClassId) (h a1 a2 a3 a4 : Nat) (rd lv op nt : Nat → Int32) (th : Int32) (sz : Nat) (x1 x2 x3 : Int32) (V : TV) (hV : V = sp_watch x1 x2 x3 (rd, lv, op, nt)) : Met l yX1_watch wsX1_watch tv_rmM (tv_Pd D cI cZ cL (tv_mw cI cZ h a1 a2 a3 a4 th (rd, lv, op, nt)) sz [.ref h, .int x1, .int x2, .int x3]) (tv_QM D cI cZ cL (tv_mw cI cZ h a1 a2 a3 a4) (tv_mw cI cZ h a1 a2 a3 a4 th (rd, lv, op, nt)) sz V) 0 0 (va_A (tv_mw cI cZ h a1 a2 a3 a4 th (rd, lv, op, nt)) sz) := by
  refine Met.ofW (cc := cX1_watch) (maxL := 9) (ret := (some .int)) (by decide) rfl ?_
  intro p e s m args below meth c s₁ B hml hv
  obtain ⟨rfl, hsz, hP, hK, hD0⟩ := hv
  subst hsz
  have hx := B.exec
  have hb := B.bytes
  have hr := B.returns
  have hts := atoms_spec (ws := wsX1_watch) B.pre
  have hown : s.vm.findClass RX1 = some m.cls := findClass_of_methodNamed B.named
  have hlocks := B.notSynchronized
  have hD := hD0.self (sz := s.heap.size)
  obtain ⟨A, hAe⟩ : ∃ A, A = va_A (tv_mw cI cZ h a1 a2 a3 a4 th (rd, lv, op, nt)) s.heap.size := ⟨_, rfl⟩
  rw [← hAe] at hD
  have hA : ∀ q : Nat, s.heap.size ≤ q → A q := fun q h => by rw [hAe]; exact Or.inr h
  have hS : va_S A s.heap s.heap [] := va_S.rf
  clear hD0
  have hl := lv_entry ([.ref h, .int x1, .int x2, .int x3]) (n := 9) (Nat.le_of_ble_eq_true rfl)
  rw [lg_entry_eq]
  generalize (lg_sl ([.ref h, .int x1, .int x2, .int x3]) ++ List.replicate (9 - (lg_sl ([.ref h, .int x1, .int x2, .int x3])).length) Slot.unset).toArray = ls at hl ⊢
  have hl : lv_has ls 9 [(0, .ref h), (1, .int x1), (2, .int x2), (3, .int x3)] := hl
  refine lv_aload_n hx hb dX1_watch_0 rfl (lv_at hl 0 rfl) ?_
  have j1 : ∀ X : Bool, X = (tv_in 4 x1 && tv_in 8 x2) → W p l e (headSpec wsX1_watch tv_rmM).room s m ([.ref h, .int x1, .int x2, .int x3] : List Value).toArray below meth c s.heap [] 0 0 (MQ below (tv_QM D cI cZ cL (tv_mw cI cZ h a1 a2 a3 a4) (tv_mw cI cZ h a1 a2 a3 a4 th (rd, lv, op, nt)) s.heap.size V) ([.ref h, .int x1, .int x2, .int x3] : List Value).toArray s 0 0 (va_A (tv_mw cI cZ h a1 a2 a3 a4 th (rd, lv, op, nt)) s.heap.size)) (F0 m 20 ls [.int (tv_b X), .ref h]) := by
    intro X hX
    refine lv_iconst (v := 1) hx hb dX1_watch_20 (by decide) ?_
    refine tv_top (tv_b true) rfl ?_
    refine tv_callW (D := D) (ws := tv_mw cI cZ h a1 a2 a3 a4 th (rd, lv, op, nt)) (wc := [(h, .inr (1, [.ref a1, .ref a2, .ref a3, .ref a4, .int th]))]) (wr := [(a1, .inl (cI, 96, .inl (rd))), (a2, .inl (cI, 8, .inl (lv))), (a3, .inl (cZ, 4, .inl (op))), (a4, .inl (cI, 8, .inl (nt)))]) (wc' := [(h, .inr (1, [.ref a1, .ref a2, .ref a3, .ref a4, .int (tv_cd X true)]))]) (wsN := tv_mw cI cZ h a1 a2 a3 a4 (tv_cd X true) (rd, lv, op, nt)) (r := tv_b (X && true)) (va_runV (As := [.int (tv_b X), .int (tv_b true)]) (rest := []) ⟨hx, hb, hml, hown, hts⟩ (c_X1_may l D cI cZ cL h a1 a2 a3 a4 th s.heap.size X true) (cwV 2 hts gX1_watch_X1_may rfl rfl rfl (by decide +kernel) ⟨Nat.le_of_ble_eq_true rfl, Nat.le_of_ble_eq_true rfl⟩) (tv_preDV hP hK hD [0] rfl rfl rfl rfl 0 rfl) rfl rfl hl.1 rfl (lv_room (Nat.le_of_ble_eq_true rfl)) dX1_watch_21 ⟨Nat.le_of_ble_eq_true rfl, Nat.le_of_ble_eq_true rfl⟩) hP hD hS hA [0] [1, 2, 3, 4] rfl rfl rfl (by decide) [4, 0, 1, 2, 3] rfl rfl rfl (fun H locs hP hD hS => ?_)
    cases hab : (X && true) with
    | false =>
      have hV1 : V = (tv_cd X true, 0, (rd, lv, op, nt)) := by
        rw [hV]; unfold sp_watch; rw [← hX]; exact sp_cd hab
      refine lv_if_ne (tgt := 29) hx hb dX1_watch_24 (by decide) (fun c_1 => ?_) (fun c_1 => ?_)
      · exact absurd rfl c_1
      · skip
        refine lv_iconst (v := 0) hx hb dX1_watch_27 (by decide) ?_
        exact tv_iretM (wf := (tv_mw cI cZ h a1 a2 a3 a4)) (th := tv_cd X true) (z := 0) (σ := (rd, lv, op, nt)) (r := 0) hAe hV1 (fun _ => rfl) hx hb hr hP hK hD hS dX1_watch_28 hlocks
    | true =>
      obtain ⟨hX1, hY1⟩ := Bool.and_eq_true_iff.mp hab
      subst hX1
      refine lv_if_ne (tgt := 29) hx hb dX1_watch_24 (by decide) (fun c_2 => ?_) (fun c_2 => ?_)
      · skip
        have hP : va_P D vwCl (tv_mw cI cZ h a1 a2 a3 a4 0 (rd, lv, op, nt)) H := hP
        have hD : va_D A (tv_mw cI cZ h a1 a2 a3 a4 0 (rd, lv, op, nt)) := hD
        have hX := hX.symm
        simp only [Bool.and_eq_true] at hX
        obtain ⟨g1, g2⟩ := hX
        obtain ⟨g, hg8, rfl⟩ := tv_in_of (by omega) g1
        obtain ⟨r, hr8, rfl⟩ := tv_in_of (by omega) g2
        refine lv_iconst (v := 0) hx hb dX1_watch_29 (by decide) ?_
        refine lv_istore (lv' := [(4, .int 0), (0, .ref h), (1, .int (nI g)), (2, .int (nI r)), (3, .int x3)]) hx hb dX1_watch_30 hl (by decide) rfl (fun ls hl => ?_)
        refine lv_iconst (v := 0) hx hb dX1_watch_32 (by decide) ?_
        refine lv_istore (lv' := [(5, .int 0), (4, .int 0), (0, .ref h), (1, .int (nI g)), (2, .int (nI r)), (3, .int x3)]) hx hb dX1_watch_33 hl (by decide) rfl (fun ls hl => ?_)
        have hV0 : V = (0, (wa g (fun k => opn (rw12 rd r k) (lvl lv g r) x3) op 12).2, (rd, lv, (wa g (fun k => opn (rw12 rd r k) (lvl lv g r) x3) op 12).1, nt)) := by
          rw [hV]; simp only [sp_watch, tN, nI_clamp (show g < 2 ^ 31 by omega), nI_clamp (show r < 2 ^ 31 by omega), g1, g2, Bool.and_false, Bool.false_and, Bool.and_true, Bool.true_and, Bool.and_self, sp_f, sp_tf, sp_tt]
        have loop : ∀ (n k : Nat), k + n = 12 → ∀ (H : Heap) (locs : List Loc), va_P D vwCl (tv_mw cI cZ h a1 a2 a3 a4 0 (rd, lv, (wa g (fun k => opn (rw12 rd r k) (lvl lv g r) x3) op k).1, nt)) H → va_D A (tv_mw cI cZ h a1 a2 a3 a4 0 (rd, lv, (wa g (fun k => opn (rw12 rd r k) (lvl lv g r) x3) op k).1, nt)) → va_S A s.heap H locs → ∀ ls : Array Slot, lv_has ls 9 [(0, .ref h), (1, .int (nI g)), (2, .int (nI r)), (3, .int x3), (4, .int ((wa g (fun k => opn (rw12 rd r k) (lvl lv g r) x3) op k).2)), (5, .int (nI k))] → W p l e (headSpec wsX1_watch tv_rmM).room s m ([.ref h, .int (nI g), .int (nI r), .int x3] : List Value).toArray below meth c H locs 0 0 (MQ below (tv_QM D cI cZ cL (tv_mw cI cZ h a1 a2 a3 a4) (tv_mw cI cZ h a1 a2 a3 a4 th (rd, lv, op, nt)) s.heap.size V) ([.ref h, .int (nI g), .int (nI r), .int x3] : List Value).toArray s 0 0 (va_A (tv_mw cI cZ h a1 a2 a3 a4 th (rd, lv, op, nt)) s.heap.size)) (F0 m 35 ls []) := by
          intro n
          induction n with
          | zero =>
            intro k hk H locs hP hD hS ls hl
            have hk2 : k = 12 := by omega
            subst hk2
            refine lv_iload hx hb dX1_watch_35 (lv_at hl 5 rfl) ?_
            refine lv_bipush (v := 12) hx hb dX1_watch_37 (by decide) ?_
            refine lv_icmp_ge (tgt := 127) hx hb dX1_watch_39 (by decide) (fun c_3 => ?_) (fun c_3 => ?_)
            · skip
              refine lv_iload hx hb dX1_watch_127 (lv_at hl 4 rfl) ?_
              exact tv_iretM (wf := (tv_mw cI cZ h a1 a2 a3 a4)) (th := 0) (z := (wa g (fun k => opn (rw12 rd r k) (lvl lv g r) x3) op 12).2) (σ := (rd, lv, (wa g (fun k => opn (rw12 rd r k) (lvl lv g r) x3) op 12).1, nt)) (r := (wa g (fun k => opn (rw12 rd r k) (lvl lv g r) x3) op 12).2) hAe hV0 (fun _ => rfl) hx hb hr hP hK hD hS dX1_watch_129 hlocks
            · exact absurd (show nI 12 ≤ nI 12 from nI_le (Nat.le_refl _) (by omega)) c_3
          | succ n ih =>
            intro k hk H locs hP hD hS ls hl
            refine lv_iload hx hb dX1_watch_35 (lv_at hl 5 rfl) ?_
            refine lv_bipush (v := 12) hx hb dX1_watch_37 (by decide) ?_
            refine lv_icmp_ge (tgt := 127) hx hb dX1_watch_39 (by decide) (fun c_4 => ?_) (fun c_4 => ?_)
            · exact absurd (show nI 12 ≤ nI k from c_4) (nI_ge (by omega) (by omega))
            · skip
              refine lv_aload_n hx hb dX1_watch_42 rfl (lv_at hl 0 rfl) ?_
              refine lv_iload_n hx hb dX1_watch_43 rfl (lv_at hl 2 rfl) ?_
              refine lv_iload hx hb dX1_watch_44 (lv_at hl 5 rfl) ?_
              refine tv_callR (W.runV (As := [.int (nI r), .int (nI k)]) (rest := []) ⟨hx, hb, hml, hown, hts⟩ (c_X1_at l D cI cZ cL h a1 a2 a3 a4 rd lv ((wa g (fun k => opn (rw12 rd r k) (lvl lv g r) x3) op k).1) nt 0 r k hr8 (by omega)) (cwV 2 hts gX1_watch_X1_at rfl rfl rfl (by decide +kernel) ⟨Nat.le_of_ble_eq_true rfl, Nat.le_of_ble_eq_true rfl⟩) (tv_preV hP hK rfl 0 rfl) rfl rfl hl.1 rfl (lv_room (Nat.le_of_ble_eq_true rfl)) dX1_watch_46 ⟨Nat.le_of_ble_eq_true rfl, Nat.le_of_ble_eq_true rfl⟩) ?_
              refine lv_istore (lv' := [(6, .int (rd (12 * r + k))), (0, .ref h), (1, .int (nI g)), (2, .int (nI r)), (3, .int x3), (4, .int ((wa g (fun k => opn (rw12 rd r k) (lvl lv g r) x3) op k).2)), (5, .int (nI k))]) hx hb dX1_watch_49 hl (by decide) rfl (fun ls hl => ?_)
              refine lv_aload_n hx hb dX1_watch_51 rfl (lv_at hl 1 rfl) ?_
              refine lv_iload_n hx hb dX1_watch_52 rfl (lv_at hl 2 rfl) ?_
              refine lv_iload_n hx hb dX1_watch_53 rfl (lv_at hl 3 rfl) ?_
              refine tv_callR (W.runV (As := [.int (nI g), .int (nI r)]) (rest := []) ⟨hx, hb, hml, hown, hts⟩ (c_X1_levelFor l D cI cZ cL h a1 a2 a3 a4 rd lv ((wa g (fun k => opn (rw12 rd r k) (lvl lv g r) x3) op k).1) nt 0 g r hg8 hr8) (cwV 2 hts gX1_watch_X1_levelFor rfl rfl rfl (by decide +kernel) ⟨Nat.le_of_ble_eq_true rfl, Nat.le_of_ble_eq_true rfl⟩) (tv_preV hP hK rfl 0 rfl) rfl rfl hl.1 rfl (lv_room (Nat.le_of_ble_eq_true rfl)) dX1_watch_54 ⟨Nat.le_of_ble_eq_true rfl, Nat.le_of_ble_eq_true rfl⟩) ?_
              refine lv_istore (lv' := [(7, .int (lvl lv g r)), (6, .int (rd (12 * r + k))), (0, .ref h), (1, .int (nI g)), (2, .int (nI r)), (3, .int x3), (4, .int ((wa g (fun k => opn (rw12 rd r k) (lvl lv g r) x3) op k).2)), (5, .int (nI k))]) hx hb dX1_watch_57 hl (by decide) rfl (fun ls hl => ?_)
              refine lv_iload_n hx hb dX1_watch_59 rfl (lv_at hl 5 rfl) ?_
              refine lv_if_eq (tgt := 82) hx hb dX1_watch_60 (by decide) (fun c_5 => ?_) (fun c_5 => ?_)
              · skip
                refine lv_iconst (v := 3) hx hb dX1_watch_82 (by decide) ?_
                refine lv_iload hx hb dX1_watch_83 (lv_at hl 1 rfl) ?_
                refine lv_iload hx hb dX1_watch_85 (lv_at hl 0 rfl) ?_
                refine tv_callR (W.runS (As := [.int 3, .int (rd (12 * r + k)), .int (lvl lv g r)]) (rest := []) ⟨hx, hb, hml, hown, hts⟩ (c_X1_isTrue l 3 (rd (12 * r + k)) (lvl lv g r)) (va_cwS 3 hts gX1_watch_X1_isTrue rfl rfl rfl (by decide +kernel) ⟨Nat.le_of_ble_eq_true rfl, Nat.le_of_ble_eq_true rfl⟩) preEq rfl rfl hl.1 rfl (lv_room (Nat.le_of_ble_eq_true rfl)) dX1_watch_87 ⟨Nat.le_of_ble_eq_true rfl, Nat.le_of_ble_eq_true rfl⟩) ?_
                refine tv_top (opn (rd (12 * r + k)) (lvl lv g r) x3) (by rw [opn, if_pos c_5]) ?_
                refine lv_istore (lv' := [(8, .int (opn (rd (12 * r + k)) (lvl lv g r) x3)), (7, .int (lvl lv g r)), (6, .int (rd (12 * r + k))), (0, .ref h), (1, .int (nI g)), (2, .int (nI r)), (3, .int x3), (4, .int ((wa g (fun k => opn (rw12 rd r k) (lvl lv g r) x3) op k).2)), (5, .int (nI k))]) hx hb dX1_watch_90 hl (by decide) rfl (fun ls hl => ?_)
                refine lv_iload hx hb dX1_watch_92 (lv_at hl 7 rfl) ?_
                refine lv_iload hx hb dX1_watch_94 (lv_at hl 0 rfl) ?_
                refine lv_aload_n hx hb dX1_watch_96 rfl (lv_at hl 3 rfl) ?_
                refine va_get (D := D) (ci := 1) (v := .ref a3) (C := RX1) (T := TX1) (N := 5) hx hb hts iX1_watch hown hK hP 0 rfl rfl 2 (by decide) (hts (.fieldLink RX1 16 "TideHouseModel" "open" "[Z") (by decide +kernel)) (fun _ h9 => h9) rfl dX1_watch_97 ?_
                refine lv_iload_n hx hb dX1_watch_100 rfl (lv_at hl 4 rfl) ?_
                refine tv_zald (D := D) (cA := cZ) (n := 4) (f := (wa g (fun k => opn (rw12 rd r k) (lvl lv g r) x3) op k).1) (k := g) hx hb hK hP 3 1 rfl rfl (by omega) (by omega) dX1_watch_101 ?_
                refine lv_icmp_eq (tgt := 109) hx hb dX1_watch_102 (by decide) (fun c_6 => ?_) (fun c_6 => ?_)
                · skip
                  refine lv_iconst (v := 0) hx hb dX1_watch_109 (by decide) ?_
                  refine lv_iadd hx hb dX1_watch_110 ?_
                  refine lv_istore (lv' := [(4, .int (((wa g (fun k => opn (rw12 rd r k) (lvl lv g r) x3) op k).2) + 0)), (8, .int (opn (rd (12 * r + k)) (lvl lv g r) x3)), (7, .int (lvl lv g r)), (6, .int (rd (12 * r + k))), (0, .ref h), (1, .int (nI g)), (2, .int (nI r)), (3, .int x3), (5, .int (nI k))]) hx hb dX1_watch_111 hl (by decide) rfl (fun ls hl => ?_)
                  refine lv_aload_n hx hb dX1_watch_113 rfl (lv_at hl 4 rfl) ?_
                  refine va_get (D := D) (ci := 1) (v := .ref a3) (C := RX1) (T := TX1) (N := 5) hx hb hts iX1_watch hown hK hP 0 rfl rfl 2 (by decide) (hts (.fieldLink RX1 16 "TideHouseModel" "open" "[Z") (by decide +kernel)) (fun _ h9 => h9) rfl dX1_watch_114 ?_
                  refine lv_iload_n hx hb dX1_watch_117 rfl (lv_at hl 5 rfl) ?_
                  refine lv_iload hx hb dX1_watch_118 (lv_at hl 1 rfl) ?_
                  refine tv_zast (D := D) (cA := cZ) (n := 4) (f := (wa g (fun k => opn (rw12 rd r k) (lvl lv g r) x3) op k).1) (k := g) (x := opn (rd (12 * r + k)) (lvl lv g r) x3) (ws1 := tv_mw cI cZ h a1 a2 a3 a4 0 (rd, lv, upd ((wa g (fun k => opn (rw12 rd r k) (lvl lv g r) x3) op k).1) g (opn (rd (12 * r + k)) (lvl lv g r) x3), nt)) hx hb hK hP hD hS 3 1 rfl rfl (opn01 _ _ _) (by omega) (by omega) rfl dX1_watch_120 (fun H locs hP hD hS => ?_)
                  refine lv_iinc (v := nI (k + 1)) (lv' := [(5, .int (nI (k + 1))), (4, .int (((wa g (fun k => opn (rw12 rd r k) (lvl lv g r) x3) op k).2) + 0)), (8, .int (opn (rd (12 * r + k)) (lvl lv g r) x3)), (7, .int (lvl lv g r)), (6, .int (rd (12 * r + k))), (0, .ref h), (1, .int (nI g)), (2, .int (nI r)), (3, .int x3)]) hx hb dX1_watch_121 hl (k := 8) rfl (nI_1 k) (by decide) rfl (fun ls hl => ?_)
                  refine lv_goto (tgt := 35) hx hb dX1_watch_124 (by decide) ?_
                  have hP : va_P D vwCl (tv_mw cI cZ h a1 a2 a3 a4 0 (rd, lv, (wa g (fun k => opn (rw12 rd r k) (lvl lv g r) x3) op (k + 1)).1, nt)) H := by exact hP
                  have hD : va_D A (tv_mw cI cZ h a1 a2 a3 a4 0 (rd, lv, (wa g (fun k => opn (rw12 rd r k) (lvl lv g r) x3) op (k + 1)).1, nt)) := by exact hD
                  exact ih (k + 1) (by omega) H locs hP hD hS ls (by rw [show (wa g (fun k => opn (rw12 rd r k) (lvl lv g r) x3) op (k + 1)).2 = ((wa g (fun k => opn (rw12 rd r k) (lvl lv g r) x3) op k).2) + 0 from by show (wa g (fun k => opn (rw12 rd r k) (lvl lv g r) x3) op k).2 + (if _ then 0 else 1) = _; rw [if_pos c_6]]; exact lv_sub hl [5, 6, 7, 8, 1, 0] rfl)
                · skip
                  refine lv_iconst (v := 1) hx hb dX1_watch_105 (by decide) ?_
                  refine lv_goto (tgt := 110) hx hb dX1_watch_106 (by decide) ?_
                  refine lv_iadd hx hb dX1_watch_110 ?_
                  refine lv_istore (lv' := [(4, .int (((wa g (fun k => opn (rw12 rd r k) (lvl lv g r) x3) op k).2) + 1)), (8, .int (opn (rd (12 * r + k)) (lvl lv g r) x3)), (7, .int (lvl lv g r)), (6, .int (rd (12 * r + k))), (0, .ref h), (1, .int (nI g)), (2, .int (nI r)), (3, .int x3), (5, .int (nI k))]) hx hb dX1_watch_111 hl (by decide) rfl (fun ls hl => ?_)
                  refine lv_aload_n hx hb dX1_watch_113 rfl (lv_at hl 4 rfl) ?_
                  refine va_get (D := D) (ci := 1) (v := .ref a3) (C := RX1) (T := TX1) (N := 5) hx hb hts iX1_watch hown hK hP 0 rfl rfl 2 (by decide) (hts (.fieldLink RX1 16 "TideHouseModel" "open" "[Z") (by decide +kernel)) (fun _ h9 => h9) rfl dX1_watch_114 ?_
                  refine lv_iload_n hx hb dX1_watch_117 rfl (lv_at hl 5 rfl) ?_
                  refine lv_iload hx hb dX1_watch_118 (lv_at hl 1 rfl) ?_
                  refine tv_zast (D := D) (cA := cZ) (n := 4) (f := (wa g (fun k => opn (rw12 rd r k) (lvl lv g r) x3) op k).1) (k := g) (x := opn (rd (12 * r + k)) (lvl lv g r) x3) (ws1 := tv_mw cI cZ h a1 a2 a3 a4 0 (rd, lv, upd ((wa g (fun k => opn (rw12 rd r k) (lvl lv g r) x3) op k).1) g (opn (rd (12 * r + k)) (lvl lv g r) x3), nt)) hx hb hK hP hD hS 3 1 rfl rfl (opn01 _ _ _) (by omega) (by omega) rfl dX1_watch_120 (fun H locs hP hD hS => ?_)
                  refine lv_iinc (v := nI (k + 1)) (lv' := [(5, .int (nI (k + 1))), (4, .int (((wa g (fun k => opn (rw12 rd r k) (lvl lv g r) x3) op k).2) + 1)), (8, .int (opn (rd (12 * r + k)) (lvl lv g r) x3)), (7, .int (lvl lv g r)), (6, .int (rd (12 * r + k))), (0, .ref h), (1, .int (nI g)), (2, .int (nI r)), (3, .int x3)]) hx hb dX1_watch_121 hl (k := 8) rfl (nI_1 k) (by decide) rfl (fun ls hl => ?_)
                  refine lv_goto (tgt := 35) hx hb dX1_watch_124 (by decide) ?_
                  have hP : va_P D vwCl (tv_mw cI cZ h a1 a2 a3 a4 0 (rd, lv, (wa g (fun k => opn (rw12 rd r k) (lvl lv g r) x3) op (k + 1)).1, nt)) H := by exact hP
                  have hD : va_D A (tv_mw cI cZ h a1 a2 a3 a4 0 (rd, lv, (wa g (fun k => opn (rw12 rd r k) (lvl lv g r) x3) op (k + 1)).1, nt)) := by exact hD
                  exact ih (k + 1) (by omega) H locs hP hD hS ls (by rw [show (wa g (fun k => opn (rw12 rd r k) (lvl lv g r) x3) op (k + 1)).2 = ((wa g (fun k => opn (rw12 rd r k) (lvl lv g r) x3) op k).2) + 1 from by show (wa g (fun k => opn (rw12 rd r k) (lvl lv g r) x3) op k).2 + (if _ then 0 else 1) = _; rw [if_neg c_6]]; exact lv_sub hl [5, 6, 7, 8, 1, 0] rfl)
              · skip
                refine lv_iconst (v := 0) hx hb dX1_watch_63 (by decide) ?_
                refine lv_iload hx hb dX1_watch_64 (lv_at hl 1 rfl) ?_
                refine lv_iload hx hb dX1_watch_66 (lv_at hl 0 rfl) ?_
                refine tv_callR (W.runS (As := [.int 0, .int (rd (12 * r + k)), .int (lvl lv g r)]) (rest := []) ⟨hx, hb, hml, hown, hts⟩ (c_X1_isTrue l 0 (rd (12 * r + k)) (lvl lv g r)) (va_cwS 3 hts gX1_watch_X1_isTrue rfl rfl rfl (by decide +kernel) ⟨Nat.le_of_ble_eq_true rfl, Nat.le_of_ble_eq_true rfl⟩) preEq rfl rfl hl.1 rfl (lv_room (Nat.le_of_ble_eq_true rfl)) dX1_watch_68 ⟨Nat.le_of_ble_eq_true rfl, Nat.le_of_ble_eq_true rfl⟩) ?_
                refine lv_if_ne (tgt := 78) hx hb dX1_watch_71 (by decide) (fun c_7 => ?_) (fun c_7 => ?_)
                · skip
                  refine lv_iconst (v := 0) hx hb dX1_watch_78 (by decide) ?_
                  refine lv_goto (tgt := 90) hx hb dX1_watch_79 (by decide) ?_
                  refine tv_top (opn (rd (12 * r + k)) (lvl lv g r) x3) (by rw [opn, if_neg c_5, if_neg c_7]) ?_
                  refine lv_istore (lv' := [(8, .int (opn (rd (12 * r + k)) (lvl lv g r) x3)), (7, .int (lvl lv g r)), (6, .int (rd (12 * r + k))), (0, .ref h), (1, .int (nI g)), (2, .int (nI r)), (3, .int x3), (4, .int ((wa g (fun k => opn (rw12 rd r k) (lvl lv g r) x3) op k).2)), (5, .int (nI k))]) hx hb dX1_watch_90 hl (by decide) rfl (fun ls hl => ?_)
                  refine lv_iload hx hb dX1_watch_92 (lv_at hl 7 rfl) ?_
                  refine lv_iload hx hb dX1_watch_94 (lv_at hl 0 rfl) ?_
                  refine lv_aload_n hx hb dX1_watch_96 rfl (lv_at hl 3 rfl) ?_
                  refine va_get (D := D) (ci := 1) (v := .ref a3) (C := RX1) (T := TX1) (N := 5) hx hb hts iX1_watch hown hK hP 0 rfl rfl 2 (by decide) (hts (.fieldLink RX1 16 "TideHouseModel" "open" "[Z") (by decide +kernel)) (fun _ h9 => h9) rfl dX1_watch_97 ?_
                  refine lv_iload_n hx hb dX1_watch_100 rfl (lv_at hl 4 rfl) ?_
                  refine tv_zald (D := D) (cA := cZ) (n := 4) (f := (wa g (fun k => opn (rw12 rd r k) (lvl lv g r) x3) op k).1) (k := g) hx hb hK hP 3 1 rfl rfl (by omega) (by omega) dX1_watch_101 ?_
                  refine lv_icmp_eq (tgt := 109) hx hb dX1_watch_102 (by decide) (fun c_8 => ?_) (fun c_8 => ?_)
                  · skip
                    refine lv_iconst (v := 0) hx hb dX1_watch_109 (by decide) ?_
                    refine lv_iadd hx hb dX1_watch_110 ?_
                    refine lv_istore (lv' := [(4, .int (((wa g (fun k => opn (rw12 rd r k) (lvl lv g r) x3) op k).2) + 0)), (8, .int (opn (rd (12 * r + k)) (lvl lv g r) x3)), (7, .int (lvl lv g r)), (6, .int (rd (12 * r + k))), (0, .ref h), (1, .int (nI g)), (2, .int (nI r)), (3, .int x3), (5, .int (nI k))]) hx hb dX1_watch_111 hl (by decide) rfl (fun ls hl => ?_)
                    refine lv_aload_n hx hb dX1_watch_113 rfl (lv_at hl 4 rfl) ?_
                    refine va_get (D := D) (ci := 1) (v := .ref a3) (C := RX1) (T := TX1) (N := 5) hx hb hts iX1_watch hown hK hP 0 rfl rfl 2 (by decide) (hts (.fieldLink RX1 16 "TideHouseModel" "open" "[Z") (by decide +kernel)) (fun _ h9 => h9) rfl dX1_watch_114 ?_
                    refine lv_iload_n hx hb dX1_watch_117 rfl (lv_at hl 5 rfl) ?_
                    refine lv_iload hx hb dX1_watch_118 (lv_at hl 1 rfl) ?_
                    refine tv_zast (D := D) (cA := cZ) (n := 4) (f := (wa g (fun k => opn (rw12 rd r k) (lvl lv g r) x3) op k).1) (k := g) (x := opn (rd (12 * r + k)) (lvl lv g r) x3) (ws1 := tv_mw cI cZ h a1 a2 a3 a4 0 (rd, lv, upd ((wa g (fun k => opn (rw12 rd r k) (lvl lv g r) x3) op k).1) g (opn (rd (12 * r + k)) (lvl lv g r) x3), nt)) hx hb hK hP hD hS 3 1 rfl rfl (opn01 _ _ _) (by omega) (by omega) rfl dX1_watch_120 (fun H locs hP hD hS => ?_)
                    refine lv_iinc (v := nI (k + 1)) (lv' := [(5, .int (nI (k + 1))), (4, .int (((wa g (fun k => opn (rw12 rd r k) (lvl lv g r) x3) op k).2) + 0)), (8, .int (opn (rd (12 * r + k)) (lvl lv g r) x3)), (7, .int (lvl lv g r)), (6, .int (rd (12 * r + k))), (0, .ref h), (1, .int (nI g)), (2, .int (nI r)), (3, .int x3)]) hx hb dX1_watch_121 hl (k := 8) rfl (nI_1 k) (by decide) rfl (fun ls hl => ?_)
                    refine lv_goto (tgt := 35) hx hb dX1_watch_124 (by decide) ?_
                    have hP : va_P D vwCl (tv_mw cI cZ h a1 a2 a3 a4 0 (rd, lv, (wa g (fun k => opn (rw12 rd r k) (lvl lv g r) x3) op (k + 1)).1, nt)) H := by exact hP
                    have hD : va_D A (tv_mw cI cZ h a1 a2 a3 a4 0 (rd, lv, (wa g (fun k => opn (rw12 rd r k) (lvl lv g r) x3) op (k + 1)).1, nt)) := by exact hD
                    exact ih (k + 1) (by omega) H locs hP hD hS ls (by rw [show (wa g (fun k => opn (rw12 rd r k) (lvl lv g r) x3) op (k + 1)).2 = ((wa g (fun k => opn (rw12 rd r k) (lvl lv g r) x3) op k).2) + 0 from by show (wa g (fun k => opn (rw12 rd r k) (lvl lv g r) x3) op k).2 + (if _ then 0 else 1) = _; rw [if_pos c_8]]; exact lv_sub hl [5, 6, 7, 8, 1, 0] rfl)
                  · skip
                    refine lv_iconst (v := 1) hx hb dX1_watch_105 (by decide) ?_
                    refine lv_goto (tgt := 110) hx hb dX1_watch_106 (by decide) ?_
                    refine lv_iadd hx hb dX1_watch_110 ?_
                    refine lv_istore (lv' := [(4, .int (((wa g (fun k => opn (rw12 rd r k) (lvl lv g r) x3) op k).2) + 1)), (8, .int (opn (rd (12 * r + k)) (lvl lv g r) x3)), (7, .int (lvl lv g r)), (6, .int (rd (12 * r + k))), (0, .ref h), (1, .int (nI g)), (2, .int (nI r)), (3, .int x3), (5, .int (nI k))]) hx hb dX1_watch_111 hl (by decide) rfl (fun ls hl => ?_)
                    refine lv_aload_n hx hb dX1_watch_113 rfl (lv_at hl 4 rfl) ?_
                    refine va_get (D := D) (ci := 1) (v := .ref a3) (C := RX1) (T := TX1) (N := 5) hx hb hts iX1_watch hown hK hP 0 rfl rfl 2 (by decide) (hts (.fieldLink RX1 16 "TideHouseModel" "open" "[Z") (by decide +kernel)) (fun _ h9 => h9) rfl dX1_watch_114 ?_
                    refine lv_iload_n hx hb dX1_watch_117 rfl (lv_at hl 5 rfl) ?_
                    refine lv_iload hx hb dX1_watch_118 (lv_at hl 1 rfl) ?_
                    refine tv_zast (D := D) (cA := cZ) (n := 4) (f := (wa g (fun k => opn (rw12 rd r k) (lvl lv g r) x3) op k).1) (k := g) (x := opn (rd (12 * r + k)) (lvl lv g r) x3) (ws1 := tv_mw cI cZ h a1 a2 a3 a4 0 (rd, lv, upd ((wa g (fun k => opn (rw12 rd r k) (lvl lv g r) x3) op k).1) g (opn (rd (12 * r + k)) (lvl lv g r) x3), nt)) hx hb hK hP hD hS 3 1 rfl rfl (opn01 _ _ _) (by omega) (by omega) rfl dX1_watch_120 (fun H locs hP hD hS => ?_)
                    refine lv_iinc (v := nI (k + 1)) (lv' := [(5, .int (nI (k + 1))), (4, .int (((wa g (fun k => opn (rw12 rd r k) (lvl lv g r) x3) op k).2) + 1)), (8, .int (opn (rd (12 * r + k)) (lvl lv g r) x3)), (7, .int (lvl lv g r)), (6, .int (rd (12 * r + k))), (0, .ref h), (1, .int (nI g)), (2, .int (nI r)), (3, .int x3)]) hx hb dX1_watch_121 hl (k := 8) rfl (nI_1 k) (by decide) rfl (fun ls hl => ?_)
                    refine lv_goto (tgt := 35) hx hb dX1_watch_124 (by decide) ?_
                    have hP : va_P D vwCl (tv_mw cI cZ h a1 a2 a3 a4 0 (rd, lv, (wa g (fun k => opn (rw12 rd r k) (lvl lv g r) x3) op (k + 1)).1, nt)) H := by exact hP
                    have hD : va_D A (tv_mw cI cZ h a1 a2 a3 a4 0 (rd, lv, (wa g (fun k => opn (rw12 rd r k) (lvl lv g r) x3) op (k + 1)).1, nt)) := by exact hD
                    exact ih (k + 1) (by omega) H locs hP hD hS ls (by rw [show (wa g (fun k => opn (rw12 rd r k) (lvl lv g r) x3) op (k + 1)).2 = ((wa g (fun k => opn (rw12 rd r k) (lvl lv g r) x3) op k).2) + 1 from by show (wa g (fun k => opn (rw12 rd r k) (lvl lv g r) x3) op k).2 + (if _ then 0 else 1) = _; rw [if_neg c_8]]; exact lv_sub hl [5, 6, 7, 8, 1, 0] rfl)
                · skip
                  refine lv_iconst (v := 1) hx hb dX1_watch_74 (by decide) ?_
                  refine lv_goto (tgt := 90) hx hb dX1_watch_75 (by decide) ?_
                  refine tv_top (opn (rd (12 * r + k)) (lvl lv g r) x3) (by rw [opn, if_neg c_5, if_pos c_7]) ?_
                  refine lv_istore (lv' := [(8, .int (opn (rd (12 * r + k)) (lvl lv g r) x3)), (7, .int (lvl lv g r)), (6, .int (rd (12 * r + k))), (0, .ref h), (1, .int (nI g)), (2, .int (nI r)), (3, .int x3), (4, .int ((wa g (fun k => opn (rw12 rd r k) (lvl lv g r) x3) op k).2)), (5, .int (nI k))]) hx hb dX1_watch_90 hl (by decide) rfl (fun ls hl => ?_)
                  refine lv_iload hx hb dX1_watch_92 (lv_at hl 7 rfl) ?_
                  refine lv_iload hx hb dX1_watch_94 (lv_at hl 0 rfl) ?_
                  refine lv_aload_n hx hb dX1_watch_96 rfl (lv_at hl 3 rfl) ?_
                  refine va_get (D := D) (ci := 1) (v := .ref a3) (C := RX1) (T := TX1) (N := 5) hx hb hts iX1_watch hown hK hP 0 rfl rfl 2 (by decide) (hts (.fieldLink RX1 16 "TideHouseModel" "open" "[Z") (by decide +kernel)) (fun _ h9 => h9) rfl dX1_watch_97 ?_
                  refine lv_iload_n hx hb dX1_watch_100 rfl (lv_at hl 4 rfl) ?_
                  refine tv_zald (D := D) (cA := cZ) (n := 4) (f := (wa g (fun k => opn (rw12 rd r k) (lvl lv g r) x3) op k).1) (k := g) hx hb hK hP 3 1 rfl rfl (by omega) (by omega) dX1_watch_101 ?_
                  refine lv_icmp_eq (tgt := 109) hx hb dX1_watch_102 (by decide) (fun c_9 => ?_) (fun c_9 => ?_)
                  · skip
                    refine lv_iconst (v := 0) hx hb dX1_watch_109 (by decide) ?_
                    refine lv_iadd hx hb dX1_watch_110 ?_
                    refine lv_istore (lv' := [(4, .int (((wa g (fun k => opn (rw12 rd r k) (lvl lv g r) x3) op k).2) + 0)), (8, .int (opn (rd (12 * r + k)) (lvl lv g r) x3)), (7, .int (lvl lv g r)), (6, .int (rd (12 * r + k))), (0, .ref h), (1, .int (nI g)), (2, .int (nI r)), (3, .int x3), (5, .int (nI k))]) hx hb dX1_watch_111 hl (by decide) rfl (fun ls hl => ?_)
                    refine lv_aload_n hx hb dX1_watch_113 rfl (lv_at hl 4 rfl) ?_
                    refine va_get (D := D) (ci := 1) (v := .ref a3) (C := RX1) (T := TX1) (N := 5) hx hb hts iX1_watch hown hK hP 0 rfl rfl 2 (by decide) (hts (.fieldLink RX1 16 "TideHouseModel" "open" "[Z") (by decide +kernel)) (fun _ h9 => h9) rfl dX1_watch_114 ?_
                    refine lv_iload_n hx hb dX1_watch_117 rfl (lv_at hl 5 rfl) ?_
                    refine lv_iload hx hb dX1_watch_118 (lv_at hl 1 rfl) ?_
                    refine tv_zast (D := D) (cA := cZ) (n := 4) (f := (wa g (fun k => opn (rw12 rd r k) (lvl lv g r) x3) op k).1) (k := g) (x := opn (rd (12 * r + k)) (lvl lv g r) x3) (ws1 := tv_mw cI cZ h a1 a2 a3 a4 0 (rd, lv, upd ((wa g (fun k => opn (rw12 rd r k) (lvl lv g r) x3) op k).1) g (opn (rd (12 * r + k)) (lvl lv g r) x3), nt)) hx hb hK hP hD hS 3 1 rfl rfl (opn01 _ _ _) (by omega) (by omega) rfl dX1_watch_120 (fun H locs hP hD hS => ?_)
                    refine lv_iinc (v := nI (k + 1)) (lv' := [(5, .int (nI (k + 1))), (4, .int (((wa g (fun k => opn (rw12 rd r k) (lvl lv g r) x3) op k).2) + 0)), (8, .int (opn (rd (12 * r + k)) (lvl lv g r) x3)), (7, .int (lvl lv g r)), (6, .int (rd (12 * r + k))), (0, .ref h), (1, .int (nI g)), (2, .int (nI r)), (3, .int x3)]) hx hb dX1_watch_121 hl (k := 8) rfl (nI_1 k) (by decide) rfl (fun ls hl => ?_)
                    refine lv_goto (tgt := 35) hx hb dX1_watch_124 (by decide) ?_
                    have hP : va_P D vwCl (tv_mw cI cZ h a1 a2 a3 a4 0 (rd, lv, (wa g (fun k => opn (rw12 rd r k) (lvl lv g r) x3) op (k + 1)).1, nt)) H := by exact hP
                    have hD : va_D A (tv_mw cI cZ h a1 a2 a3 a4 0 (rd, lv, (wa g (fun k => opn (rw12 rd r k) (lvl lv g r) x3) op (k + 1)).1, nt)) := by exact hD
                    exact ih (k + 1) (by omega) H locs hP hD hS ls (by rw [show (wa g (fun k => opn (rw12 rd r k) (lvl lv g r) x3) op (k + 1)).2 = ((wa g (fun k => opn (rw12 rd r k) (lvl lv g r) x3) op k).2) + 0 from by show (wa g (fun k => opn (rw12 rd r k) (lvl lv g r) x3) op k).2 + (if _ then 0 else 1) = _; rw [if_pos c_9]]; exact lv_sub hl [5, 6, 7, 8, 1, 0] rfl)
                  · skip
                    refine lv_iconst (v := 1) hx hb dX1_watch_105 (by decide) ?_
                    refine lv_goto (tgt := 110) hx hb dX1_watch_106 (by decide) ?_
                    refine lv_iadd hx hb dX1_watch_110 ?_
                    refine lv_istore (lv' := [(4, .int (((wa g (fun k => opn (rw12 rd r k) (lvl lv g r) x3) op k).2) + 1)), (8, .int (opn (rd (12 * r + k)) (lvl lv g r) x3)), (7, .int (lvl lv g r)), (6, .int (rd (12 * r + k))), (0, .ref h), (1, .int (nI g)), (2, .int (nI r)), (3, .int x3), (5, .int (nI k))]) hx hb dX1_watch_111 hl (by decide) rfl (fun ls hl => ?_)
                    refine lv_aload_n hx hb dX1_watch_113 rfl (lv_at hl 4 rfl) ?_
                    refine va_get (D := D) (ci := 1) (v := .ref a3) (C := RX1) (T := TX1) (N := 5) hx hb hts iX1_watch hown hK hP 0 rfl rfl 2 (by decide) (hts (.fieldLink RX1 16 "TideHouseModel" "open" "[Z") (by decide +kernel)) (fun _ h9 => h9) rfl dX1_watch_114 ?_
                    refine lv_iload_n hx hb dX1_watch_117 rfl (lv_at hl 5 rfl) ?_
                    refine lv_iload hx hb dX1_watch_118 (lv_at hl 1 rfl) ?_
                    refine tv_zast (D := D) (cA := cZ) (n := 4) (f := (wa g (fun k => opn (rw12 rd r k) (lvl lv g r) x3) op k).1) (k := g) (x := opn (rd (12 * r + k)) (lvl lv g r) x3) (ws1 := tv_mw cI cZ h a1 a2 a3 a4 0 (rd, lv, upd ((wa g (fun k => opn (rw12 rd r k) (lvl lv g r) x3) op k).1) g (opn (rd (12 * r + k)) (lvl lv g r) x3), nt)) hx hb hK hP hD hS 3 1 rfl rfl (opn01 _ _ _) (by omega) (by omega) rfl dX1_watch_120 (fun H locs hP hD hS => ?_)
                    refine lv_iinc (v := nI (k + 1)) (lv' := [(5, .int (nI (k + 1))), (4, .int (((wa g (fun k => opn (rw12 rd r k) (lvl lv g r) x3) op k).2) + 1)), (8, .int (opn (rd (12 * r + k)) (lvl lv g r) x3)), (7, .int (lvl lv g r)), (6, .int (rd (12 * r + k))), (0, .ref h), (1, .int (nI g)), (2, .int (nI r)), (3, .int x3)]) hx hb dX1_watch_121 hl (k := 8) rfl (nI_1 k) (by decide) rfl (fun ls hl => ?_)
                    refine lv_goto (tgt := 35) hx hb dX1_watch_124 (by decide) ?_
                    have hP : va_P D vwCl (tv_mw cI cZ h a1 a2 a3 a4 0 (rd, lv, (wa g (fun k => opn (rw12 rd r k) (lvl lv g r) x3) op (k + 1)).1, nt)) H := by exact hP
                    have hD : va_D A (tv_mw cI cZ h a1 a2 a3 a4 0 (rd, lv, (wa g (fun k => opn (rw12 rd r k) (lvl lv g r) x3) op (k + 1)).1, nt)) := by exact hD
                    exact ih (k + 1) (by omega) H locs hP hD hS ls (by rw [show (wa g (fun k => opn (rw12 rd r k) (lvl lv g r) x3) op (k + 1)).2 = ((wa g (fun k => opn (rw12 rd r k) (lvl lv g r) x3) op k).2) + 1 from by show (wa g (fun k => opn (rw12 rd r k) (lvl lv g r) x3) op k).2 + (if _ then 0 else 1) = _; rw [if_neg c_9]]; exact lv_sub hl [5, 6, 7, 8, 1, 0] rfl)
        exact loop 12 0 (by omega) H locs hP hD hS ls (by rw [show (wa g (fun k => opn (rw12 rd r k) (lvl lv g r) x3) op 0).2 = 0 from rfl, show nI 0 = 0 from nI_0]; exact lv_sub hl [2, 3, 4, 5, 1, 0] rfl)
      · exact absurd c_2 (by decide)
  refine lv_iload_n hx hb dX1_watch_1 rfl (lv_at hl 1 rfl) ?_
  cases w1 : (tv_in 4 x1) with
  | false =>
    refine tv_callR (W.runS (As := [.int x1]) (rest := [.ref h]) ⟨hx, hb, hml, hown, hts⟩ (c_X1_isGate l x1) (va_cwS 1 hts gX1_watch_X1_isGate rfl rfl rfl (by decide +kernel) ⟨Nat.le_of_ble_eq_true rfl, Nat.le_of_ble_eq_true rfl⟩) preEq rfl rfl hl.1 rfl (lv_room (Nat.le_of_ble_eq_true rfl)) dX1_watch_2 ⟨Nat.le_of_ble_eq_true rfl, Nat.le_of_ble_eq_true rfl⟩) ?_
    refine tv_top 0 (by rw [w1]; rfl) ?_
    refine lv_if_eq (tgt := 19) hx hb dX1_watch_5 (by decide) (fun c_10 => ?_) (fun c_10 => ?_)
    · skip
      refine lv_iconst (v := 0) hx hb dX1_watch_19 (by decide) ?_
      refine tv_top (tv_b false) rfl ?_
      exact j1 false (by simp only [w1, Bool.true_and, Bool.false_and, Bool.and_false, Bool.and_true, Bool.and_self])
    · exact absurd rfl c_10
  | true =>
    refine tv_callR (W.runS (As := [.int x1]) (rest := [.ref h]) ⟨hx, hb, hml, hown, hts⟩ (c_X1_isGate l x1) (va_cwS 1 hts gX1_watch_X1_isGate rfl rfl rfl (by decide +kernel) ⟨Nat.le_of_ble_eq_true rfl, Nat.le_of_ble_eq_true rfl⟩) preEq rfl rfl hl.1 rfl (lv_room (Nat.le_of_ble_eq_true rfl)) dX1_watch_2 ⟨Nat.le_of_ble_eq_true rfl, Nat.le_of_ble_eq_true rfl⟩) ?_
    refine tv_top 1 (by rw [w1]; rfl) ?_
    refine lv_if_eq (tgt := 19) hx hb dX1_watch_5 (by decide) (fun c_11 => ?_) (fun c_11 => ?_)
    · exact absurd c_11 (by decide)
    · skip
      refine lv_iload_n hx hb dX1_watch_8 rfl (lv_at hl 2 rfl) ?_
      cases w2 : (tv_in 8 x2) with
      | false =>
        refine tv_callR (W.runS (As := [.int x2]) (rest := [.ref h]) ⟨hx, hb, hml, hown, hts⟩ (c_X1_isRow l x2) (va_cwS 1 hts gX1_watch_X1_isRow rfl rfl rfl (by decide +kernel) ⟨Nat.le_of_ble_eq_true rfl, Nat.le_of_ble_eq_true rfl⟩) preEq rfl rfl hl.1 rfl (lv_room (Nat.le_of_ble_eq_true rfl)) dX1_watch_9 ⟨Nat.le_of_ble_eq_true rfl, Nat.le_of_ble_eq_true rfl⟩) ?_
        refine tv_top 0 (by rw [w2]; rfl) ?_
        refine lv_if_eq (tgt := 19) hx hb dX1_watch_12 (by decide) (fun c_12 => ?_) (fun c_12 => ?_)
        · skip
          refine lv_iconst (v := 0) hx hb dX1_watch_19 (by decide) ?_
          refine tv_top (tv_b false) rfl ?_
          exact j1 false (by simp only [w1, w2, Bool.true_and, Bool.false_and, Bool.and_false, Bool.and_true, Bool.and_self])
        · exact absurd rfl c_12
      | true =>
        refine tv_callR (W.runS (As := [.int x2]) (rest := [.ref h]) ⟨hx, hb, hml, hown, hts⟩ (c_X1_isRow l x2) (va_cwS 1 hts gX1_watch_X1_isRow rfl rfl rfl (by decide +kernel) ⟨Nat.le_of_ble_eq_true rfl, Nat.le_of_ble_eq_true rfl⟩) preEq rfl rfl hl.1 rfl (lv_room (Nat.le_of_ble_eq_true rfl)) dX1_watch_9 ⟨Nat.le_of_ble_eq_true rfl, Nat.le_of_ble_eq_true rfl⟩) ?_
        refine tv_top 1 (by rw [w2]; rfl) ?_
        refine lv_if_eq (tgt := 19) hx hb dX1_watch_12 (by decide) (fun c_13 => ?_) (fun c_13 => ?_)
        · exact absurd c_13 (by decide)
        · skip
          refine lv_iconst (v := 1) hx hb dX1_watch_15 (by decide) ?_
          refine lv_goto (tgt := 20) hx hb dX1_watch_16 (by decide) ?_
          refine tv_top (tv_b true) rfl ?_
          exact j1 true (by simp only [w1, w2, Bool.true_and, Bool.false_and, Bool.and_false, Bool.and_true, Bool.and_self])
set_option maxHeartbeats 4000000 in
set_option maxRecDepth 100000 in
theorem c_X1_goOn (l : Launch) (D : va_G) (cI cZ cL : ClassId) (h a1 a2 a3 a4 : Nat) (rd lv op nt : Nat → Int32) (th : Int32) (sz : Nat) (x1 x2 x3 x4 : Int32) (V : TV) (hV : V = sp_goOn x1 x2 x3 x4 (rd, lv, op, nt)) : Met l yX1_goOn wsX1_goOn tv_rmG (tv_Pd D cI cZ cL (tv_mw cI cZ h a1 a2 a3 a4 th (rd, lv, op, nt)) sz [.ref h, .int x1, .int x2, .int x3, .int x4]) (tv_QM D cI cZ cL (tv_mw cI cZ h a1 a2 a3 a4) (tv_mw cI cZ h a1 a2 a3 a4 th (rd, lv, op, nt)) sz V) 0 0 (va_A (tv_mw cI cZ h a1 a2 a3 a4 th (rd, lv, op, nt)) sz) := by
  refine Met.ofW (cc := cX1_goOn) (maxL := 6) (ret := (some .int)) (by decide) rfl ?_
  intro p e s m args below meth c s₁ B hml hv
  obtain ⟨rfl, hsz, hP, hK, hD0⟩ := hv
  subst hsz
  have hx := B.exec
  have hb := B.bytes
  have hr := B.returns
  have hts := atoms_spec (ws := wsX1_goOn) B.pre
  have hown : s.vm.findClass RX1 = some m.cls := findClass_of_methodNamed B.named
  have hlocks := B.notSynchronized
  have hD := hD0.self (sz := s.heap.size)
  obtain ⟨A, hAe⟩ : ∃ A, A = va_A (tv_mw cI cZ h a1 a2 a3 a4 th (rd, lv, op, nt)) s.heap.size := ⟨_, rfl⟩
  rw [← hAe] at hD
  have hA : ∀ q : Nat, s.heap.size ≤ q → A q := fun q h => by rw [hAe]; exact Or.inr h
  have hS : va_S A s.heap s.heap [] := va_S.rf
  clear hD0
  have hl := lv_entry ([.ref h, .int x1, .int x2, .int x3, .int x4]) (n := 6) (Nat.le_of_ble_eq_true rfl)
  rw [lg_entry_eq]
  generalize (lg_sl ([.ref h, .int x1, .int x2, .int x3, .int x4]) ++ List.replicate (6 - (lg_sl ([.ref h, .int x1, .int x2, .int x3, .int x4])).length) Slot.unset).toArray = ls at hl ⊢
  have hl : lv_has ls 6 [(0, .ref h), (1, .int x1), (2, .int x2), (3, .int x3), (4, .int x4)] := hl
  refine lv_aload_n hx hb dX1_goOn_0 rfl (lv_at hl 0 rfl) ?_
  have j1 : ∀ X : Bool, X = (tv_in 8 x1 && tv_in 12 x2) → W p l e (headSpec wsX1_goOn tv_rmG).room s m ([.ref h, .int x1, .int x2, .int x3, .int x4] : List Value).toArray below meth c s.heap [] 0 0 (MQ below (tv_QM D cI cZ cL (tv_mw cI cZ h a1 a2 a3 a4) (tv_mw cI cZ h a1 a2 a3 a4 th (rd, lv, op, nt)) s.heap.size V) ([.ref h, .int x1, .int x2, .int x3, .int x4] : List Value).toArray s 0 0 (va_A (tv_mw cI cZ h a1 a2 a3 a4 th (rd, lv, op, nt)) s.heap.size)) (F0 m 20 ls [.int (tv_b X), .ref h]) := by
    intro X hX
    have j2 : ∀ Y : Bool, Y = (tv_sg x3) → W p l e (headSpec wsX1_goOn tv_rmG).room s m ([.ref h, .int x1, .int x2, .int x3, .int x4] : List Value).toArray below meth c s.heap [] 0 0 (MQ below (tv_QM D cI cZ cL (tv_mw cI cZ h a1 a2 a3 a4) (tv_mw cI cZ h a1 a2 a3 a4 th (rd, lv, op, nt)) s.heap.size V) ([.ref h, .int x1, .int x2, .int x3, .int x4] : List Value).toArray s 0 0 (va_A (tv_mw cI cZ h a1 a2 a3 a4 th (rd, lv, op, nt)) s.heap.size)) (F0 m 24 ls [.int (tv_b Y), .int (tv_b X), .ref h]) := by
      intro Y hY
      refine tv_callW (D := D) (ws := tv_mw cI cZ h a1 a2 a3 a4 th (rd, lv, op, nt)) (wc := [(h, .inr (1, [.ref a1, .ref a2, .ref a3, .ref a4, .int th]))]) (wr := [(a1, .inl (cI, 96, .inl (rd))), (a2, .inl (cI, 8, .inl (lv))), (a3, .inl (cZ, 4, .inl (op))), (a4, .inl (cI, 8, .inl (nt)))]) (wc' := [(h, .inr (1, [.ref a1, .ref a2, .ref a3, .ref a4, .int (tv_cd X Y)]))]) (wsN := tv_mw cI cZ h a1 a2 a3 a4 (tv_cd X Y) (rd, lv, op, nt)) (r := tv_b (X && Y)) (va_runV (As := [.int (tv_b X), .int (tv_b Y)]) (rest := []) ⟨hx, hb, hml, hown, hts⟩ (c_X1_may l D cI cZ cL h a1 a2 a3 a4 th s.heap.size X Y) (cwV 2 hts gX1_goOn_X1_may rfl rfl rfl (by decide +kernel) ⟨Nat.le_of_ble_eq_true rfl, Nat.le_of_ble_eq_true rfl⟩) (tv_preDV hP hK hD [0] rfl rfl rfl rfl 0 rfl) rfl rfl hl.1 rfl (lv_room (Nat.le_of_ble_eq_true rfl)) dX1_goOn_24 ⟨Nat.le_of_ble_eq_true rfl, Nat.le_of_ble_eq_true rfl⟩) hP hD hS hA [0] [1, 2, 3, 4] rfl rfl rfl (by decide) [4, 0, 1, 2, 3] rfl rfl rfl (fun H locs hP hD hS => ?_)
      cases hab : (X && Y) with
      | false =>
        have hV1 : V = (tv_cd X Y, 0, (rd, lv, op, nt)) := by
          rw [hV]; unfold sp_goOn; rw [← hX, ← hY]; exact sp_cd hab
        refine lv_if_ne (tgt := 32) hx hb dX1_goOn_27 (by decide) (fun c_1 => ?_) (fun c_1 => ?_)
        · exact absurd rfl c_1
        · skip
          refine lv_iconst (v := 0) hx hb dX1_goOn_30 (by decide) ?_
          exact tv_iretM (wf := (tv_mw cI cZ h a1 a2 a3 a4)) (th := tv_cd X Y) (z := 0) (σ := (rd, lv, op, nt)) (r := 0) hAe hV1 (fun _ => rfl) hx hb hr hP hK hD hS dX1_goOn_31 hlocks
      | true =>
        obtain ⟨hX1, hY1⟩ := Bool.and_eq_true_iff.mp hab
        subst hX1
        subst hY1
        refine lv_if_ne (tgt := 32) hx hb dX1_goOn_27 (by decide) (fun c_2 => ?_) (fun c_2 => ?_)
        · skip
          have hP : va_P D vwCl (tv_mw cI cZ h a1 a2 a3 a4 0 (rd, lv, op, nt)) H := hP
          have hD : va_D A (tv_mw cI cZ h a1 a2 a3 a4 0 (rd, lv, op, nt)) := hD
          have hX := hX.symm
          simp only [Bool.and_eq_true] at hX
          obtain ⟨g1, g2⟩ := hX
          have hY := hY.symm
          have g3 := hY
          obtain ⟨r, hr8, rfl⟩ := tv_in_of (by omega) g1
          obtain ⟨k, hk8, rfl⟩ := tv_in_of (by omega) g2
          refine lv_iload_n hx hb dX1_goOn_32 rfl (lv_at hl 2 rfl) ?_
          refine lv_istore (lv' := [(5, .int (nI k)), (0, .ref h), (1, .int (nI r)), (2, .int (nI k)), (3, .int x3), (4, .int x4)]) hx hb dX1_goOn_33 hl (by decide) rfl (fun ls hl => ?_)
          obtain ⟨z, hz⟩ : ∃ z, z = wk x3 x4 (rw12 rd r) 12 k := ⟨_, rfl⟩
          have hV0 : V = (0, nI z, (rd, lv, op, nt)) := by
            rw [hV]; simp only [sp_goOn, tN, nI_clamp (show r < 2 ^ 31 by omega), nI_clamp (show k < 2 ^ 31 by omega), g1, g2, g3, Bool.and_false, Bool.false_and, Bool.and_true, Bool.true_and, Bool.and_self, sp_f, sp_tf, sp_tt]; rw [hz]
          have loop : ∀ (n q : Nat), q < 12 → 12 ≤ q + n → wk x3 x4 (rw12 rd r) n q = z → ∀ ls : Array Slot, lv_has ls 6 [(0, .ref h), (1, .int (nI r)), (3, .int x3), (4, .int x4), (5, .int (nI q))] → W p l e (headSpec wsX1_goOn tv_rmG).room s m ([.ref h, .int (nI r), .int (nI k), .int x3, .int x4] : List Value).toArray below meth c H locs 0 0 (MQ below (tv_QM D cI cZ cL (tv_mw cI cZ h a1 a2 a3 a4) (tv_mw cI cZ h a1 a2 a3 a4 th (rd, lv, op, nt)) s.heap.size V) ([.ref h, .int (nI r), .int (nI k), .int x3, .int x4] : List Value).toArray s 0 0 (va_A (tv_mw cI cZ h a1 a2 a3 a4 th (rd, lv, op, nt)) s.heap.size)) (F0 m 35 ls []) := by
            intro n
            induction n with
            | zero =>
              intro q h1 h2 h3 ls hl
              exact absurd h2 (by omega)
            | succ n ih =>
              intro q h1 h2 h3 ls hl
              refine lv_iload hx hb dX1_goOn_35 (lv_at hl 4 rfl) ?_
              refine lv_iconst (v := 1) hx hb dX1_goOn_37 (by decide) ?_
              refine lv_iadd hx hb dX1_goOn_38 ?_
              refine tv_top (nI (q + 1)) (nI_1 q) ?_
              refine lv_bipush (v := 12) hx hb dX1_goOn_39 (by decide) ?_
              refine lv_icmp_ge (tgt := 75) hx hb dX1_goOn_41 (by decide) (fun c_3 => ?_) (fun c_3 => ?_)
              · have g9 : ¬ q < 11 := fun g => absurd (show nI 12 ≤ nI (q + 1) from c_3) (nI_ge (by omega) (by omega))
                refine lv_iload hx hb dX1_goOn_75 (lv_at hl 4 rfl) ?_
                refine tv_top (nI z) (by rw [← h3, wk, if_neg (fun g => g9 g.1)]) ?_
                exact tv_iretM (wf := (tv_mw cI cZ h a1 a2 a3 a4)) (th := 0) (z := nI z) (σ := (rd, lv, op, nt)) (r := nI z) hAe hV0 (fun _ => rfl) hx hb hr hP hK hD hS dX1_goOn_77 hlocks
              · have g9 : q < 11 := Nat.lt_of_not_le (fun g => c_3 (show nI 12 ≤ nI (q + 1) from nI_le (by omega) (by omega)))
                refine lv_iload_n hx hb dX1_goOn_44 rfl (lv_at hl 2 rfl) ?_
                refine lv_aload_n hx hb dX1_goOn_45 rfl (lv_at hl 0 rfl) ?_
                refine lv_iload_n hx hb dX1_goOn_46 rfl (lv_at hl 1 rfl) ?_
                refine lv_iload hx hb dX1_goOn_47 (lv_at hl 4 rfl) ?_
                refine tv_callR (W.runV (As := [.int (nI r), .int (nI q)]) (rest := [.int x3]) ⟨hx, hb, hml, hown, hts⟩ (c_X1_at l D cI cZ cL h a1 a2 a3 a4 rd lv op nt 0 r q hr8 (by omega)) (cwV 2 hts gX1_goOn_X1_at rfl rfl rfl (by decide +kernel) ⟨Nat.le_of_ble_eq_true rfl, Nat.le_of_ble_eq_true rfl⟩) (tv_preV hP hK rfl 0 rfl) rfl rfl hl.1 rfl (lv_room (Nat.le_of_ble_eq_true rfl)) dX1_goOn_49 ⟨Nat.le_of_ble_eq_true rfl, Nat.le_of_ble_eq_true rfl⟩) ?_
                refine lv_aload_n hx hb dX1_goOn_52 rfl (lv_at hl 0 rfl) ?_
                refine lv_iload_n hx hb dX1_goOn_53 rfl (lv_at hl 1 rfl) ?_
                refine lv_iload hx hb dX1_goOn_54 (lv_at hl 4 rfl) ?_
                refine lv_iconst (v := 1) hx hb dX1_goOn_56 (by decide) ?_
                refine lv_iadd hx hb dX1_goOn_57 ?_
                refine tv_top (nI (q + 1)) (nI_1 q) ?_
                refine tv_callR (W.runV (As := [.int (nI r), .int (nI (q + 1))]) (rest := [.int (rd (12 * r + q)), .int x3]) ⟨hx, hb, hml, hown, hts⟩ (c_X1_at l D cI cZ cL h a1 a2 a3 a4 rd lv op nt 0 r (q + 1) hr8 (by omega)) (cwV 2 hts gX1_goOn_X1_at rfl rfl rfl (by decide +kernel) ⟨Nat.le_of_ble_eq_true rfl, Nat.le_of_ble_eq_true rfl⟩) (tv_preV hP hK rfl 0 rfl) rfl rfl hl.1 rfl (lv_room (Nat.le_of_ble_eq_true rfl)) dX1_goOn_58 ⟨Nat.le_of_ble_eq_true rfl, Nat.le_of_ble_eq_true rfl⟩) ?_
                refine tv_callR (W.runS (As := [.int x3, .int (rd (12 * r + q)), .int (rd (12 * r + (q + 1)))]) (rest := []) ⟨hx, hb, hml, hown, hts⟩ (c_X1_isTrue l x3 (rd (12 * r + q)) (rd (12 * r + (q + 1)))) (va_cwS 3 hts gX1_goOn_X1_isTrue rfl rfl rfl (by decide +kernel) ⟨Nat.le_of_ble_eq_true rfl, Nat.le_of_ble_eq_true rfl⟩) preEq rfl rfl hl.1 rfl (lv_room (Nat.le_of_ble_eq_true rfl)) dX1_goOn_61 ⟨Nat.le_of_ble_eq_true rfl, Nat.le_of_ble_eq_true rfl⟩) ?_
                refine lv_iload hx hb dX1_goOn_64 (lv_at hl 3 rfl) ?_
                refine lv_icmp_ne (tgt := 75) hx hb dX1_goOn_66 (by decide) (fun c_4 => ?_) (fun c_4 => ?_)
                · skip
                  refine lv_iload hx hb dX1_goOn_75 (lv_at hl 4 rfl) ?_
                  refine tv_top (nI z) (by rw [← h3, wk, if_neg (fun g => c_4 g.2)]) ?_
                  exact tv_iretM (wf := (tv_mw cI cZ h a1 a2 a3 a4)) (th := 0) (z := nI z) (σ := (rd, lv, op, nt)) (r := nI z) hAe hV0 (fun _ => rfl) hx hb hr hP hK hD hS dX1_goOn_77 hlocks
                · skip
                  refine lv_iinc (v := nI (q + 1)) (lv' := [(5, .int (nI (q + 1))), (0, .ref h), (1, .int (nI r)), (3, .int x3), (4, .int x4)]) hx hb dX1_goOn_69 hl (k := 4) rfl (nI_1 q) (by decide) rfl (fun ls hl => ?_)
                  refine lv_goto (tgt := 35) hx hb dX1_goOn_72 (by decide) ?_
                  exact ih (q + 1) (by omega) (by omega) (by rw [← h3]; conv => rhs; rw [wk]; rw [if_pos ⟨g9, c_4⟩]) ls (lv_sub hl [1, 2, 3, 4, 0] rfl)
          exact loop 12 k hk8 (by omega) hz.symm ls (lv_sub hl [1, 2, 4, 5, 0] rfl)
        · exact absurd c_2 (by decide)
    refine lv_iload_n hx hb dX1_goOn_20 rfl (lv_at hl 3 rfl) ?_
    refine tv_callR (W.runS (As := [.int x3]) (rest := [.int (tv_b X), .ref h]) ⟨hx, hb, hml, hown, hts⟩ (c_X1_isSign l x3) (va_cwS 1 hts gX1_goOn_X1_isSign rfl rfl rfl (by decide +kernel) ⟨Nat.le_of_ble_eq_true rfl, Nat.le_of_ble_eq_true rfl⟩) preEq rfl rfl hl.1 rfl (lv_room (Nat.le_of_ble_eq_true rfl)) dX1_goOn_21 ⟨Nat.le_of_ble_eq_true rfl, Nat.le_of_ble_eq_true rfl⟩) ?_
    exact j2 _ rfl
  refine lv_iload_n hx hb dX1_goOn_1 rfl (lv_at hl 1 rfl) ?_
  cases w1 : (tv_in 8 x1) with
  | false =>
    refine tv_callR (W.runS (As := [.int x1]) (rest := [.ref h]) ⟨hx, hb, hml, hown, hts⟩ (c_X1_isRow l x1) (va_cwS 1 hts gX1_goOn_X1_isRow rfl rfl rfl (by decide +kernel) ⟨Nat.le_of_ble_eq_true rfl, Nat.le_of_ble_eq_true rfl⟩) preEq rfl rfl hl.1 rfl (lv_room (Nat.le_of_ble_eq_true rfl)) dX1_goOn_2 ⟨Nat.le_of_ble_eq_true rfl, Nat.le_of_ble_eq_true rfl⟩) ?_
    refine tv_top 0 (by rw [w1]; rfl) ?_
    refine lv_if_eq (tgt := 19) hx hb dX1_goOn_5 (by decide) (fun c_5 => ?_) (fun c_5 => ?_)
    · skip
      refine lv_iconst (v := 0) hx hb dX1_goOn_19 (by decide) ?_
      refine tv_top (tv_b false) rfl ?_
      exact j1 false (by simp only [w1, Bool.true_and, Bool.false_and, Bool.and_false, Bool.and_true, Bool.and_self])
    · exact absurd rfl c_5
  | true =>
    refine tv_callR (W.runS (As := [.int x1]) (rest := [.ref h]) ⟨hx, hb, hml, hown, hts⟩ (c_X1_isRow l x1) (va_cwS 1 hts gX1_goOn_X1_isRow rfl rfl rfl (by decide +kernel) ⟨Nat.le_of_ble_eq_true rfl, Nat.le_of_ble_eq_true rfl⟩) preEq rfl rfl hl.1 rfl (lv_room (Nat.le_of_ble_eq_true rfl)) dX1_goOn_2 ⟨Nat.le_of_ble_eq_true rfl, Nat.le_of_ble_eq_true rfl⟩) ?_
    refine tv_top 1 (by rw [w1]; rfl) ?_
    refine lv_if_eq (tgt := 19) hx hb dX1_goOn_5 (by decide) (fun c_6 => ?_) (fun c_6 => ?_)
    · exact absurd c_6 (by decide)
    · skip
      refine lv_iload_n hx hb dX1_goOn_8 rfl (lv_at hl 2 rfl) ?_
      cases w2 : (tv_in 12 x2) with
      | false =>
        refine tv_callR (W.runS (As := [.int x2]) (rest := [.ref h]) ⟨hx, hb, hml, hown, hts⟩ (c_X1_isPlace l x2) (va_cwS 1 hts gX1_goOn_X1_isPlace rfl rfl rfl (by decide +kernel) ⟨Nat.le_of_ble_eq_true rfl, Nat.le_of_ble_eq_true rfl⟩) preEq rfl rfl hl.1 rfl (lv_room (Nat.le_of_ble_eq_true rfl)) dX1_goOn_9 ⟨Nat.le_of_ble_eq_true rfl, Nat.le_of_ble_eq_true rfl⟩) ?_
        refine tv_top 0 (by rw [w2]; rfl) ?_
        refine lv_if_eq (tgt := 19) hx hb dX1_goOn_12 (by decide) (fun c_7 => ?_) (fun c_7 => ?_)
        · skip
          refine lv_iconst (v := 0) hx hb dX1_goOn_19 (by decide) ?_
          refine tv_top (tv_b false) rfl ?_
          exact j1 false (by simp only [w1, w2, Bool.true_and, Bool.false_and, Bool.and_false, Bool.and_true, Bool.and_self])
        · exact absurd rfl c_7
      | true =>
        refine tv_callR (W.runS (As := [.int x2]) (rest := [.ref h]) ⟨hx, hb, hml, hown, hts⟩ (c_X1_isPlace l x2) (va_cwS 1 hts gX1_goOn_X1_isPlace rfl rfl rfl (by decide +kernel) ⟨Nat.le_of_ble_eq_true rfl, Nat.le_of_ble_eq_true rfl⟩) preEq rfl rfl hl.1 rfl (lv_room (Nat.le_of_ble_eq_true rfl)) dX1_goOn_9 ⟨Nat.le_of_ble_eq_true rfl, Nat.le_of_ble_eq_true rfl⟩) ?_
        refine tv_top 1 (by rw [w2]; rfl) ?_
        refine lv_if_eq (tgt := 19) hx hb dX1_goOn_12 (by decide) (fun c_8 => ?_) (fun c_8 => ?_)
        · exact absurd c_8 (by decide)
        · skip
          refine lv_iconst (v := 1) hx hb dX1_goOn_15 (by decide) ?_
          refine lv_goto (tgt := 20) hx hb dX1_goOn_16 (by decide) ?_
          refine tv_top (tv_b true) rfl ?_
          exact j1 true (by simp only [w1, w2, Bool.true_and, Bool.false_and, Bool.and_false, Bool.and_true, Bool.and_self])
set_option maxHeartbeats 4000000 in
set_option maxRecDepth 100000 in
theorem c_X1_climb (l : Launch) (D : va_G) (cI cZ cL : ClassId) (h a1 a2 a3 a4 : Nat) (rd lv op nt : Nat → Int32) (th : Int32) (sz : Nat) (x1 x2 x3 : Int32) (V : TV) (hV : V = sp_climb x1 x2 x3 (rd, lv, op, nt)) : Met l yX1_climb wsX1_climb tv_rmM (tv_Pd D cI cZ cL (tv_mw cI cZ h a1 a2 a3 a4 th (rd, lv, op, nt)) sz [.ref h, .int x1, .int x2, .int x3]) (tv_QM D cI cZ cL (tv_mw cI cZ h a1 a2 a3 a4) (tv_mw cI cZ h a1 a2 a3 a4 th (rd, lv, op, nt)) sz V) 0 0 (va_A (tv_mw cI cZ h a1 a2 a3 a4 th (rd, lv, op, nt)) sz) := by
  refine Met.ofW (cc := cX1_climb) (maxL := 4) (ret := (some .int)) (by decide) rfl ?_
  intro p e s m args below meth c s₁ B hml hv
  obtain ⟨rfl, hsz, hP, hK, hD0⟩ := hv
  subst hsz
  have hx := B.exec
  have hb := B.bytes
  have hr := B.returns
  have hts := atoms_spec (ws := wsX1_climb) B.pre
  have hown : s.vm.findClass RX1 = some m.cls := findClass_of_methodNamed B.named
  have hlocks := B.notSynchronized
  have hD := hD0.self (sz := s.heap.size)
  obtain ⟨A, hAe⟩ : ∃ A, A = va_A (tv_mw cI cZ h a1 a2 a3 a4 th (rd, lv, op, nt)) s.heap.size := ⟨_, rfl⟩
  rw [← hAe] at hD
  have hA : ∀ q : Nat, s.heap.size ≤ q → A q := fun q h => by rw [hAe]; exact Or.inr h
  have hS : va_S A s.heap s.heap [] := va_S.rf
  clear hD0
  have hl := lv_entry ([.ref h, .int x1, .int x2, .int x3]) (n := 4) (Nat.le_of_ble_eq_true rfl)
  rw [lg_entry_eq]
  generalize (lg_sl ([.ref h, .int x1, .int x2, .int x3]) ++ List.replicate (4 - (lg_sl ([.ref h, .int x1, .int x2, .int x3])).length) Slot.unset).toArray = ls at hl ⊢
  have hl : lv_has ls 4 [(0, .ref h), (1, .int x1), (2, .int x2), (3, .int x3)] := hl
  refine lv_aload_n hx hb dX1_climb_0 rfl (lv_at hl 0 rfl) ?_
  refine lv_iload_n hx hb dX1_climb_1 rfl (lv_at hl 1 rfl) ?_
  refine lv_iload_n hx hb dX1_climb_2 rfl (lv_at hl 2 rfl) ?_
  refine lv_iload_n hx hb dX1_climb_3 rfl (lv_at hl 3 rfl) ?_
  refine lv_iconst (v := 1) hx hb dX1_climb_4 (by decide) ?_
  refine tv_callM (D := D) (V := V) (wf := (tv_mw cI cZ h a1 a2 a3 a4)) (ws := (tv_mw cI cZ h a1 a2 a3 a4 th (rd, lv, op, nt))) (wc := (tv_mw cI cZ h a1 a2 a3 a4 th (rd, lv, op, nt))) (wr := []) (wc' := tv_mw cI cZ h a1 a2 a3 a4 V.1 V.2.2) (wsN := tv_mw cI cZ h a1 a2 a3 a4 V.1 V.2.2) (va_runV (As := [.int x1, .int x2, .int x3, .int 1]) (rest := []) ⟨hx, hb, hml, hown, hts⟩ (c_X1_goOn l D cI cZ cL h a1 a2 a3 a4 rd lv op nt th s.heap.size x1 x2 x3 1 V hV) (cwV 4 hts gX1_climb_X1_goOn rfl rfl rfl (by decide +kernel) ⟨Nat.le_of_ble_eq_true rfl, Nat.le_of_ble_eq_true rfl⟩) (tv_preDV hP hK hD [0, 1, 2, 3, 4] rfl rfl rfl rfl 0 rfl) rfl rfl hl.1 rfl (lv_room (Nat.le_of_ble_eq_true rfl)) dX1_climb_5 ⟨Nat.le_of_ble_eq_true rfl, Nat.le_of_ble_eq_true rfl⟩) hP hD hS hA [0, 1, 2, 3, 4] [] rfl rfl rfl (by decide) [0, 1, 2, 3, 4] rfl rfl rfl rfl (fun r9 H locs hz hP hD hS => ?_)
  exact tv_iretM (wf := (tv_mw cI cZ h a1 a2 a3 a4)) (th := V.1) (z := V.2.1) (σ := V.2.2) (r := r9) hAe rfl hz hx hb hr hP hK hD hS dX1_climb_8 hlocks
set_option maxHeartbeats 4000000 in
set_option maxRecDepth 100000 in
theorem c_X1_drift (l : Launch) (D : va_G) (cI cZ cL : ClassId) (h a1 a2 a3 a4 : Nat) (rd lv op nt : Nat → Int32) (th : Int32) (sz : Nat) (x1 x2 x3 : Int32) (V : TV) (hV : V = sp_drift x1 x2 x3 (rd, lv, op, nt)) : Met l yX1_drift wsX1_drift tv_rmM (tv_Pd D cI cZ cL (tv_mw cI cZ h a1 a2 a3 a4 th (rd, lv, op, nt)) sz [.ref h, .int x1, .int x2, .int x3]) (tv_QM D cI cZ cL (tv_mw cI cZ h a1 a2 a3 a4) (tv_mw cI cZ h a1 a2 a3 a4 th (rd, lv, op, nt)) sz V) 0 0 (va_A (tv_mw cI cZ h a1 a2 a3 a4 th (rd, lv, op, nt)) sz) := by
  refine Met.ofW (cc := cX1_drift) (maxL := 4) (ret := (some .int)) (by decide) rfl ?_
  intro p e s m args below meth c s₁ B hml hv
  obtain ⟨rfl, hsz, hP, hK, hD0⟩ := hv
  subst hsz
  have hx := B.exec
  have hb := B.bytes
  have hr := B.returns
  have hts := atoms_spec (ws := wsX1_drift) B.pre
  have hown : s.vm.findClass RX1 = some m.cls := findClass_of_methodNamed B.named
  have hlocks := B.notSynchronized
  have hD := hD0.self (sz := s.heap.size)
  obtain ⟨A, hAe⟩ : ∃ A, A = va_A (tv_mw cI cZ h a1 a2 a3 a4 th (rd, lv, op, nt)) s.heap.size := ⟨_, rfl⟩
  rw [← hAe] at hD
  have hA : ∀ q : Nat, s.heap.size ≤ q → A q := fun q h => by rw [hAe]; exact Or.inr h
  have hS : va_S A s.heap s.heap [] := va_S.rf
  clear hD0
  have hl := lv_entry ([.ref h, .int x1, .int x2, .int x3]) (n := 4) (Nat.le_of_ble_eq_true rfl)
  rw [lg_entry_eq]
  generalize (lg_sl ([.ref h, .int x1, .int x2, .int x3]) ++ List.replicate (4 - (lg_sl ([.ref h, .int x1, .int x2, .int x3])).length) Slot.unset).toArray = ls at hl ⊢
  have hl : lv_has ls 4 [(0, .ref h), (1, .int x1), (2, .int x2), (3, .int x3)] := hl
  refine lv_aload_n hx hb dX1_drift_0 rfl (lv_at hl 0 rfl) ?_
  refine lv_iload_n hx hb dX1_drift_1 rfl (lv_at hl 1 rfl) ?_
  refine lv_iload_n hx hb dX1_drift_2 rfl (lv_at hl 2 rfl) ?_
  refine lv_iload_n hx hb dX1_drift_3 rfl (lv_at hl 3 rfl) ?_
  refine lv_iconst (v := 0) hx hb dX1_drift_4 (by decide) ?_
  refine tv_callM (D := D) (V := V) (wf := (tv_mw cI cZ h a1 a2 a3 a4)) (ws := (tv_mw cI cZ h a1 a2 a3 a4 th (rd, lv, op, nt))) (wc := (tv_mw cI cZ h a1 a2 a3 a4 th (rd, lv, op, nt))) (wr := []) (wc' := tv_mw cI cZ h a1 a2 a3 a4 V.1 V.2.2) (wsN := tv_mw cI cZ h a1 a2 a3 a4 V.1 V.2.2) (va_runV (As := [.int x1, .int x2, .int x3, .int 0]) (rest := []) ⟨hx, hb, hml, hown, hts⟩ (c_X1_goOn l D cI cZ cL h a1 a2 a3 a4 rd lv op nt th s.heap.size x1 x2 x3 0 V hV) (cwV 4 hts gX1_drift_X1_goOn rfl rfl rfl (by decide +kernel) ⟨Nat.le_of_ble_eq_true rfl, Nat.le_of_ble_eq_true rfl⟩) (tv_preDV hP hK hD [0, 1, 2, 3, 4] rfl rfl rfl rfl 0 rfl) rfl rfl hl.1 rfl (lv_room (Nat.le_of_ble_eq_true rfl)) dX1_drift_5 ⟨Nat.le_of_ble_eq_true rfl, Nat.le_of_ble_eq_true rfl⟩) hP hD hS hA [0, 1, 2, 3, 4] [] rfl rfl rfl (by decide) [0, 1, 2, 3, 4] rfl rfl rfl rfl (fun r9 H locs hz hP hD hS => ?_)
  exact tv_iretM (wf := (tv_mw cI cZ h a1 a2 a3 a4)) (th := V.1) (z := V.2.1) (σ := V.2.2) (r := r9) hAe rfl hz hx hb hr hP hK hD hS dX1_drift_8 hlocks
set_option maxHeartbeats 4000000 in
set_option maxRecDepth 100000 in
theorem c_X1_pick (l : Launch) (D : va_G) (cI cZ cL : ClassId) (h a1 a2 a3 a4 : Nat) (rd lv op nt : Nat → Int32) (th : Int32) (sz : Nat) (x1 x2 : Int32) (V : TV) (hV : V = sp_pick x1 x2 (rd, lv, op, nt)) : Met l yX1_pick wsX1_pick tv_rmM (tv_Pd D cI cZ cL (tv_mw cI cZ h a1 a2 a3 a4 th (rd, lv, op, nt)) sz [.ref h, .int x1, .int x2]) (tv_QM D cI cZ cL (tv_mw cI cZ h a1 a2 a3 a4) (tv_mw cI cZ h a1 a2 a3 a4 th (rd, lv, op, nt)) sz V) 0 0 (va_A (tv_mw cI cZ h a1 a2 a3 a4 th (rd, lv, op, nt)) sz) := by
  refine Met.ofW (cc := cX1_pick) (maxL := 5) (ret := (some .int)) (by decide) rfl ?_
  intro p e s m args below meth c s₁ B hml hv
  obtain ⟨rfl, hsz, hP, hK, hD0⟩ := hv
  subst hsz
  have hx := B.exec
  have hb := B.bytes
  have hr := B.returns
  have hts := atoms_spec (ws := wsX1_pick) B.pre
  have hown : s.vm.findClass RX1 = some m.cls := findClass_of_methodNamed B.named
  have hlocks := B.notSynchronized
  have hD := hD0.self (sz := s.heap.size)
  obtain ⟨A, hAe⟩ : ∃ A, A = va_A (tv_mw cI cZ h a1 a2 a3 a4 th (rd, lv, op, nt)) s.heap.size := ⟨_, rfl⟩
  rw [← hAe] at hD
  have hA : ∀ q : Nat, s.heap.size ≤ q → A q := fun q h => by rw [hAe]; exact Or.inr h
  have hS : va_S A s.heap s.heap [] := va_S.rf
  clear hD0
  have hl := lv_entry ([.ref h, .int x1, .int x2]) (n := 5) (Nat.le_of_ble_eq_true rfl)
  rw [lg_entry_eq]
  generalize (lg_sl ([.ref h, .int x1, .int x2]) ++ List.replicate (5 - (lg_sl ([.ref h, .int x1, .int x2])).length) Slot.unset).toArray = ls at hl ⊢
  have hl : lv_has ls 5 [(0, .ref h), (1, .int x1), (2, .int x2)] := hl
  refine lv_aload_n hx hb dX1_pick_0 rfl (lv_at hl 0 rfl) ?_
  have j1 : ∀ X : Bool, X = (tv_in 8 x1) → W p l e (headSpec wsX1_pick tv_rmM).room s m ([.ref h, .int x1, .int x2] : List Value).toArray below meth c s.heap [] 0 0 (MQ below (tv_QM D cI cZ cL (tv_mw cI cZ h a1 a2 a3 a4) (tv_mw cI cZ h a1 a2 a3 a4 th (rd, lv, op, nt)) s.heap.size V) ([.ref h, .int x1, .int x2] : List Value).toArray s 0 0 (va_A (tv_mw cI cZ h a1 a2 a3 a4 th (rd, lv, op, nt)) s.heap.size)) (F0 m 5 ls [.int (tv_b X), .ref h]) := by
    intro X hX
    have j2 : ∀ Y : Bool, Y = (tv_sg x2) → W p l e (headSpec wsX1_pick tv_rmM).room s m ([.ref h, .int x1, .int x2] : List Value).toArray below meth c s.heap [] 0 0 (MQ below (tv_QM D cI cZ cL (tv_mw cI cZ h a1 a2 a3 a4) (tv_mw cI cZ h a1 a2 a3 a4 th (rd, lv, op, nt)) s.heap.size V) ([.ref h, .int x1, .int x2] : List Value).toArray s 0 0 (va_A (tv_mw cI cZ h a1 a2 a3 a4 th (rd, lv, op, nt)) s.heap.size)) (F0 m 9 ls [.int (tv_b Y), .int (tv_b X), .ref h]) := by
      intro Y hY
      refine tv_callW (D := D) (ws := tv_mw cI cZ h a1 a2 a3 a4 th (rd, lv, op, nt)) (wc := [(h, .inr (1, [.ref a1, .ref a2, .ref a3, .ref a4, .int th]))]) (wr := [(a1, .inl (cI, 96, .inl (rd))), (a2, .inl (cI, 8, .inl (lv))), (a3, .inl (cZ, 4, .inl (op))), (a4, .inl (cI, 8, .inl (nt)))]) (wc' := [(h, .inr (1, [.ref a1, .ref a2, .ref a3, .ref a4, .int (tv_cd X Y)]))]) (wsN := tv_mw cI cZ h a1 a2 a3 a4 (tv_cd X Y) (rd, lv, op, nt)) (r := tv_b (X && Y)) (va_runV (As := [.int (tv_b X), .int (tv_b Y)]) (rest := []) ⟨hx, hb, hml, hown, hts⟩ (c_X1_may l D cI cZ cL h a1 a2 a3 a4 th s.heap.size X Y) (cwV 2 hts gX1_pick_X1_may rfl rfl rfl (by decide +kernel) ⟨Nat.le_of_ble_eq_true rfl, Nat.le_of_ble_eq_true rfl⟩) (tv_preDV hP hK hD [0] rfl rfl rfl rfl 0 rfl) rfl rfl hl.1 rfl (lv_room (Nat.le_of_ble_eq_true rfl)) dX1_pick_9 ⟨Nat.le_of_ble_eq_true rfl, Nat.le_of_ble_eq_true rfl⟩) hP hD hS hA [0] [1, 2, 3, 4] rfl rfl rfl (by decide) [4, 0, 1, 2, 3] rfl rfl rfl (fun H locs hP hD hS => ?_)
      cases hab : (X && Y) with
      | false =>
        have hV1 : V = (tv_cd X Y, 0, (rd, lv, op, nt)) := by
          rw [hV]; unfold sp_pick; rw [← hX, ← hY]; exact sp_cd hab
        refine lv_if_ne (tgt := 17) hx hb dX1_pick_12 (by decide) (fun c_1 => ?_) (fun c_1 => ?_)
        · exact absurd rfl c_1
        · skip
          refine lv_iconst (v := 0) hx hb dX1_pick_15 (by decide) ?_
          exact tv_iretM (wf := (tv_mw cI cZ h a1 a2 a3 a4)) (th := tv_cd X Y) (z := 0) (σ := (rd, lv, op, nt)) (r := 0) hAe hV1 (fun _ => rfl) hx hb hr hP hK hD hS dX1_pick_16 hlocks
      | true =>
        obtain ⟨hX1, hY1⟩ := Bool.and_eq_true_iff.mp hab
        subst hX1
        subst hY1
        refine lv_if_ne (tgt := 17) hx hb dX1_pick_12 (by decide) (fun c_2 => ?_) (fun c_2 => ?_)
        · skip
          have hP : va_P D vwCl (tv_mw cI cZ h a1 a2 a3 a4 0 (rd, lv, op, nt)) H := hP
          have hD : va_D A (tv_mw cI cZ h a1 a2 a3 a4 0 (rd, lv, op, nt)) := hD
          have hX := hX.symm
          have g1 := hX
          have hY := hY.symm
          have g2 := hY
          obtain ⟨r, hr8, rfl⟩ := tv_in_of (by omega) g1
          refine lv_iconst (v := 0) hx hb dX1_pick_17 (by decide) ?_
          refine lv_istore_n (lv' := [(3, .int 0), (0, .ref h), (1, .int (nI r)), (2, .int x2)]) hx hb dX1_pick_18 rfl hl (by decide) rfl (fun ls hl => ?_)
          refine lv_iconst (v := 1) hx hb dX1_pick_19 (by decide) ?_
          refine lv_istore (lv' := [(4, .int 1), (3, .int 0), (0, .ref h), (1, .int (nI r)), (2, .int x2)]) hx hb dX1_pick_20 hl (by decide) rfl (fun ls hl => ?_)
          have hV0 : V = (0, nI (pck x2 (rw12 rd r) 11), (rd, lv, op, nt)) := by
            rw [hV]; simp only [sp_pick, tN, nI_clamp (show r < 2 ^ 31 by omega), g1, g2, Bool.and_false, Bool.false_and, Bool.and_true, Bool.true_and, Bool.and_self, sp_f, sp_tf, sp_tt]
          have loop : ∀ (n k : Nat), k + n = 11 → ∀ ls : Array Slot, lv_has ls 5 [(0, .ref h), (1, .int (nI r)), (2, .int x2), (3, .int (nI (pck x2 (rw12 rd r) k))), (4, .int (nI (k + 1)))] → W p l e (headSpec wsX1_pick tv_rmM).room s m ([.ref h, .int (nI r), .int x2] : List Value).toArray below meth c H locs 0 0 (MQ below (tv_QM D cI cZ cL (tv_mw cI cZ h a1 a2 a3 a4) (tv_mw cI cZ h a1 a2 a3 a4 th (rd, lv, op, nt)) s.heap.size V) ([.ref h, .int (nI r), .int x2] : List Value).toArray s 0 0 (va_A (tv_mw cI cZ h a1 a2 a3 a4 th (rd, lv, op, nt)) s.heap.size)) (F0 m 22 ls []) := by
            intro n
            induction n with
            | zero =>
              intro k hk ls hl
              have hk2 : k = 11 := by omega
              subst hk2
              refine lv_iload hx hb dX1_pick_22 (lv_at hl 4 rfl) ?_
              refine lv_bipush (v := 12) hx hb dX1_pick_24 (by decide) ?_
              refine lv_icmp_ge (tgt := 62) hx hb dX1_pick_26 (by decide) (fun c_3 => ?_) (fun c_3 => ?_)
              · skip
                refine lv_iload_n hx hb dX1_pick_62 rfl (lv_at hl 3 rfl) ?_
                exact tv_iretM (wf := (tv_mw cI cZ h a1 a2 a3 a4)) (th := 0) (z := nI (pck x2 (rw12 rd r) 11)) (σ := (rd, lv, op, nt)) (r := nI (pck x2 (rw12 rd r) 11)) hAe hV0 (fun _ => rfl) hx hb hr hP hK hD hS dX1_pick_63 hlocks
              · exact absurd (show nI 12 ≤ nI 12 from nI_le (Nat.le_refl _) (by omega)) c_3
            | succ n ih =>
              intro k hk ls hl
              have hp1 := pck_le x2 (rw12 rd r) k
              refine lv_iload hx hb dX1_pick_22 (lv_at hl 4 rfl) ?_
              refine lv_bipush (v := 12) hx hb dX1_pick_24 (by decide) ?_
              refine lv_icmp_ge (tgt := 62) hx hb dX1_pick_26 (by decide) (fun c_4 => ?_) (fun c_4 => ?_)
              · exact absurd (show nI 12 ≤ nI (k + 1) from c_4) (nI_ge (by omega) (by omega))
              · skip
                refine lv_iload_n hx hb dX1_pick_29 rfl (lv_at hl 2 rfl) ?_
                refine lv_aload_n hx hb dX1_pick_30 rfl (lv_at hl 0 rfl) ?_
                refine lv_iload_n hx hb dX1_pick_31 rfl (lv_at hl 1 rfl) ?_
                refine lv_iload hx hb dX1_pick_32 (lv_at hl 4 rfl) ?_
                refine tv_callR (W.runV (As := [.int (nI r), .int (nI (k + 1))]) (rest := [.int x2]) ⟨hx, hb, hml, hown, hts⟩ (c_X1_at l D cI cZ cL h a1 a2 a3 a4 rd lv op nt 0 r (k + 1) hr8 (by omega)) (cwV 2 hts gX1_pick_X1_at rfl rfl rfl (by decide +kernel) ⟨Nat.le_of_ble_eq_true rfl, Nat.le_of_ble_eq_true rfl⟩) (tv_preV hP hK rfl 0 rfl) rfl rfl hl.1 rfl (lv_room (Nat.le_of_ble_eq_true rfl)) dX1_pick_34 ⟨Nat.le_of_ble_eq_true rfl, Nat.le_of_ble_eq_true rfl⟩) ?_
                refine lv_aload_n hx hb dX1_pick_37 rfl (lv_at hl 0 rfl) ?_
                refine lv_iload_n hx hb dX1_pick_38 rfl (lv_at hl 1 rfl) ?_
                refine lv_iload_n hx hb dX1_pick_39 rfl (lv_at hl 3 rfl) ?_
                refine tv_callR (W.runV (As := [.int (nI r), .int (nI (pck x2 (rw12 rd r) k))]) (rest := [.int (rd (12 * r + (k + 1))), .int x2]) ⟨hx, hb, hml, hown, hts⟩ (c_X1_at l D cI cZ cL h a1 a2 a3 a4 rd lv op nt 0 r (pck x2 (rw12 rd r) k) hr8 (by omega)) (cwV 2 hts gX1_pick_X1_at rfl rfl rfl (by decide +kernel) ⟨Nat.le_of_ble_eq_true rfl, Nat.le_of_ble_eq_true rfl⟩) (tv_preV hP hK rfl 0 rfl) rfl rfl hl.1 rfl (lv_room (Nat.le_of_ble_eq_true rfl)) dX1_pick_40 ⟨Nat.le_of_ble_eq_true rfl, Nat.le_of_ble_eq_true rfl⟩) ?_
                refine tv_callR (W.runS (As := [.int x2, .int (rd (12 * r + (k + 1))), .int (rd (12 * r + (pck x2 (rw12 rd r) k)))]) (rest := []) ⟨hx, hb, hml, hown, hts⟩ (c_X1_isTrue l x2 (rd (12 * r + (k + 1))) (rd (12 * r + (pck x2 (rw12 rd r) k)))) (va_cwS 3 hts gX1_pick_X1_isTrue rfl rfl rfl (by decide +kernel) ⟨Nat.le_of_ble_eq_true rfl, Nat.le_of_ble_eq_true rfl⟩) preEq rfl rfl hl.1 rfl (lv_room (Nat.le_of_ble_eq_true rfl)) dX1_pick_43 ⟨Nat.le_of_ble_eq_true rfl, Nat.le_of_ble_eq_true rfl⟩) ?_
                refine lv_if_eq (tgt := 54) hx hb dX1_pick_46 (by decide) (fun c_5 => ?_) (fun c_5 => ?_)
                · skip
                  refine lv_iload_n hx hb dX1_pick_54 rfl (lv_at hl 3 rfl) ?_
                  refine lv_istore_n (lv' := [(3, .int (nI (pck x2 (rw12 rd r) k))), (0, .ref h), (1, .int (nI r)), (2, .int x2), (4, .int (nI (k + 1)))]) hx hb dX1_pick_55 rfl hl (by decide) rfl (fun ls hl => ?_)
                  refine lv_iinc (v := nI ((k + 1) + 1)) (lv' := [(4, .int (nI ((k + 1) + 1))), (3, .int (nI (pck x2 (rw12 rd r) k))), (0, .ref h), (1, .int (nI r)), (2, .int x2)]) hx hb dX1_pick_56 hl (k := 4) rfl (nI_1 (k + 1)) (by decide) rfl (fun ls hl => ?_)
                  refine lv_goto (tgt := 22) hx hb dX1_pick_59 (by decide) ?_
                  exact ih (k + 1) (by omega) ls (by rw [show nI (pck x2 (rw12 rd r) (k + 1)) = nI (pck x2 (rw12 rd r) k) from by rw [pck, if_pos c_5]]; exact lv_sub hl [2, 3, 4, 1, 0] rfl)
                · skip
                  refine lv_iload hx hb dX1_pick_49 (lv_at hl 4 rfl) ?_
                  refine lv_goto (tgt := 55) hx hb dX1_pick_51 (by decide) ?_
                  refine lv_istore_n (lv' := [(3, .int (nI (k + 1))), (0, .ref h), (1, .int (nI r)), (2, .int x2), (4, .int (nI (k + 1)))]) hx hb dX1_pick_55 rfl hl (by decide) rfl (fun ls hl => ?_)
                  refine lv_iinc (v := nI ((k + 1) + 1)) (lv' := [(4, .int (nI ((k + 1) + 1))), (3, .int (nI (k + 1))), (0, .ref h), (1, .int (nI r)), (2, .int x2)]) hx hb dX1_pick_56 hl (k := 4) rfl (nI_1 (k + 1)) (by decide) rfl (fun ls hl => ?_)
                  refine lv_goto (tgt := 22) hx hb dX1_pick_59 (by decide) ?_
                  exact ih (k + 1) (by omega) ls (by rw [show nI (pck x2 (rw12 rd r) (k + 1)) = nI (k + 1) from by rw [pck, if_neg c_5]]; exact lv_sub hl [2, 3, 4, 1, 0] rfl)
          exact loop 11 0 (by omega) ls (by rw [show nI (pck x2 (rw12 rd r) 0) = 0 from rfl, show nI (0 + 1) = 1 from rfl]; exact lv_sub hl [2, 3, 4, 1, 0] rfl)
        · exact absurd c_2 (by decide)
    refine lv_iload_n hx hb dX1_pick_5 rfl (lv_at hl 2 rfl) ?_
    refine tv_callR (W.runS (As := [.int x2]) (rest := [.int (tv_b X), .ref h]) ⟨hx, hb, hml, hown, hts⟩ (c_X1_isSign l x2) (va_cwS 1 hts gX1_pick_X1_isSign rfl rfl rfl (by decide +kernel) ⟨Nat.le_of_ble_eq_true rfl, Nat.le_of_ble_eq_true rfl⟩) preEq rfl rfl hl.1 rfl (lv_room (Nat.le_of_ble_eq_true rfl)) dX1_pick_6 ⟨Nat.le_of_ble_eq_true rfl, Nat.le_of_ble_eq_true rfl⟩) ?_
    exact j2 _ rfl
  refine lv_iload_n hx hb dX1_pick_1 rfl (lv_at hl 1 rfl) ?_
  refine tv_callR (W.runS (As := [.int x1]) (rest := [.ref h]) ⟨hx, hb, hml, hown, hts⟩ (c_X1_isRow l x1) (va_cwS 1 hts gX1_pick_X1_isRow rfl rfl rfl (by decide +kernel) ⟨Nat.le_of_ble_eq_true rfl, Nat.le_of_ble_eq_true rfl⟩) preEq rfl rfl hl.1 rfl (lv_room (Nat.le_of_ble_eq_true rfl)) dX1_pick_2 ⟨Nat.le_of_ble_eq_true rfl, Nat.le_of_ble_eq_true rfl⟩) ?_
  exact j1 _ rfl
theorem iX1_keep : ∀ w ∈ wsX10, w ∈ wsX1_keep := by decide +kernel
set_option maxHeartbeats 4000000 in
set_option maxRecDepth 100000 in
theorem c_X1_keep (l : Launch) (D : va_G) (cI cZ cL : ClassId) (h a1 a2 a3 a4 : Nat) (rd lv op nt : Nat → Int32) (th : Int32) (sz : Nat) (x1 x2 : Int32) (V : TV) (hV : V = sp_keep x1 x2 (rd, lv, op, nt)) : Met l yX1_keep wsX1_keep tv_rmM (tv_Pd D cI cZ cL (tv_mw cI cZ h a1 a2 a3 a4 th (rd, lv, op, nt)) sz [.ref h, .int x1, .int x2]) (tv_QM D cI cZ cL (tv_mw cI cZ h a1 a2 a3 a4) (tv_mw cI cZ h a1 a2 a3 a4 th (rd, lv, op, nt)) sz V) 0 0 (va_A (tv_mw cI cZ h a1 a2 a3 a4 th (rd, lv, op, nt)) sz) := by
  refine Met.ofW (cc := cX1_keep) (maxL := 6) (ret := (some .int)) (by decide) rfl ?_
  intro p e s m args below meth c s₁ B hml hv
  obtain ⟨rfl, hsz, hP, hK, hD0⟩ := hv
  subst hsz
  have hx := B.exec
  have hb := B.bytes
  have hr := B.returns
  have hts := atoms_spec (ws := wsX1_keep) B.pre
  have hown : s.vm.findClass RX1 = some m.cls := findClass_of_methodNamed B.named
  have hlocks := B.notSynchronized
  have hD := hD0.self (sz := s.heap.size)
  obtain ⟨A, hAe⟩ : ∃ A, A = va_A (tv_mw cI cZ h a1 a2 a3 a4 th (rd, lv, op, nt)) s.heap.size := ⟨_, rfl⟩
  rw [← hAe] at hD
  have hA : ∀ q : Nat, s.heap.size ≤ q → A q := fun q h => by rw [hAe]; exact Or.inr h
  have hS : va_S A s.heap s.heap [] := va_S.rf
  clear hD0
  have hl := lv_entry ([.ref h, .int x1, .int x2]) (n := 6) (Nat.le_of_ble_eq_true rfl)
  rw [lg_entry_eq]
  generalize (lg_sl ([.ref h, .int x1, .int x2]) ++ List.replicate (6 - (lg_sl ([.ref h, .int x1, .int x2])).length) Slot.unset).toArray = ls at hl ⊢
  have hl : lv_has ls 6 [(0, .ref h), (1, .int x1), (2, .int x2)] := hl
  refine lv_aload_n hx hb dX1_keep_0 rfl (lv_at hl 0 rfl) ?_
  have j1 : ∀ X : Bool, X = (tv_in 8 x1) → W p l e (headSpec wsX1_keep tv_rmM).room s m ([.ref h, .int x1, .int x2] : List Value).toArray below meth c s.heap [] 0 0 (MQ below (tv_QM D cI cZ cL (tv_mw cI cZ h a1 a2 a3 a4) (tv_mw cI cZ h a1 a2 a3 a4 th (rd, lv, op, nt)) s.heap.size V) ([.ref h, .int x1, .int x2] : List Value).toArray s 0 0 (va_A (tv_mw cI cZ h a1 a2 a3 a4 th (rd, lv, op, nt)) s.heap.size)) (F0 m 5 ls [.int (tv_b X), .ref h]) := by
    intro X hX
    have j2 : ∀ Y : Bool, Y = (tv_sg x2) → W p l e (headSpec wsX1_keep tv_rmM).room s m ([.ref h, .int x1, .int x2] : List Value).toArray below meth c s.heap [] 0 0 (MQ below (tv_QM D cI cZ cL (tv_mw cI cZ h a1 a2 a3 a4) (tv_mw cI cZ h a1 a2 a3 a4 th (rd, lv, op, nt)) s.heap.size V) ([.ref h, .int x1, .int x2] : List Value).toArray s 0 0 (va_A (tv_mw cI cZ h a1 a2 a3 a4 th (rd, lv, op, nt)) s.heap.size)) (F0 m 9 ls [.int (tv_b Y), .int (tv_b X), .ref h]) := by
      intro Y hY
      refine tv_callW (D := D) (ws := tv_mw cI cZ h a1 a2 a3 a4 th (rd, lv, op, nt)) (wc := [(h, .inr (1, [.ref a1, .ref a2, .ref a3, .ref a4, .int th]))]) (wr := [(a1, .inl (cI, 96, .inl (rd))), (a2, .inl (cI, 8, .inl (lv))), (a3, .inl (cZ, 4, .inl (op))), (a4, .inl (cI, 8, .inl (nt)))]) (wc' := [(h, .inr (1, [.ref a1, .ref a2, .ref a3, .ref a4, .int (tv_cd X Y)]))]) (wsN := tv_mw cI cZ h a1 a2 a3 a4 (tv_cd X Y) (rd, lv, op, nt)) (r := tv_b (X && Y)) (va_runV (As := [.int (tv_b X), .int (tv_b Y)]) (rest := []) ⟨hx, hb, hml, hown, hts⟩ (c_X1_may l D cI cZ cL h a1 a2 a3 a4 th s.heap.size X Y) (cwV 2 hts gX1_keep_X1_may rfl rfl rfl (by decide +kernel) ⟨Nat.le_of_ble_eq_true rfl, Nat.le_of_ble_eq_true rfl⟩) (tv_preDV hP hK hD [0] rfl rfl rfl rfl 0 rfl) rfl rfl hl.1 rfl (lv_room (Nat.le_of_ble_eq_true rfl)) dX1_keep_9 ⟨Nat.le_of_ble_eq_true rfl, Nat.le_of_ble_eq_true rfl⟩) hP hD hS hA [0] [1, 2, 3, 4] rfl rfl rfl (by decide) [4, 0, 1, 2, 3] rfl rfl rfl (fun H locs hP hD hS => ?_)
      cases hab : (X && Y) with
      | false =>
        have hV1 : V = (tv_cd X Y, 0, (rd, lv, op, nt)) := by
          rw [hV]; unfold sp_keep; rw [← hX, ← hY]; exact sp_cd hab
        refine lv_if_ne (tgt := 17) hx hb dX1_keep_12 (by decide) (fun c_1 => ?_) (fun c_1 => ?_)
        · exact absurd rfl c_1
        · skip
          refine lv_iconst (v := 0) hx hb dX1_keep_15 (by decide) ?_
          exact tv_iretM (wf := (tv_mw cI cZ h a1 a2 a3 a4)) (th := tv_cd X Y) (z := 0) (σ := (rd, lv, op, nt)) (r := 0) hAe hV1 (fun _ => rfl) hx hb hr hP hK hD hS dX1_keep_16 hlocks
      | true =>
        obtain ⟨hX1, hY1⟩ := Bool.and_eq_true_iff.mp hab
        subst hX1
        subst hY1
        refine lv_if_ne (tgt := 17) hx hb dX1_keep_12 (by decide) (fun c_2 => ?_) (fun c_2 => ?_)
        · skip
          have hP : va_P D vwCl (tv_mw cI cZ h a1 a2 a3 a4 0 (rd, lv, op, nt)) H := hP
          have hD : va_D A (tv_mw cI cZ h a1 a2 a3 a4 0 (rd, lv, op, nt)) := hD
          have hX := hX.symm
          have g1 := hX
          have hY := hY.symm
          have g2 := hY
          obtain ⟨r, hr8, rfl⟩ := tv_in_of (by omega) g1
          refine lv_iconst (v := 0) hx hb dX1_keep_17 (by decide) ?_
          refine lv_istore_n (lv' := [(3, .int 0), (0, .ref h), (1, .int (nI r)), (2, .int x2)]) hx hb dX1_keep_18 rfl hl (by decide) rfl (fun ls hl => ?_)
          refine lv_iconst (v := 0) hx hb dX1_keep_19 (by decide) ?_
          refine lv_istore (lv' := [(4, .int 0), (3, .int 0), (0, .ref h), (1, .int (nI r)), (2, .int x2)]) hx hb dX1_keep_20 hl (by decide) rfl (fun ls hl => ?_)
          refine lv_iconst (v := 0) hx hb dX1_keep_22 (by decide) ?_
          refine lv_istore (lv' := [(5, .int 0), (4, .int 0), (3, .int 0), (0, .ref h), (1, .int (nI r)), (2, .int x2)]) hx hb dX1_keep_23 hl (by decide) rfl (fun ls hl => ?_)
          have hV0 : V = (0, cn (fun k => tq x2 (rw12 rd r k) (rw12 rd r (k + 1))) 11, (rd, lv, op, upd nt r (kb (fun k => tq x2 (rw12 rd r k) (rw12 rd r (k + 1))) 11))) := by
            rw [hV]; simp only [sp_keep, tN, nI_clamp (show r < 2 ^ 31 by omega), g1, g2, Bool.and_false, Bool.false_and, Bool.and_true, Bool.true_and, Bool.and_self, sp_f, sp_tf, sp_tt]
          have loop : ∀ (n k : Nat), k + n = 11 → ∀ ls : Array Slot, lv_has ls 6 [(0, .ref h), (1, .int (nI r)), (2, .int x2), (3, .int (kb (fun k => tq x2 (rw12 rd r k) (rw12 rd r (k + 1))) k)), (4, .int (cn (fun k => tq x2 (rw12 rd r k) (rw12 rd r (k + 1))) k)), (5, .int (nI k))] → W p l e (headSpec wsX1_keep tv_rmM).room s m ([.ref h, .int (nI r), .int x2] : List Value).toArray below meth c H locs 0 0 (MQ below (tv_QM D cI cZ cL (tv_mw cI cZ h a1 a2 a3 a4) (tv_mw cI cZ h a1 a2 a3 a4 th (rd, lv, op, nt)) s.heap.size V) ([.ref h, .int (nI r), .int x2] : List Value).toArray s 0 0 (va_A (tv_mw cI cZ h a1 a2 a3 a4 th (rd, lv, op, nt)) s.heap.size)) (F0 m 25 ls []) := by
            intro n
            induction n with
            | zero =>
              intro k hk ls hl
              have hk2 : k = 11 := by omega
              subst hk2
              refine lv_iload hx hb dX1_keep_25 (lv_at hl 5 rfl) ?_
              refine lv_iconst (v := 1) hx hb dX1_keep_27 (by decide) ?_
              refine lv_iadd hx hb dX1_keep_28 ?_
              refine lv_bipush (v := 12) hx hb dX1_keep_29 (by decide) ?_
              refine lv_icmp_ge (tgt := 73) hx hb dX1_keep_31 (by decide) (fun c_3 => ?_) (fun c_3 => ?_)
              · skip
                refine lv_aload_n hx hb dX1_keep_73 rfl (lv_at hl 0 rfl) ?_
                refine va_get (D := D) (ci := 1) (v := .ref a4) (C := RX1) (T := TX1) (N := 5) hx hb hts iX1_keep hown hK hP 0 rfl rfl 3 (by decide) (hts (.fieldLink RX1 20 "TideHouseModel" "notes" "[I") (by decide +kernel)) (fun _ h9 => h9) rfl dX1_keep_74 ?_
                refine lv_iload_n hx hb dX1_keep_77 rfl (lv_at hl 1 rfl) ?_
                refine lv_iload_n hx hb dX1_keep_78 rfl (lv_at hl 3 rfl) ?_
                refine tv_iast (D := D) (cA := cI) (n := 8) (f := nt) (k := r) (x := kb (fun k => tq x2 (rw12 rd r k) (rw12 rd r (k + 1))) 11) (ws1 := tv_mw cI cZ h a1 a2 a3 a4 0 (rd, lv, op, upd nt r (kb (fun k => tq x2 (rw12 rd r k) (rw12 rd r (k + 1))) 11))) hx hb hK hP hD hS 4 0 rfl rfl (by omega) (by omega) rfl dX1_keep_79 (fun H locs hP hD hS => ?_)
                refine lv_iload hx hb dX1_keep_80 (lv_at hl 4 rfl) ?_
                exact tv_iretM (wf := (tv_mw cI cZ h a1 a2 a3 a4)) (th := 0) (z := cn (fun k => tq x2 (rw12 rd r k) (rw12 rd r (k + 1))) 11) (σ := (rd, lv, op, upd nt r (kb (fun k => tq x2 (rw12 rd r k) (rw12 rd r (k + 1))) 11))) (r := cn (fun k => tq x2 (rw12 rd r k) (rw12 rd r (k + 1))) 11) hAe hV0 (fun _ => rfl) hx hb hr hP hK hD hS dX1_keep_82 hlocks
              · exact absurd (show nI 12 ≤ nI 11 + 1 from by rw [nI_1]; exact nI_le (Nat.le_refl _) (by omega)) c_3
            | succ n ih =>
              intro k hk ls hl
              refine lv_iload hx hb dX1_keep_25 (lv_at hl 5 rfl) ?_
              refine lv_iconst (v := 1) hx hb dX1_keep_27 (by decide) ?_
              refine lv_iadd hx hb dX1_keep_28 ?_
              refine tv_top (nI (k + 1)) (nI_1 k) ?_
              refine lv_bipush (v := 12) hx hb dX1_keep_29 (by decide) ?_
              refine lv_icmp_ge (tgt := 73) hx hb dX1_keep_31 (by decide) (fun c_4 => ?_) (fun c_4 => ?_)
              · exact absurd (show nI 12 ≤ nI (k + 1) from c_4) (nI_ge (by omega) (by omega))
              · skip
                refine lv_iload_n hx hb dX1_keep_34 rfl (lv_at hl 2 rfl) ?_
                refine lv_aload_n hx hb dX1_keep_35 rfl (lv_at hl 0 rfl) ?_
                refine lv_iload_n hx hb dX1_keep_36 rfl (lv_at hl 1 rfl) ?_
                refine lv_iload hx hb dX1_keep_37 (lv_at hl 5 rfl) ?_
                refine tv_callR (W.runV (As := [.int (nI r), .int (nI k)]) (rest := [.int x2]) ⟨hx, hb, hml, hown, hts⟩ (c_X1_at l D cI cZ cL h a1 a2 a3 a4 rd lv op nt 0 r k hr8 (by omega)) (cwV 2 hts gX1_keep_X1_at rfl rfl rfl (by decide +kernel) ⟨Nat.le_of_ble_eq_true rfl, Nat.le_of_ble_eq_true rfl⟩) (tv_preV hP hK rfl 0 rfl) rfl rfl hl.1 rfl (lv_room (Nat.le_of_ble_eq_true rfl)) dX1_keep_39 ⟨Nat.le_of_ble_eq_true rfl, Nat.le_of_ble_eq_true rfl⟩) ?_
                refine lv_aload_n hx hb dX1_keep_42 rfl (lv_at hl 0 rfl) ?_
                refine lv_iload_n hx hb dX1_keep_43 rfl (lv_at hl 1 rfl) ?_
                refine lv_iload hx hb dX1_keep_44 (lv_at hl 5 rfl) ?_
                refine lv_iconst (v := 1) hx hb dX1_keep_46 (by decide) ?_
                refine lv_iadd hx hb dX1_keep_47 ?_
                refine tv_top (nI (k + 1)) (nI_1 k) ?_
                refine tv_callR (W.runV (As := [.int (nI r), .int (nI (k + 1))]) (rest := [.int (rd (12 * r + k)), .int x2]) ⟨hx, hb, hml, hown, hts⟩ (c_X1_at l D cI cZ cL h a1 a2 a3 a4 rd lv op nt 0 r (k + 1) hr8 (by omega)) (cwV 2 hts gX1_keep_X1_at rfl rfl rfl (by decide +kernel) ⟨Nat.le_of_ble_eq_true rfl, Nat.le_of_ble_eq_true rfl⟩) (tv_preV hP hK rfl 0 rfl) rfl rfl hl.1 rfl (lv_room (Nat.le_of_ble_eq_true rfl)) dX1_keep_48 ⟨Nat.le_of_ble_eq_true rfl, Nat.le_of_ble_eq_true rfl⟩) ?_
                refine tv_callR (W.runS (As := [.int x2, .int (rd (12 * r + k)), .int (rd (12 * r + (k + 1)))]) (rest := []) ⟨hx, hb, hml, hown, hts⟩ (c_X1_isTrue l x2 (rd (12 * r + k)) (rd (12 * r + (k + 1)))) (va_cwS 3 hts gX1_keep_X1_isTrue rfl rfl rfl (by decide +kernel) ⟨Nat.le_of_ble_eq_true rfl, Nat.le_of_ble_eq_true rfl⟩) preEq rfl rfl hl.1 rfl (lv_room (Nat.le_of_ble_eq_true rfl)) dX1_keep_51 ⟨Nat.le_of_ble_eq_true rfl, Nat.le_of_ble_eq_true rfl⟩) ?_
                refine lv_if_eq (tgt := 67) hx hb dX1_keep_54 (by decide) (fun c_5 => ?_) (fun c_5 => ?_)
                · skip
                  refine lv_iinc (v := nI (k + 1)) (lv' := [(5, .int (nI (k + 1))), (0, .ref h), (1, .int (nI r)), (2, .int x2), (3, .int (kb (fun k => tq x2 (rw12 rd r k) (rw12 rd r (k + 1))) k)), (4, .int (cn (fun k => tq x2 (rw12 rd r k) (rw12 rd r (k + 1))) k))]) hx hb dX1_keep_67 hl (k := 5) rfl (nI_1 k) (by decide) rfl (fun ls hl => ?_)
                  refine lv_goto (tgt := 25) hx hb dX1_keep_70 (by decide) ?_
                  exact ih (k + 1) (by omega) ls (by rw [show kb (fun k => tq x2 (rw12 rd r k) (rw12 rd r (k + 1))) (k + 1) = kb (fun k => tq x2 (rw12 rd r k) (rw12 rd r (k + 1))) k from kb_s0 c_5, show cn (fun k => tq x2 (rw12 rd r k) (rw12 rd r (k + 1))) (k + 1) = cn (fun k => tq x2 (rw12 rd r k) (rw12 rd r (k + 1))) k from cn_s0 c_5]; exact lv_sub hl [1, 2, 3, 4, 5, 0] rfl)
                · skip
                  refine lv_iload_n hx hb dX1_keep_57 rfl (lv_at hl 3 rfl) ?_
                  refine lv_iconst (v := 1) hx hb dX1_keep_58 (by decide) ?_
                  refine lv_iload hx hb dX1_keep_59 (lv_at hl 5 rfl) ?_
                  refine lv_ishl hx hb dX1_keep_61 ?_
                  refine lv_ior hx hb dX1_keep_62 ?_
                  refine lv_istore_n (lv' := [(3, .int ((kb (fun k => tq x2 (rw12 rd r k) (rw12 rd r (k + 1))) k) ||| (1 <<< ((nI k) &&& 31)))), (0, .ref h), (1, .int (nI r)), (2, .int x2), (4, .int (cn (fun k => tq x2 (rw12 rd r k) (rw12 rd r (k + 1))) k)), (5, .int (nI k))]) hx hb dX1_keep_63 rfl hl (by decide) rfl (fun ls hl => ?_)
                  refine lv_iinc (v := cn (fun k => tq x2 (rw12 rd r k) (rw12 rd r (k + 1))) k + 1) (lv' := [(4, .int (cn (fun k => tq x2 (rw12 rd r k) (rw12 rd r (k + 1))) k + 1)), (3, .int ((kb (fun k => tq x2 (rw12 rd r k) (rw12 rd r (k + 1))) k) ||| (1 <<< ((nI k) &&& 31)))), (0, .ref h), (1, .int (nI r)), (2, .int x2), (5, .int (nI k))]) hx hb dX1_keep_64 hl (k := 4) rfl (rfl) (by decide) rfl (fun ls hl => ?_)
                  refine lv_iinc (v := nI (k + 1)) (lv' := [(5, .int (nI (k + 1))), (4, .int (cn (fun k => tq x2 (rw12 rd r k) (rw12 rd r (k + 1))) k + 1)), (3, .int ((kb (fun k => tq x2 (rw12 rd r k) (rw12 rd r (k + 1))) k) ||| (1 <<< ((nI k) &&& 31)))), (0, .ref h), (1, .int (nI r)), (2, .int x2)]) hx hb dX1_keep_67 hl (k := 5) rfl (nI_1 k) (by decide) rfl (fun ls hl => ?_)
                  refine lv_goto (tgt := 25) hx hb dX1_keep_70 (by decide) ?_
                  exact ih (k + 1) (by omega) ls (by rw [show kb (fun k => tq x2 (rw12 rd r k) (rw12 rd r (k + 1))) (k + 1) = (kb (fun k => tq x2 (rw12 rd r k) (rw12 rd r (k + 1))) k) ||| (1 <<< ((nI k) &&& 31)) from kb_s1 c_5, show cn (fun k => tq x2 (rw12 rd r k) (rw12 rd r (k + 1))) (k + 1) = cn (fun k => tq x2 (rw12 rd r k) (rw12 rd r (k + 1))) k + 1 from cn_s1 (tq1 c_5)]; exact lv_sub hl [3, 4, 5, 2, 1, 0] rfl)
          exact loop 11 0 (by omega) ls (by rw [show kb (fun k => tq x2 (rw12 rd r k) (rw12 rd r (k + 1))) 0 = 0 from rfl, show cn (fun k => tq x2 (rw12 rd r k) (rw12 rd r (k + 1))) 0 = 0 from rfl, show nI 0 = 0 from nI_0]; exact lv_sub hl [3, 4, 5, 2, 1, 0] rfl)
        · exact absurd c_2 (by decide)
    refine lv_iload_n hx hb dX1_keep_5 rfl (lv_at hl 2 rfl) ?_
    refine tv_callR (W.runS (As := [.int x2]) (rest := [.int (tv_b X), .ref h]) ⟨hx, hb, hml, hown, hts⟩ (c_X1_isSign l x2) (va_cwS 1 hts gX1_keep_X1_isSign rfl rfl rfl (by decide +kernel) ⟨Nat.le_of_ble_eq_true rfl, Nat.le_of_ble_eq_true rfl⟩) preEq rfl rfl hl.1 rfl (lv_room (Nat.le_of_ble_eq_true rfl)) dX1_keep_6 ⟨Nat.le_of_ble_eq_true rfl, Nat.le_of_ble_eq_true rfl⟩) ?_
    exact j2 _ rfl
  refine lv_iload_n hx hb dX1_keep_1 rfl (lv_at hl 1 rfl) ?_
  refine tv_callR (W.runS (As := [.int x1]) (rest := [.ref h]) ⟨hx, hb, hml, hown, hts⟩ (c_X1_isRow l x1) (va_cwS 1 hts gX1_keep_X1_isRow rfl rfl rfl (by decide +kernel) ⟨Nat.le_of_ble_eq_true rfl, Nat.le_of_ble_eq_true rfl⟩) preEq rfl rfl hl.1 rfl (lv_room (Nat.le_of_ble_eq_true rfl)) dX1_keep_2 ⟨Nat.le_of_ble_eq_true rfl, Nat.le_of_ble_eq_true rfl⟩) ?_
  exact j1 _ rfl
theorem iX1_settle : ∀ w ∈ wsX10, w ∈ wsX1_settle := by decide +kernel
set_option maxHeartbeats 4000000 in
set_option maxRecDepth 100000 in
theorem c_X1_settle (l : Launch) (D : va_G) (cI cZ cL : ClassId) (h a1 a2 a3 a4 : Nat) (rd lv op nt : Nat → Int32) (th : Int32) (sz : Nat) (x1 x2 : Int32) (V : TV) (hV : V = sp_settle x1 x2 (rd, lv, op, nt)) : Met l yX1_settle wsX1_settle tv_rmM (tv_Pd D cI cZ cL (tv_mw cI cZ h a1 a2 a3 a4 th (rd, lv, op, nt)) sz [.ref h, .int x1, .int x2]) (tv_QM D cI cZ cL (tv_mw cI cZ h a1 a2 a3 a4) (tv_mw cI cZ h a1 a2 a3 a4 th (rd, lv, op, nt)) sz V) 0 0 (va_A (tv_mw cI cZ h a1 a2 a3 a4 th (rd, lv, op, nt)) sz) := by
  refine Met.ofW (cc := cX1_settle) (maxL := 7) (ret := (some .int)) (by decide) rfl ?_
  intro p e s m args below meth c s₁ B hml hv
  obtain ⟨rfl, hsz, hP, hK, hD0⟩ := hv
  subst hsz
  have hx := B.exec
  have hb := B.bytes
  have hr := B.returns
  have hts := atoms_spec (ws := wsX1_settle) B.pre
  have hown : s.vm.findClass RX1 = some m.cls := findClass_of_methodNamed B.named
  have hlocks := B.notSynchronized
  have hD := hD0.self (sz := s.heap.size)
  obtain ⟨A, hAe⟩ : ∃ A, A = va_A (tv_mw cI cZ h a1 a2 a3 a4 th (rd, lv, op, nt)) s.heap.size := ⟨_, rfl⟩
  rw [← hAe] at hD
  have hA : ∀ q : Nat, s.heap.size ≤ q → A q := fun q h => by rw [hAe]; exact Or.inr h
  have hS : va_S A s.heap s.heap [] := va_S.rf
  clear hD0
  have hl := lv_entry ([.ref h, .int x1, .int x2]) (n := 7) (Nat.le_of_ble_eq_true rfl)
  rw [lg_entry_eq]
  generalize (lg_sl ([.ref h, .int x1, .int x2]) ++ List.replicate (7 - (lg_sl ([.ref h, .int x1, .int x2])).length) Slot.unset).toArray = ls at hl ⊢
  have hl : lv_has ls 7 [(0, .ref h), (1, .int x1), (2, .int x2)] := hl
  refine lv_aload_n hx hb dX1_settle_0 rfl (lv_at hl 0 rfl) ?_
  have j1 : ∀ X : Bool, X = (tv_in 8 x1) → W p l e (headSpec wsX1_settle tv_rmM).room s m ([.ref h, .int x1, .int x2] : List Value).toArray below meth c s.heap [] 0 0 (MQ below (tv_QM D cI cZ cL (tv_mw cI cZ h a1 a2 a3 a4) (tv_mw cI cZ h a1 a2 a3 a4 th (rd, lv, op, nt)) s.heap.size V) ([.ref h, .int x1, .int x2] : List Value).toArray s 0 0 (va_A (tv_mw cI cZ h a1 a2 a3 a4 th (rd, lv, op, nt)) s.heap.size)) (F0 m 5 ls [.int (tv_b X), .ref h]) := by
    intro X hX
    have j2 : ∀ Y : Bool, Y = (tv_sg x2) → W p l e (headSpec wsX1_settle tv_rmM).room s m ([.ref h, .int x1, .int x2] : List Value).toArray below meth c s.heap [] 0 0 (MQ below (tv_QM D cI cZ cL (tv_mw cI cZ h a1 a2 a3 a4) (tv_mw cI cZ h a1 a2 a3 a4 th (rd, lv, op, nt)) s.heap.size V) ([.ref h, .int x1, .int x2] : List Value).toArray s 0 0 (va_A (tv_mw cI cZ h a1 a2 a3 a4 th (rd, lv, op, nt)) s.heap.size)) (F0 m 9 ls [.int (tv_b Y), .int (tv_b X), .ref h]) := by
      intro Y hY
      refine tv_callW (D := D) (ws := tv_mw cI cZ h a1 a2 a3 a4 th (rd, lv, op, nt)) (wc := [(h, .inr (1, [.ref a1, .ref a2, .ref a3, .ref a4, .int th]))]) (wr := [(a1, .inl (cI, 96, .inl (rd))), (a2, .inl (cI, 8, .inl (lv))), (a3, .inl (cZ, 4, .inl (op))), (a4, .inl (cI, 8, .inl (nt)))]) (wc' := [(h, .inr (1, [.ref a1, .ref a2, .ref a3, .ref a4, .int (tv_cd X Y)]))]) (wsN := tv_mw cI cZ h a1 a2 a3 a4 (tv_cd X Y) (rd, lv, op, nt)) (r := tv_b (X && Y)) (va_runV (As := [.int (tv_b X), .int (tv_b Y)]) (rest := []) ⟨hx, hb, hml, hown, hts⟩ (c_X1_may l D cI cZ cL h a1 a2 a3 a4 th s.heap.size X Y) (cwV 2 hts gX1_settle_X1_may rfl rfl rfl (by decide +kernel) ⟨Nat.le_of_ble_eq_true rfl, Nat.le_of_ble_eq_true rfl⟩) (tv_preDV hP hK hD [0] rfl rfl rfl rfl 0 rfl) rfl rfl hl.1 rfl (lv_room (Nat.le_of_ble_eq_true rfl)) dX1_settle_9 ⟨Nat.le_of_ble_eq_true rfl, Nat.le_of_ble_eq_true rfl⟩) hP hD hS hA [0] [1, 2, 3, 4] rfl rfl rfl (by decide) [4, 0, 1, 2, 3] rfl rfl rfl (fun H locs hP hD hS => ?_)
      cases hab : (X && Y) with
      | false =>
        have hV1 : V = (tv_cd X Y, 0, (rd, lv, op, nt)) := by
          rw [hV]; unfold sp_settle; rw [← hX, ← hY]; exact sp_cd hab
        refine lv_if_ne (tgt := 17) hx hb dX1_settle_12 (by decide) (fun c_1 => ?_) (fun c_1 => ?_)
        · exact absurd rfl c_1
        · skip
          refine lv_iconst (v := 0) hx hb dX1_settle_15 (by decide) ?_
          exact tv_iretM (wf := (tv_mw cI cZ h a1 a2 a3 a4)) (th := tv_cd X Y) (z := 0) (σ := (rd, lv, op, nt)) (r := 0) hAe hV1 (fun _ => rfl) hx hb hr hP hK hD hS dX1_settle_16 hlocks
      | true =>
        obtain ⟨hX1, hY1⟩ := Bool.and_eq_true_iff.mp hab
        subst hX1
        subst hY1
        refine lv_if_ne (tgt := 17) hx hb dX1_settle_12 (by decide) (fun c_2 => ?_) (fun c_2 => ?_)
        · skip
          have hP : va_P D vwCl (tv_mw cI cZ h a1 a2 a3 a4 0 (rd, lv, op, nt)) H := hP
          have hD : va_D A (tv_mw cI cZ h a1 a2 a3 a4 0 (rd, lv, op, nt)) := hD
          have hX := hX.symm
          have g1 := hX
          have hY := hY.symm
          have g2 := hY
          obtain ⟨r, hr8, rfl⟩ := tv_in_of (by omega) g1
          refine lv_iconst (v := 0) hx hb dX1_settle_17 (by decide) ?_
          refine lv_istore_n (lv' := [(3, .int 0), (0, .ref h), (1, .int (nI r)), (2, .int x2)]) hx hb dX1_settle_18 rfl hl (by decide) rfl (fun ls hl => ?_)
          refine lv_iconst (v := 1) hx hb dX1_settle_19 (by decide) ?_
          refine lv_istore (lv' := [(4, .int 1), (3, .int 0), (0, .ref h), (1, .int (nI r)), (2, .int x2)]) hx hb dX1_settle_20 hl (by decide) rfl (fun ls hl => ?_)
          have hV0 : V = (0, (se x2 r rd 11).2, ((se x2 r rd 11).1, lv, op, nt)) := by
            rw [hV]; simp only [sp_settle, tN, nI_clamp (show r < 2 ^ 31 by omega), g1, g2, Bool.and_false, Bool.false_and, Bool.and_true, Bool.true_and, Bool.and_self, sp_f, sp_tf, sp_tt]
          have loop : ∀ (n k : Nat), k + n = 11 → ∀ (H : Heap) (locs : List Loc), va_P D vwCl (tv_mw cI cZ h a1 a2 a3 a4 0 ((se x2 r rd k).1, lv, op, nt)) H → va_D A (tv_mw cI cZ h a1 a2 a3 a4 0 ((se x2 r rd k).1, lv, op, nt)) → va_S A s.heap H locs → ∀ ls : Array Slot, lv_has ls 7 [(0, .ref h), (1, .int (nI r)), (2, .int x2), (3, .int ((se x2 r rd k).2)), (4, .int (nI (k + 1)))] → W p l e (headSpec wsX1_settle tv_rmM).room s m ([.ref h, .int (nI r), .int x2] : List Value).toArray below meth c H locs 0 0 (MQ below (tv_QM D cI cZ cL (tv_mw cI cZ h a1 a2 a3 a4) (tv_mw cI cZ h a1 a2 a3 a4 th (rd, lv, op, nt)) s.heap.size V) ([.ref h, .int (nI r), .int x2] : List Value).toArray s 0 0 (va_A (tv_mw cI cZ h a1 a2 a3 a4 th (rd, lv, op, nt)) s.heap.size)) (F0 m 22 ls []) := by
            intro n
            induction n with
            | zero =>
              intro k hk H locs hP hD hS ls hl
              have hk2 : k = 11 := by omega
              subst hk2
              refine lv_iload hx hb dX1_settle_22 (lv_at hl 4 rfl) ?_
              refine lv_bipush (v := 12) hx hb dX1_settle_24 (by decide) ?_
              refine lv_icmp_ge (tgt := 122) hx hb dX1_settle_26 (by decide) (fun c_3 => ?_) (fun c_3 => ?_)
              · skip
                refine lv_iload_n hx hb dX1_settle_122 rfl (lv_at hl 3 rfl) ?_
                exact tv_iretM (wf := (tv_mw cI cZ h a1 a2 a3 a4)) (th := 0) (z := (se x2 r rd 11).2) (σ := ((se x2 r rd 11).1, lv, op, nt)) (r := (se x2 r rd 11).2) hAe hV0 (fun _ => rfl) hx hb hr hP hK hD hS dX1_settle_123 hlocks
              · exact absurd (show nI 12 ≤ nI 12 from nI_le (Nat.le_refl _) (by omega)) c_3
            | succ n ih =>
              intro k hk H locs hP hD hS ls hl
              refine lv_iload hx hb dX1_settle_22 (lv_at hl 4 rfl) ?_
              refine lv_bipush (v := 12) hx hb dX1_settle_24 (by decide) ?_
              refine lv_icmp_ge (tgt := 122) hx hb dX1_settle_26 (by decide) (fun c_4 => ?_) (fun c_4 => ?_)
              · exact absurd (show nI 12 ≤ nI (k + 1) from c_4) (nI_ge (by omega) (by omega))
              · skip
                refine lv_iload hx hb dX1_settle_29 (lv_at hl 4 rfl) ?_
                refine lv_istore (lv' := [(5, .int (nI (k + 1))), (0, .ref h), (1, .int (nI r)), (2, .int x2), (3, .int ((se x2 r rd k).2)), (4, .int (nI (k + 1)))]) hx hb dX1_settle_31 hl (by decide) rfl (fun ls hl => ?_)
                have inner : ∀ (p0 : Nat) (rx : Nat → Int32) (mv : Nat) (H : Heap) (locs : List Loc), p0 ≤ k + 1 → (ml x2 r p0 rx).1 = (ml x2 r (k + 1) (se x2 r rd k).1).1 → mv + (ml x2 r p0 rx).2 = (ml x2 r (k + 1) (se x2 r rd k).1).2 → va_P D vwCl (tv_mw cI cZ h a1 a2 a3 a4 0 (rx, lv, op, nt)) H → va_D A (tv_mw cI cZ h a1 a2 a3 a4 0 (rx, lv, op, nt)) → va_S A s.heap H locs → ∀ ls : Array Slot, lv_has ls 7 [(0, .ref h), (1, .int (nI r)), (2, .int x2), (3, .int ((se x2 r rd k).2 + nI mv)), (4, .int (nI (k + 1))), (5, .int (nI p0))] → W p l e (headSpec wsX1_settle tv_rmM).room s m ([.ref h, .int (nI r), .int x2] : List Value).toArray below meth c H locs 0 0 (MQ below (tv_QM D cI cZ cL (tv_mw cI cZ h a1 a2 a3 a4) (tv_mw cI cZ h a1 a2 a3 a4 th (rd, lv, op, nt)) s.heap.size V) ([.ref h, .int (nI r), .int x2] : List Value).toArray s 0 0 (va_A (tv_mw cI cZ h a1 a2 a3 a4 th (rd, lv, op, nt)) s.heap.size)) (F0 m 33 ls []) := by
                  intro p0
                  induction p0 with
                  | zero =>
                    intro rx mv H locs h1 h2 h3 hP hD hS ls hl
                    refine lv_iload hx hb dX1_settle_33 (lv_at hl 5 rfl) ?_
                    refine lv_if_le (tgt := 116) hx hb dX1_settle_35 (by decide) (fun c_5 => ?_) (fun c_5 => ?_)
                    · skip
                      refine lv_iinc (v := nI ((k + 1) + 1)) (lv' := [(4, .int (nI ((k + 1) + 1))), (0, .ref h), (1, .int (nI r)), (2, .int x2), (3, .int ((se x2 r rd k).2 + nI mv)), (5, .int (nI 0))]) hx hb dX1_settle_116 hl (k := 4) rfl (nI_1 (k + 1)) (by decide) rfl (fun ls hl => ?_)
                      refine lv_goto (tgt := 22) hx hb dX1_settle_119 (by decide) ?_
                      have hF : rx = (se x2 r rd (k + 1)).1 := h2
                      rw [hF] at hP hD
                      exact ih (k + 1) (by omega) H locs hP hD hS ls (by rw [show (se x2 r rd (k + 1)).2 = (se x2 r rd k).2 + nI mv from by show (se x2 r rd k).2 + nI (ml x2 r (k + 1) (se x2 r rd k).1).2 = _; rw [← h3]; rfl]; exact lv_sub hl [1, 2, 3, 4, 0] rfl)
                    · exact absurd (show nI 0 ≤ 0 from by decide) c_5
                  | succ p0 ih2 =>
                    intro rx mv H locs h1 h2 h3 hP hD hS ls hl
                    refine lv_iload hx hb dX1_settle_33 (lv_at hl 5 rfl) ?_
                    refine lv_if_le (tgt := 116) hx hb dX1_settle_35 (by decide) (fun c_6 => ?_) (fun c_6 => ?_)
                    · exact absurd c_6 (nI_nle (by omega) (by omega))
                    · skip
                      refine lv_iload_n hx hb dX1_settle_38 rfl (lv_at hl 2 rfl) ?_
                      refine lv_aload_n hx hb dX1_settle_39 rfl (lv_at hl 0 rfl) ?_
                      refine lv_iload_n hx hb dX1_settle_40 rfl (lv_at hl 1 rfl) ?_
                      refine lv_iload hx hb dX1_settle_41 (lv_at hl 5 rfl) ?_
                      refine tv_callR (W.runV (As := [.int (nI r), .int (nI (p0 + 1))]) (rest := [.int x2]) ⟨hx, hb, hml, hown, hts⟩ (c_X1_at l D cI cZ cL h a1 a2 a3 a4 rx lv op nt 0 r (p0 + 1) hr8 (by omega)) (cwV 2 hts gX1_settle_X1_at rfl rfl rfl (by decide +kernel) ⟨Nat.le_of_ble_eq_true rfl, Nat.le_of_ble_eq_true rfl⟩) (tv_preV hP hK rfl 0 rfl) rfl rfl hl.1 rfl (lv_room (Nat.le_of_ble_eq_true rfl)) dX1_settle_43 ⟨Nat.le_of_ble_eq_true rfl, Nat.le_of_ble_eq_true rfl⟩) ?_
                      refine lv_aload_n hx hb dX1_settle_46 rfl (lv_at hl 0 rfl) ?_
                      refine lv_iload_n hx hb dX1_settle_47 rfl (lv_at hl 1 rfl) ?_
                      refine lv_iload hx hb dX1_settle_48 (lv_at hl 5 rfl) ?_
                      refine lv_iconst (v := 1) hx hb dX1_settle_50 (by decide) ?_
                      refine lv_isub hx hb dX1_settle_51 ?_
                      refine tv_top (nI p0) (nI_pred p0) ?_
                      refine tv_callR (W.runV (As := [.int (nI r), .int (nI p0)]) (rest := [.int (rx (12 * r + (p0 + 1))), .int x2]) ⟨hx, hb, hml, hown, hts⟩ (c_X1_at l D cI cZ cL h a1 a2 a3 a4 rx lv op nt 0 r p0 hr8 (by omega)) (cwV 2 hts gX1_settle_X1_at rfl rfl rfl (by decide +kernel) ⟨Nat.le_of_ble_eq_true rfl, Nat.le_of_ble_eq_true rfl⟩) (tv_preV hP hK rfl 0 rfl) rfl rfl hl.1 rfl (lv_room (Nat.le_of_ble_eq_true rfl)) dX1_settle_52 ⟨Nat.le_of_ble_eq_true rfl, Nat.le_of_ble_eq_true rfl⟩) ?_
                      refine tv_callR (W.runS (As := [.int x2, .int (rx (12 * r + (p0 + 1))), .int (rx (12 * r + p0))]) (rest := []) ⟨hx, hb, hml, hown, hts⟩ (c_X1_isTrue l x2 (rx (12 * r + (p0 + 1))) (rx (12 * r + p0))) (va_cwS 3 hts gX1_settle_X1_isTrue rfl rfl rfl (by decide +kernel) ⟨Nat.le_of_ble_eq_true rfl, Nat.le_of_ble_eq_true rfl⟩) preEq rfl rfl hl.1 rfl (lv_room (Nat.le_of_ble_eq_true rfl)) dX1_settle_55 ⟨Nat.le_of_ble_eq_true rfl, Nat.le_of_ble_eq_true rfl⟩) ?_
                      refine lv_if_eq (tgt := 116) hx hb dX1_settle_58 (by decide) (fun c_7 => ?_) (fun c_7 => ?_)
                      · rw [ml, if_pos c_7] at h2 h3
                        refine lv_iinc (v := nI ((k + 1) + 1)) (lv' := [(4, .int (nI ((k + 1) + 1))), (0, .ref h), (1, .int (nI r)), (2, .int x2), (3, .int ((se x2 r rd k).2 + nI mv)), (5, .int (nI (p0 + 1)))]) hx hb dX1_settle_116 hl (k := 4) rfl (nI_1 (k + 1)) (by decide) rfl (fun ls hl => ?_)
                        refine lv_goto (tgt := 22) hx hb dX1_settle_119 (by decide) ?_
                        have hF : rx = (se x2 r rd (k + 1)).1 := h2
                        rw [hF] at hP hD
                        exact ih (k + 1) (by omega) H locs hP hD hS ls (by rw [show (se x2 r rd (k + 1)).2 = (se x2 r rd k).2 + nI mv from by show (se x2 r rd k).2 + nI (ml x2 r (k + 1) (se x2 r rd k).1).2 = _; rw [← h3]; rfl]; exact lv_sub hl [1, 2, 3, 4, 0] rfl)
                      · rw [ml, if_neg c_7] at h2 h3
                        refine lv_aload_n hx hb dX1_settle_61 rfl (lv_at hl 0 rfl) ?_
                        refine lv_iload_n hx hb dX1_settle_62 rfl (lv_at hl 1 rfl) ?_
                        refine lv_iload hx hb dX1_settle_63 (lv_at hl 5 rfl) ?_
                        refine tv_callR (W.runV (As := [.int (nI r), .int (nI (p0 + 1))]) (rest := []) ⟨hx, hb, hml, hown, hts⟩ (c_X1_at l D cI cZ cL h a1 a2 a3 a4 rx lv op nt 0 r (p0 + 1) hr8 (by omega)) (cwV 2 hts gX1_settle_X1_at rfl rfl rfl (by decide +kernel) ⟨Nat.le_of_ble_eq_true rfl, Nat.le_of_ble_eq_true rfl⟩) (tv_preV hP hK rfl 0 rfl) rfl rfl hl.1 rfl (lv_room (Nat.le_of_ble_eq_true rfl)) dX1_settle_65 ⟨Nat.le_of_ble_eq_true rfl, Nat.le_of_ble_eq_true rfl⟩) ?_
                        refine lv_istore (lv' := [(6, .int (rx (12 * r + (p0 + 1)))), (0, .ref h), (1, .int (nI r)), (2, .int x2), (3, .int ((se x2 r rd k).2 + nI mv)), (4, .int (nI (k + 1))), (5, .int (nI (p0 + 1)))]) hx hb dX1_settle_68 hl (by decide) rfl (fun ls hl => ?_)
                        refine lv_aload_n hx hb dX1_settle_70 rfl (lv_at hl 1 rfl) ?_
                        refine va_get (D := D) (ci := 1) (v := .ref a1) (C := RX1) (T := TX1) (N := 5) hx hb hts iX1_settle hown hK hP 0 rfl rfl 0 (by decide) (hts (.fieldLink RX1 7 "TideHouseModel" "readings" "[I") (by decide +kernel)) (fun _ h9 => h9) rfl dX1_settle_71 ?_
                        refine lv_bipush (v := 12) hx hb dX1_settle_74 (by decide) ?_
                        refine lv_iload_n hx hb dX1_settle_76 rfl (lv_at hl 2 rfl) ?_
                        refine lv_imul hx hb dX1_settle_77 ?_
                        refine lv_iload hx hb dX1_settle_78 (lv_at hl 6 rfl) ?_
                        refine lv_iadd hx hb dX1_settle_80 ?_
                        refine tv_top (nI (12 * r + (p0 + 1))) (tv_ix2 r (p0 + 1)) ?_
                        refine lv_aload_n hx hb dX1_settle_81 rfl (lv_at hl 1 rfl) ?_
                        refine lv_iload_n hx hb dX1_settle_82 rfl (lv_at hl 2 rfl) ?_
                        refine lv_iload hx hb dX1_settle_83 (lv_at hl 6 rfl) ?_
                        refine lv_iconst (v := 1) hx hb dX1_settle_85 (by decide) ?_
                        refine lv_isub hx hb dX1_settle_86 ?_
                        refine tv_top (nI p0) (nI_pred p0) ?_
                        refine tv_callR (W.runV (As := [.int (nI r), .int (nI p0)]) (rest := [.int (nI (12 * r + (p0 + 1))), .ref a1]) ⟨hx, hb, hml, hown, hts⟩ (c_X1_at l D cI cZ cL h a1 a2 a3 a4 rx lv op nt 0 r p0 hr8 (by omega)) (cwV 2 hts gX1_settle_X1_at rfl rfl rfl (by decide +kernel) ⟨Nat.le_of_ble_eq_true rfl, Nat.le_of_ble_eq_true rfl⟩) (tv_preV hP hK rfl 0 rfl) rfl rfl hl.1 rfl (lv_room (Nat.le_of_ble_eq_true rfl)) dX1_settle_87 ⟨Nat.le_of_ble_eq_true rfl, Nat.le_of_ble_eq_true rfl⟩) ?_
                        refine tv_iast (D := D) (cA := cI) (n := 96) (f := rx) (k := (12 * r + (p0 + 1))) (x := rx (12 * r + p0)) (ws1 := tv_mw cI cZ h a1 a2 a3 a4 0 (upd rx (12 * r + (p0 + 1)) (rx (12 * r + p0)), lv, op, nt)) hx hb hK hP hD hS 1 0 rfl rfl (by omega) (by omega) rfl dX1_settle_90 (fun H locs hP hD hS => ?_)
                        refine lv_aload_n hx hb dX1_settle_91 rfl (lv_at hl 1 rfl) ?_
                        refine va_get (D := D) (ci := 1) (v := .ref a1) (C := RX1) (T := TX1) (N := 5) hx hb hts iX1_settle hown hK hP 0 rfl rfl 0 (by decide) (hts (.fieldLink RX1 7 "TideHouseModel" "readings" "[I") (by decide +kernel)) (fun _ h9 => h9) rfl dX1_settle_92 ?_
                        refine lv_bipush (v := 12) hx hb dX1_settle_95 (by decide) ?_
                        refine lv_iload_n hx hb dX1_settle_97 rfl (lv_at hl 2 rfl) ?_
                        refine lv_imul hx hb dX1_settle_98 ?_
                        refine lv_iload hx hb dX1_settle_99 (lv_at hl 6 rfl) ?_
                        refine lv_iadd hx hb dX1_settle_101 ?_
                        refine tv_top (nI (12 * r + (p0 + 1))) (tv_ix2 r (p0 + 1)) ?_
                        refine lv_iconst (v := 1) hx hb dX1_settle_102 (by decide) ?_
                        refine lv_isub hx hb dX1_settle_103 ?_
                        refine tv_top (nI (12 * r + p0)) (nI_pred (12 * r + p0)) ?_
                        refine lv_iload hx hb dX1_settle_104 (lv_at hl 0 rfl) ?_
                        refine tv_iast (D := D) (cA := cI) (n := 96) (f := upd rx (12 * r + (p0 + 1)) (rx (12 * r + p0))) (k := (12 * r + p0)) (x := rx (12 * r + (p0 + 1))) (ws1 := tv_mw cI cZ h a1 a2 a3 a4 0 (upd (upd rx (12 * r + (p0 + 1)) (rx (12 * r + p0))) (12 * r + p0) (rx (12 * r + (p0 + 1))), lv, op, nt)) hx hb hK hP hD hS 1 0 rfl rfl (by omega) (by omega) rfl dX1_settle_106 (fun H locs hP hD hS => ?_)
                        refine lv_iinc (v := nI p0) (lv' := [(5, .int (nI p0)), (6, .int (rx (12 * r + (p0 + 1)))), (0, .ref h), (1, .int (nI r)), (2, .int x2), (3, .int ((se x2 r rd k).2 + nI mv)), (4, .int (nI (k + 1)))]) hx hb dX1_settle_107 hl (k := 6) rfl (pk_m1 p0) (by decide) rfl (fun ls hl => ?_)
                        refine lv_iinc (v := (se x2 r rd k).2 + nI mv + 1) (lv' := [(3, .int ((se x2 r rd k).2 + nI mv + 1)), (5, .int (nI p0)), (6, .int (rx (12 * r + (p0 + 1)))), (0, .ref h), (1, .int (nI r)), (2, .int x2), (4, .int (nI (k + 1)))]) hx hb dX1_settle_110 hl (k := 5) rfl (rfl) (by decide) rfl (fun ls hl => ?_)
                        refine lv_goto (tgt := 33) hx hb dX1_settle_113 (by decide) ?_
                        exact ih2 (upd (upd rx (12 * r + (p0 + 1)) (rx (12 * r + p0))) (12 * r + p0) (rx (12 * r + (p0 + 1)))) (mv + 1) H locs (by omega) h2 (by simp only at h3; omega) hP hD hS ls (by rw [show (se x2 r rd k).2 + nI (mv + 1) = (se x2 r rd k).2 + nI mv + 1 from by rw [← nI_1, Int32.add_assoc]]; exact lv_sub hl [3, 4, 5, 0, 6, 1] rfl)
                exact inner (k + 1) (se x2 r rd k).1 0 H locs (Nat.le_refl _) rfl (Nat.zero_add _) hP hD hS ls (by rw [show (se x2 r rd k).2 + nI 0 = (se x2 r rd k).2 from by rw [nI_0]; simp]; exact lv_sub hl [1, 2, 3, 4, 5, 0] rfl)
          exact loop 11 0 (by omega) H locs hP hD hS ls (by rw [show (se x2 r rd 0).2 = 0 from rfl, show nI (0 + 1) = 1 from rfl]; exact lv_sub hl [2, 3, 4, 1, 0] rfl)
        · exact absurd c_2 (by decide)
    refine lv_iload_n hx hb dX1_settle_5 rfl (lv_at hl 2 rfl) ?_
    refine tv_callR (W.runS (As := [.int x2]) (rest := [.int (tv_b X), .ref h]) ⟨hx, hb, hml, hown, hts⟩ (c_X1_isSign l x2) (va_cwS 1 hts gX1_settle_X1_isSign rfl rfl rfl (by decide +kernel) ⟨Nat.le_of_ble_eq_true rfl, Nat.le_of_ble_eq_true rfl⟩) preEq rfl rfl hl.1 rfl (lv_room (Nat.le_of_ble_eq_true rfl)) dX1_settle_6 ⟨Nat.le_of_ble_eq_true rfl, Nat.le_of_ble_eq_true rfl⟩) ?_
    exact j2 _ rfl
  refine lv_iload_n hx hb dX1_settle_1 rfl (lv_at hl 1 rfl) ?_
  refine tv_callR (W.runS (As := [.int x1]) (rest := [.ref h]) ⟨hx, hb, hml, hown, hts⟩ (c_X1_isRow l x1) (va_cwS 1 hts gX1_settle_X1_isRow rfl rfl rfl (by decide +kernel) ⟨Nat.le_of_ble_eq_true rfl, Nat.le_of_ble_eq_true rfl⟩) preEq rfl rfl hl.1 rfl (lv_room (Nat.le_of_ble_eq_true rfl)) dX1_settle_2 ⟨Nat.le_of_ble_eq_true rfl, Nat.le_of_ble_eq_true rfl⟩) ?_
  exact j1 _ rfl
set_option maxHeartbeats 4000000 in
set_option maxRecDepth 100000 in
theorem c_X1_alike (l : Launch) (D : va_G) (cI cZ cL : ClassId) (h a1 a2 a3 a4 : Nat) (rd lv op nt : Nat → Int32) (th : Int32) (sz : Nat) (x1 x2 : Int32) (V : TV) (hV : V = sp_alike x1 x2 (rd, lv, op, nt)) : Met l yX1_alike wsX1_alike tv_rmM (tv_Pd D cI cZ cL (tv_mw cI cZ h a1 a2 a3 a4 th (rd, lv, op, nt)) sz [.ref h, .int x1, .int x2]) (tv_QM D cI cZ cL (tv_mw cI cZ h a1 a2 a3 a4) (tv_mw cI cZ h a1 a2 a3 a4 th (rd, lv, op, nt)) sz V) 0 0 (va_A (tv_mw cI cZ h a1 a2 a3 a4 th (rd, lv, op, nt)) sz) := by
  refine Met.ofW (cc := cX1_alike) (maxL := 5) (ret := (some .boolean)) (by decide) rfl ?_
  intro p e s m args below meth c s₁ B hml hv
  obtain ⟨rfl, hsz, hP, hK, hD0⟩ := hv
  subst hsz
  have hx := B.exec
  have hb := B.bytes
  have hr := B.returns
  have hts := atoms_spec (ws := wsX1_alike) B.pre
  have hown : s.vm.findClass RX1 = some m.cls := findClass_of_methodNamed B.named
  have hlocks := B.notSynchronized
  have hD := hD0.self (sz := s.heap.size)
  obtain ⟨A, hAe⟩ : ∃ A, A = va_A (tv_mw cI cZ h a1 a2 a3 a4 th (rd, lv, op, nt)) s.heap.size := ⟨_, rfl⟩
  rw [← hAe] at hD
  have hA : ∀ q : Nat, s.heap.size ≤ q → A q := fun q h => by rw [hAe]; exact Or.inr h
  have hS : va_S A s.heap s.heap [] := va_S.rf
  clear hD0
  have hl := lv_entry ([.ref h, .int x1, .int x2]) (n := 5) (Nat.le_of_ble_eq_true rfl)
  rw [lg_entry_eq]
  generalize (lg_sl ([.ref h, .int x1, .int x2]) ++ List.replicate (5 - (lg_sl ([.ref h, .int x1, .int x2])).length) Slot.unset).toArray = ls at hl ⊢
  have hl : lv_has ls 5 [(0, .ref h), (1, .int x1), (2, .int x2)] := hl
  refine lv_aload_n hx hb dX1_alike_0 rfl (lv_at hl 0 rfl) ?_
  have j1 : ∀ X : Bool, X = (tv_in 8 x1 && tv_in 8 x2) → W p l e (headSpec wsX1_alike tv_rmM).room s m ([.ref h, .int x1, .int x2] : List Value).toArray below meth c s.heap [] 0 0 (MQ below (tv_QM D cI cZ cL (tv_mw cI cZ h a1 a2 a3 a4) (tv_mw cI cZ h a1 a2 a3 a4 th (rd, lv, op, nt)) s.heap.size V) ([.ref h, .int x1, .int x2] : List Value).toArray s 0 0 (va_A (tv_mw cI cZ h a1 a2 a3 a4 th (rd, lv, op, nt)) s.heap.size)) (F0 m 20 ls [.int (tv_b X), .ref h]) := by
    intro X hX
    have j2 : ∀ Y : Bool, Y = (tv_os x1 x2) → W p l e (headSpec wsX1_alike tv_rmM).room s m ([.ref h, .int x1, .int x2] : List Value).toArray below meth c s.heap [] 0 0 (MQ below (tv_QM D cI cZ cL (tv_mw cI cZ h a1 a2 a3 a4) (tv_mw cI cZ h a1 a2 a3 a4 th (rd, lv, op, nt)) s.heap.size V) ([.ref h, .int x1, .int x2] : List Value).toArray s 0 0 (va_A (tv_mw cI cZ h a1 a2 a3 a4 th (rd, lv, op, nt)) s.heap.size)) (F0 m 25 ls [.int (tv_b Y), .int (tv_b X), .ref h]) := by
      intro Y hY
      refine tv_callW (D := D) (ws := tv_mw cI cZ h a1 a2 a3 a4 th (rd, lv, op, nt)) (wc := [(h, .inr (1, [.ref a1, .ref a2, .ref a3, .ref a4, .int th]))]) (wr := [(a1, .inl (cI, 96, .inl (rd))), (a2, .inl (cI, 8, .inl (lv))), (a3, .inl (cZ, 4, .inl (op))), (a4, .inl (cI, 8, .inl (nt)))]) (wc' := [(h, .inr (1, [.ref a1, .ref a2, .ref a3, .ref a4, .int (tv_cd X Y)]))]) (wsN := tv_mw cI cZ h a1 a2 a3 a4 (tv_cd X Y) (rd, lv, op, nt)) (r := tv_b (X && Y)) (va_runV (As := [.int (tv_b X), .int (tv_b Y)]) (rest := []) ⟨hx, hb, hml, hown, hts⟩ (c_X1_may l D cI cZ cL h a1 a2 a3 a4 th s.heap.size X Y) (cwV 2 hts gX1_alike_X1_may rfl rfl rfl (by decide +kernel) ⟨Nat.le_of_ble_eq_true rfl, Nat.le_of_ble_eq_true rfl⟩) (tv_preDV hP hK hD [0] rfl rfl rfl rfl 0 rfl) rfl rfl hl.1 rfl (lv_room (Nat.le_of_ble_eq_true rfl)) dX1_alike_25 ⟨Nat.le_of_ble_eq_true rfl, Nat.le_of_ble_eq_true rfl⟩) hP hD hS hA [0] [1, 2, 3, 4] rfl rfl rfl (by decide) [4, 0, 1, 2, 3] rfl rfl rfl (fun H locs hP hD hS => ?_)
      cases hab : (X && Y) with
      | false =>
        have hV1 : V = (tv_cd X Y, 0, (rd, lv, op, nt)) := by
          rw [hV]; unfold sp_alike; rw [← hX, ← hY]; exact sp_cd hab
        refine lv_if_ne (tgt := 33) hx hb dX1_alike_28 (by decide) (fun c_1 => ?_) (fun c_1 => ?_)
        · exact absurd rfl c_1
        · skip
          refine lv_iconst (v := 0) hx hb dX1_alike_31 (by decide) ?_
          exact tv_zretM (by decide) (wf := (tv_mw cI cZ h a1 a2 a3 a4)) (th := tv_cd X Y) (z := 0) (σ := (rd, lv, op, nt)) (r := 0) hAe hV1 (fun _ => rfl) hx hb hr hP hK hD hS dX1_alike_32 hlocks
      | true =>
        obtain ⟨hX1, hY1⟩ := Bool.and_eq_true_iff.mp hab
        subst hX1
        subst hY1
        refine lv_if_ne (tgt := 33) hx hb dX1_alike_28 (by decide) (fun c_2 => ?_) (fun c_2 => ?_)
        · skip
          have hP : va_P D vwCl (tv_mw cI cZ h a1 a2 a3 a4 0 (rd, lv, op, nt)) H := hP
          have hD : va_D A (tv_mw cI cZ h a1 a2 a3 a4 0 (rd, lv, op, nt)) := hD
          have hX := hX.symm
          simp only [Bool.and_eq_true] at hX
          obtain ⟨g1, g2⟩ := hX
          have hY := hY.symm
          have g3 := hY
          obtain ⟨r, hr8, rfl⟩ := tv_in_of (by omega) g1
          obtain ⟨q, hq8, rfl⟩ := tv_in_of (by omega) g2
          refine lv_iconst (v := 1) hx hb dX1_alike_33 (by decide) ?_
          refine lv_istore_n (lv' := [(3, .int 1), (0, .ref h), (1, .int (nI r)), (2, .int (nI q))]) hx hb dX1_alike_34 rfl hl (by decide) rfl (fun ls hl => ?_)
          refine lv_iconst (v := 0) hx hb dX1_alike_35 (by decide) ?_
          refine lv_istore (lv' := [(4, .int 0), (3, .int 1), (0, .ref h), (1, .int (nI r)), (2, .int (nI q))]) hx hb dX1_alike_36 hl (by decide) rfl (fun ls hl => ?_)
          have hV0 : V = (0, al (fun k => rw12 rd r k = rw12 rd q k) (fun _ => inferInstance) 12, (rd, lv, op, nt)) := by
            rw [hV]; simp only [sp_alike, tN, nI_clamp (show r < 2 ^ 31 by omega), nI_clamp (show q < 2 ^ 31 by omega), g1, g2, g3, Bool.and_false, Bool.false_and, Bool.and_true, Bool.true_and, Bool.and_self, sp_f, sp_tf, sp_tt]; rw [nI_clamp (show r < 2 ^ 31 by omega), nI_clamp (show q < 2 ^ 31 by omega)]
          have loop : ∀ (n k : Nat), k + n = 12 → ∀ ls : Array Slot, lv_has ls 5 [(0, .ref h), (1, .int (nI r)), (2, .int (nI q)), (3, .int (al (fun k => rw12 rd r k = rw12 rd q k) (fun _ => inferInstance) k)), (4, .int (nI k))] → W p l e (headSpec wsX1_alike tv_rmM).room s m ([.ref h, .int (nI r), .int (nI q)] : List Value).toArray below meth c H locs 0 0 (MQ below (tv_QM D cI cZ cL (tv_mw cI cZ h a1 a2 a3 a4) (tv_mw cI cZ h a1 a2 a3 a4 th (rd, lv, op, nt)) s.heap.size V) ([.ref h, .int (nI r), .int (nI q)] : List Value).toArray s 0 0 (va_A (tv_mw cI cZ h a1 a2 a3 a4 th (rd, lv, op, nt)) s.heap.size)) (F0 m 38 ls []) := by
            intro n
            induction n with
            | zero =>
              intro k hk ls hl
              have hk2 : k = 12 := by omega
              subst hk2
              refine lv_iload hx hb dX1_alike_38 (lv_at hl 4 rfl) ?_
              refine lv_bipush (v := 12) hx hb dX1_alike_40 (by decide) ?_
              refine lv_icmp_ge (tgt := 78) hx hb dX1_alike_42 (by decide) (fun c_3 => ?_) (fun c_3 => ?_)
              · skip
                refine lv_iload_n hx hb dX1_alike_78 rfl (lv_at hl 3 rfl) ?_
                exact tv_zretM (al01 12) (wf := (tv_mw cI cZ h a1 a2 a3 a4)) (th := 0) (z := al (fun k => rw12 rd r k = rw12 rd q k) (fun _ => inferInstance) 12) (σ := (rd, lv, op, nt)) (r := al (fun k => rw12 rd r k = rw12 rd q k) (fun _ => inferInstance) 12) hAe hV0 (fun _ => rfl) hx hb hr hP hK hD hS dX1_alike_79 hlocks
              · exact absurd (show nI 12 ≤ nI 12 from nI_le (Nat.le_refl _) (by omega)) c_3
            | succ n ih =>
              intro k hk ls hl
              refine lv_iload hx hb dX1_alike_38 (lv_at hl 4 rfl) ?_
              refine lv_bipush (v := 12) hx hb dX1_alike_40 (by decide) ?_
              refine lv_icmp_ge (tgt := 78) hx hb dX1_alike_42 (by decide) (fun c_4 => ?_) (fun c_4 => ?_)
              · exact absurd (show nI 12 ≤ nI k from c_4) (nI_ge (by omega) (by omega))
              · skip
                refine lv_iload_n hx hb dX1_alike_45 rfl (lv_at hl 3 rfl) ?_
                refine lv_if_eq (tgt := 70) hx hb dX1_alike_46 (by decide) (fun c_5 => ?_) (fun c_5 => ?_)
                · skip
                  refine lv_iconst (v := 0) hx hb dX1_alike_70 (by decide) ?_
                  refine lv_istore_n (lv' := [(3, .int 0), (0, .ref h), (1, .int (nI r)), (2, .int (nI q)), (4, .int (nI k))]) hx hb dX1_alike_71 rfl hl (by decide) rfl (fun ls hl => ?_)
                  refine lv_iinc (v := nI (k + 1)) (lv' := [(4, .int (nI (k + 1))), (3, .int 0), (0, .ref h), (1, .int (nI r)), (2, .int (nI q))]) hx hb dX1_alike_72 hl (k := 4) rfl (nI_1 k) (by decide) rfl (fun ls hl => ?_)
                  refine lv_goto (tgt := 38) hx hb dX1_alike_75 (by decide) ?_
                  exact ih (k + 1) (by omega) ls (by rw [show al (fun k => rw12 rd r k = rw12 rd q k) (fun _ => inferInstance) (k + 1) = 0 from by rw [al, if_pos c_5]]; exact lv_sub hl [2, 3, 4, 1, 0] rfl)
                · skip
                  refine lv_aload_n hx hb dX1_alike_49 rfl (lv_at hl 0 rfl) ?_
                  refine lv_iload_n hx hb dX1_alike_50 rfl (lv_at hl 1 rfl) ?_
                  refine lv_iload hx hb dX1_alike_51 (lv_at hl 4 rfl) ?_
                  refine tv_callR (W.runV (As := [.int (nI r), .int (nI k)]) (rest := []) ⟨hx, hb, hml, hown, hts⟩ (c_X1_at l D cI cZ cL h a1 a2 a3 a4 rd lv op nt 0 r k hr8 (by omega)) (cwV 2 hts gX1_alike_X1_at rfl rfl rfl (by decide +kernel) ⟨Nat.le_of_ble_eq_true rfl, Nat.le_of_ble_eq_true rfl⟩) (tv_preV hP hK rfl 0 rfl) rfl rfl hl.1 rfl (lv_room (Nat.le_of_ble_eq_true rfl)) dX1_alike_53 ⟨Nat.le_of_ble_eq_true rfl, Nat.le_of_ble_eq_true rfl⟩) ?_
                  refine lv_aload_n hx hb dX1_alike_56 rfl (lv_at hl 0 rfl) ?_
                  refine lv_iload_n hx hb dX1_alike_57 rfl (lv_at hl 2 rfl) ?_
                  refine lv_iload hx hb dX1_alike_58 (lv_at hl 4 rfl) ?_
                  refine tv_callR (W.runV (As := [.int (nI q), .int (nI k)]) (rest := [.int (rd (12 * r + k))]) ⟨hx, hb, hml, hown, hts⟩ (c_X1_at l D cI cZ cL h a1 a2 a3 a4 rd lv op nt 0 q k hq8 (by omega)) (cwV 2 hts gX1_alike_X1_at rfl rfl rfl (by decide +kernel) ⟨Nat.le_of_ble_eq_true rfl, Nat.le_of_ble_eq_true rfl⟩) (tv_preV hP hK rfl 0 rfl) rfl rfl hl.1 rfl (lv_room (Nat.le_of_ble_eq_true rfl)) dX1_alike_60 ⟨Nat.le_of_ble_eq_true rfl, Nat.le_of_ble_eq_true rfl⟩) ?_
                  refine lv_icmp_ne (tgt := 70) hx hb dX1_alike_63 (by decide) (fun c_6 => ?_) (fun c_6 => ?_)
                  · skip
                    refine lv_iconst (v := 0) hx hb dX1_alike_70 (by decide) ?_
                    refine lv_istore_n (lv' := [(3, .int 0), (0, .ref h), (1, .int (nI r)), (2, .int (nI q)), (4, .int (nI k))]) hx hb dX1_alike_71 rfl hl (by decide) rfl (fun ls hl => ?_)
                    refine lv_iinc (v := nI (k + 1)) (lv' := [(4, .int (nI (k + 1))), (3, .int 0), (0, .ref h), (1, .int (nI r)), (2, .int (nI q))]) hx hb dX1_alike_72 hl (k := 4) rfl (nI_1 k) (by decide) rfl (fun ls hl => ?_)
                    refine lv_goto (tgt := 38) hx hb dX1_alike_75 (by decide) ?_
                    exact ih (k + 1) (by omega) ls (by rw [show al (fun k => rw12 rd r k = rw12 rd q k) (fun _ => inferInstance) (k + 1) = 0 from by rw [al, if_neg c_5]; exact if_neg c_6]; exact lv_sub hl [2, 3, 4, 1, 0] rfl)
                  · skip
                    refine lv_iconst (v := 1) hx hb dX1_alike_66 (by decide) ?_
                    refine lv_goto (tgt := 71) hx hb dX1_alike_67 (by decide) ?_
                    refine lv_istore_n (lv' := [(3, .int 1), (0, .ref h), (1, .int (nI r)), (2, .int (nI q)), (4, .int (nI k))]) hx hb dX1_alike_71 rfl hl (by decide) rfl (fun ls hl => ?_)
                    refine lv_iinc (v := nI (k + 1)) (lv' := [(4, .int (nI (k + 1))), (3, .int 1), (0, .ref h), (1, .int (nI r)), (2, .int (nI q))]) hx hb dX1_alike_72 hl (k := 4) rfl (nI_1 k) (by decide) rfl (fun ls hl => ?_)
                    refine lv_goto (tgt := 38) hx hb dX1_alike_75 (by decide) ?_
                    exact ih (k + 1) (by omega) ls (by rw [show al (fun k => rw12 rd r k = rw12 rd q k) (fun _ => inferInstance) (k + 1) = 1 from by rw [al, if_neg c_5]; exact if_pos c_6]; exact lv_sub hl [2, 3, 4, 1, 0] rfl)
          exact loop 12 0 (by omega) ls (by rw [show al (fun k => rw12 rd r k = rw12 rd q k) (fun _ => inferInstance) 0 = 1 from rfl, show nI 0 = 0 from nI_0]; exact lv_sub hl [2, 3, 4, 1, 0] rfl)
        · exact absurd c_2 (by decide)
    refine lv_iload_n hx hb dX1_alike_20 rfl (lv_at hl 1 rfl) ?_
    refine lv_iload_n hx hb dX1_alike_21 rfl (lv_at hl 2 rfl) ?_
    refine tv_callR (W.runS (As := [.int x1, .int x2]) (rest := [.int (tv_b X), .ref h]) ⟨hx, hb, hml, hown, hts⟩ (c_X1_areOneSort l x1 x2) (va_cwS 2 hts gX1_alike_X1_areOneSort rfl rfl rfl (by decide +kernel) ⟨Nat.le_of_ble_eq_true rfl, Nat.le_of_ble_eq_true rfl⟩) preEq rfl rfl hl.1 rfl (lv_room (Nat.le_of_ble_eq_true rfl)) dX1_alike_22 ⟨Nat.le_of_ble_eq_true rfl, Nat.le_of_ble_eq_true rfl⟩) ?_
    exact j2 _ rfl
  refine lv_iload_n hx hb dX1_alike_1 rfl (lv_at hl 1 rfl) ?_
  cases w1 : (tv_in 8 x1) with
  | false =>
    refine tv_callR (W.runS (As := [.int x1]) (rest := [.ref h]) ⟨hx, hb, hml, hown, hts⟩ (c_X1_isRow l x1) (va_cwS 1 hts gX1_alike_X1_isRow rfl rfl rfl (by decide +kernel) ⟨Nat.le_of_ble_eq_true rfl, Nat.le_of_ble_eq_true rfl⟩) preEq rfl rfl hl.1 rfl (lv_room (Nat.le_of_ble_eq_true rfl)) dX1_alike_2 ⟨Nat.le_of_ble_eq_true rfl, Nat.le_of_ble_eq_true rfl⟩) ?_
    refine tv_top 0 (by rw [w1]; rfl) ?_
    refine lv_if_eq (tgt := 19) hx hb dX1_alike_5 (by decide) (fun c_7 => ?_) (fun c_7 => ?_)
    · skip
      refine lv_iconst (v := 0) hx hb dX1_alike_19 (by decide) ?_
      refine tv_top (tv_b false) rfl ?_
      exact j1 false (by simp only [w1, Bool.true_and, Bool.false_and, Bool.and_false, Bool.and_true, Bool.and_self])
    · exact absurd rfl c_7
  | true =>
    refine tv_callR (W.runS (As := [.int x1]) (rest := [.ref h]) ⟨hx, hb, hml, hown, hts⟩ (c_X1_isRow l x1) (va_cwS 1 hts gX1_alike_X1_isRow rfl rfl rfl (by decide +kernel) ⟨Nat.le_of_ble_eq_true rfl, Nat.le_of_ble_eq_true rfl⟩) preEq rfl rfl hl.1 rfl (lv_room (Nat.le_of_ble_eq_true rfl)) dX1_alike_2 ⟨Nat.le_of_ble_eq_true rfl, Nat.le_of_ble_eq_true rfl⟩) ?_
    refine tv_top 1 (by rw [w1]; rfl) ?_
    refine lv_if_eq (tgt := 19) hx hb dX1_alike_5 (by decide) (fun c_8 => ?_) (fun c_8 => ?_)
    · exact absurd c_8 (by decide)
    · skip
      refine lv_iload_n hx hb dX1_alike_8 rfl (lv_at hl 2 rfl) ?_
      cases w2 : (tv_in 8 x2) with
      | false =>
        refine tv_callR (W.runS (As := [.int x2]) (rest := [.ref h]) ⟨hx, hb, hml, hown, hts⟩ (c_X1_isRow l x2) (va_cwS 1 hts gX1_alike_X1_isRow rfl rfl rfl (by decide +kernel) ⟨Nat.le_of_ble_eq_true rfl, Nat.le_of_ble_eq_true rfl⟩) preEq rfl rfl hl.1 rfl (lv_room (Nat.le_of_ble_eq_true rfl)) dX1_alike_9 ⟨Nat.le_of_ble_eq_true rfl, Nat.le_of_ble_eq_true rfl⟩) ?_
        refine tv_top 0 (by rw [w2]; rfl) ?_
        refine lv_if_eq (tgt := 19) hx hb dX1_alike_12 (by decide) (fun c_9 => ?_) (fun c_9 => ?_)
        · skip
          refine lv_iconst (v := 0) hx hb dX1_alike_19 (by decide) ?_
          refine tv_top (tv_b false) rfl ?_
          exact j1 false (by simp only [w1, w2, Bool.true_and, Bool.false_and, Bool.and_false, Bool.and_true, Bool.and_self])
        · exact absurd rfl c_9
      | true =>
        refine tv_callR (W.runS (As := [.int x2]) (rest := [.ref h]) ⟨hx, hb, hml, hown, hts⟩ (c_X1_isRow l x2) (va_cwS 1 hts gX1_alike_X1_isRow rfl rfl rfl (by decide +kernel) ⟨Nat.le_of_ble_eq_true rfl, Nat.le_of_ble_eq_true rfl⟩) preEq rfl rfl hl.1 rfl (lv_room (Nat.le_of_ble_eq_true rfl)) dX1_alike_9 ⟨Nat.le_of_ble_eq_true rfl, Nat.le_of_ble_eq_true rfl⟩) ?_
        refine tv_top 1 (by rw [w2]; rfl) ?_
        refine lv_if_eq (tgt := 19) hx hb dX1_alike_12 (by decide) (fun c_10 => ?_) (fun c_10 => ?_)
        · exact absurd c_10 (by decide)
        · skip
          refine lv_iconst (v := 1) hx hb dX1_alike_15 (by decide) ?_
          refine lv_goto (tgt := 20) hx hb dX1_alike_16 (by decide) ?_
          refine tv_top (tv_b true) rfl ?_
          exact j1 true (by simp only [w1, w2, Bool.true_and, Bool.false_and, Bool.and_false, Bool.and_true, Bool.and_self])
theorem iX1_merge : ∀ w ∈ wsX10, w ∈ wsX1_merge := by decide +kernel
set_option maxHeartbeats 4000000 in
set_option maxRecDepth 100000 in
theorem c_X1_merge (l : Launch) (D : va_G) (cI cZ cL : ClassId) (h a1 a2 a3 a4 : Nat) (rd lv op nt : Nat → Int32) (th : Int32) (sz : Nat) (x1 x2 x3 x4 : Int32) (V : TV) (hV : V = sp_merge x1 x2 x3 x4 (rd, lv, op, nt)) : Met l yX1_merge wsX1_merge tv_rmM (tv_Pd D cI cZ cL (tv_mw cI cZ h a1 a2 a3 a4 th (rd, lv, op, nt)) sz [.ref h, .int x1, .int x2, .int x3, .int x4]) (tv_QM D cI cZ cL (tv_mw cI cZ h a1 a2 a3 a4) (tv_mw cI cZ h a1 a2 a3 a4 th (rd, lv, op, nt)) sz V) 0 0 (va_A (tv_mw cI cZ h a1 a2 a3 a4 th (rd, lv, op, nt)) sz) := by
  refine Met.ofW (cc := cX1_merge) (maxL := 10) (ret := (some .int)) (by decide) rfl ?_
  intro p e s m args below meth c s₁ B hml hv
  obtain ⟨rfl, hsz, hP, hK, hD0⟩ := hv
  subst hsz
  have hx := B.exec
  have hb := B.bytes
  have hr := B.returns
  have hts := atoms_spec (ws := wsX1_merge) B.pre
  have hown : s.vm.findClass RX1 = some m.cls := findClass_of_methodNamed B.named
  have hlocks := B.notSynchronized
  have hD := hD0.self (sz := s.heap.size)
  obtain ⟨A, hAe⟩ : ∃ A, A = va_A (tv_mw cI cZ h a1 a2 a3 a4 th (rd, lv, op, nt)) s.heap.size := ⟨_, rfl⟩
  rw [← hAe] at hD
  have hA : ∀ q : Nat, s.heap.size ≤ q → A q := fun q h => by rw [hAe]; exact Or.inr h
  have hS : va_S A s.heap s.heap [] := va_S.rf
  clear hD0
  have hl := lv_entry ([.ref h, .int x1, .int x2, .int x3, .int x4]) (n := 10) (Nat.le_of_ble_eq_true rfl)
  rw [lg_entry_eq]
  generalize (lg_sl ([.ref h, .int x1, .int x2, .int x3, .int x4]) ++ List.replicate (10 - (lg_sl ([.ref h, .int x1, .int x2, .int x3, .int x4])).length) Slot.unset).toArray = ls at hl ⊢
  have hl : lv_has ls 10 [(0, .ref h), (1, .int x1), (2, .int x2), (3, .int x3), (4, .int x4)] := hl
  refine lv_aload_n hx hb dX1_merge_0 rfl (lv_at hl 0 rfl) ?_
  have j1 : ∀ X : Bool, X = (tv_in 8 x1 && tv_in 8 x2 && tv_in 8 x3) → W p l e (headSpec wsX1_merge tv_rmM).room s m ([.ref h, .int x1, .int x2, .int x3, .int x4] : List Value).toArray below meth c s.heap [] 0 0 (MQ below (tv_QM D cI cZ cL (tv_mw cI cZ h a1 a2 a3 a4) (tv_mw cI cZ h a1 a2 a3 a4 th (rd, lv, op, nt)) s.heap.size V) ([.ref h, .int x1, .int x2, .int x3, .int x4] : List Value).toArray s 0 0 (va_A (tv_mw cI cZ h a1 a2 a3 a4 th (rd, lv, op, nt)) s.heap.size)) (F0 m 27 ls [.int (tv_b X), .ref h]) := by
    intro X hX
    have j2 : ∀ Y : Bool, Y = (tv_sg x4 && tv_os x1 x2 && tv_os x1 x3 && !(decide (x3 = x1)) && !(decide (x3 = x2))) → W p l e (headSpec wsX1_merge tv_rmM).room s m ([.ref h, .int x1, .int x2, .int x3, .int x4] : List Value).toArray below meth c s.heap [] 0 0 (MQ below (tv_QM D cI cZ cL (tv_mw cI cZ h a1 a2 a3 a4) (tv_mw cI cZ h a1 a2 a3 a4 th (rd, lv, op, nt)) s.heap.size V) ([.ref h, .int x1, .int x2, .int x3, .int x4] : List Value).toArray s 0 0 (va_A (tv_mw cI cZ h a1 a2 a3 a4 th (rd, lv, op, nt)) s.heap.size)) (F0 m 66 ls [.int (tv_b Y), .int (tv_b X), .ref h]) := by
      intro Y hY
      refine tv_callW (D := D) (ws := tv_mw cI cZ h a1 a2 a3 a4 th (rd, lv, op, nt)) (wc := [(h, .inr (1, [.ref a1, .ref a2, .ref a3, .ref a4, .int th]))]) (wr := [(a1, .inl (cI, 96, .inl (rd))), (a2, .inl (cI, 8, .inl (lv))), (a3, .inl (cZ, 4, .inl (op))), (a4, .inl (cI, 8, .inl (nt)))]) (wc' := [(h, .inr (1, [.ref a1, .ref a2, .ref a3, .ref a4, .int (tv_cd X Y)]))]) (wsN := tv_mw cI cZ h a1 a2 a3 a4 (tv_cd X Y) (rd, lv, op, nt)) (r := tv_b (X && Y)) (va_runV (As := [.int (tv_b X), .int (tv_b Y)]) (rest := []) ⟨hx, hb, hml, hown, hts⟩ (c_X1_may l D cI cZ cL h a1 a2 a3 a4 th s.heap.size X Y) (cwV 2 hts gX1_merge_X1_may rfl rfl rfl (by decide +kernel) ⟨Nat.le_of_ble_eq_true rfl, Nat.le_of_ble_eq_true rfl⟩) (tv_preDV hP hK hD [0] rfl rfl rfl rfl 0 rfl) rfl rfl hl.1 rfl (lv_room (Nat.le_of_ble_eq_true rfl)) dX1_merge_66 ⟨Nat.le_of_ble_eq_true rfl, Nat.le_of_ble_eq_true rfl⟩) hP hD hS hA [0] [1, 2, 3, 4] rfl rfl rfl (by decide) [4, 0, 1, 2, 3] rfl rfl rfl (fun H locs hP hD hS => ?_)
      cases hab : (X && Y) with
      | false =>
        have hV1 : V = (tv_cd X Y, 0, (rd, lv, op, nt)) := by
          rw [hV]; unfold sp_merge; rw [← hX, ← hY]; exact sp_cd hab
        refine lv_if_ne (tgt := 74) hx hb dX1_merge_69 (by decide) (fun c_1 => ?_) (fun c_1 => ?_)
        · exact absurd rfl c_1
        · skip
          refine lv_iconst (v := 0) hx hb dX1_merge_72 (by decide) ?_
          exact tv_iretM (wf := (tv_mw cI cZ h a1 a2 a3 a4)) (th := tv_cd X Y) (z := 0) (σ := (rd, lv, op, nt)) (r := 0) hAe hV1 (fun _ => rfl) hx hb hr hP hK hD hS dX1_merge_73 hlocks
      | true =>
        obtain ⟨hX1, hY1⟩ := Bool.and_eq_true_iff.mp hab
        subst hX1
        subst hY1
        refine lv_if_ne (tgt := 74) hx hb dX1_merge_69 (by decide) (fun c_2 => ?_) (fun c_2 => ?_)
        · skip
          have hP : va_P D vwCl (tv_mw cI cZ h a1 a2 a3 a4 0 (rd, lv, op, nt)) H := hP
          have hD : va_D A (tv_mw cI cZ h a1 a2 a3 a4 0 (rd, lv, op, nt)) := hD
          have hX := hX.symm
          simp only [Bool.and_eq_true] at hX
          obtain ⟨⟨g1, g2⟩, g3⟩ := hX
          have hY := hY.symm
          simp only [Bool.and_eq_true] at hY
          obtain ⟨⟨⟨⟨g4, g5⟩, g6⟩, g7⟩, g8⟩ := hY
          obtain ⟨r, hr8, rfl⟩ := tv_in_of (by omega) g1
          obtain ⟨q, hq8, rfl⟩ := tv_in_of (by omega) g2
          obtain ⟨t, ht8, rfl⟩ := tv_in_of (by omega) g3
          refine lv_iconst (v := 0) hx hb dX1_merge_74 (by decide) ?_
          refine lv_istore (lv' := [(5, .int 0), (0, .ref h), (1, .int (nI r)), (2, .int (nI q)), (3, .int (nI t)), (4, .int x4)]) hx hb dX1_merge_75 hl (by decide) rfl (fun ls hl => ?_)
          refine lv_iconst (v := 0) hx hb dX1_merge_77 (by decide) ?_
          refine lv_istore (lv' := [(6, .int 0), (5, .int 0), (0, .ref h), (1, .int (nI r)), (2, .int (nI q)), (3, .int (nI t)), (4, .int x4)]) hx hb dX1_merge_78 hl (by decide) rfl (fun ls hl => ?_)
          have hV0 : V = (0, nI (mg x4 r q t rd 12).2, ((mg x4 r q t rd 12).1, lv, op, nt)) := by
            rw [hV]; simp only [sp_merge, tN, nI_clamp (show r < 2 ^ 31 by omega), nI_clamp (show q < 2 ^ 31 by omega), nI_clamp (show t < 2 ^ 31 by omega), g1, g2, g3, g4, g5, g6, g7, g8, Bool.and_false, Bool.false_and, Bool.and_true, Bool.true_and, Bool.and_self, sp_f, sp_tf, sp_tt]
          have loop : ∀ (n k : Nat), k + n = 12 → ∀ (H : Heap) (locs : List Loc), va_P D vwCl (tv_mw cI cZ h a1 a2 a3 a4 0 ((mg x4 r q t rd k).1, lv, op, nt)) H → va_D A (tv_mw cI cZ h a1 a2 a3 a4 0 ((mg x4 r q t rd k).1, lv, op, nt)) → va_S A s.heap H locs → ∀ ls : Array Slot, lv_has ls 10 [(0, .ref h), (1, .int (nI r)), (2, .int (nI q)), (3, .int (nI t)), (4, .int x4), (5, .int (nI (mg x4 r q t rd k).2)), (6, .int (nI k))] → W p l e (headSpec wsX1_merge tv_rmM).room s m ([.ref h, .int (nI r), .int (nI q), .int (nI t), .int x4] : List Value).toArray below meth c H locs 0 0 (MQ below (tv_QM D cI cZ cL (tv_mw cI cZ h a1 a2 a3 a4) (tv_mw cI cZ h a1 a2 a3 a4 th (rd, lv, op, nt)) s.heap.size V) ([.ref h, .int (nI r), .int (nI q), .int (nI t), .int x4] : List Value).toArray s 0 0 (va_A (tv_mw cI cZ h a1 a2 a3 a4 th (rd, lv, op, nt)) s.heap.size)) (F0 m 80 ls []) := by
            intro n
            induction n with
            | zero =>
              intro k hk H locs hP hD hS ls hl
              have hk2 : k = 12 := by omega
              subst hk2
              refine lv_iload hx hb dX1_merge_80 (lv_at hl 6 rfl) ?_
              refine lv_bipush (v := 12) hx hb dX1_merge_82 (by decide) ?_
              refine lv_icmp_ge (tgt := 164) hx hb dX1_merge_84 (by decide) (fun c_3 => ?_) (fun c_3 => ?_)
              · skip
                refine lv_iload hx hb dX1_merge_164 (lv_at hl 5 rfl) ?_
                exact tv_iretM (wf := (tv_mw cI cZ h a1 a2 a3 a4)) (th := 0) (z := nI (mg x4 r q t rd 12).2) (σ := ((mg x4 r q t rd 12).1, lv, op, nt)) (r := nI (mg x4 r q t rd 12).2) hAe hV0 (fun _ => rfl) hx hb hr hP hK hD hS dX1_merge_166 hlocks
              · exact absurd (show nI 12 ≤ nI 12 from nI_le (Nat.le_refl _) (by omega)) c_3
            | succ n ih =>
              intro k hk H locs hP hD hS ls hl
              have hm1 := mg_le x4 r q t rd k
              refine lv_iload hx hb dX1_merge_80 (lv_at hl 6 rfl) ?_
              refine lv_bipush (v := 12) hx hb dX1_merge_82 (by decide) ?_
              refine lv_icmp_ge (tgt := 164) hx hb dX1_merge_84 (by decide) (fun c_4 => ?_) (fun c_4 => ?_)
              · exact absurd (show nI 12 ≤ nI k from c_4) (nI_ge (by omega) (by omega))
              · skip
                refine lv_aload_n hx hb dX1_merge_87 rfl (lv_at hl 0 rfl) ?_
                refine lv_iload_n hx hb dX1_merge_88 rfl (lv_at hl 1 rfl) ?_
                refine lv_iload hx hb dX1_merge_89 (lv_at hl 5 rfl) ?_
                refine tv_callR (W.runV (As := [.int (nI r), .int (nI (mg x4 r q t rd k).2)]) (rest := []) ⟨hx, hb, hml, hown, hts⟩ (c_X1_at l D cI cZ cL h a1 a2 a3 a4 ((mg x4 r q t rd k).1) lv op nt 0 r ((mg x4 r q t rd k).2) hr8 (by omega)) (cwV 2 hts gX1_merge_X1_at rfl rfl rfl (by decide +kernel) ⟨Nat.le_of_ble_eq_true rfl, Nat.le_of_ble_eq_true rfl⟩) (tv_preV hP hK rfl 0 rfl) rfl rfl hl.1 rfl (lv_room (Nat.le_of_ble_eq_true rfl)) dX1_merge_91 ⟨Nat.le_of_ble_eq_true rfl, Nat.le_of_ble_eq_true rfl⟩) ?_
                refine lv_istore (lv' := [(7, .int (((mg x4 r q t rd k).1) (12 * r + ((mg x4 r q t rd k).2)))), (0, .ref h), (1, .int (nI r)), (2, .int (nI q)), (3, .int (nI t)), (4, .int x4), (5, .int (nI (mg x4 r q t rd k).2)), (6, .int (nI k))]) hx hb dX1_merge_94 hl (by decide) rfl (fun ls hl => ?_)
                refine lv_aload_n hx hb dX1_merge_96 rfl (lv_at hl 1 rfl) ?_
                refine lv_iload_n hx hb dX1_merge_97 rfl (lv_at hl 3 rfl) ?_
                refine lv_iload hx hb dX1_merge_98 (lv_at hl 7 rfl) ?_
                refine lv_iload hx hb dX1_merge_100 (lv_at hl 6 rfl) ?_
                refine lv_isub hx hb dX1_merge_102 ?_
                refine tv_top (nI (k - (mg x4 r q t rd k).2)) (pk_sub hm1) ?_
                refine tv_callR (W.runV (As := [.int (nI q), .int (nI (k - (mg x4 r q t rd k).2))]) (rest := []) ⟨hx, hb, hml, hown, hts⟩ (c_X1_at l D cI cZ cL h a1 a2 a3 a4 ((mg x4 r q t rd k).1) lv op nt 0 q (k - (mg x4 r q t rd k).2) hq8 (by omega)) (cwV 2 hts gX1_merge_X1_at rfl rfl rfl (by decide +kernel) ⟨Nat.le_of_ble_eq_true rfl, Nat.le_of_ble_eq_true rfl⟩) (tv_preV hP hK rfl 0 rfl) rfl rfl hl.1 rfl (lv_room (Nat.le_of_ble_eq_true rfl)) dX1_merge_103 ⟨Nat.le_of_ble_eq_true rfl, Nat.le_of_ble_eq_true rfl⟩) ?_
                refine lv_istore (lv' := [(8, .int (((mg x4 r q t rd k).1) (12 * q + (k - (mg x4 r q t rd k).2)))), (7, .int (((mg x4 r q t rd k).1) (12 * r + ((mg x4 r q t rd k).2)))), (0, .ref h), (1, .int (nI r)), (2, .int (nI q)), (3, .int (nI t)), (4, .int x4), (5, .int (nI (mg x4 r q t rd k).2)), (6, .int (nI k))]) hx hb dX1_merge_106 hl (by decide) rfl (fun ls hl => ?_)
                refine lv_iload hx hb dX1_merge_108 (lv_at hl 6 rfl) ?_
                refine lv_iload hx hb dX1_merge_110 (lv_at hl 1 rfl) ?_
                refine lv_iload hx hb dX1_merge_112 (lv_at hl 0 rfl) ?_
                refine tv_callR (W.runS (As := [.int x4, .int (((mg x4 r q t rd k).1) (12 * r + ((mg x4 r q t rd k).2))), .int (((mg x4 r q t rd k).1) (12 * q + (k - (mg x4 r q t rd k).2)))]) (rest := []) ⟨hx, hb, hml, hown, hts⟩ (c_X1_isTrue l x4 (((mg x4 r q t rd k).1) (12 * r + ((mg x4 r q t rd k).2))) (((mg x4 r q t rd k).1) (12 * q + (k - (mg x4 r q t rd k).2)))) (va_cwS 3 hts gX1_merge_X1_isTrue rfl rfl rfl (by decide +kernel) ⟨Nat.le_of_ble_eq_true rfl, Nat.le_of_ble_eq_true rfl⟩) preEq rfl rfl hl.1 rfl (lv_room (Nat.le_of_ble_eq_true rfl)) dX1_merge_114 ⟨Nat.le_of_ble_eq_true rfl, Nat.le_of_ble_eq_true rfl⟩) ?_
                refine lv_istore (lv' := [(9, .int (tq x4 (((mg x4 r q t rd k).1) (12 * r + ((mg x4 r q t rd k).2))) (((mg x4 r q t rd k).1) (12 * q + (k - (mg x4 r q t rd k).2))))), (8, .int (((mg x4 r q t rd k).1) (12 * q + (k - (mg x4 r q t rd k).2)))), (7, .int (((mg x4 r q t rd k).1) (12 * r + ((mg x4 r q t rd k).2)))), (0, .ref h), (1, .int (nI r)), (2, .int (nI q)), (3, .int (nI t)), (4, .int x4), (5, .int (nI (mg x4 r q t rd k).2)), (6, .int (nI k))]) hx hb dX1_merge_117 hl (by decide) rfl (fun ls hl => ?_)
                refine lv_aload_n hx hb dX1_merge_119 rfl (lv_at hl 3 rfl) ?_
                refine va_get (D := D) (ci := 1) (v := .ref a1) (C := RX1) (T := TX1) (N := 5) hx hb hts iX1_merge hown hK hP 0 rfl rfl 0 (by decide) (hts (.fieldLink RX1 7 "TideHouseModel" "readings" "[I") (by decide +kernel)) (fun _ h9 => h9) rfl dX1_merge_120 ?_
                refine lv_bipush (v := 12) hx hb dX1_merge_123 (by decide) ?_
                refine lv_iload_n hx hb dX1_merge_125 rfl (lv_at hl 6 rfl) ?_
                refine lv_imul hx hb dX1_merge_126 ?_
                refine lv_iload hx hb dX1_merge_127 (lv_at hl 9 rfl) ?_
                refine lv_iadd hx hb dX1_merge_129 ?_
                refine tv_top (nI (12 * t + k)) (tv_ix2 t k) ?_
                refine lv_iload hx hb dX1_merge_130 (lv_at hl 0 rfl) ?_
                refine lv_if_eq (tgt := 140) hx hb dX1_merge_132 (by decide) (fun c_5 => ?_) (fun c_5 => ?_)
                · have hm2 : (mg x4 r q t rd (k + 1)) = (upd (mg x4 r q t rd k).1 (12 * t + k) ((mg x4 r q t rd k).1 (12 * q + (k - (mg x4 r q t rd k).2))), (mg x4 r q t rd k).2) := by
                    rw [mg, if_pos c_5, if_pos c_5]
                  refine lv_iload hx hb dX1_merge_140 (lv_at hl 1 rfl) ?_
                  refine tv_iast (D := D) (cA := cI) (n := 96) (f := (mg x4 r q t rd k).1) (k := (12 * t + k)) (x := ((mg x4 r q t rd k).1) (12 * q + (k - (mg x4 r q t rd k).2))) (ws1 := tv_mw cI cZ h a1 a2 a3 a4 0 (upd ((mg x4 r q t rd k).1) (12 * t + k) (((mg x4 r q t rd k).1) (12 * q + (k - (mg x4 r q t rd k).2))), lv, op, nt)) hx hb hK hP hD hS 1 0 rfl rfl (by omega) (by omega) rfl dX1_merge_142 (fun H locs hP hD hS => ?_)
                  refine lv_iload hx hb dX1_merge_143 (lv_at hl 8 rfl) ?_
                  refine lv_iload hx hb dX1_merge_145 (lv_at hl 0 rfl) ?_
                  refine lv_if_eq (tgt := 154) hx hb dX1_merge_147 (by decide) (fun c_6 => ?_) (fun c_6 => ?_)
                  · skip
                    refine lv_iconst (v := 0) hx hb dX1_merge_154 (by decide) ?_
                    refine lv_iadd hx hb dX1_merge_155 ?_
                    refine lv_istore (lv' := [(5, .int ((nI (mg x4 r q t rd k).2) + 0)), (9, .int (tq x4 (((mg x4 r q t rd k).1) (12 * r + ((mg x4 r q t rd k).2))) (((mg x4 r q t rd k).1) (12 * q + (k - (mg x4 r q t rd k).2))))), (8, .int (((mg x4 r q t rd k).1) (12 * q + (k - (mg x4 r q t rd k).2)))), (7, .int (((mg x4 r q t rd k).1) (12 * r + ((mg x4 r q t rd k).2)))), (0, .ref h), (1, .int (nI r)), (2, .int (nI q)), (3, .int (nI t)), (4, .int x4), (6, .int (nI k))]) hx hb dX1_merge_156 hl (by decide) rfl (fun ls hl => ?_)
                    refine lv_iinc (v := nI (k + 1)) (lv' := [(6, .int (nI (k + 1))), (5, .int ((nI (mg x4 r q t rd k).2) + 0)), (9, .int (tq x4 (((mg x4 r q t rd k).1) (12 * r + ((mg x4 r q t rd k).2))) (((mg x4 r q t rd k).1) (12 * q + (k - (mg x4 r q t rd k).2))))), (8, .int (((mg x4 r q t rd k).1) (12 * q + (k - (mg x4 r q t rd k).2)))), (7, .int (((mg x4 r q t rd k).1) (12 * r + ((mg x4 r q t rd k).2)))), (0, .ref h), (1, .int (nI r)), (2, .int (nI q)), (3, .int (nI t)), (4, .int x4)]) hx hb dX1_merge_158 hl (k := 9) rfl (nI_1 k) (by decide) rfl (fun ls hl => ?_)
                    refine lv_goto (tgt := 80) hx hb dX1_merge_161 (by decide) ?_
                    have hP : va_P D vwCl (tv_mw cI cZ h a1 a2 a3 a4 0 ((mg x4 r q t rd (k + 1)).1, lv, op, nt)) H := by rw [hm2]; exact hP
                    have hD : va_D A (tv_mw cI cZ h a1 a2 a3 a4 0 ((mg x4 r q t rd (k + 1)).1, lv, op, nt)) := by rw [hm2]; exact hD
                    exact ih (k + 1) (by omega) H locs hP hD hS ls (by rw [show nI (mg x4 r q t rd (k + 1)).2 = (nI (mg x4 r q t rd k).2) + 0 from by rw [hm2]; simp]; exact lv_sub hl [5, 6, 7, 8, 9, 1, 0] rfl)
                  · exact absurd c_5 c_6
                · have hm2 : (mg x4 r q t rd (k + 1)) = (upd (mg x4 r q t rd k).1 (12 * t + k) ((mg x4 r q t rd k).1 (12 * r + (mg x4 r q t rd k).2)), (mg x4 r q t rd k).2 + 1) := by
                    rw [mg, if_neg c_5, if_neg c_5]
                  refine lv_iload hx hb dX1_merge_135 (lv_at hl 2 rfl) ?_
                  refine lv_goto (tgt := 142) hx hb dX1_merge_137 (by decide) ?_
                  refine tv_iast (D := D) (cA := cI) (n := 96) (f := (mg x4 r q t rd k).1) (k := (12 * t + k)) (x := ((mg x4 r q t rd k).1) (12 * r + ((mg x4 r q t rd k).2))) (ws1 := tv_mw cI cZ h a1 a2 a3 a4 0 (upd ((mg x4 r q t rd k).1) (12 * t + k) (((mg x4 r q t rd k).1) (12 * r + ((mg x4 r q t rd k).2))), lv, op, nt)) hx hb hK hP hD hS 1 0 rfl rfl (by omega) (by omega) rfl dX1_merge_142 (fun H locs hP hD hS => ?_)
                  refine lv_iload hx hb dX1_merge_143 (lv_at hl 8 rfl) ?_
                  refine lv_iload hx hb dX1_merge_145 (lv_at hl 0 rfl) ?_
                  refine lv_if_eq (tgt := 154) hx hb dX1_merge_147 (by decide) (fun c_7 => ?_) (fun c_7 => ?_)
                  · exact absurd c_7 c_5
                  · skip
                    refine lv_iconst (v := 1) hx hb dX1_merge_150 (by decide) ?_
                    refine lv_goto (tgt := 155) hx hb dX1_merge_151 (by decide) ?_
                    refine lv_iadd hx hb dX1_merge_155 ?_
                    refine lv_istore (lv' := [(5, .int ((nI (mg x4 r q t rd k).2) + 1)), (9, .int (tq x4 (((mg x4 r q t rd k).1) (12 * r + ((mg x4 r q t rd k).2))) (((mg x4 r q t rd k).1) (12 * q + (k - (mg x4 r q t rd k).2))))), (8, .int (((mg x4 r q t rd k).1) (12 * q + (k - (mg x4 r q t rd k).2)))), (7, .int (((mg x4 r q t rd k).1) (12 * r + ((mg x4 r q t rd k).2)))), (0, .ref h), (1, .int (nI r)), (2, .int (nI q)), (3, .int (nI t)), (4, .int x4), (6, .int (nI k))]) hx hb dX1_merge_156 hl (by decide) rfl (fun ls hl => ?_)
                    refine lv_iinc (v := nI (k + 1)) (lv' := [(6, .int (nI (k + 1))), (5, .int ((nI (mg x4 r q t rd k).2) + 1)), (9, .int (tq x4 (((mg x4 r q t rd k).1) (12 * r + ((mg x4 r q t rd k).2))) (((mg x4 r q t rd k).1) (12 * q + (k - (mg x4 r q t rd k).2))))), (8, .int (((mg x4 r q t rd k).1) (12 * q + (k - (mg x4 r q t rd k).2)))), (7, .int (((mg x4 r q t rd k).1) (12 * r + ((mg x4 r q t rd k).2)))), (0, .ref h), (1, .int (nI r)), (2, .int (nI q)), (3, .int (nI t)), (4, .int x4)]) hx hb dX1_merge_158 hl (k := 9) rfl (nI_1 k) (by decide) rfl (fun ls hl => ?_)
                    refine lv_goto (tgt := 80) hx hb dX1_merge_161 (by decide) ?_
                    have hP : va_P D vwCl (tv_mw cI cZ h a1 a2 a3 a4 0 ((mg x4 r q t rd (k + 1)).1, lv, op, nt)) H := by rw [hm2]; exact hP
                    have hD : va_D A (tv_mw cI cZ h a1 a2 a3 a4 0 ((mg x4 r q t rd (k + 1)).1, lv, op, nt)) := by rw [hm2]; exact hD
                    exact ih (k + 1) (by omega) H locs hP hD hS ls (by rw [show nI (mg x4 r q t rd (k + 1)).2 = (nI (mg x4 r q t rd k).2) + 1 from by rw [hm2]; exact (nI_1 _).symm]; exact lv_sub hl [5, 6, 7, 8, 9, 1, 0] rfl)
          exact loop 12 0 (by omega) H locs hP hD hS ls (by rw [show nI (mg x4 r q t rd 0).2 = 0 from rfl, show nI 0 = 0 from nI_0]; exact lv_sub hl [2, 3, 4, 5, 6, 1, 0] rfl)
        · exact absurd c_2 (by decide)
    refine lv_iload hx hb dX1_merge_27 (lv_at hl 4 rfl) ?_
    cases u1 : (tv_sg x4) with
    | false =>
      refine tv_callR (W.runS (As := [.int x4]) (rest := [.int (tv_b X), .ref h]) ⟨hx, hb, hml, hown, hts⟩ (c_X1_isSign l x4) (va_cwS 1 hts gX1_merge_X1_isSign rfl rfl rfl (by decide +kernel) ⟨Nat.le_of_ble_eq_true rfl, Nat.le_of_ble_eq_true rfl⟩) preEq rfl rfl hl.1 rfl (lv_room (Nat.le_of_ble_eq_true rfl)) dX1_merge_29 ⟨Nat.le_of_ble_eq_true rfl, Nat.le_of_ble_eq_true rfl⟩) ?_
      refine tv_top 0 (by rw [u1]; rfl) ?_
      refine lv_if_eq (tgt := 65) hx hb dX1_merge_32 (by decide) (fun c_8 => ?_) (fun c_8 => ?_)
      · skip
        refine lv_iconst (v := 0) hx hb dX1_merge_65 (by decide) ?_
        refine tv_top (tv_b false) rfl ?_
        exact j2 false (by simp only [u1, Bool.true_and, Bool.false_and, Bool.and_false, Bool.and_true, Bool.and_self])
      · exact absurd rfl c_8
    | true =>
      refine tv_callR (W.runS (As := [.int x4]) (rest := [.int (tv_b X), .ref h]) ⟨hx, hb, hml, hown, hts⟩ (c_X1_isSign l x4) (va_cwS 1 hts gX1_merge_X1_isSign rfl rfl rfl (by decide +kernel) ⟨Nat.le_of_ble_eq_true rfl, Nat.le_of_ble_eq_true rfl⟩) preEq rfl rfl hl.1 rfl (lv_room (Nat.le_of_ble_eq_true rfl)) dX1_merge_29 ⟨Nat.le_of_ble_eq_true rfl, Nat.le_of_ble_eq_true rfl⟩) ?_
      refine tv_top 1 (by rw [u1]; rfl) ?_
      refine lv_if_eq (tgt := 65) hx hb dX1_merge_32 (by decide) (fun c_9 => ?_) (fun c_9 => ?_)
      · exact absurd c_9 (by decide)
      · skip
        refine lv_iload_n hx hb dX1_merge_35 rfl (lv_at hl 1 rfl) ?_
        refine lv_iload_n hx hb dX1_merge_36 rfl (lv_at hl 2 rfl) ?_
        cases u2 : (tv_os x1 x2) with
        | false =>
          refine tv_callR (W.runS (As := [.int x1, .int x2]) (rest := [.int (tv_b X), .ref h]) ⟨hx, hb, hml, hown, hts⟩ (c_X1_areOneSort l x1 x2) (va_cwS 2 hts gX1_merge_X1_areOneSort rfl rfl rfl (by decide +kernel) ⟨Nat.le_of_ble_eq_true rfl, Nat.le_of_ble_eq_true rfl⟩) preEq rfl rfl hl.1 rfl (lv_room (Nat.le_of_ble_eq_true rfl)) dX1_merge_37 ⟨Nat.le_of_ble_eq_true rfl, Nat.le_of_ble_eq_true rfl⟩) ?_
          refine tv_top 0 (by rw [u2]; rfl) ?_
          refine lv_if_eq (tgt := 65) hx hb dX1_merge_40 (by decide) (fun c_10 => ?_) (fun c_10 => ?_)
          · skip
            refine lv_iconst (v := 0) hx hb dX1_merge_65 (by decide) ?_
            refine tv_top (tv_b false) rfl ?_
            exact j2 false (by simp only [u1, u2, Bool.true_and, Bool.false_and, Bool.and_false, Bool.and_true, Bool.and_self])
          · exact absurd rfl c_10
        | true =>
          refine tv_callR (W.runS (As := [.int x1, .int x2]) (rest := [.int (tv_b X), .ref h]) ⟨hx, hb, hml, hown, hts⟩ (c_X1_areOneSort l x1 x2) (va_cwS 2 hts gX1_merge_X1_areOneSort rfl rfl rfl (by decide +kernel) ⟨Nat.le_of_ble_eq_true rfl, Nat.le_of_ble_eq_true rfl⟩) preEq rfl rfl hl.1 rfl (lv_room (Nat.le_of_ble_eq_true rfl)) dX1_merge_37 ⟨Nat.le_of_ble_eq_true rfl, Nat.le_of_ble_eq_true rfl⟩) ?_
          refine tv_top 1 (by rw [u2]; rfl) ?_
          refine lv_if_eq (tgt := 65) hx hb dX1_merge_40 (by decide) (fun c_11 => ?_) (fun c_11 => ?_)
          · exact absurd c_11 (by decide)
          · skip
            refine lv_iload_n hx hb dX1_merge_43 rfl (lv_at hl 1 rfl) ?_
            refine lv_iload_n hx hb dX1_merge_44 rfl (lv_at hl 3 rfl) ?_
            cases u3 : (tv_os x1 x3) with
            | false =>
              refine tv_callR (W.runS (As := [.int x1, .int x3]) (rest := [.int (tv_b X), .ref h]) ⟨hx, hb, hml, hown, hts⟩ (c_X1_areOneSort l x1 x3) (va_cwS 2 hts gX1_merge_X1_areOneSort rfl rfl rfl (by decide +kernel) ⟨Nat.le_of_ble_eq_true rfl, Nat.le_of_ble_eq_true rfl⟩) preEq rfl rfl hl.1 rfl (lv_room (Nat.le_of_ble_eq_true rfl)) dX1_merge_45 ⟨Nat.le_of_ble_eq_true rfl, Nat.le_of_ble_eq_true rfl⟩) ?_
              refine tv_top 0 (by rw [u3]; rfl) ?_
              refine lv_if_eq (tgt := 65) hx hb dX1_merge_48 (by decide) (fun c_12 => ?_) (fun c_12 => ?_)
              · skip
                refine lv_iconst (v := 0) hx hb dX1_merge_65 (by decide) ?_
                refine tv_top (tv_b false) rfl ?_
                exact j2 false (by simp only [u1, u2, u3, Bool.true_and, Bool.false_and, Bool.and_false, Bool.and_true, Bool.and_self])
              · exact absurd rfl c_12
            | true =>
              refine tv_callR (W.runS (As := [.int x1, .int x3]) (rest := [.int (tv_b X), .ref h]) ⟨hx, hb, hml, hown, hts⟩ (c_X1_areOneSort l x1 x3) (va_cwS 2 hts gX1_merge_X1_areOneSort rfl rfl rfl (by decide +kernel) ⟨Nat.le_of_ble_eq_true rfl, Nat.le_of_ble_eq_true rfl⟩) preEq rfl rfl hl.1 rfl (lv_room (Nat.le_of_ble_eq_true rfl)) dX1_merge_45 ⟨Nat.le_of_ble_eq_true rfl, Nat.le_of_ble_eq_true rfl⟩) ?_
              refine tv_top 1 (by rw [u3]; rfl) ?_
              refine lv_if_eq (tgt := 65) hx hb dX1_merge_48 (by decide) (fun c_13 => ?_) (fun c_13 => ?_)
              · exact absurd c_13 (by decide)
              · skip
                refine lv_iload_n hx hb dX1_merge_51 rfl (lv_at hl 3 rfl) ?_
                refine lv_iload_n hx hb dX1_merge_52 rfl (lv_at hl 1 rfl) ?_
                cases u4 : (!(decide (x3 = x1))) with
                | false =>
                  have u4e : x3 = x1 := by simpa using u4
                  refine lv_icmp_eq (tgt := 65) hx hb dX1_merge_53 (by decide) (fun c_14 => ?_) (fun c_14 => ?_)
                  · skip
                    refine lv_iconst (v := 0) hx hb dX1_merge_65 (by decide) ?_
                    refine tv_top (tv_b false) rfl ?_
                    exact j2 false (by simp only [u1, u2, u3, u4, Bool.true_and, Bool.false_and, Bool.and_false, Bool.and_true, Bool.and_self])
                  · exact absurd u4e c_14
                | true =>
                  have u4e : ¬ x3 = x1 := by simpa using u4
                  refine lv_icmp_eq (tgt := 65) hx hb dX1_merge_53 (by decide) (fun c_15 => ?_) (fun c_15 => ?_)
                  · exact absurd c_15 u4e
                  · skip
                    refine lv_iload_n hx hb dX1_merge_56 rfl (lv_at hl 3 rfl) ?_
                    refine lv_iload_n hx hb dX1_merge_57 rfl (lv_at hl 2 rfl) ?_
                    cases u5 : (!(decide (x3 = x2))) with
                    | false =>
                      have u5e : x3 = x2 := by simpa using u5
                      refine lv_icmp_eq (tgt := 65) hx hb dX1_merge_58 (by decide) (fun c_16 => ?_) (fun c_16 => ?_)
                      · skip
                        refine lv_iconst (v := 0) hx hb dX1_merge_65 (by decide) ?_
                        refine tv_top (tv_b false) rfl ?_
                        exact j2 false (by simp only [u1, u2, u3, u4, u5, Bool.true_and, Bool.false_and, Bool.and_false, Bool.and_true, Bool.and_self])
                      · exact absurd u5e c_16
                    | true =>
                      have u5e : ¬ x3 = x2 := by simpa using u5
                      refine lv_icmp_eq (tgt := 65) hx hb dX1_merge_58 (by decide) (fun c_17 => ?_) (fun c_17 => ?_)
                      · exact absurd c_17 u5e
                      · skip
                        refine lv_iconst (v := 1) hx hb dX1_merge_61 (by decide) ?_
                        refine lv_goto (tgt := 66) hx hb dX1_merge_62 (by decide) ?_
                        refine tv_top (tv_b true) rfl ?_
                        exact j2 true (by simp only [u1, u2, u3, u4, u5, Bool.true_and, Bool.false_and, Bool.and_false, Bool.and_true, Bool.and_self])
  refine lv_iload_n hx hb dX1_merge_1 rfl (lv_at hl 1 rfl) ?_
  cases w1 : (tv_in 8 x1) with
  | false =>
    refine tv_callR (W.runS (As := [.int x1]) (rest := [.ref h]) ⟨hx, hb, hml, hown, hts⟩ (c_X1_isRow l x1) (va_cwS 1 hts gX1_merge_X1_isRow rfl rfl rfl (by decide +kernel) ⟨Nat.le_of_ble_eq_true rfl, Nat.le_of_ble_eq_true rfl⟩) preEq rfl rfl hl.1 rfl (lv_room (Nat.le_of_ble_eq_true rfl)) dX1_merge_2 ⟨Nat.le_of_ble_eq_true rfl, Nat.le_of_ble_eq_true rfl⟩) ?_
    refine tv_top 0 (by rw [w1]; rfl) ?_
    refine lv_if_eq (tgt := 26) hx hb dX1_merge_5 (by decide) (fun c_18 => ?_) (fun c_18 => ?_)
    · skip
      refine lv_iconst (v := 0) hx hb dX1_merge_26 (by decide) ?_
      refine tv_top (tv_b false) rfl ?_
      exact j1 false (by simp only [w1, Bool.true_and, Bool.false_and, Bool.and_false, Bool.and_true, Bool.and_self])
    · exact absurd rfl c_18
  | true =>
    refine tv_callR (W.runS (As := [.int x1]) (rest := [.ref h]) ⟨hx, hb, hml, hown, hts⟩ (c_X1_isRow l x1) (va_cwS 1 hts gX1_merge_X1_isRow rfl rfl rfl (by decide +kernel) ⟨Nat.le_of_ble_eq_true rfl, Nat.le_of_ble_eq_true rfl⟩) preEq rfl rfl hl.1 rfl (lv_room (Nat.le_of_ble_eq_true rfl)) dX1_merge_2 ⟨Nat.le_of_ble_eq_true rfl, Nat.le_of_ble_eq_true rfl⟩) ?_
    refine tv_top 1 (by rw [w1]; rfl) ?_
    refine lv_if_eq (tgt := 26) hx hb dX1_merge_5 (by decide) (fun c_19 => ?_) (fun c_19 => ?_)
    · exact absurd c_19 (by decide)
    · skip
      refine lv_iload_n hx hb dX1_merge_8 rfl (lv_at hl 2 rfl) ?_
      cases w2 : (tv_in 8 x2) with
      | false =>
        refine tv_callR (W.runS (As := [.int x2]) (rest := [.ref h]) ⟨hx, hb, hml, hown, hts⟩ (c_X1_isRow l x2) (va_cwS 1 hts gX1_merge_X1_isRow rfl rfl rfl (by decide +kernel) ⟨Nat.le_of_ble_eq_true rfl, Nat.le_of_ble_eq_true rfl⟩) preEq rfl rfl hl.1 rfl (lv_room (Nat.le_of_ble_eq_true rfl)) dX1_merge_9 ⟨Nat.le_of_ble_eq_true rfl, Nat.le_of_ble_eq_true rfl⟩) ?_
        refine tv_top 0 (by rw [w2]; rfl) ?_
        refine lv_if_eq (tgt := 26) hx hb dX1_merge_12 (by decide) (fun c_20 => ?_) (fun c_20 => ?_)
        · skip
          refine lv_iconst (v := 0) hx hb dX1_merge_26 (by decide) ?_
          refine tv_top (tv_b false) rfl ?_
          exact j1 false (by simp only [w1, w2, Bool.true_and, Bool.false_and, Bool.and_false, Bool.and_true, Bool.and_self])
        · exact absurd rfl c_20
      | true =>
        refine tv_callR (W.runS (As := [.int x2]) (rest := [.ref h]) ⟨hx, hb, hml, hown, hts⟩ (c_X1_isRow l x2) (va_cwS 1 hts gX1_merge_X1_isRow rfl rfl rfl (by decide +kernel) ⟨Nat.le_of_ble_eq_true rfl, Nat.le_of_ble_eq_true rfl⟩) preEq rfl rfl hl.1 rfl (lv_room (Nat.le_of_ble_eq_true rfl)) dX1_merge_9 ⟨Nat.le_of_ble_eq_true rfl, Nat.le_of_ble_eq_true rfl⟩) ?_
        refine tv_top 1 (by rw [w2]; rfl) ?_
        refine lv_if_eq (tgt := 26) hx hb dX1_merge_12 (by decide) (fun c_21 => ?_) (fun c_21 => ?_)
        · exact absurd c_21 (by decide)
        · skip
          refine lv_iload_n hx hb dX1_merge_15 rfl (lv_at hl 3 rfl) ?_
          cases w3 : (tv_in 8 x3) with
          | false =>
            refine tv_callR (W.runS (As := [.int x3]) (rest := [.ref h]) ⟨hx, hb, hml, hown, hts⟩ (c_X1_isRow l x3) (va_cwS 1 hts gX1_merge_X1_isRow rfl rfl rfl (by decide +kernel) ⟨Nat.le_of_ble_eq_true rfl, Nat.le_of_ble_eq_true rfl⟩) preEq rfl rfl hl.1 rfl (lv_room (Nat.le_of_ble_eq_true rfl)) dX1_merge_16 ⟨Nat.le_of_ble_eq_true rfl, Nat.le_of_ble_eq_true rfl⟩) ?_
            refine tv_top 0 (by rw [w3]; rfl) ?_
            refine lv_if_eq (tgt := 26) hx hb dX1_merge_19 (by decide) (fun c_22 => ?_) (fun c_22 => ?_)
            · skip
              refine lv_iconst (v := 0) hx hb dX1_merge_26 (by decide) ?_
              refine tv_top (tv_b false) rfl ?_
              exact j1 false (by simp only [w1, w2, w3, Bool.true_and, Bool.false_and, Bool.and_false, Bool.and_true, Bool.and_self])
            · exact absurd rfl c_22
          | true =>
            refine tv_callR (W.runS (As := [.int x3]) (rest := [.ref h]) ⟨hx, hb, hml, hown, hts⟩ (c_X1_isRow l x3) (va_cwS 1 hts gX1_merge_X1_isRow rfl rfl rfl (by decide +kernel) ⟨Nat.le_of_ble_eq_true rfl, Nat.le_of_ble_eq_true rfl⟩) preEq rfl rfl hl.1 rfl (lv_room (Nat.le_of_ble_eq_true rfl)) dX1_merge_16 ⟨Nat.le_of_ble_eq_true rfl, Nat.le_of_ble_eq_true rfl⟩) ?_
            refine tv_top 1 (by rw [w3]; rfl) ?_
            refine lv_if_eq (tgt := 26) hx hb dX1_merge_19 (by decide) (fun c_23 => ?_) (fun c_23 => ?_)
            · exact absurd c_23 (by decide)
            · skip
              refine lv_iconst (v := 1) hx hb dX1_merge_22 (by decide) ?_
              refine lv_goto (tgt := 27) hx hb dX1_merge_23 (by decide) ?_
              refine tv_top (tv_b true) rfl ?_
              exact j1 true (by simp only [w1, w2, w3, Bool.true_and, Bool.false_and, Bool.and_false, Bool.and_true, Bool.and_self])
