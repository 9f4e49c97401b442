theorem tv_if01 {p : Prop} [Decidable p] : (if p then (0 : Int32) else 1) = 0 ∨ (if p then (0 : Int32) else 1) = 1 := by by_cases h : p <;> simp [h]
theorem iX0_put : ∀ w ∈ wsX00, w ∈ wsX0_put := by decide +kernel
set_option maxHeartbeats 4000000 in
set_option maxRecDepth 100000 in
theorem c_X0_put (l : Launch) (hT : l.stackTraces = false) (D : va_G) (cI cZ cL : ClassId) (h a1 a2 a3 a4 : Nat) (rd lv op nt : Nat → Int32) (sz : Nat) (x1 x2 x3 : Int32) (V : TV) (hV : V = sp_put x1 x2 x3 (rd, lv, op, nt)) : vx_Met l yX0_put wsX0_put tv_rmP (tv_PP D cI cZ cL (tv_cw cI cZ h a1 a2 a3 a4 (rd, lv, op, nt)) sz [.ref h, .int x1, .int x2, .int x3]) (tv_QP D cI cZ cL (tv_cw cI cZ h a1 a2 a3 a4) (tv_cw cI cZ h a1 a2 a3 a4 (rd, lv, op, nt)) sz V) (tv_XP V) 1 6 (va_A (tv_cw cI cZ h a1 a2 a3 a4 (rd, lv, op, nt)) sz) := by
  refine vx_ofW (cc := cX0_put) (maxL := 4) (ret := (some .boolean)) (by decide) rfl ?_
  intro p e s m args below meth c s₁ B hml htab hv
  obtain ⟨rfl, hsz, hP, hK, hD0, hE⟩ := hv
  subst hsz
  have hx := B.exec
  have hb := B.bytes
  have hr := B.returns
  have hts := atoms_spec (ws := wsX0_put) B.pre
  have hown : s.vm.findClass RX0 = some m.cls := findClass_of_methodNamed B.named
  have hlocks := B.notSynchronized
  have hD := hD0.self (sz := s.heap.size)
  obtain ⟨A, hAe⟩ : ∃ A, A = va_A (tv_cw cI cZ h a1 a2 a3 a4 (rd, lv, op, nt)) s.heap.size := ⟨_, rfl⟩
  rw [← hAe] at hD hE
  have hA : ∀ q : Nat, s.heap.size ≤ q → A q := fun q h => by rw [hAe]; exact Or.inr h
  have hS : va_S A s.heap s.heap [] := va_S.rf
  clear hD0
  have hl := lv_entry ([.ref h, .int x1, .int x2, .int x3]) (n := 4) (Nat.le_of_ble_eq_true rfl)
  rw [lg_entry_eq]
  generalize (lg_sl ([.ref h, .int x1, .int x2, .int x3]) ++ List.replicate (4 - (lg_sl ([.ref h, .int x1, .int x2, .int x3])).length) Slot.unset).toArray = ls at hl ⊢
  have hl : lv_has ls 4 [(0, .ref h), (1, .int x1), (2, .int x2), (3, .int x3)] := hl
  refine lv_iload_n hx hb dX0_put_0 rfl (lv_at hl 1 rfl) ?_
  cases g1 : tv_in 8 x1 with
  | false =>
    have hV1 : V = (1, 0, (rd, lv, op, nt)) := by rw [hV]; simp only [sp_put, g1, Bool.and_false, Bool.false_and, Bool.and_true, Bool.true_and, Bool.and_self, sp_f, sp_tf, sp_tt]
    exact tv_callT (a := #[]) (vx_runS (As := [.int x1]) (rest := []) ⟨hx, hb, hml, hown, hts⟩ (t_X0_needRow l hT x1 g1) (va_cwS 1 hts gX0_put_X0_needRow rfl rfl rfl (by decide +kernel) ⟨Nat.le_of_ble_eq_true rfl, Nat.le_of_ble_eq_true rfl⟩) (tv_preT hE hS) rfl rfl hl.1 rfl (lv_room (Nat.le_of_ble_eq_true rfl)) dX0_put_1 ⟨Nat.le_of_ble_eq_true rfl, Nat.le_of_ble_eq_true rfl⟩) htab hlocks (fun t hz hk => ⟨(), by rw [hV1]; exact (by decide : (1 : Int32) ≠ 0), by rw [hV1]; rfl, hz, fun q hq _ => hk q hq⟩) (fun z h => nomatch h) (Nat.le_of_ble_eq_true rfl) (Nat.le_of_ble_eq_true rfl)
  | true =>
    refine tv_callN (W.runS (As := [.int x1]) (rest := []) ⟨hx, hb, hml, hown, hts⟩ (n_X0_needRow l x1 g1) (va_cwS 1 hts gX0_put_X0_needRow rfl rfl rfl (by decide +kernel) ⟨Nat.le_of_ble_eq_true rfl, Nat.le_of_ble_eq_true rfl⟩) preEq rfl rfl hl.1 rfl (lv_room (Nat.le_of_ble_eq_true rfl)) dX0_put_1 ⟨Nat.le_of_ble_eq_true rfl, Nat.le_of_ble_eq_true rfl⟩) ?_
    obtain ⟨r, hr8, rfl⟩ := tv_in_of (by omega) g1
    refine lv_iload_n hx hb dX0_put_4 rfl (lv_at hl 2 rfl) ?_
    cases g2 : tv_in 12 x2 with
    | false =>
      have hV1 : V = (1, 0, (rd, lv, op, nt)) := by rw [hV]; simp only [sp_put, g1, g2, Bool.and_false, Bool.false_and, Bool.and_true, Bool.true_and, Bool.and_self, sp_f, sp_tf, sp_tt]
      exact tv_callT (a := #[]) (vx_runS (As := [.int x2]) (rest := []) ⟨hx, hb, hml, hown, hts⟩ (t_X0_needPlace l hT x2 g2) (va_cwS 1 hts gX0_put_X0_needPlace rfl rfl rfl (by decide +kernel) ⟨Nat.le_of_ble_eq_true rfl, Nat.le_of_ble_eq_true rfl⟩) (tv_preT hE hS) rfl rfl hl.1 rfl (lv_room (Nat.le_of_ble_eq_true rfl)) dX0_put_5 ⟨Nat.le_of_ble_eq_true rfl, Nat.le_of_ble_eq_true rfl⟩) htab hlocks (fun t hz hk => ⟨(), by rw [hV1]; exact (by decide : (1 : Int32) ≠ 0), by rw [hV1]; rfl, hz, fun q hq _ => hk q hq⟩) (fun z h => nomatch h) (Nat.le_of_ble_eq_true rfl) (Nat.le_of_ble_eq_true rfl)
    | true =>
      refine tv_callN (W.runS (As := [.int x2]) (rest := []) ⟨hx, hb, hml, hown, hts⟩ (n_X0_needPlace l x2 g2) (va_cwS 1 hts gX0_put_X0_needPlace rfl rfl rfl (by decide +kernel) ⟨Nat.le_of_ble_eq_true rfl, Nat.le_of_ble_eq_true rfl⟩) preEq rfl rfl hl.1 rfl (lv_room (Nat.le_of_ble_eq_true rfl)) dX0_put_5 ⟨Nat.le_of_ble_eq_true rfl, Nat.le_of_ble_eq_true rfl⟩) ?_
      obtain ⟨k, hk8, rfl⟩ := tv_in_of (by omega) g2
      refine lv_iload_n hx hb dX0_put_8 rfl (lv_at hl 3 rfl) ?_
      cases g3 : tv_num x3 with
      | false =>
        have hV1 : V = (2, 0, (rd, lv, op, nt)) := by rw [hV]; simp only [sp_put, g1, g2, g3, Bool.and_false, Bool.false_and, Bool.and_true, Bool.true_and, Bool.and_self, sp_f, sp_tf, sp_tt]
        exact tv_callT (a := #[]) (vx_runS (As := [.int x3]) (rest := []) ⟨hx, hb, hml, hown, hts⟩ (t_X0_needNumber l hT x3 g3) (va_cwS 1 hts gX0_put_X0_needNumber rfl rfl rfl (by decide +kernel) ⟨Nat.le_of_ble_eq_true rfl, Nat.le_of_ble_eq_true rfl⟩) (tv_preT hE hS) rfl rfl hl.1 rfl (lv_room (Nat.le_of_ble_eq_true rfl)) dX0_put_9 ⟨Nat.le_of_ble_eq_true rfl, Nat.le_of_ble_eq_true rfl⟩) htab hlocks (fun t hz hk => ⟨(), by rw [hV1]; exact (by decide : (2 : Int32) ≠ 0), by rw [hV1]; rfl, hz, fun q hq _ => hk q hq⟩) (fun z h => nomatch h) (Nat.le_of_ble_eq_true rfl) (Nat.le_of_ble_eq_true rfl)
      | true =>
        refine tv_callN (W.runS (As := [.int x3]) (rest := []) ⟨hx, hb, hml, hown, hts⟩ (n_X0_needNumber l x3 g3) (va_cwS 1 hts gX0_put_X0_needNumber rfl rfl rfl (by decide +kernel) ⟨Nat.le_of_ble_eq_true rfl, Nat.le_of_ble_eq_true rfl⟩) preEq rfl rfl hl.1 rfl (lv_room (Nat.le_of_ble_eq_true rfl)) dX0_put_9 ⟨Nat.le_of_ble_eq_true rfl, Nat.le_of_ble_eq_true rfl⟩) ?_
        refine lv_aload_n hx hb dX0_put_12 rfl (lv_at hl 0 rfl) ?_
        refine va_get (D := D) (ci := 0) (v := .ref a1) (C := RX0) (T := TX0) (N := 4) hx hb hts iX0_put hown hK hP 0 rfl rfl 0 (by decide) (hts (.fieldLink RX0 9 "TideHouse" "readings" "[I") (by decide +kernel)) (fun _ h9 => h9) rfl dX0_put_13 ?_
        refine lv_iload_n hx hb dX0_put_16 rfl (lv_at hl 1 rfl) ?_
        refine lv_iload_n hx hb dX0_put_17 rfl (lv_at hl 2 rfl) ?_
        refine tv_callR (W.runS (As := [.int (nI r), .int (nI k)]) (rest := [.ref a1]) ⟨hx, hb, hml, hown, hts⟩ (c_X0_spot l r k) (va_cwS 2 hts gX0_put_X0_spot rfl rfl rfl (by decide +kernel) ⟨Nat.le_of_ble_eq_true rfl, Nat.le_of_ble_eq_true rfl⟩) preEq rfl rfl hl.1 rfl (lv_room (Nat.le_of_ble_eq_true rfl)) dX0_put_18 ⟨Nat.le_of_ble_eq_true rfl, Nat.le_of_ble_eq_true rfl⟩) ?_
        refine lv_iload_n hx hb dX0_put_21 rfl (lv_at hl 3 rfl) ?_
        refine tv_callW (D := D) (ws := tv_cw cI cZ h a1 a2 a3 a4 (rd, lv, op, nt)) (wc := [(a1, .inl (cI, 96, .inl (rd)))]) (wr := [(h, .inr (0, [.ref a1, .ref a2, .ref a3, .ref a4])), (a2, .inl (cI, 8, .inl (lv))), (a3, .inl (cZ, 4, .inl (op))), (a4, .inl (cI, 8, .inl (nt)))]) (wc' := [(a1, .inl (cI, 96, .inl (upd rd (12 * r + k) x3)))]) (wsN := tv_cw cI cZ h a1 a2 a3 a4 (upd rd (12 * r + k) x3, lv, op, nt)) (r := (if rd (12 * r + k) = x3 then 0 else 1)) (va_runS (As := [.ref a1, .int (nI (12 * r + k)), .int x3]) (rest := []) ⟨hx, hb, hml, hown, hts⟩ (c_X0_store l D cI cZ cL a1 96 s.heap.size rd (12 * r + k) x3 (by omega) (by omega)) (va_cwS 3 hts gX0_put_X0_store rfl rfl rfl (by decide +kernel) ⟨Nat.le_of_ble_eq_true rfl, Nat.le_of_ble_eq_true rfl⟩) (tv_preD hP hK hD [1] rfl rfl rfl) rfl rfl hl.1 rfl (lv_room (Nat.le_of_ble_eq_true rfl)) dX0_put_22 ⟨Nat.le_of_ble_eq_true rfl, Nat.le_of_ble_eq_true rfl⟩) hP hD hS hA [1] [0, 2, 3, 4] rfl rfl rfl (by decide) [0, 4, 1, 2, 3] rfl rfl rfl (fun H locs hP hD hS => ?_)
        have hV0 : V = (0, (if rd (12 * r + k) = x3 then 0 else 1), (upd rd (12 * r + k) x3, lv, op, nt)) := by
          rw [hV]; simp only [sp_put, tN, nI_clamp (show r < 2 ^ 31 by omega), nI_clamp (show k < 2 ^ 31 by omega), g1, g2, g3, Bool.and_false, Bool.false_and, Bool.and_true, Bool.true_and, Bool.and_self, sp_f, sp_tf, sp_tt]
        exact tv_zretP tv_if01 (wf := tv_cw cI cZ h a1 a2 a3 a4) (σ := (upd rd (12 * r + k) x3, lv, op, nt)) (r := if rd (12 * r + k) = x3 then 0 else 1) hAe hV0 hx hb hr hP hK hD hS dX0_put_25 hlocks
theorem iX0_reading : ∀ w ∈ wsX00, w ∈ wsX0_reading := by decide +kernel
set_option maxHeartbeats 4000000 in
set_option maxRecDepth 100000 in
theorem c_X0_reading (l : Launch) (hT : l.stackTraces = false) (D : va_G) (cI cZ cL : ClassId) (h a1 a2 a3 a4 : Nat) (rd lv op nt : Nat → Int32) (sz : Nat) (x1 x2 : Int32) (V : TV) (hV : V = sp_reading x1 x2 (rd, lv, op, nt)) : vx_Met l yX0_reading wsX0_reading tv_rmP (tv_PP D cI cZ cL (tv_cw cI cZ h a1 a2 a3 a4 (rd, lv, op, nt)) sz [.ref h, .int x1, .int x2]) (tv_QP D cI cZ cL (tv_cw cI cZ h a1 a2 a3 a4) (tv_cw cI cZ h a1 a2 a3 a4 (rd, lv, op, nt)) sz V) (tv_XP V) 1 6 (va_A (tv_cw cI cZ h a1 a2 a3 a4 (rd, lv, op, nt)) sz) := by
  refine vx_ofW (cc := cX0_reading) (maxL := 3) (ret := (some .int)) (by decide) rfl ?_
  intro p e s m args below meth c s₁ B hml htab hv
  obtain ⟨rfl, hsz, hP, hK, hD0, hE⟩ := hv
  subst hsz
  have hx := B.exec
  have hb := B.bytes
  have hr := B.returns
  have hts := atoms_spec (ws := wsX0_reading) B.pre
  have hown : s.vm.findClass RX0 = some m.cls := findClass_of_methodNamed B.named
  have hlocks := B.notSynchronized
  have hD := hD0.self (sz := s.heap.size)
  obtain ⟨A, hAe⟩ : ∃ A, A = va_A (tv_cw cI cZ h a1 a2 a3 a4 (rd, lv, op, nt)) s.heap.size := ⟨_, rfl⟩
  rw [← hAe] at hD hE
  have hA : ∀ q : Nat, s.heap.size ≤ q → A q := fun q h => by rw [hAe]; exact Or.inr h
  have hS : va_S A s.heap s.heap [] := va_S.rf
  clear hD0
  have hl := lv_entry ([.ref h, .int x1, .int x2]) (n := 3) (Nat.le_of_ble_eq_true rfl)
  rw [lg_entry_eq]
  generalize (lg_sl ([.ref h, .int x1, .int x2]) ++ List.replicate (3 - (lg_sl ([.ref h, .int x1, .int x2])).length) Slot.unset).toArray = ls at hl ⊢
  have hl : lv_has ls 3 [(0, .ref h), (1, .int x1), (2, .int x2)] := hl
  refine lv_iload_n hx hb dX0_reading_0 rfl (lv_at hl 1 rfl) ?_
  cases g1 : tv_in 8 x1 with
  | false =>
    have hV1 : V = (1, 0, (rd, lv, op, nt)) := by rw [hV]; simp only [sp_reading, g1, Bool.and_false, Bool.false_and, Bool.and_true, Bool.true_and, Bool.and_self, sp_f, sp_tf, sp_tt]
    exact tv_callT (a := #[]) (vx_runS (As := [.int x1]) (rest := []) ⟨hx, hb, hml, hown, hts⟩ (t_X0_needRow l hT x1 g1) (va_cwS 1 hts gX0_reading_X0_needRow rfl rfl rfl (by decide +kernel) ⟨Nat.le_of_ble_eq_true rfl, Nat.le_of_ble_eq_true rfl⟩) (tv_preT hE hS) rfl rfl hl.1 rfl (lv_room (Nat.le_of_ble_eq_true rfl)) dX0_reading_1 ⟨Nat.le_of_ble_eq_true rfl, Nat.le_of_ble_eq_true rfl⟩) htab hlocks (fun t hz hk => ⟨(), by rw [hV1]; exact (by decide : (1 : Int32) ≠ 0), by rw [hV1]; rfl, hz, fun q hq _ => hk q hq⟩) (fun z h => nomatch h) (Nat.le_of_ble_eq_true rfl) (Nat.le_of_ble_eq_true rfl)
  | true =>
    refine tv_callN (W.runS (As := [.int x1]) (rest := []) ⟨hx, hb, hml, hown, hts⟩ (n_X0_needRow l x1 g1) (va_cwS 1 hts gX0_reading_X0_needRow rfl rfl rfl (by decide +kernel) ⟨Nat.le_of_ble_eq_true rfl, Nat.le_of_ble_eq_true rfl⟩) preEq rfl rfl hl.1 rfl (lv_room (Nat.le_of_ble_eq_true rfl)) dX0_reading_1 ⟨Nat.le_of_ble_eq_true rfl, Nat.le_of_ble_eq_true rfl⟩) ?_
    obtain ⟨r, hr8, rfl⟩ := tv_in_of (by omega) g1
    refine lv_iload_n hx hb dX0_reading_4 rfl (lv_at hl 2 rfl) ?_
    cases g2 : tv_in 12 x2 with
    | false =>
      have hV1 : V = (1, 0, (rd, lv, op, nt)) := by rw [hV]; simp only [sp_reading, g1, g2, Bool.and_false, Bool.false_and, Bool.and_true, Bool.true_and, Bool.and_self, sp_f, sp_tf, sp_tt]
      exact tv_callT (a := #[]) (vx_runS (As := [.int x2]) (rest := []) ⟨hx, hb, hml, hown, hts⟩ (t_X0_needPlace l hT x2 g2) (va_cwS 1 hts gX0_reading_X0_needPlace rfl rfl rfl (by decide +kernel) ⟨Nat.le_of_ble_eq_true rfl, Nat.le_of_ble_eq_true rfl⟩) (tv_preT hE hS) rfl rfl hl.1 rfl (lv_room (Nat.le_of_ble_eq_true rfl)) dX0_reading_5 ⟨Nat.le_of_ble_eq_true rfl, Nat.le_of_ble_eq_true rfl⟩) htab hlocks (fun t hz hk => ⟨(), by rw [hV1]; exact (by decide : (1 : Int32) ≠ 0), by rw [hV1]; rfl, hz, fun q hq _ => hk q hq⟩) (fun z h => nomatch h) (Nat.le_of_ble_eq_true rfl) (Nat.le_of_ble_eq_true rfl)
    | true =>
      refine tv_callN (W.runS (As := [.int x2]) (rest := []) ⟨hx, hb, hml, hown, hts⟩ (n_X0_needPlace l x2 g2) (va_cwS 1 hts gX0_reading_X0_needPlace rfl rfl rfl (by decide +kernel) ⟨Nat.le_of_ble_eq_true rfl, Nat.le_of_ble_eq_true rfl⟩) preEq rfl rfl hl.1 rfl (lv_room (Nat.le_of_ble_eq_true rfl)) dX0_reading_5 ⟨Nat.le_of_ble_eq_true rfl, Nat.le_of_ble_eq_true rfl⟩) ?_
      obtain ⟨k, hk8, rfl⟩ := tv_in_of (by omega) g2
      refine lv_aload_n hx hb dX0_reading_8 rfl (lv_at hl 0 rfl) ?_
      refine va_get (D := D) (ci := 0) (v := .ref a1) (C := RX0) (T := TX0) (N := 4) hx hb hts iX0_reading hown hK hP 0 rfl rfl 0 (by decide) (hts (.fieldLink RX0 9 "TideHouse" "readings" "[I") (by decide +kernel)) (fun _ h9 => h9) rfl dX0_reading_9 ?_
      refine lv_iload_n hx hb dX0_reading_12 rfl (lv_at hl 1 rfl) ?_
      refine lv_iload_n hx hb dX0_reading_13 rfl (lv_at hl 2 rfl) ?_
      refine tv_callR (W.runS (As := [.int (nI r), .int (nI k)]) (rest := [.ref a1]) ⟨hx, hb, hml, hown, hts⟩ (c_X0_spot l r k) (va_cwS 2 hts gX0_reading_X0_spot rfl rfl rfl (by decide +kernel) ⟨Nat.le_of_ble_eq_true rfl, Nat.le_of_ble_eq_true rfl⟩) preEq rfl rfl hl.1 rfl (lv_room (Nat.le_of_ble_eq_true rfl)) dX0_reading_14 ⟨Nat.le_of_ble_eq_true rfl, Nat.le_of_ble_eq_true rfl⟩) ?_
      refine tv_iald (D := D) (cA := cI) (n := 96) (f := rd) (k := (12 * r + k)) hx hb hK hP 1 0 rfl rfl (by omega) (by omega) dX0_reading_17 ?_
      have hV0 : V = (0, rd (12 * r + k), (rd, lv, op, nt)) := by
        rw [hV]; simp only [sp_reading, tN, nI_clamp (show r < 2 ^ 31 by omega), nI_clamp (show k < 2 ^ 31 by omega), g1, g2, Bool.and_false, Bool.false_and, Bool.and_true, Bool.true_and, Bool.and_self, sp_f, sp_tf, sp_tt]
      exact tv_iretP (wf := tv_cw cI cZ h a1 a2 a3 a4) (σ := (rd, lv, op, nt)) (r := rd (12 * r + k)) hAe hV0 hx hb hr hP hK hD hS dX0_reading_18 hlocks
theorem iX0_level : ∀ w ∈ wsX00, w ∈ wsX0_level := by decide +kernel
set_option maxHeartbeats 4000000 in
set_option maxRecDepth 100000 in
theorem c_X0_level (l : Launch) (hT : l.stackTraces = false) (D : va_G) (cI cZ cL : ClassId) (h a1 a2 a3 a4 : Nat) (rd lv op nt : Nat → Int32) (sz : Nat) (x1 x2 x3 : Int32) (V : TV) (hV : V = sp_level x1 x2 x3 (rd, lv, op, nt)) : vx_Met l yX0_level wsX0_level tv_rmP (tv_PP D cI cZ cL (tv_cw cI cZ h a1 a2 a3 a4 (rd, lv, op, nt)) sz [.ref h, .int x1, .int x2, .int x3]) (tv_QP D cI cZ cL (tv_cw cI cZ h a1 a2 a3 a4) (tv_cw cI cZ h a1 a2 a3 a4 (rd, lv, op, nt)) sz V) (tv_XP V) 1 6 (va_A (tv_cw cI cZ h a1 a2 a3 a4 (rd, lv, op, nt)) sz) := by
  refine vx_ofW (cc := cX0_level) (maxL := 4) (ret := (some .boolean)) (by decide) rfl ?_
  intro p e s m args below meth c s₁ B hml htab hv
  obtain ⟨rfl, hsz, hP, hK, hD0, hE⟩ := hv
  subst hsz
  have hx := B.exec
  have hb := B.bytes
  have hr := B.returns
  have hts := atoms_spec (ws := wsX0_level) B.pre
  have hown : s.vm.findClass RX0 = some m.cls := findClass_of_methodNamed B.named
  have hlocks := B.notSynchronized
  have hD := hD0.self (sz := s.heap.size)
  obtain ⟨A, hAe⟩ : ∃ A, A = va_A (tv_cw cI cZ h a1 a2 a3 a4 (rd, lv, op, nt)) s.heap.size := ⟨_, rfl⟩
  rw [← hAe] at hD hE
  have hA : ∀ q : Nat, s.heap.size ≤ q → A q := fun q h => by rw [hAe]; exact Or.inr h
  have hS : va_S A s.heap s.heap [] := va_S.rf
  clear hD0
  have hl := lv_entry ([.ref h, .int x1, .int x2, .int x3]) (n := 4) (Nat.le_of_ble_eq_true rfl)
  rw [lg_entry_eq]
  generalize (lg_sl ([.ref h, .int x1, .int x2, .int x3]) ++ List.replicate (4 - (lg_sl ([.ref h, .int x1, .int x2, .int x3])).length) Slot.unset).toArray = ls at hl ⊢
  have hl : lv_has ls 4 [(0, .ref h), (1, .int x1), (2, .int x2), (3, .int x3)] := hl
  refine lv_iload_n hx hb dX0_level_0 rfl (lv_at hl 1 rfl) ?_
  cases g1 : tv_in 4 x1 with
  | false =>
    have hV1 : V = (1, 0, (rd, lv, op, nt)) := by rw [hV]; simp only [sp_level, g1, Bool.and_false, Bool.false_and, Bool.and_true, Bool.true_and, Bool.and_self, sp_f, sp_tf, sp_tt]
    exact tv_callT (a := #[]) (vx_runS (As := [.int x1]) (rest := []) ⟨hx, hb, hml, hown, hts⟩ (t_X0_needGate l hT x1 g1) (va_cwS 1 hts gX0_level_X0_needGate rfl rfl rfl (by decide +kernel) ⟨Nat.le_of_ble_eq_true rfl, Nat.le_of_ble_eq_true rfl⟩) (tv_preT hE hS) rfl rfl hl.1 rfl (lv_room (Nat.le_of_ble_eq_true rfl)) dX0_level_1 ⟨Nat.le_of_ble_eq_true rfl, Nat.le_of_ble_eq_true rfl⟩) htab hlocks (fun t hz hk => ⟨(), by rw [hV1]; exact (by decide : (1 : Int32) ≠ 0), by rw [hV1]; rfl, hz, fun q hq _ => hk q hq⟩) (fun z h => nomatch h) (Nat.le_of_ble_eq_true rfl) (Nat.le_of_ble_eq_true rfl)
  | true =>
    refine tv_callN (W.runS (As := [.int x1]) (rest := []) ⟨hx, hb, hml, hown, hts⟩ (n_X0_needGate l x1 g1) (va_cwS 1 hts gX0_level_X0_needGate rfl rfl rfl (by decide +kernel) ⟨Nat.le_of_ble_eq_true rfl, Nat.le_of_ble_eq_true rfl⟩) preEq rfl rfl hl.1 rfl (lv_room (Nat.le_of_ble_eq_true rfl)) dX0_level_1 ⟨Nat.le_of_ble_eq_true rfl, Nat.le_of_ble_eq_true rfl⟩) ?_
    obtain ⟨g, hg8, rfl⟩ := tv_in_of (by omega) g1
    refine lv_iload_n hx hb dX0_level_4 rfl (lv_at hl 3 rfl) ?_
    cases g2 : tv_num x3 with
    | false =>
      have hV1 : V = (2, 0, (rd, lv, op, nt)) := by rw [hV]; simp only [sp_level, g1, g2, Bool.and_false, Bool.false_and, Bool.and_true, Bool.true_and, Bool.and_self, sp_f, sp_tf, sp_tt]
      exact tv_callT (a := #[]) (vx_runS (As := [.int x3]) (rest := []) ⟨hx, hb, hml, hown, hts⟩ (t_X0_needNumber l hT x3 g2) (va_cwS 1 hts gX0_level_X0_needNumber rfl rfl rfl (by decide +kernel) ⟨Nat.le_of_ble_eq_true rfl, Nat.le_of_ble_eq_true rfl⟩) (tv_preT hE hS) rfl rfl hl.1 rfl (lv_room (Nat.le_of_ble_eq_true rfl)) dX0_level_5 ⟨Nat.le_of_ble_eq_true rfl, Nat.le_of_ble_eq_true rfl⟩) htab hlocks (fun t hz hk => ⟨(), by rw [hV1]; exact (by decide : (2 : Int32) ≠ 0), by rw [hV1]; rfl, hz, fun q hq _ => hk q hq⟩) (fun z h => nomatch h) (Nat.le_of_ble_eq_true rfl) (Nat.le_of_ble_eq_true rfl)
    | true =>
      refine tv_callN (W.runS (As := [.int x3]) (rest := []) ⟨hx, hb, hml, hown, hts⟩ (n_X0_needNumber l x3 g2) (va_cwS 1 hts gX0_level_X0_needNumber rfl rfl rfl (by decide +kernel) ⟨Nat.le_of_ble_eq_true rfl, Nat.le_of_ble_eq_true rfl⟩) preEq rfl rfl hl.1 rfl (lv_room (Nat.le_of_ble_eq_true rfl)) dX0_level_5 ⟨Nat.le_of_ble_eq_true rfl, Nat.le_of_ble_eq_true rfl⟩) ?_
      refine lv_aload_n hx hb dX0_level_8 rfl (lv_at hl 0 rfl) ?_
      refine va_get (D := D) (ci := 0) (v := .ref a2) (C := RX0) (T := TX0) (N := 4) hx hb hts iX0_level hown hK hP 0 rfl rfl 1 (by decide) (hts (.fieldLink RX0 13 "TideHouse" "levels" "[I") (by decide +kernel)) (fun _ h9 => h9) rfl dX0_level_9 ?_
      refine lv_iload_n hx hb dX0_level_12 rfl (lv_at hl 1 rfl) ?_
      refine lv_iload_n hx hb dX0_level_13 rfl (lv_at hl 2 rfl) ?_
      refine tv_callR (W.runS (As := [.int (nI g), .int x2]) (rest := [.ref a2]) ⟨hx, hb, hml, hown, hts⟩ (c_X0_levelSpot l g x2) (va_cwS 2 hts gX0_level_X0_levelSpot rfl rfl rfl (by decide +kernel) ⟨Nat.le_of_ble_eq_true rfl, Nat.le_of_ble_eq_true rfl⟩) preEq rfl rfl hl.1 rfl (lv_room (Nat.le_of_ble_eq_true rfl)) dX0_level_14 ⟨Nat.le_of_ble_eq_true rfl, Nat.le_of_ble_eq_true rfl⟩) ?_
      refine lv_iload_n hx hb dX0_level_17 rfl (lv_at hl 3 rfl) ?_
      refine tv_callW (D := D) (ws := tv_cw cI cZ h a1 a2 a3 a4 (rd, lv, op, nt)) (wc := [(a2, .inl (cI, 8, .inl (lv)))]) (wr := [(h, .inr (0, [.ref a1, .ref a2, .ref a3, .ref a4])), (a1, .inl (cI, 96, .inl (rd))), (a3, .inl (cZ, 4, .inl (op))), (a4, .inl (cI, 8, .inl (nt)))]) (wc' := [(a2, .inl (cI, 8, .inl (upd lv (2 * g + (if x2 = 0 then 0 else 1)) x3)))]) (wsN := tv_cw cI cZ h a1 a2 a3 a4 (rd, upd lv (2 * g + (if x2 = 0 then 0 else 1)) x3, op, nt)) (r := (if lv (2 * g + (if x2 = 0 then 0 else 1)) = x3 then 0 else 1)) (va_runS (As := [.ref a2, .int (nI (2 * g + (if x2 = 0 then 0 else 1))), .int x3]) (rest := []) ⟨hx, hb, hml, hown, hts⟩ (c_X0_store l D cI cZ cL a2 8 s.heap.size lv (2 * g + (if x2 = 0 then 0 else 1)) x3 (by split <;> omega) (by omega)) (va_cwS 3 hts gX0_level_X0_store rfl rfl rfl (by decide +kernel) ⟨Nat.le_of_ble_eq_true rfl, Nat.le_of_ble_eq_true rfl⟩) (tv_preD hP hK hD [2] rfl rfl rfl) rfl rfl hl.1 rfl (lv_room (Nat.le_of_ble_eq_true rfl)) dX0_level_18 ⟨Nat.le_of_ble_eq_true rfl, Nat.le_of_ble_eq_true rfl⟩) hP hD hS hA [2] [0, 1, 3, 4] rfl rfl rfl (by decide) [0, 1, 4, 2, 3] rfl rfl rfl (fun H locs hP hD hS => ?_)
      have hV0 : V = (0, (if lv (2 * g + (if x2 = 0 then 0 else 1)) = x3 then 0 else 1), (rd, upd lv (2 * g + (if x2 = 0 then 0 else 1)) x3, op, nt)) := by
        rw [hV]; simp only [sp_level, tN, nI_clamp (show g < 2 ^ 31 by omega), g1, g2, Bool.and_false, Bool.false_and, Bool.and_true, Bool.true_and, Bool.and_self, sp_f, sp_tf, sp_tt]
      exact tv_zretP tv_if01 (wf := tv_cw cI cZ h a1 a2 a3 a4) (σ := (rd, upd lv (2 * g + (if x2 = 0 then 0 else 1)) x3, op, nt)) (r := if lv (2 * g + (if x2 = 0 then 0 else 1)) = x3 then 0 else 1) hAe hV0 hx hb hr hP hK hD hS dX0_level_21 hlocks
theorem iX0_isOpen : ∀ w ∈ wsX00, w ∈ wsX0_isOpen := by decide +kernel
set_option maxHeartbeats 4000000 in
set_option maxRecDepth 100000 in
theorem c_X0_isOpen (l : Launch) (hT : l.stackTraces = false) (D : va_G) (cI cZ cL : ClassId) (h a1 a2 a3 a4 : Nat) (rd lv op nt : Nat → Int32) (sz : Nat) (x1 : Int32) (V : TV) (hV : V = sp_isOpen x1 (rd, lv, op, nt)) (hop : ∀ j, op j = 0 ∨ op j = 1) : vx_Met l yX0_isOpen wsX0_isOpen tv_rmP (tv_PP D cI cZ cL (tv_cw cI cZ h a1 a2 a3 a4 (rd, lv, op, nt)) sz [.ref h, .int x1]) (tv_QP D cI cZ cL (tv_cw cI cZ h a1 a2 a3 a4) (tv_cw cI cZ h a1 a2 a3 a4 (rd, lv, op, nt)) sz V) (tv_XP V) 1 6 (va_A (tv_cw cI cZ h a1 a2 a3 a4 (rd, lv, op, nt)) sz) := by
  refine vx_ofW (cc := cX0_isOpen) (maxL := 2) (ret := (some .boolean)) (by decide) rfl ?_
  intro p e s m args below meth c s₁ B hml htab hv
  obtain ⟨rfl, hsz, hP, hK, hD0, hE⟩ := hv
  subst hsz
  have hx := B.exec
  have hb := B.bytes
  have hr := B.returns
  have hts := atoms_spec (ws := wsX0_isOpen) B.pre
  have hown : s.vm.findClass RX0 = some m.cls := findClass_of_methodNamed B.named
  have hlocks := B.notSynchronized
  have hD := hD0.self (sz := s.heap.size)
  obtain ⟨A, hAe⟩ : ∃ A, A = va_A (tv_cw cI cZ h a1 a2 a3 a4 (rd, lv, op, nt)) s.heap.size := ⟨_, rfl⟩
  rw [← hAe] at hD hE
  have hA : ∀ q : Nat, s.heap.size ≤ q → A q := fun q h => by rw [hAe]; exact Or.inr h
  have hS : va_S A s.heap s.heap [] := va_S.rf
  clear hD0
  have hl := lv_entry ([.ref h, .int x1]) (n := 2) (Nat.le_of_ble_eq_true rfl)
  rw [lg_entry_eq]
  generalize (lg_sl ([.ref h, .int x1]) ++ List.replicate (2 - (lg_sl ([.ref h, .int x1])).length) Slot.unset).toArray = ls at hl ⊢
  have hl : lv_has ls 2 [(0, .ref h), (1, .int x1)] := hl
  refine lv_iload_n hx hb dX0_isOpen_0 rfl (lv_at hl 1 rfl) ?_
  cases g1 : tv_in 4 x1 with
  | false =>
    have hV1 : V = (1, 0, (rd, lv, op, nt)) := by rw [hV]; simp only [sp_isOpen, g1, Bool.and_false, Bool.false_and, Bool.and_true, Bool.true_and, Bool.and_self, sp_f, sp_tf, sp_tt]
    exact tv_callT (a := #[]) (vx_runS (As := [.int x1]) (rest := []) ⟨hx, hb, hml, hown, hts⟩ (t_X0_needGate l hT x1 g1) (va_cwS 1 hts gX0_isOpen_X0_needGate rfl rfl rfl (by decide +kernel) ⟨Nat.le_of_ble_eq_true rfl, Nat.le_of_ble_eq_true rfl⟩) (tv_preT hE hS) rfl rfl hl.1 rfl (lv_room (Nat.le_of_ble_eq_true rfl)) dX0_isOpen_1 ⟨Nat.le_of_ble_eq_true rfl, Nat.le_of_ble_eq_true rfl⟩) htab hlocks (fun t hz hk => ⟨(), by rw [hV1]; exact (by decide : (1 : Int32) ≠ 0), by rw [hV1]; rfl, hz, fun q hq _ => hk q hq⟩) (fun z h => nomatch h) (Nat.le_of_ble_eq_true rfl) (Nat.le_of_ble_eq_true rfl)
  | true =>
    refine tv_callN (W.runS (As := [.int x1]) (rest := []) ⟨hx, hb, hml, hown, hts⟩ (n_X0_needGate l x1 g1) (va_cwS 1 hts gX0_isOpen_X0_needGate rfl rfl rfl (by decide +kernel) ⟨Nat.le_of_ble_eq_true rfl, Nat.le_of_ble_eq_true rfl⟩) preEq rfl rfl hl.1 rfl (lv_room (Nat.le_of_ble_eq_true rfl)) dX0_isOpen_1 ⟨Nat.le_of_ble_eq_true rfl, Nat.le_of_ble_eq_true rfl⟩) ?_
    obtain ⟨g, hg8, rfl⟩ := tv_in_of (by omega) g1
    refine lv_aload_n hx hb dX0_isOpen_4 rfl (lv_at hl 0 rfl) ?_
    refine va_get (D := D) (ci := 0) (v := .ref a3) (C := RX0) (T := TX0) (N := 4) hx hb hts iX0_isOpen hown hK hP 0 rfl rfl 2 (by decide) (hts (.fieldLink RX0 16 "TideHouse" "open" "[Z") (by decide +kernel)) (fun _ h9 => h9) rfl dX0_isOpen_5 ?_
    refine lv_iload_n hx hb dX0_isOpen_8 rfl (lv_at hl 1 rfl) ?_
    refine tv_zald (D := D) (cA := cZ) (n := 4) (f := op) (k := g) hx hb hK hP 3 1 rfl rfl (by omega) (by omega) dX0_isOpen_9 ?_
    have hV0 : V = (0, op g, (rd, lv, op, nt)) := by
      rw [hV]; simp only [sp_isOpen, tN, nI_clamp (show g < 2 ^ 31 by omega), g1, Bool.and_false, Bool.false_and, Bool.and_true, Bool.true_and, Bool.and_self, sp_f, sp_tf, sp_tt]
    exact tv_zretP (hop g) (wf := tv_cw cI cZ h a1 a2 a3 a4) (σ := (rd, lv, op, nt)) (r := op g) hAe hV0 hx hb hr hP hK hD hS dX0_isOpen_10 hlocks
theorem iX0_notes : ∀ w ∈ wsX00, w ∈ wsX0_notes := by decide +kernel
set_option maxHeartbeats 4000000 in
set_option maxRecDepth 100000 in
theorem c_X0_notes (l : Launch) (hT : l.stackTraces = false) (D : va_G) (cI cZ cL : ClassId) (h a1 a2 a3 a4 : Nat) (rd lv op nt : Nat → Int32) (sz : Nat) (x1 : Int32) (V : TV) (hV : V = sp_notes x1 (rd, lv, op, nt)) : vx_Met l yX0_notes wsX0_notes tv_rmP (tv_PP D cI cZ cL (tv_cw cI cZ h a1 a2 a3 a4 (rd, lv, op, nt)) sz [.ref h, .int x1]) (tv_QP D cI cZ cL (tv_cw cI cZ h a1 a2 a3 a4) (tv_cw cI cZ h a1 a2 a3 a4 (rd, lv, op, nt)) sz V) (tv_XP V) 1 6 (va_A (tv_cw cI cZ h a1 a2 a3 a4 (rd, lv, op, nt)) sz) := by
  refine vx_ofW (cc := cX0_notes) (maxL := 2) (ret := (some .int)) (by decide) rfl ?_
  intro p e s m args below meth c s₁ B hml htab hv
  obtain ⟨rfl, hsz, hP, hK, hD0, hE⟩ := hv
  subst hsz
  have hx := B.exec
  have hb := B.bytes
  have hr := B.returns
  have hts := atoms_spec (ws := wsX0_notes) B.pre
  have hown : s.vm.findClass RX0 = some m.cls := findClass_of_methodNamed B.named
  have hlocks := B.notSynchronized
  have hD := hD0.self (sz := s.heap.size)
  obtain ⟨A, hAe⟩ : ∃ A, A = va_A (tv_cw cI cZ h a1 a2 a3 a4 (rd, lv, op, nt)) s.heap.size := ⟨_, rfl⟩
  rw [← hAe] at hD hE
  have hA : ∀ q : Nat, s.heap.size ≤ q → A q := fun q h => by rw [hAe]; exact Or.inr h
  have hS : va_S A s.heap s.heap [] := va_S.rf
  clear hD0
  have hl := lv_entry ([.ref h, .int x1]) (n := 2) (Nat.le_of_ble_eq_true rfl)
  rw [lg_entry_eq]
  generalize (lg_sl ([.ref h, .int x1]) ++ List.replicate (2 - (lg_sl ([.ref h, .int x1])).length) Slot.unset).toArray = ls at hl ⊢
  have hl : lv_has ls 2 [(0, .ref h), (1, .int x1)] := hl
  refine lv_iload_n hx hb dX0_notes_0 rfl (lv_at hl 1 rfl) ?_
  cases g1 : tv_in 8 x1 with
  | false =>
    have hV1 : V = (1, 0, (rd, lv, op, nt)) := by rw [hV]; simp only [sp_notes, g1, Bool.and_false, Bool.false_and, Bool.and_true, Bool.true_and, Bool.and_self, sp_f, sp_tf, sp_tt]
    exact tv_callT (a := #[]) (vx_runS (As := [.int x1]) (rest := []) ⟨hx, hb, hml, hown, hts⟩ (t_X0_needRow l hT x1 g1) (va_cwS 1 hts gX0_notes_X0_needRow rfl rfl rfl (by decide +kernel) ⟨Nat.le_of_ble_eq_true rfl, Nat.le_of_ble_eq_true rfl⟩) (tv_preT hE hS) rfl rfl hl.1 rfl (lv_room (Nat.le_of_ble_eq_true rfl)) dX0_notes_1 ⟨Nat.le_of_ble_eq_true rfl, Nat.le_of_ble_eq_true rfl⟩) htab hlocks (fun t hz hk => ⟨(), by rw [hV1]; exact (by decide : (1 : Int32) ≠ 0), by rw [hV1]; rfl, hz, fun q hq _ => hk q hq⟩) (fun z h => nomatch h) (Nat.le_of_ble_eq_true rfl) (Nat.le_of_ble_eq_true rfl)
  | true =>
    refine tv_callN (W.runS (As := [.int x1]) (rest := []) ⟨hx, hb, hml, hown, hts⟩ (n_X0_needRow l x1 g1) (va_cwS 1 hts gX0_notes_X0_needRow rfl rfl rfl (by decide +kernel) ⟨Nat.le_of_ble_eq_true rfl, Nat.le_of_ble_eq_true rfl⟩) preEq rfl rfl hl.1 rfl (lv_room (Nat.le_of_ble_eq_true rfl)) dX0_notes_1 ⟨Nat.le_of_ble_eq_true rfl, Nat.le_of_ble_eq_true rfl⟩) ?_
    obtain ⟨r, hr8, rfl⟩ := tv_in_of (by omega) g1
    refine lv_aload_n hx hb dX0_notes_4 rfl (lv_at hl 0 rfl) ?_
    refine va_get (D := D) (ci := 0) (v := .ref a4) (C := RX0) (T := TX0) (N := 4) hx hb hts iX0_notes hown hK hP 0 rfl rfl 3 (by decide) (hts (.fieldLink RX0 20 "TideHouse" "rowNotes" "[I") (by decide +kernel)) (fun _ h9 => h9) rfl dX0_notes_5 ?_
    refine lv_iload_n hx hb dX0_notes_8 rfl (lv_at hl 1 rfl) ?_
    refine tv_iald (D := D) (cA := cI) (n := 8) (f := nt) (k := r) hx hb hK hP 4 0 rfl rfl (by omega) (by omega) dX0_notes_9 ?_
    have hV0 : V = (0, nt r, (rd, lv, op, nt)) := by
      rw [hV]; simp only [sp_notes, tN, nI_clamp (show r < 2 ^ 31 by omega), g1, Bool.and_false, Bool.false_and, Bool.and_true, Bool.true_and, Bool.and_self, sp_f, sp_tf, sp_tt]
    exact tv_iretP (wf := tv_cw cI cZ h a1 a2 a3 a4) (σ := (rd, lv, op, nt)) (r := nt r) hAe hV0 hx hb hr hP hK hD hS dX0_notes_10 hlocks
theorem iX0_gaps : ∀ w ∈ wsX00, w ∈ wsX0_gaps := by decide +kernel
set_option maxHeartbeats 4000000 in
set_option maxRecDepth 100000 in
theorem c_X0_gaps (l : Launch) (hT : l.stackTraces = false) (D : va_G) (cI cZ cL : ClassId) (h a1 a2 a3 a4 : Nat) (rd lv op nt : Nat → Int32) (sz : Nat) (x1 : Int32) (V : TV) (hV : V = sp_gaps x1 (rd, lv, op, nt)) : vx_Met l yX0_gaps wsX0_gaps tv_rmP (tv_PP D cI cZ cL (tv_cw cI cZ h a1 a2 a3 a4 (rd, lv, op, nt)) sz [.ref h, .int x1]) (tv_QP D cI cZ cL (tv_cw cI cZ h a1 a2 a3 a4) (tv_cw cI cZ h a1 a2 a3 a4 (rd, lv, op, nt)) sz V) (tv_XP V) 1 6 (va_A (tv_cw cI cZ h a1 a2 a3 a4 (rd, lv, op, nt)) sz) := by
  refine vx_ofW (cc := cX0_gaps) (maxL := 2) (ret := (some .int)) (by decide) rfl ?_
  intro p e s m args below meth c s₁ B hml htab hv
  obtain ⟨rfl, hsz, hP, hK, hD0, hE⟩ := hv
  subst hsz
  have hx := B.exec
  have hb := B.bytes
  have hr := B.returns
  have hts := atoms_spec (ws := wsX0_gaps) B.pre
  have hown : s.vm.findClass RX0 = some m.cls := findClass_of_methodNamed B.named
  have hlocks := B.notSynchronized
  have hD := hD0.self (sz := s.heap.size)
  obtain ⟨A, hAe⟩ : ∃ A, A = va_A (tv_cw cI cZ h a1 a2 a3 a4 (rd, lv, op, nt)) s.heap.size := ⟨_, rfl⟩
  rw [← hAe] at hD hE
  have hA : ∀ q : Nat, s.heap.size ≤ q → A q := fun q h => by rw [hAe]; exact Or.inr h
  have hS : va_S A s.heap s.heap [] := va_S.rf
  clear hD0
  have hl := lv_entry ([.ref h, .int x1]) (n := 2) (Nat.le_of_ble_eq_true rfl)
  rw [lg_entry_eq]
  generalize (lg_sl ([.ref h, .int x1]) ++ List.replicate (2 - (lg_sl ([.ref h, .int x1])).length) Slot.unset).toArray = ls at hl ⊢
  have hl : lv_has ls 2 [(0, .ref h), (1, .int x1)] := hl
  refine lv_iload_n hx hb dX0_gaps_0 rfl (lv_at hl 1 rfl) ?_
  cases g1 : tv_in 8 x1 with
  | false =>
    have hV1 : V = (1, 0, (rd, lv, op, nt)) := by rw [hV]; simp only [sp_gaps, g1, Bool.and_false, Bool.false_and, Bool.and_true, Bool.true_and, Bool.and_self, sp_f, sp_tf, sp_tt]
    exact tv_callT (a := #[]) (vx_runS (As := [.int x1]) (rest := []) ⟨hx, hb, hml, hown, hts⟩ (t_X0_needRow l hT x1 g1) (va_cwS 1 hts gX0_gaps_X0_needRow rfl rfl rfl (by decide +kernel) ⟨Nat.le_of_ble_eq_true rfl, Nat.le_of_ble_eq_true rfl⟩) (tv_preT hE hS) rfl rfl hl.1 rfl (lv_room (Nat.le_of_ble_eq_true rfl)) dX0_gaps_1 ⟨Nat.le_of_ble_eq_true rfl, Nat.le_of_ble_eq_true rfl⟩) htab hlocks (fun t hz hk => ⟨(), by rw [hV1]; exact (by decide : (1 : Int32) ≠ 0), by rw [hV1]; rfl, hz, fun q hq _ => hk q hq⟩) (fun z h => nomatch h) (Nat.le_of_ble_eq_true rfl) (Nat.le_of_ble_eq_true rfl)
  | true =>
    refine tv_callN (W.runS (As := [.int x1]) (rest := []) ⟨hx, hb, hml, hown, hts⟩ (n_X0_needRow l x1 g1) (va_cwS 1 hts gX0_gaps_X0_needRow rfl rfl rfl (by decide +kernel) ⟨Nat.le_of_ble_eq_true rfl, Nat.le_of_ble_eq_true rfl⟩) preEq rfl rfl hl.1 rfl (lv_room (Nat.le_of_ble_eq_true rfl)) dX0_gaps_1 ⟨Nat.le_of_ble_eq_true rfl, Nat.le_of_ble_eq_true rfl⟩) ?_
    obtain ⟨r, hr8, rfl⟩ := tv_in_of (by omega) g1
    refine lv_aload_n hx hb dX0_gaps_4 rfl (lv_at hl 0 rfl) ?_
    refine lv_iload_n hx hb dX0_gaps_5 rfl (lv_at hl 1 rfl) ?_
    refine tv_callR (W.runV (As := [.int (nI r)]) (rest := []) ⟨hx, hb, hml, hown, hts⟩ (c_X0_countMissing l D cI cZ cL h a1 a2 a3 a4 rd lv op nt r hr8) (cwV 1 hts gX0_gaps_X0_countMissing rfl rfl rfl (by decide +kernel) ⟨Nat.le_of_ble_eq_true rfl, Nat.le_of_ble_eq_true rfl⟩) (tv_preV hP hK rfl 0 rfl) rfl rfl hl.1 rfl (lv_room (Nat.le_of_ble_eq_true rfl)) dX0_gaps_6 ⟨Nat.le_of_ble_eq_true rfl, Nat.le_of_ble_eq_true rfl⟩) ?_
    have hV0 : V = (0, cn (fun k => if rd (12 * r + k) = -2147483648 then 1 else 0) 12, (rd, lv, op, nt)) := by
      rw [hV]; simp only [sp_gaps, tN, nI_clamp (show r < 2 ^ 31 by omega), g1, Bool.and_false, Bool.false_and, Bool.and_true, Bool.true_and, Bool.and_self, sp_f, sp_tf, sp_tt]
    exact tv_iretP (wf := tv_cw cI cZ h a1 a2 a3 a4) (σ := (rd, lv, op, nt)) (r := cn (fun k => if rd (12 * r + k) = -2147483648 then 1 else 0) 12) hAe hV0 hx hb hr hP hK hD hS dX0_gaps_9 hlocks
theorem iX0_climb : ∀ w ∈ wsX00, w ∈ wsX0_climb := by decide +kernel
set_option maxHeartbeats 4000000 in
set_option maxRecDepth 100000 in
theorem c_X0_climb (l : Launch) (hT : l.stackTraces = false) (D : va_G) (cI cZ cL : ClassId) (h a1 a2 a3 a4 : Nat) (rd lv op nt : Nat → Int32) (sz : Nat) (x1 x2 x3 : Int32) (V : TV) (hV : V = sp_climb x1 x2 x3 (rd, lv, op, nt)) : vx_Met l yX0_climb wsX0_climb tv_rmP (tv_PP D cI cZ cL (tv_cw cI cZ h a1 a2 a3 a4 (rd, lv, op, nt)) sz [.ref h, .int x1, .int x2, .int x3]) (tv_QP D cI cZ cL (tv_cw cI cZ h a1 a2 a3 a4) (tv_cw cI cZ h a1 a2 a3 a4 (rd, lv, op, nt)) sz V) (tv_XP V) 1 6 (va_A (tv_cw cI cZ h a1 a2 a3 a4 (rd, lv, op, nt)) sz) := by
  refine vx_ofW (cc := cX0_climb) (maxL := 4) (ret := (some .int)) (by decide) rfl ?_
  intro p e s m args below meth c s₁ B hml htab hv
  obtain ⟨rfl, hsz, hP, hK, hD0, hE⟩ := hv
  subst hsz
  have hx := B.exec
  have hb := B.bytes
  have hr := B.returns
  have hts := atoms_spec (ws := wsX0_climb) B.pre
  have hown : s.vm.findClass RX0 = some m.cls := findClass_of_methodNamed B.named
  have hlocks := B.notSynchronized
  have hD := hD0.self (sz := s.heap.size)
  obtain ⟨A, hAe⟩ : ∃ A, A = va_A (tv_cw cI cZ h a1 a2 a3 a4 (rd, lv, op, nt)) s.heap.size := ⟨_, rfl⟩
  rw [← hAe] at hD hE
  have hA : ∀ q : Nat, s.heap.size ≤ q → A q := fun q h => by rw [hAe]; exact Or.inr h
  have hS : va_S A s.heap s.heap [] := va_S.rf
  clear hD0
  have hl := lv_entry ([.ref h, .int x1, .int x2, .int x3]) (n := 4) (Nat.le_of_ble_eq_true rfl)
  rw [lg_entry_eq]
  generalize (lg_sl ([.ref h, .int x1, .int x2, .int x3]) ++ List.replicate (4 - (lg_sl ([.ref h, .int x1, .int x2, .int x3])).length) Slot.unset).toArray = ls at hl ⊢
  have hl : lv_has ls 4 [(0, .ref h), (1, .int x1), (2, .int x2), (3, .int x3)] := hl
  refine lv_iload_n hx hb dX0_climb_0 rfl (lv_at hl 1 rfl) ?_
  cases g1 : tv_in 8 x1 with
  | false =>
    have hV1 : V = (1, 0, (rd, lv, op, nt)) := by rw [hV]; simp only [sp_climb, g1, Bool.and_false, Bool.false_and, Bool.and_true, Bool.true_and, Bool.and_self, sp_f, sp_tf, sp_tt]
    exact tv_callT (a := #[]) (vx_runS (As := [.int x1]) (rest := []) ⟨hx, hb, hml, hown, hts⟩ (t_X0_needRow l hT x1 g1) (va_cwS 1 hts gX0_climb_X0_needRow rfl rfl rfl (by decide +kernel) ⟨Nat.le_of_ble_eq_true rfl, Nat.le_of_ble_eq_true rfl⟩) (tv_preT hE hS) rfl rfl hl.1 rfl (lv_room (Nat.le_of_ble_eq_true rfl)) dX0_climb_1 ⟨Nat.le_of_ble_eq_true rfl, Nat.le_of_ble_eq_true rfl⟩) htab hlocks (fun t hz hk => ⟨(), by rw [hV1]; exact (by decide : (1 : Int32) ≠ 0), by rw [hV1]; rfl, hz, fun q hq _ => hk q hq⟩) (fun z h => nomatch h) (Nat.le_of_ble_eq_true rfl) (Nat.le_of_ble_eq_true rfl)
  | true =>
    refine tv_callN (W.runS (As := [.int x1]) (rest := []) ⟨hx, hb, hml, hown, hts⟩ (n_X0_needRow l x1 g1) (va_cwS 1 hts gX0_climb_X0_needRow rfl rfl rfl (by decide +kernel) ⟨Nat.le_of_ble_eq_true rfl, Nat.le_of_ble_eq_true rfl⟩) preEq rfl rfl hl.1 rfl (lv_room (Nat.le_of_ble_eq_true rfl)) dX0_climb_1 ⟨Nat.le_of_ble_eq_true rfl, Nat.le_of_ble_eq_true rfl⟩) ?_
    obtain ⟨r, hr8, rfl⟩ := tv_in_of (by omega) g1
    refine lv_iload_n hx hb dX0_climb_4 rfl (lv_at hl 2 rfl) ?_
    cases g2 : tv_in 12 x2 with
    | false =>
      have hV1 : V = (1, 0, (rd, lv, op, nt)) := by rw [hV]; simp only [sp_climb, g1, g2, Bool.and_false, Bool.false_and, Bool.and_true, Bool.true_and, Bool.and_self, sp_f, sp_tf, sp_tt]
      exact tv_callT (a := #[]) (vx_runS (As := [.int x2]) (rest := []) ⟨hx, hb, hml, hown, hts⟩ (t_X0_needPlace l hT x2 g2) (va_cwS 1 hts gX0_climb_X0_needPlace rfl rfl rfl (by decide +kernel) ⟨Nat.le_of_ble_eq_true rfl, Nat.le_of_ble_eq_true rfl⟩) (tv_preT hE hS) rfl rfl hl.1 rfl (lv_room (Nat.le_of_ble_eq_true rfl)) dX0_climb_5 ⟨Nat.le_of_ble_eq_true rfl, Nat.le_of_ble_eq_true rfl⟩) htab hlocks (fun t hz hk => ⟨(), by rw [hV1]; exact (by decide : (1 : Int32) ≠ 0), by rw [hV1]; rfl, hz, fun q hq _ => hk q hq⟩) (fun z h => nomatch h) (Nat.le_of_ble_eq_true rfl) (Nat.le_of_ble_eq_true rfl)
    | true =>
      refine tv_callN (W.runS (As := [.int x2]) (rest := []) ⟨hx, hb, hml, hown, hts⟩ (n_X0_needPlace l x2 g2) (va_cwS 1 hts gX0_climb_X0_needPlace rfl rfl rfl (by decide +kernel) ⟨Nat.le_of_ble_eq_true rfl, Nat.le_of_ble_eq_true rfl⟩) preEq rfl rfl hl.1 rfl (lv_room (Nat.le_of_ble_eq_true rfl)) dX0_climb_5 ⟨Nat.le_of_ble_eq_true rfl, Nat.le_of_ble_eq_true rfl⟩) ?_
      obtain ⟨k, hk8, rfl⟩ := tv_in_of (by omega) g2
      refine lv_iload_n hx hb dX0_climb_8 rfl (lv_at hl 3 rfl) ?_
      cases g3 : tv_sg x3 with
      | false =>
        have hV1 : V = (2, 0, (rd, lv, op, nt)) := by rw [hV]; simp only [sp_climb, g1, g2, g3, Bool.and_false, Bool.false_and, Bool.and_true, Bool.true_and, Bool.and_self, sp_f, sp_tf, sp_tt]
        exact tv_callT (a := #[]) (vx_runS (As := [.int x3]) (rest := []) ⟨hx, hb, hml, hown, hts⟩ (t_X0_needSign l hT x3 g3) (va_cwS 1 hts gX0_climb_X0_needSign rfl rfl rfl (by decide +kernel) ⟨Nat.le_of_ble_eq_true rfl, Nat.le_of_ble_eq_true rfl⟩) (tv_preT hE hS) rfl rfl hl.1 rfl (lv_room (Nat.le_of_ble_eq_true rfl)) dX0_climb_9 ⟨Nat.le_of_ble_eq_true rfl, Nat.le_of_ble_eq_true rfl⟩) htab hlocks (fun t hz hk => ⟨(), by rw [hV1]; exact (by decide : (2 : Int32) ≠ 0), by rw [hV1]; rfl, hz, fun q hq _ => hk q hq⟩) (fun z h => nomatch h) (Nat.le_of_ble_eq_true rfl) (Nat.le_of_ble_eq_true rfl)
      | true =>
        refine tv_callN (W.runS (As := [.int x3]) (rest := []) ⟨hx, hb, hml, hown, hts⟩ (n_X0_needSign l x3 g3) (va_cwS 1 hts gX0_climb_X0_needSign rfl rfl rfl (by decide +kernel) ⟨Nat.le_of_ble_eq_true rfl, Nat.le_of_ble_eq_true rfl⟩) preEq rfl rfl hl.1 rfl (lv_room (Nat.le_of_ble_eq_true rfl)) dX0_climb_9 ⟨Nat.le_of_ble_eq_true rfl, Nat.le_of_ble_eq_true rfl⟩) ?_
        refine lv_aload_n hx hb dX0_climb_12 rfl (lv_at hl 0 rfl) ?_
        refine lv_iload_n hx hb dX0_climb_13 rfl (lv_at hl 1 rfl) ?_
        refine lv_iload_n hx hb dX0_climb_14 rfl (lv_at hl 2 rfl) ?_
        refine lv_iload_n hx hb dX0_climb_15 rfl (lv_at hl 3 rfl) ?_
        refine lv_iconst (v := 1) hx hb dX0_climb_16 (by decide) ?_
        refine tv_callR (W.runV (As := [.int (nI r), .int (nI k), .int x3, .int 1]) (rest := []) ⟨hx, hb, hml, hown, hts⟩ (c_X0_walk l D cI cZ cL h a1 a2 a3 a4 rd lv op nt r k (wk x3 1 (rw12 rd r) 12 k) x3 1 hr8 hk8 rfl) (cwV 4 hts gX0_climb_X0_walk rfl rfl rfl (by decide +kernel) ⟨Nat.le_of_ble_eq_true rfl, Nat.le_of_ble_eq_true rfl⟩) (tv_preV hP hK rfl 0 rfl) rfl rfl hl.1 rfl (lv_room (Nat.le_of_ble_eq_true rfl)) dX0_climb_17 ⟨Nat.le_of_ble_eq_true rfl, Nat.le_of_ble_eq_true rfl⟩) ?_
        have hV0 : V = (0, nI (wk x3 1 (rw12 rd r) 12 k), (rd, lv, op, nt)) := by
          rw [hV]; simp only [sp_climb, tN, nI_clamp (show r < 2 ^ 31 by omega), nI_clamp (show k < 2 ^ 31 by omega), g1, g2, g3, Bool.and_false, Bool.false_and, Bool.and_true, Bool.true_and, Bool.and_self, sp_f, sp_tf, sp_tt]
        exact tv_iretP (wf := tv_cw cI cZ h a1 a2 a3 a4) (σ := (rd, lv, op, nt)) (r := nI (wk x3 1 (rw12 rd r) 12 k)) hAe hV0 hx hb hr hP hK hD hS dX0_climb_20 hlocks
theorem iX0_drift : ∀ w ∈ wsX00, w ∈ wsX0_drift := by decide +kernel
set_option maxHeartbeats 4000000 in
set_option maxRecDepth 100000 in
theorem c_X0_drift (l : Launch) (hT : l.stackTraces = false) (D : va_G) (cI cZ cL : ClassId) (h a1 a2 a3 a4 : Nat) (rd lv op nt : Nat → Int32) (sz : Nat) (x1 x2 x3 : Int32) (V : TV) (hV : V = sp_drift x1 x2 x3 (rd, lv, op, nt)) : vx_Met l yX0_drift wsX0_drift tv_rmP (tv_PP D cI cZ cL (tv_cw cI cZ h a1 a2 a3 a4 (rd, lv, op, nt)) sz [.ref h, .int x1, .int x2, .int x3]) (tv_QP D cI cZ cL (tv_cw cI cZ h a1 a2 a3 a4) (tv_cw cI cZ h a1 a2 a3 a4 (rd, lv, op, nt)) sz V) (tv_XP V) 1 6 (va_A (tv_cw cI cZ h a1 a2 a3 a4 (rd, lv, op, nt)) sz) := by
  refine vx_ofW (cc := cX0_drift) (maxL := 4) (ret := (some .int)) (by decide) rfl ?_
  intro p e s m args below meth c s₁ B hml htab hv
  obtain ⟨rfl, hsz, hP, hK, hD0, hE⟩ := hv
  subst hsz
  have hx := B.exec
  have hb := B.bytes
  have hr := B.returns
  have hts := atoms_spec (ws := wsX0_drift) B.pre
  have hown : s.vm.findClass RX0 = some m.cls := findClass_of_methodNamed B.named
  have hlocks := B.notSynchronized
  have hD := hD0.self (sz := s.heap.size)
  obtain ⟨A, hAe⟩ : ∃ A, A = va_A (tv_cw cI cZ h a1 a2 a3 a4 (rd, lv, op, nt)) s.heap.size := ⟨_, rfl⟩
  rw [← hAe] at hD hE
  have hA : ∀ q : Nat, s.heap.size ≤ q → A q := fun q h => by rw [hAe]; exact Or.inr h
  have hS : va_S A s.heap s.heap [] := va_S.rf
  clear hD0
  have hl := lv_entry ([.ref h, .int x1, .int x2, .int x3]) (n := 4) (Nat.le_of_ble_eq_true rfl)
  rw [lg_entry_eq]
  generalize (lg_sl ([.ref h, .int x1, .int x2, .int x3]) ++ List.replicate (4 - (lg_sl ([.ref h, .int x1, .int x2, .int x3])).length) Slot.unset).toArray = ls at hl ⊢
  have hl : lv_has ls 4 [(0, .ref h), (1, .int x1), (2, .int x2), (3, .int x3)] := hl
  refine lv_iload_n hx hb dX0_drift_0 rfl (lv_at hl 1 rfl) ?_
  cases g1 : tv_in 8 x1 with
  | false =>
    have hV1 : V = (1, 0, (rd, lv, op, nt)) := by rw [hV]; simp only [sp_drift, g1, Bool.and_false, Bool.false_and, Bool.and_true, Bool.true_and, Bool.and_self, sp_f, sp_tf, sp_tt]
    exact tv_callT (a := #[]) (vx_runS (As := [.int x1]) (rest := []) ⟨hx, hb, hml, hown, hts⟩ (t_X0_needRow l hT x1 g1) (va_cwS 1 hts gX0_drift_X0_needRow rfl rfl rfl (by decide +kernel) ⟨Nat.le_of_ble_eq_true rfl, Nat.le_of_ble_eq_true rfl⟩) (tv_preT hE hS) rfl rfl hl.1 rfl (lv_room (Nat.le_of_ble_eq_true rfl)) dX0_drift_1 ⟨Nat.le_of_ble_eq_true rfl, Nat.le_of_ble_eq_true rfl⟩) htab hlocks (fun t hz hk => ⟨(), by rw [hV1]; exact (by decide : (1 : Int32) ≠ 0), by rw [hV1]; rfl, hz, fun q hq _ => hk q hq⟩) (fun z h => nomatch h) (Nat.le_of_ble_eq_true rfl) (Nat.le_of_ble_eq_true rfl)
  | true =>
    refine tv_callN (W.runS (As := [.int x1]) (rest := []) ⟨hx, hb, hml, hown, hts⟩ (n_X0_needRow l x1 g1) (va_cwS 1 hts gX0_drift_X0_needRow rfl rfl rfl (by decide +kernel) ⟨Nat.le_of_ble_eq_true rfl, Nat.le_of_ble_eq_true rfl⟩) preEq rfl rfl hl.1 rfl (lv_room (Nat.le_of_ble_eq_true rfl)) dX0_drift_1 ⟨Nat.le_of_ble_eq_true rfl, Nat.le_of_ble_eq_true rfl⟩) ?_
    obtain ⟨r, hr8, rfl⟩ := tv_in_of (by omega) g1
    refine lv_iload_n hx hb dX0_drift_4 rfl (lv_at hl 2 rfl) ?_
    cases g2 : tv_in 12 x2 with
    | false =>
      have hV1 : V = (1, 0, (rd, lv, op, nt)) := by rw [hV]; simp only [sp_drift, g1, g2, Bool.and_false, Bool.false_and, Bool.and_true, Bool.true_and, Bool.and_self, sp_f, sp_tf, sp_tt]
      exact tv_callT (a := #[]) (vx_runS (As := [.int x2]) (rest := []) ⟨hx, hb, hml, hown, hts⟩ (t_X0_needPlace l hT x2 g2) (va_cwS 1 hts gX0_drift_X0_needPlace rfl rfl rfl (by decide +kernel) ⟨Nat.le_of_ble_eq_true rfl, Nat.le_of_ble_eq_true rfl⟩) (tv_preT hE hS) rfl rfl hl.1 rfl (lv_room (Nat.le_of_ble_eq_true rfl)) dX0_drift_5 ⟨Nat.le_of_ble_eq_true rfl, Nat.le_of_ble_eq_true rfl⟩) htab hlocks (fun t hz hk => ⟨(), by rw [hV1]; exact (by decide : (1 : Int32) ≠ 0), by rw [hV1]; rfl, hz, fun q hq _ => hk q hq⟩) (fun z h => nomatch h) (Nat.le_of_ble_eq_true rfl) (Nat.le_of_ble_eq_true rfl)
    | true =>
      refine tv_callN (W.runS (As := [.int x2]) (rest := []) ⟨hx, hb, hml, hown, hts⟩ (n_X0_needPlace l x2 g2) (va_cwS 1 hts gX0_drift_X0_needPlace rfl rfl rfl (by decide +kernel) ⟨Nat.le_of_ble_eq_true rfl, Nat.le_of_ble_eq_true rfl⟩) preEq rfl rfl hl.1 rfl (lv_room (Nat.le_of_ble_eq_true rfl)) dX0_drift_5 ⟨Nat.le_of_ble_eq_true rfl, Nat.le_of_ble_eq_true rfl⟩) ?_
      obtain ⟨k, hk8, rfl⟩ := tv_in_of (by omega) g2
      refine lv_iload_n hx hb dX0_drift_8 rfl (lv_at hl 3 rfl) ?_
      cases g3 : tv_sg x3 with
      | false =>
        have hV1 : V = (2, 0, (rd, lv, op, nt)) := by rw [hV]; simp only [sp_drift, g1, g2, g3, Bool.and_false, Bool.false_and, Bool.and_true, Bool.true_and, Bool.and_self, sp_f, sp_tf, sp_tt]
        exact tv_callT (a := #[]) (vx_runS (As := [.int x3]) (rest := []) ⟨hx, hb, hml, hown, hts⟩ (t_X0_needSign l hT x3 g3) (va_cwS 1 hts gX0_drift_X0_needSign rfl rfl rfl (by decide +kernel) ⟨Nat.le_of_ble_eq_true rfl, Nat.le_of_ble_eq_true rfl⟩) (tv_preT hE hS) rfl rfl hl.1 rfl (lv_room (Nat.le_of_ble_eq_true rfl)) dX0_drift_9 ⟨Nat.le_of_ble_eq_true rfl, Nat.le_of_ble_eq_true rfl⟩) htab hlocks (fun t hz hk => ⟨(), by rw [hV1]; exact (by decide : (2 : Int32) ≠ 0), by rw [hV1]; rfl, hz, fun q hq _ => hk q hq⟩) (fun z h => nomatch h) (Nat.le_of_ble_eq_true rfl) (Nat.le_of_ble_eq_true rfl)
      | true =>
        refine tv_callN (W.runS (As := [.int x3]) (rest := []) ⟨hx, hb, hml, hown, hts⟩ (n_X0_needSign l x3 g3) (va_cwS 1 hts gX0_drift_X0_needSign rfl rfl rfl (by decide +kernel) ⟨Nat.le_of_ble_eq_true rfl, Nat.le_of_ble_eq_true rfl⟩) preEq rfl rfl hl.1 rfl (lv_room (Nat.le_of_ble_eq_true rfl)) dX0_drift_9 ⟨Nat.le_of_ble_eq_true rfl, Nat.le_of_ble_eq_true rfl⟩) ?_
        refine lv_aload_n hx hb dX0_drift_12 rfl (lv_at hl 0 rfl) ?_
        refine lv_iload_n hx hb dX0_drift_13 rfl (lv_at hl 1 rfl) ?_
        refine lv_iload_n hx hb dX0_drift_14 rfl (lv_at hl 2 rfl) ?_
        refine lv_iload_n hx hb dX0_drift_15 rfl (lv_at hl 3 rfl) ?_
        refine lv_iconst (v := 0) hx hb dX0_drift_16 (by decide) ?_
        refine tv_callR (W.runV (As := [.int (nI r), .int (nI k), .int x3, .int 0]) (rest := []) ⟨hx, hb, hml, hown, hts⟩ (c_X0_walk l D cI cZ cL h a1 a2 a3 a4 rd lv op nt r k (wk x3 0 (rw12 rd r) 12 k) x3 0 hr8 hk8 rfl) (cwV 4 hts gX0_drift_X0_walk rfl rfl rfl (by decide +kernel) ⟨Nat.le_of_ble_eq_true rfl, Nat.le_of_ble_eq_true rfl⟩) (tv_preV hP hK rfl 0 rfl) rfl rfl hl.1 rfl (lv_room (Nat.le_of_ble_eq_true rfl)) dX0_drift_17 ⟨Nat.le_of_ble_eq_true rfl, Nat.le_of_ble_eq_true rfl⟩) ?_
        have hV0 : V = (0, nI (wk x3 0 (rw12 rd r) 12 k), (rd, lv, op, nt)) := by
          rw [hV]; simp only [sp_drift, tN, nI_clamp (show r < 2 ^ 31 by omega), nI_clamp (show k < 2 ^ 31 by omega), g1, g2, g3, Bool.and_false, Bool.false_and, Bool.and_true, Bool.true_and, Bool.and_self, sp_f, sp_tf, sp_tt]
        exact tv_iretP (wf := tv_cw cI cZ h a1 a2 a3 a4) (σ := (rd, lv, op, nt)) (r := nI (wk x3 0 (rw12 rd r) 12 k)) hAe hV0 hx hb hr hP hK hD hS dX0_drift_20 hlocks
theorem iX0_must : ∀ w ∈ wsX00, w ∈ wsX0_must := by decide +kernel
set_option maxHeartbeats 4000000 in
set_option maxRecDepth 100000 in
theorem c_X0_must (l : Launch) (hT : l.stackTraces = false) (D : va_G) (cI cZ cL : ClassId) (h a1 a2 a3 a4 : Nat) (rd lv op nt : Nat → Int32) (sz : Nat) (x1 x2 x3 x4 : Int32) (V : TV) (hV : V = sp_must x1 x2 x3 x4 (rd, lv, op, nt)) : vx_Met l yX0_must wsX0_must tv_rmP (tv_PP D cI cZ cL (tv_cw cI cZ h a1 a2 a3 a4 (rd, lv, op, nt)) sz [.ref h, .int x1, .int x2, .int x3, .int x4]) (tv_QP D cI cZ cL (tv_cw cI cZ h a1 a2 a3 a4) (tv_cw cI cZ h a1 a2 a3 a4 (rd, lv, op, nt)) sz V) (tv_XP V) 1 6 (va_A (tv_cw cI cZ h a1 a2 a3 a4 (rd, lv, op, nt)) sz) := by
  refine vx_ofW (cc := cX0_must) (maxL := 6) (ret := (some .int)) (by decide) rfl ?_
  intro p e s m args below meth c s₁ B hml htab hv
  obtain ⟨rfl, hsz, hP, hK, hD0, hE⟩ := hv
  subst hsz
  have hx := B.exec
  have hb := B.bytes
  have hr := B.returns
  have hts := atoms_spec (ws := wsX0_must) B.pre
  have hown : s.vm.findClass RX0 = some m.cls := findClass_of_methodNamed B.named
  have hlocks := B.notSynchronized
  have hD := hD0.self (sz := s.heap.size)
  obtain ⟨A, hAe⟩ : ∃ A, A = va_A (tv_cw cI cZ h a1 a2 a3 a4 (rd, lv, op, nt)) s.heap.size := ⟨_, rfl⟩
  rw [← hAe] at hD hE
  have hA : ∀ q : Nat, s.heap.size ≤ q → A q := fun q h => by rw [hAe]; exact Or.inr h
  have hS : va_S A s.heap s.heap [] := va_S.rf
  clear hD0
  have hl := lv_entry ([.ref h, .int x1, .int x2, .int x3, .int x4]) (n := 6) (Nat.le_of_ble_eq_true rfl)
  rw [lg_entry_eq]
  generalize (lg_sl ([.ref h, .int x1, .int x2, .int x3, .int x4]) ++ List.replicate (6 - (lg_sl ([.ref h, .int x1, .int x2, .int x3, .int x4])).length) Slot.unset).toArray = ls at hl ⊢
  have hl : lv_has ls 6 [(0, .ref h), (1, .int x1), (2, .int x2), (3, .int x3), (4, .int x4)] := hl
  refine lv_iload_n hx hb dX0_must_0 rfl (lv_at hl 1 rfl) ?_
  cases g1 : tv_in 8 x1 with
  | false =>
    have hV1 : V = (1, 0, (rd, lv, op, nt)) := by rw [hV]; simp only [sp_must, g1, Bool.and_false, Bool.false_and, Bool.and_true, Bool.true_and, Bool.and_self, sp_f, sp_tf, sp_tt]
    exact tv_callT (a := #[]) (vx_runS (As := [.int x1]) (rest := []) ⟨hx, hb, hml, hown, hts⟩ (t_X0_needRow l hT x1 g1) (va_cwS 1 hts gX0_must_X0_needRow rfl rfl rfl (by decide +kernel) ⟨Nat.le_of_ble_eq_true rfl, Nat.le_of_ble_eq_true rfl⟩) (tv_preT hE hS) rfl rfl hl.1 rfl (lv_room (Nat.le_of_ble_eq_true rfl)) dX0_must_1 ⟨Nat.le_of_ble_eq_true rfl, Nat.le_of_ble_eq_true rfl⟩) htab hlocks (fun t hz hk => ⟨(), by rw [hV1]; exact (by decide : (1 : Int32) ≠ 0), by rw [hV1]; rfl, hz, fun q hq _ => hk q hq⟩) (fun z h => nomatch h) (Nat.le_of_ble_eq_true rfl) (Nat.le_of_ble_eq_true rfl)
  | true =>
    refine tv_callN (W.runS (As := [.int x1]) (rest := []) ⟨hx, hb, hml, hown, hts⟩ (n_X0_needRow l x1 g1) (va_cwS 1 hts gX0_must_X0_needRow rfl rfl rfl (by decide +kernel) ⟨Nat.le_of_ble_eq_true rfl, Nat.le_of_ble_eq_true rfl⟩) preEq rfl rfl hl.1 rfl (lv_room (Nat.le_of_ble_eq_true rfl)) dX0_must_1 ⟨Nat.le_of_ble_eq_true rfl, Nat.le_of_ble_eq_true rfl⟩) ?_
    obtain ⟨r, hr8, rfl⟩ := tv_in_of (by omega) g1
    refine lv_iload_n hx hb dX0_must_4 rfl (lv_at hl 2 rfl) ?_
    cases g2 : tv_in 12 x2 with
    | false =>
      have hV1 : V = (1, 0, (rd, lv, op, nt)) := by rw [hV]; simp only [sp_must, g1, g2, Bool.and_false, Bool.false_and, Bool.and_true, Bool.true_and, Bool.and_self, sp_f, sp_tf, sp_tt]
      exact tv_callT (a := #[]) (vx_runS (As := [.int x2]) (rest := []) ⟨hx, hb, hml, hown, hts⟩ (t_X0_needPlace l hT x2 g2) (va_cwS 1 hts gX0_must_X0_needPlace rfl rfl rfl (by decide +kernel) ⟨Nat.le_of_ble_eq_true rfl, Nat.le_of_ble_eq_true rfl⟩) (tv_preT hE hS) rfl rfl hl.1 rfl (lv_room (Nat.le_of_ble_eq_true rfl)) dX0_must_5 ⟨Nat.le_of_ble_eq_true rfl, Nat.le_of_ble_eq_true rfl⟩) htab hlocks (fun t hz hk => ⟨(), by rw [hV1]; exact (by decide : (1 : Int32) ≠ 0), by rw [hV1]; rfl, hz, fun q hq _ => hk q hq⟩) (fun z h => nomatch h) (Nat.le_of_ble_eq_true rfl) (Nat.le_of_ble_eq_true rfl)
    | true =>
      refine tv_callN (W.runS (As := [.int x2]) (rest := []) ⟨hx, hb, hml, hown, hts⟩ (n_X0_needPlace l x2 g2) (va_cwS 1 hts gX0_must_X0_needPlace rfl rfl rfl (by decide +kernel) ⟨Nat.le_of_ble_eq_true rfl, Nat.le_of_ble_eq_true rfl⟩) preEq rfl rfl hl.1 rfl (lv_room (Nat.le_of_ble_eq_true rfl)) dX0_must_5 ⟨Nat.le_of_ble_eq_true rfl, Nat.le_of_ble_eq_true rfl⟩) ?_
      obtain ⟨k, hk8, rfl⟩ := tv_in_of (by omega) g2
      refine lv_iload hx hb dX0_must_8 (lv_at hl 4 rfl) ?_
      cases g3 : tv_in 4 x4 with
      | false =>
        have hV1 : V = (1, 0, (rd, lv, op, nt)) := by rw [hV]; simp only [sp_must, g1, g2, g3, Bool.and_false, Bool.false_and, Bool.and_true, Bool.true_and, Bool.and_self, sp_f, sp_tf, sp_tt]
        exact tv_callT (a := #[]) (vx_runS (As := [.int x4]) (rest := []) ⟨hx, hb, hml, hown, hts⟩ (t_X0_needGate l hT x4 g3) (va_cwS 1 hts gX0_must_X0_needGate rfl rfl rfl (by decide +kernel) ⟨Nat.le_of_ble_eq_true rfl, Nat.le_of_ble_eq_true rfl⟩) (tv_preT hE hS) rfl rfl hl.1 rfl (lv_room (Nat.le_of_ble_eq_true rfl)) dX0_must_10 ⟨Nat.le_of_ble_eq_true rfl, Nat.le_of_ble_eq_true rfl⟩) htab hlocks (fun t hz hk => ⟨(), by rw [hV1]; exact (by decide : (1 : Int32) ≠ 0), by rw [hV1]; rfl, hz, fun q hq _ => hk q hq⟩) (fun z h => nomatch h) (Nat.le_of_ble_eq_true rfl) (Nat.le_of_ble_eq_true rfl)
      | true =>
        refine tv_callN (W.runS (As := [.int x4]) (rest := []) ⟨hx, hb, hml, hown, hts⟩ (n_X0_needGate l x4 g3) (va_cwS 1 hts gX0_must_X0_needGate rfl rfl rfl (by decide +kernel) ⟨Nat.le_of_ble_eq_true rfl, Nat.le_of_ble_eq_true rfl⟩) preEq rfl rfl hl.1 rfl (lv_room (Nat.le_of_ble_eq_true rfl)) dX0_must_10 ⟨Nat.le_of_ble_eq_true rfl, Nat.le_of_ble_eq_true rfl⟩) ?_
        obtain ⟨g, hg8, rfl⟩ := tv_in_of (by omega) g3
        refine lv_iload_n hx hb dX0_must_13 rfl (lv_at hl 3 rfl) ?_
        cases g4 : tv_sg x3 with
        | false =>
          have hV1 : V = (2, 0, (rd, lv, op, nt)) := by rw [hV]; simp only [sp_must, g1, g2, g3, g4, Bool.and_false, Bool.false_and, Bool.and_true, Bool.true_and, Bool.and_self, sp_f, sp_tf, sp_tt]
          exact tv_callT (a := #[]) (vx_runS (As := [.int x3]) (rest := []) ⟨hx, hb, hml, hown, hts⟩ (t_X0_needSign l hT x3 g4) (va_cwS 1 hts gX0_must_X0_needSign rfl rfl rfl (by decide +kernel) ⟨Nat.le_of_ble_eq_true rfl, Nat.le_of_ble_eq_true rfl⟩) (tv_preT hE hS) rfl rfl hl.1 rfl (lv_room (Nat.le_of_ble_eq_true rfl)) dX0_must_14 ⟨Nat.le_of_ble_eq_true rfl, Nat.le_of_ble_eq_true rfl⟩) htab hlocks (fun t hz hk => ⟨(), by rw [hV1]; exact (by decide : (2 : Int32) ≠ 0), by rw [hV1]; rfl, hz, fun q hq _ => hk q hq⟩) (fun z h => nomatch h) (Nat.le_of_ble_eq_true rfl) (Nat.le_of_ble_eq_true rfl)
        | true =>
          refine tv_callN (W.runS (As := [.int x3]) (rest := []) ⟨hx, hb, hml, hown, hts⟩ (n_X0_needSign l x3 g4) (va_cwS 1 hts gX0_must_X0_needSign rfl rfl rfl (by decide +kernel) ⟨Nat.le_of_ble_eq_true rfl, Nat.le_of_ble_eq_true rfl⟩) preEq rfl rfl hl.1 rfl (lv_room (Nat.le_of_ble_eq_true rfl)) dX0_must_14 ⟨Nat.le_of_ble_eq_true rfl, Nat.le_of_ble_eq_true rfl⟩) ?_
          refine lv_aload_n hx hb dX0_must_17 rfl (lv_at hl 0 rfl) ?_
          refine va_get (D := D) (ci := 0) (v := .ref a1) (C := RX0) (T := TX0) (N := 4) hx hb hts iX0_must hown hK hP 0 rfl rfl 0 (by decide) (hts (.fieldLink RX0 9 "TideHouse" "readings" "[I") (by decide +kernel)) (fun _ h9 => h9) rfl dX0_must_18 ?_
          refine lv_iload_n hx hb dX0_must_21 rfl (lv_at hl 1 rfl) ?_
          refine lv_iload_n hx hb dX0_must_22 rfl (lv_at hl 2 rfl) ?_
          refine tv_callR (W.runS (As := [.int (nI r), .int (nI k)]) (rest := [.ref a1]) ⟨hx, hb, hml, hown, hts⟩ (c_X0_spot l r k) (va_cwS 2 hts gX0_must_X0_spot rfl rfl rfl (by decide +kernel) ⟨Nat.le_of_ble_eq_true rfl, Nat.le_of_ble_eq_true rfl⟩) preEq rfl rfl hl.1 rfl (lv_room (Nat.le_of_ble_eq_true rfl)) dX0_must_23 ⟨Nat.le_of_ble_eq_true rfl, Nat.le_of_ble_eq_true rfl⟩) ?_
          refine tv_iald (D := D) (cA := cI) (n := 96) (f := rd) (k := (12 * r + k)) hx hb hK hP 1 0 rfl rfl (by omega) (by omega) dX0_must_26 ?_
          refine lv_istore (lv' := [(5, .int (rd (12 * r + k))), (0, .ref h), (1, .int (nI r)), (2, .int (nI k)), (3, .int x3), (4, .int (nI g))]) hx hb dX0_must_27 hl (by decide) rfl (fun ls hl => ?_)
          refine lv_iload_n hx hb dX0_must_29 rfl (lv_at hl 4 rfl) ?_
          refine lv_iload hx hb dX0_must_30 (lv_at hl 0 rfl) ?_
          refine lv_aload_n hx hb dX0_must_32 rfl (lv_at hl 1 rfl) ?_
          refine lv_iload hx hb dX0_must_33 (lv_at hl 5 rfl) ?_
          refine lv_iload_n hx hb dX0_must_35 rfl (lv_at hl 2 rfl) ?_
          refine tv_callR (W.runV (As := [.int (nI g), .int (nI r)]) (rest := [.int (rd (12 * r + k)), .int x3]) ⟨hx, hb, hml, hown, hts⟩ (c_X0_levelFor l D cI cZ cL h a1 a2 a3 a4 rd lv op nt g r hg8 hr8) (cwV 2 hts gX0_must_X0_levelFor rfl rfl rfl (by decide +kernel) ⟨Nat.le_of_ble_eq_true rfl, Nat.le_of_ble_eq_true rfl⟩) (tv_preV hP hK rfl 0 rfl) rfl rfl hl.1 rfl (lv_room (Nat.le_of_ble_eq_true rfl)) dX0_must_36 ⟨Nat.le_of_ble_eq_true rfl, Nat.le_of_ble_eq_true rfl⟩) ?_
          refine tv_callR (W.runS (As := [.int x3, .int (rd (12 * r + k)), .int (lvl lv g r)]) (rest := []) ⟨hx, hb, hml, hown, hts⟩ (c_X0_isTrue l x3 (rd (12 * r + k)) (lvl lv g r)) (va_cwS 3 hts gX0_must_X0_isTrue rfl rfl rfl (by decide +kernel) ⟨Nat.le_of_ble_eq_true rfl, Nat.le_of_ble_eq_true rfl⟩) preEq rfl rfl hl.1 rfl (lv_room (Nat.le_of_ble_eq_true rfl)) dX0_must_39 ⟨Nat.le_of_ble_eq_true rfl, Nat.le_of_ble_eq_true rfl⟩) ?_
          refine lv_if_ne (tgt := 55) hx hb dX0_must_42 (by decide) (fun c_1 => ?_) (fun c_1 => ?_)
          · skip
            refine lv_iload hx hb dX0_must_55 (lv_at hl 0 rfl) ?_
            have hV0 : V = (0, rd (12 * r + k), (rd, lv, op, nt)) := by
              rw [hV]; simp only [sp_must, tN, nI_clamp (show r < 2 ^ 31 by omega), nI_clamp (show k < 2 ^ 31 by omega), nI_clamp (show g < 2 ^ 31 by omega), g1, g2, g3, g4, Bool.and_false, Bool.false_and, Bool.and_true, Bool.true_and, Bool.and_self, sp_f, sp_tf, sp_tt]; exact if_neg c_1
            exact tv_iretP (wf := tv_cw cI cZ h a1 a2 a3 a4) (σ := (rd, lv, op, nt)) (r := rd (12 * r + k)) hAe hV0 hx hb hr hP hK hD hS dX0_must_57 hlocks
          · have hV1 : V = (3, 0, (rd, lv, op, nt)) := by
              rw [hV]; simp only [sp_must, tN, nI_clamp (show r < 2 ^ 31 by omega), nI_clamp (show k < 2 ^ 31 by omega), nI_clamp (show g < 2 ^ 31 by omega), g1, g2, g3, g4, Bool.and_false, Bool.false_and, Bool.and_true, Bool.true_and, Bool.and_self, sp_f, sp_tf, sp_tt]; exact if_pos c_1
            exact tv_thr (cls := "java/lang/IllegalStateException") (text := "the question is not true") (ik := 73) (is := 75) (ic := 77) (A := A) hx hb hT hts hown (by decide +kernel) (by decide +kernel) (by decide +kernel) (by decide +kernel) tv_is_g tv_is_o (by decide +kernel) hE hS (hl.1.trans hml.symm) dX0_must_45 dX0_must_48 dX0_must_49 dX0_must_51 dX0_must_54 htab (Nat.le_of_ble_eq_true rfl) (Nat.le_of_ble_eq_true rfl) (Nat.le_of_ble_eq_true rfl) (Nat.le_of_ble_eq_true rfl) hlocks (fun t ht hz hk => ⟨(), by rw [hV1]; exact (by decide : (3 : Int32) ≠ 0), by rw [hV1]; rfl, hz, fun q hq _ => hk q hq⟩) (fun z h => nomatch h) (Nat.le_of_ble_eq_true rfl) (Nat.le_of_ble_eq_true rfl)
theorem iX0_straight : ∀ w ∈ wsX00, w ∈ wsX0_straight := by decide +kernel
set_option maxHeartbeats 4000000 in
set_option maxRecDepth 100000 in
theorem c_X0_straight (l : Launch) (hT : l.stackTraces = false) (D : va_G) (cI cZ cL : ClassId) (h a1 a2 a3 a4 : Nat) (rd lv op nt : Nat → Int32) (sz : Nat) (x1 x2 x3 : Int32) (V : TV) (hV : V = sp_straight x1 x2 x3 (rd, lv, op, nt)) : vx_Met l yX0_straight wsX0_straight tv_rmP (tv_PP D cI cZ cL (tv_cw cI cZ h a1 a2 a3 a4 (rd, lv, op, nt)) sz [.ref h, .int x1, .int x2, .int x3]) (tv_QP D cI cZ cL (tv_cw cI cZ h a1 a2 a3 a4) (tv_cw cI cZ h a1 a2 a3 a4 (rd, lv, op, nt)) sz V) (tv_XP V) 1 6 (va_A (tv_cw cI cZ h a1 a2 a3 a4 (rd, lv, op, nt)) sz) := by
  refine vx_ofW (cc := cX0_straight) (maxL := 7) (ret := (some .int)) (by decide) rfl ?_
  intro p e s m args below meth c s₁ B hml htab hv
  obtain ⟨rfl, hsz, hP, hK, hD0, hE⟩ := hv
  subst hsz
  have hx := B.exec
  have hb := B.bytes
  have hr := B.returns
  have hts := atoms_spec (ws := wsX0_straight) B.pre
  have hown : s.vm.findClass RX0 = some m.cls := findClass_of_methodNamed B.named
  have hlocks := B.notSynchronized
  have hD := hD0.self (sz := s.heap.size)
  obtain ⟨A, hAe⟩ : ∃ A, A = va_A (tv_cw cI cZ h a1 a2 a3 a4 (rd, lv, op, nt)) s.heap.size := ⟨_, rfl⟩
  rw [← hAe] at hD hE
  have hA : ∀ q : Nat, s.heap.size ≤ q → A q := fun q h => by rw [hAe]; exact Or.inr h
  have hS : va_S A s.heap s.heap [] := va_S.rf
  clear hD0
  have hl := lv_entry ([.ref h, .int x1, .int x2, .int x3]) (n := 7) (Nat.le_of_ble_eq_true rfl)
  rw [lg_entry_eq]
  generalize (lg_sl ([.ref h, .int x1, .int x2, .int x3]) ++ List.replicate (7 - (lg_sl ([.ref h, .int x1, .int x2, .int x3])).length) Slot.unset).toArray = ls at hl ⊢
  have hl : lv_has ls 7 [(0, .ref h), (1, .int x1), (2, .int x2), (3, .int x3)] := hl
  refine lv_iload_n hx hb dX0_straight_0 rfl (lv_at hl 1 rfl) ?_
  cases g1 : tv_in 8 x1 with
  | false =>
    have hV1 : V = (1, 0, (rd, lv, op, nt)) := by rw [hV]; simp only [sp_straight, g1, Bool.and_false, Bool.false_and, Bool.and_true, Bool.true_and, Bool.and_self, sp_f, sp_tf, sp_tt]
    exact tv_callT (a := #[]) (vx_runS (As := [.int x1]) (rest := []) ⟨hx, hb, hml, hown, hts⟩ (t_X0_needRow l hT x1 g1) (va_cwS 1 hts gX0_straight_X0_needRow rfl rfl rfl (by decide +kernel) ⟨Nat.le_of_ble_eq_true rfl, Nat.le_of_ble_eq_true rfl⟩) (tv_preT hE hS) rfl rfl hl.1 rfl (lv_room (Nat.le_of_ble_eq_true rfl)) dX0_straight_1 ⟨Nat.le_of_ble_eq_true rfl, Nat.le_of_ble_eq_true rfl⟩) htab hlocks (fun t hz hk => ⟨(), by rw [hV1]; exact (by decide : (1 : Int32) ≠ 0), by rw [hV1]; rfl, hz, fun q hq _ => hk q hq⟩) (fun z h => nomatch h) (Nat.le_of_ble_eq_true rfl) (Nat.le_of_ble_eq_true rfl)
  | true =>
    refine tv_callN (W.runS (As := [.int x1]) (rest := []) ⟨hx, hb, hml, hown, hts⟩ (n_X0_needRow l x1 g1) (va_cwS 1 hts gX0_straight_X0_needRow rfl rfl rfl (by decide +kernel) ⟨Nat.le_of_ble_eq_true rfl, Nat.le_of_ble_eq_true rfl⟩) preEq rfl rfl hl.1 rfl (lv_room (Nat.le_of_ble_eq_true rfl)) dX0_straight_1 ⟨Nat.le_of_ble_eq_true rfl, Nat.le_of_ble_eq_true rfl⟩) ?_
    obtain ⟨r, hr8, rfl⟩ := tv_in_of (by omega) g1
    refine lv_iload_n hx hb dX0_straight_4 rfl (lv_at hl 3 rfl) ?_
    cases g2 : tv_in 4 x3 with
    | false =>
      have hV1 : V = (1, 0, (rd, lv, op, nt)) := by rw [hV]; simp only [sp_straight, g1, g2, Bool.and_false, Bool.false_and, Bool.and_true, Bool.true_and, Bool.and_self, sp_f, sp_tf, sp_tt]
      exact tv_callT (a := #[]) (vx_runS (As := [.int x3]) (rest := []) ⟨hx, hb, hml, hown, hts⟩ (t_X0_needGate l hT x3 g2) (va_cwS 1 hts gX0_straight_X0_needGate rfl rfl rfl (by decide +kernel) ⟨Nat.le_of_ble_eq_true rfl, Nat.le_of_ble_eq_true rfl⟩) (tv_preT hE hS) rfl rfl hl.1 rfl (lv_room (Nat.le_of_ble_eq_true rfl)) dX0_straight_5 ⟨Nat.le_of_ble_eq_true rfl, Nat.le_of_ble_eq_true rfl⟩) htab hlocks (fun t hz hk => ⟨(), by rw [hV1]; exact (by decide : (1 : Int32) ≠ 0), by rw [hV1]; rfl, hz, fun q hq _ => hk q hq⟩) (fun z h => nomatch h) (Nat.le_of_ble_eq_true rfl) (Nat.le_of_ble_eq_true rfl)
    | true =>
      refine tv_callN (W.runS (As := [.int x3]) (rest := []) ⟨hx, hb, hml, hown, hts⟩ (n_X0_needGate l x3 g2) (va_cwS 1 hts gX0_straight_X0_needGate rfl rfl rfl (by decide +kernel) ⟨Nat.le_of_ble_eq_true rfl, Nat.le_of_ble_eq_true rfl⟩) preEq rfl rfl hl.1 rfl (lv_room (Nat.le_of_ble_eq_true rfl)) dX0_straight_5 ⟨Nat.le_of_ble_eq_true rfl, Nat.le_of_ble_eq_true rfl⟩) ?_
      obtain ⟨g, hg8, rfl⟩ := tv_in_of (by omega) g2
      refine lv_iload_n hx hb dX0_straight_8 rfl (lv_at hl 2 rfl) ?_
      cases g3 : tv_sg x2 with
      | false =>
        have hV1 : V = (2, 0, (rd, lv, op, nt)) := by rw [hV]; simp only [sp_straight, g1, g2, g3, Bool.and_false, Bool.false_and, Bool.and_true, Bool.true_and, Bool.and_self, sp_f, sp_tf, sp_tt]
        exact tv_callT (a := #[]) (vx_runS (As := [.int x2]) (rest := []) ⟨hx, hb, hml, hown, hts⟩ (t_X0_needSign l hT x2 g3) (va_cwS 1 hts gX0_straight_X0_needSign rfl rfl rfl (by decide +kernel) ⟨Nat.le_of_ble_eq_true rfl, Nat.le_of_ble_eq_true rfl⟩) (tv_preT hE hS) rfl rfl hl.1 rfl (lv_room (Nat.le_of_ble_eq_true rfl)) dX0_straight_9 ⟨Nat.le_of_ble_eq_true rfl, Nat.le_of_ble_eq_true rfl⟩) htab hlocks (fun t hz hk => ⟨(), by rw [hV1]; exact (by decide : (2 : Int32) ≠ 0), by rw [hV1]; rfl, hz, fun q hq _ => hk q hq⟩) (fun z h => nomatch h) (Nat.le_of_ble_eq_true rfl) (Nat.le_of_ble_eq_true rfl)
      | true =>
        refine tv_callN (W.runS (As := [.int x2]) (rest := []) ⟨hx, hb, hml, hown, hts⟩ (n_X0_needSign l x2 g3) (va_cwS 1 hts gX0_straight_X0_needSign rfl rfl rfl (by decide +kernel) ⟨Nat.le_of_ble_eq_true rfl, Nat.le_of_ble_eq_true rfl⟩) preEq rfl rfl hl.1 rfl (lv_room (Nat.le_of_ble_eq_true rfl)) dX0_straight_9 ⟨Nat.le_of_ble_eq_true rfl, Nat.le_of_ble_eq_true rfl⟩) ?_
        refine lv_aload_n hx hb dX0_straight_12 rfl (lv_at hl 0 rfl) ?_
        refine lv_iload_n hx hb dX0_straight_13 rfl (lv_at hl 3 rfl) ?_
        refine lv_iload_n hx hb dX0_straight_14 rfl (lv_at hl 1 rfl) ?_
        refine tv_callR (W.runV (As := [.int (nI g), .int (nI r)]) (rest := []) ⟨hx, hb, hml, hown, hts⟩ (c_X0_levelFor l D cI cZ cL h a1 a2 a3 a4 rd lv op nt g r hg8 hr8) (cwV 2 hts gX0_straight_X0_levelFor rfl rfl rfl (by decide +kernel) ⟨Nat.le_of_ble_eq_true rfl, Nat.le_of_ble_eq_true rfl⟩) (tv_preV hP hK rfl 0 rfl) rfl rfl hl.1 rfl (lv_room (Nat.le_of_ble_eq_true rfl)) dX0_straight_15 ⟨Nat.le_of_ble_eq_true rfl, Nat.le_of_ble_eq_true rfl⟩) ?_
        refine lv_istore (lv' := [(4, .int (lvl lv g r)), (0, .ref h), (1, .int (nI r)), (2, .int x2), (3, .int (nI g))]) hx hb dX0_straight_18 hl (by decide) rfl (fun ls hl => ?_)
        refine lv_iconst (v := 0) hx hb dX0_straight_20 (by decide) ?_
        refine lv_istore (lv' := [(5, .int 0), (4, .int (lvl lv g r)), (0, .ref h), (1, .int (nI r)), (2, .int x2), (3, .int (nI g))]) hx hb dX0_straight_21 hl (by decide) rfl (fun ls hl => ?_)
        refine lv_iconst (v := 0) hx hb dX0_straight_23 (by decide) ?_
        refine lv_istore (lv' := [(6, .int 0), (5, .int 0), (4, .int (lvl lv g r)), (0, .ref h), (1, .int (nI r)), (2, .int x2), (3, .int (nI g))]) hx hb dX0_straight_24 hl (by decide) rfl (fun ls hl => ?_)
        have hV0 : V = (0, cn (fun k => tq x2 (rw12 rd r k) (lvl lv g r)) 12, (rd, lv, op, nt)) := by
          rw [hV]; simp only [sp_straight, tN, nI_clamp (show r < 2 ^ 31 by omega), nI_clamp (show g < 2 ^ 31 by omega), g1, g2, g3, Bool.and_false, Bool.false_and, Bool.and_true, Bool.true_and, Bool.and_self, sp_f, sp_tf, sp_tt]
        have loop : ∀ (n k : Nat), k + n = 12 → ∀ ls : Array Slot, lv_has ls 7 [(0, .ref h), (1, .int (nI r)), (2, .int x2), (4, .int (lvl lv g r)), (5, .int (cn (fun k => tq x2 (rw12 rd r k) (lvl lv g r)) k)), (6, .int (nI k))] → W p l e (headSpec wsX0_straight tv_rmP).room s m ([.ref h, .int (nI r), .int x2, .int (nI g)] : List Value).toArray below meth c s.heap [] 0 0 (vx_MQ below (tv_QP D cI cZ cL (tv_cw cI cZ h a1 a2 a3 a4) (tv_cw cI cZ h a1 a2 a3 a4 (rd, lv, op, nt)) s.heap.size V) (tv_XP V) ([.ref h, .int (nI r), .int x2, .int (nI g)] : List Value).toArray s 1 6 (va_A (tv_cw cI cZ h a1 a2 a3 a4 (rd, lv, op, nt)) s.heap.size)) (F0 m 26 ls []) := by
          intro n
          induction n with
          | zero =>
            intro k hk ls hl
            have hk2 : k = 12 := by omega
            subst hk2
            refine lv_iload hx hb dX0_straight_26 (lv_at hl 5 rfl) ?_
            refine lv_bipush (v := 12) hx hb dX0_straight_28 (by decide) ?_
            refine lv_icmp_ge (tgt := 62) hx hb dX0_straight_30 (by decide) (fun c_1 => ?_) (fun c_1 => ?_)
            · skip
              refine lv_iload hx hb dX0_straight_62 (lv_at hl 4 rfl) ?_
              exact tv_iretP (wf := tv_cw cI cZ h a1 a2 a3 a4) (σ := (rd, lv, op, nt)) (r := cn (fun k => tq x2 (rw12 rd r k) (lvl lv g r)) 12) hAe hV0 hx hb hr hP hK hD hS dX0_straight_64 hlocks
            · exact absurd (show nI 12 ≤ nI 12 from nI_le (Nat.le_refl _) (by omega)) c_1
          | succ n ih =>
            intro k hk ls hl
            refine lv_iload hx hb dX0_straight_26 (lv_at hl 5 rfl) ?_
            refine lv_bipush (v := 12) hx hb dX0_straight_28 (by decide) ?_
            refine lv_icmp_ge (tgt := 62) hx hb dX0_straight_30 (by decide) (fun c_2 => ?_) (fun c_2 => ?_)
            · exact absurd (show nI 12 ≤ nI k from c_2) (nI_ge (by omega) (by omega))
            · skip
              refine lv_iload_n hx hb dX0_straight_33 rfl (lv_at hl 2 rfl) ?_
              refine lv_aload_n hx hb dX0_straight_34 rfl (lv_at hl 0 rfl) ?_
              refine va_get (D := D) (ci := 0) (v := .ref a1) (C := RX0) (T := TX0) (N := 4) hx hb hts iX0_straight hown hK hP 0 rfl rfl 0 (by decide) (hts (.fieldLink RX0 9 "TideHouse" "readings" "[I") (by decide +kernel)) (fun _ h9 => h9) rfl dX0_straight_35 ?_
              refine lv_iload_n hx hb dX0_straight_38 rfl (lv_at hl 1 rfl) ?_
              refine lv_iload hx hb dX0_straight_39 (lv_at hl 5 rfl) ?_
              refine tv_callR (W.runS (As := [.int (nI r), .int (nI k)]) (rest := [.ref a1, .int x2]) ⟨hx, hb, hml, hown, hts⟩ (c_X0_spot l r k) (va_cwS 2 hts gX0_straight_X0_spot rfl rfl rfl (by decide +kernel) ⟨Nat.le_of_ble_eq_true rfl, Nat.le_of_ble_eq_true rfl⟩) preEq rfl rfl hl.1 rfl (lv_room (Nat.le_of_ble_eq_true rfl)) dX0_straight_41 ⟨Nat.le_of_ble_eq_true rfl, Nat.le_of_ble_eq_true rfl⟩) ?_
              refine tv_iald (D := D) (cA := cI) (n := 96) (f := rd) (k := (12 * r + k)) hx hb hK hP 1 0 rfl rfl (by omega) (by omega) dX0_straight_44 ?_
              refine lv_iload hx hb dX0_straight_45 (lv_at hl 3 rfl) ?_
              refine tv_callR (W.runS (As := [.int x2, .int (rd (12 * r + k)), .int (lvl lv g r)]) (rest := []) ⟨hx, hb, hml, hown, hts⟩ (c_X0_isTrue l x2 (rd (12 * r + k)) (lvl lv g r)) (va_cwS 3 hts gX0_straight_X0_isTrue rfl rfl rfl (by decide +kernel) ⟨Nat.le_of_ble_eq_true rfl, Nat.le_of_ble_eq_true rfl⟩) preEq rfl rfl hl.1 rfl (lv_room (Nat.le_of_ble_eq_true rfl)) dX0_straight_47 ⟨Nat.le_of_ble_eq_true rfl, Nat.le_of_ble_eq_true rfl⟩) ?_
              refine lv_if_eq (tgt := 56) hx hb dX0_straight_50 (by decide) (fun c_3 => ?_) (fun c_3 => ?_)
              · skip
                refine lv_iinc (v := nI (k + 1)) (lv' := [(6, .int (nI (k + 1))), (0, .ref h), (1, .int (nI r)), (2, .int x2), (4, .int (lvl lv g r)), (5, .int (cn (fun k => tq x2 (rw12 rd r k) (lvl lv g r)) k))]) hx hb dX0_straight_56 hl (k := 5) rfl (nI_1 k) (by decide) rfl (fun ls hl => ?_)
                refine lv_goto (tgt := 26) hx hb dX0_straight_59 (by decide) ?_
                exact ih (k + 1) (by omega) ls (by rw [show cn (fun k => tq x2 (rw12 rd r k) (lvl lv g r)) (k + 1) = cn (fun k => tq x2 (rw12 rd r k) (lvl lv g r)) k from cn_s0 c_3]; exact lv_sub hl [1, 2, 3, 4, 5, 0] rfl)
              · skip
                refine lv_iinc (v := cn (fun k => tq x2 (rw12 rd r k) (lvl lv g r)) k + 1) (lv' := [(5, .int (cn (fun k => tq x2 (rw12 rd r k) (lvl lv g r)) k + 1)), (0, .ref h), (1, .int (nI r)), (2, .int x2), (4, .int (lvl lv g r)), (6, .int (nI k))]) hx hb dX0_straight_53 hl (k := 4) rfl (rfl) (by decide) rfl (fun ls hl => ?_)
                refine lv_iinc (v := nI (k + 1)) (lv' := [(6, .int (nI (k + 1))), (5, .int (cn (fun k => tq x2 (rw12 rd r k) (lvl lv g r)) k + 1)), (0, .ref h), (1, .int (nI r)), (2, .int x2), (4, .int (lvl lv g r))]) hx hb dX0_straight_56 hl (k := 5) rfl (nI_1 k) (by decide) rfl (fun ls hl => ?_)
                refine lv_goto (tgt := 26) hx hb dX0_straight_59 (by decide) ?_
                exact ih (k + 1) (by omega) ls (by rw [show cn (fun k => tq x2 (rw12 rd r k) (lvl lv g r)) (k + 1) = cn (fun k => tq x2 (rw12 rd r k) (lvl lv g r)) k + 1 from cn_s1 (tq1 c_3)]; exact lv_sub hl [2, 3, 4, 5, 1, 0] rfl)
        exact loop 12 0 (by omega) ls (by rw [show cn (fun k => tq x2 (rw12 rd r k) (lvl lv g r)) 0 = 0 from rfl, show nI 0 = 0 from nI_0]; exact lv_sub hl [3, 4, 5, 2, 1, 0] rfl)
theorem iX0_turned : ∀ w ∈ wsX00, w ∈ wsX0_turned := by decide +kernel
set_option maxHeartbeats 4000000 in
set_option maxRecDepth 100000 in
theorem c_X0_turned (l : Launch) (hT : l.stackTraces = false) (D : va_G) (cI cZ cL : ClassId) (h a1 a2 a3 a4 : Nat) (rd lv op nt : Nat → Int32) (sz : Nat) (x1 x2 x3 : Int32) (V : TV) (hV : V = sp_turned x1 x2 x3 (rd, lv, op, nt)) : vx_Met l yX0_turned wsX0_turned tv_rmP (tv_PP D cI cZ cL (tv_cw cI cZ h a1 a2 a3 a4 (rd, lv, op, nt)) sz [.ref h, .int x1, .int x2, .int x3]) (tv_QP D cI cZ cL (tv_cw cI cZ h a1 a2 a3 a4) (tv_cw cI cZ h a1 a2 a3 a4 (rd, lv, op, nt)) sz V) (tv_XP V) 1 6 (va_A (tv_cw cI cZ h a1 a2 a3 a4 (rd, lv, op, nt)) sz) := by
  refine vx_ofW (cc := cX0_turned) (maxL := 7) (ret := (some .int)) (by decide) rfl ?_
  intro p e s m args below meth c s₁ B hml htab hv
  obtain ⟨rfl, hsz, hP, hK, hD0, hE⟩ := hv
  subst hsz
  have hx := B.exec
  have hb := B.bytes
  have hr := B.returns
  have hts := atoms_spec (ws := wsX0_turned) B.pre
  have hown : s.vm.findClass RX0 = some m.cls := findClass_of_methodNamed B.named
  have hlocks := B.notSynchronized
  have hD := hD0.self (sz := s.heap.size)
  obtain ⟨A, hAe⟩ : ∃ A, A = va_A (tv_cw cI cZ h a1 a2 a3 a4 (rd, lv, op, nt)) s.heap.size := ⟨_, rfl⟩
  rw [← hAe] at hD hE
  have hA : ∀ q : Nat, s.heap.size ≤ q → A q := fun q h => by rw [hAe]; exact Or.inr h
  have hS : va_S A s.heap s.heap [] := va_S.rf
  clear hD0
  have hl := lv_entry ([.ref h, .int x1, .int x2, .int x3]) (n := 7) (Nat.le_of_ble_eq_true rfl)
  rw [lg_entry_eq]
  generalize (lg_sl ([.ref h, .int x1, .int x2, .int x3]) ++ List.replicate (7 - (lg_sl ([.ref h, .int x1, .int x2, .int x3])).length) Slot.unset).toArray = ls at hl ⊢
  have hl : lv_has ls 7 [(0, .ref h), (1, .int x1), (2, .int x2), (3, .int x3)] := hl
  refine lv_iload_n hx hb dX0_turned_0 rfl (lv_at hl 1 rfl) ?_
  cases g1 : tv_in 8 x1 with
  | false =>
    have hV1 : V = (1, 0, (rd, lv, op, nt)) := by rw [hV]; simp only [sp_turned, g1, Bool.and_false, Bool.false_and, Bool.and_true, Bool.true_and, Bool.and_self, sp_f, sp_tf, sp_tt]
    exact tv_callT (a := #[]) (vx_runS (As := [.int x1]) (rest := []) ⟨hx, hb, hml, hown, hts⟩ (t_X0_needRow l hT x1 g1) (va_cwS 1 hts gX0_turned_X0_needRow rfl rfl rfl (by decide +kernel) ⟨Nat.le_of_ble_eq_true rfl, Nat.le_of_ble_eq_true rfl⟩) (tv_preT hE hS) rfl rfl hl.1 rfl (lv_room (Nat.le_of_ble_eq_true rfl)) dX0_turned_1 ⟨Nat.le_of_ble_eq_true rfl, Nat.le_of_ble_eq_true rfl⟩) htab hlocks (fun t hz hk => ⟨(), by rw [hV1]; exact (by decide : (1 : Int32) ≠ 0), by rw [hV1]; rfl, hz, fun q hq _ => hk q hq⟩) (fun z h => nomatch h) (Nat.le_of_ble_eq_true rfl) (Nat.le_of_ble_eq_true rfl)
  | true =>
    refine tv_callN (W.runS (As := [.int x1]) (rest := []) ⟨hx, hb, hml, hown, hts⟩ (n_X0_needRow l x1 g1) (va_cwS 1 hts gX0_turned_X0_needRow rfl rfl rfl (by decide +kernel) ⟨Nat.le_of_ble_eq_true rfl, Nat.le_of_ble_eq_true rfl⟩) preEq rfl rfl hl.1 rfl (lv_room (Nat.le_of_ble_eq_true rfl)) dX0_turned_1 ⟨Nat.le_of_ble_eq_true rfl, Nat.le_of_ble_eq_true rfl⟩) ?_
    obtain ⟨r, hr8, rfl⟩ := tv_in_of (by omega) g1
    refine lv_iload_n hx hb dX0_turned_4 rfl (lv_at hl 3 rfl) ?_
    cases g2 : tv_in 4 x3 with
    | false =>
      have hV1 : V = (1, 0, (rd, lv, op, nt)) := by rw [hV]; simp only [sp_turned, g1, g2, Bool.and_false, Bool.false_and, Bool.and_true, Bool.true_and, Bool.and_self, sp_f, sp_tf, sp_tt]
      exact tv_callT (a := #[]) (vx_runS (As := [.int x3]) (rest := []) ⟨hx, hb, hml, hown, hts⟩ (t_X0_needGate l hT x3 g2) (va_cwS 1 hts gX0_turned_X0_needGate rfl rfl rfl (by decide +kernel) ⟨Nat.le_of_ble_eq_true rfl, Nat.le_of_ble_eq_true rfl⟩) (tv_preT hE hS) rfl rfl hl.1 rfl (lv_room (Nat.le_of_ble_eq_true rfl)) dX0_turned_5 ⟨Nat.le_of_ble_eq_true rfl, Nat.le_of_ble_eq_true rfl⟩) htab hlocks (fun t hz hk => ⟨(), by rw [hV1]; exact (by decide : (1 : Int32) ≠ 0), by rw [hV1]; rfl, hz, fun q hq _ => hk q hq⟩) (fun z h => nomatch h) (Nat.le_of_ble_eq_true rfl) (Nat.le_of_ble_eq_true rfl)
    | true =>
      refine tv_callN (W.runS (As := [.int x3]) (rest := []) ⟨hx, hb, hml, hown, hts⟩ (n_X0_needGate l x3 g2) (va_cwS 1 hts gX0_turned_X0_needGate rfl rfl rfl (by decide +kernel) ⟨Nat.le_of_ble_eq_true rfl, Nat.le_of_ble_eq_true rfl⟩) preEq rfl rfl hl.1 rfl (lv_room (Nat.le_of_ble_eq_true rfl)) dX0_turned_5 ⟨Nat.le_of_ble_eq_true rfl, Nat.le_of_ble_eq_true rfl⟩) ?_
      obtain ⟨g, hg8, rfl⟩ := tv_in_of (by omega) g2
      refine lv_iload_n hx hb dX0_turned_8 rfl (lv_at hl 2 rfl) ?_
      cases g3 : tv_sg x2 with
      | false =>
        have hV1 : V = (2, 0, (rd, lv, op, nt)) := by rw [hV]; simp only [sp_turned, g1, g2, g3, Bool.and_false, Bool.false_and, Bool.and_true, Bool.true_and, Bool.and_self, sp_f, sp_tf, sp_tt]
        exact tv_callT (a := #[]) (vx_runS (As := [.int x2]) (rest := []) ⟨hx, hb, hml, hown, hts⟩ (t_X0_needSign l hT x2 g3) (va_cwS 1 hts gX0_turned_X0_needSign rfl rfl rfl (by decide +kernel) ⟨Nat.le_of_ble_eq_true rfl, Nat.le_of_ble_eq_true rfl⟩) (tv_preT hE hS) rfl rfl hl.1 rfl (lv_room (Nat.le_of_ble_eq_true rfl)) dX0_turned_9 ⟨Nat.le_of_ble_eq_true rfl, Nat.le_of_ble_eq_true rfl⟩) htab hlocks (fun t hz hk => ⟨(), by rw [hV1]; exact (by decide : (2 : Int32) ≠ 0), by rw [hV1]; rfl, hz, fun q hq _ => hk q hq⟩) (fun z h => nomatch h) (Nat.le_of_ble_eq_true rfl) (Nat.le_of_ble_eq_true rfl)
      | true =>
        refine tv_callN (W.runS (As := [.int x2]) (rest := []) ⟨hx, hb, hml, hown, hts⟩ (n_X0_needSign l x2 g3) (va_cwS 1 hts gX0_turned_X0_needSign rfl rfl rfl (by decide +kernel) ⟨Nat.le_of_ble_eq_true rfl, Nat.le_of_ble_eq_true rfl⟩) preEq rfl rfl hl.1 rfl (lv_room (Nat.le_of_ble_eq_true rfl)) dX0_turned_9 ⟨Nat.le_of_ble_eq_true rfl, Nat.le_of_ble_eq_true rfl⟩) ?_
        refine lv_aload_n hx hb dX0_turned_12 rfl (lv_at hl 0 rfl) ?_
        refine lv_iload_n hx hb dX0_turned_13 rfl (lv_at hl 3 rfl) ?_
        refine lv_iload_n hx hb dX0_turned_14 rfl (lv_at hl 1 rfl) ?_
        refine tv_callR (W.runV (As := [.int (nI g), .int (nI r)]) (rest := []) ⟨hx, hb, hml, hown, hts⟩ (c_X0_levelFor l D cI cZ cL h a1 a2 a3 a4 rd lv op nt g r hg8 hr8) (cwV 2 hts gX0_turned_X0_levelFor rfl rfl rfl (by decide +kernel) ⟨Nat.le_of_ble_eq_true rfl, Nat.le_of_ble_eq_true rfl⟩) (tv_preV hP hK rfl 0 rfl) rfl rfl hl.1 rfl (lv_room (Nat.le_of_ble_eq_true rfl)) dX0_turned_15 ⟨Nat.le_of_ble_eq_true rfl, Nat.le_of_ble_eq_true rfl⟩) ?_
        refine lv_istore (lv' := [(4, .int (lvl lv g r)), (0, .ref h), (1, .int (nI r)), (2, .int x2), (3, .int (nI g))]) hx hb dX0_turned_18 hl (by decide) rfl (fun ls hl => ?_)
        refine lv_iconst (v := 0) hx hb dX0_turned_20 (by decide) ?_
        refine lv_istore (lv' := [(5, .int 0), (4, .int (lvl lv g r)), (0, .ref h), (1, .int (nI r)), (2, .int x2), (3, .int (nI g))]) hx hb dX0_turned_21 hl (by decide) rfl (fun ls hl => ?_)
        refine lv_iconst (v := 0) hx hb dX0_turned_23 (by decide) ?_
        refine lv_istore (lv' := [(6, .int 0), (5, .int 0), (4, .int (lvl lv g r)), (0, .ref h), (1, .int (nI r)), (2, .int x2), (3, .int (nI g))]) hx hb dX0_turned_24 hl (by decide) rfl (fun ls hl => ?_)
        have hV0 : V = (0, cn (fun k => if tq x2 (lvl lv g r) (rw12 rd r k) = 0 then 1 else 0) 12, (rd, lv, op, nt)) := by
          rw [hV]; simp only [sp_turned, tN, nI_clamp (show r < 2 ^ 31 by omega), nI_clamp (show g < 2 ^ 31 by omega), g1, g2, g3, Bool.and_false, Bool.false_and, Bool.and_true, Bool.true_and, Bool.and_self, sp_f, sp_tf, sp_tt]
        have loop : ∀ (n k : Nat), k + n = 12 → ∀ ls : Array Slot, lv_has ls 7 [(0, .ref h), (1, .int (nI r)), (2, .int x2), (4, .int (lvl lv g r)), (5, .int (cn (fun k => if tq x2 (lvl lv g r) (rw12 rd r k) = 0 then 1 else 0) k)), (6, .int (nI k))] → W p l e (headSpec wsX0_turned tv_rmP).room s m ([.ref h, .int (nI r), .int x2, .int (nI g)] : List Value).toArray below meth c s.heap [] 0 0 (vx_MQ below (tv_QP D cI cZ cL (tv_cw cI cZ h a1 a2 a3 a4) (tv_cw cI cZ h a1 a2 a3 a4 (rd, lv, op, nt)) s.heap.size V) (tv_XP V) ([.ref h, .int (nI r), .int x2, .int (nI g)] : List Value).toArray s 1 6 (va_A (tv_cw cI cZ h a1 a2 a3 a4 (rd, lv, op, nt)) s.heap.size)) (F0 m 26 ls []) := by
          intro n
          induction n with
          | zero =>
            intro k hk ls hl
            have hk2 : k = 12 := by omega
            subst hk2
            refine lv_iload hx hb dX0_turned_26 (lv_at hl 5 rfl) ?_
            refine lv_bipush (v := 12) hx hb dX0_turned_28 (by decide) ?_
            refine lv_icmp_ge (tgt := 62) hx hb dX0_turned_30 (by decide) (fun c_1 => ?_) (fun c_1 => ?_)
            · skip
              refine lv_iload hx hb dX0_turned_62 (lv_at hl 4 rfl) ?_
              exact tv_iretP (wf := tv_cw cI cZ h a1 a2 a3 a4) (σ := (rd, lv, op, nt)) (r := cn (fun k => if tq x2 (lvl lv g r) (rw12 rd r k) = 0 then 1 else 0) 12) hAe hV0 hx hb hr hP hK hD hS dX0_turned_64 hlocks
            · exact absurd (show nI 12 ≤ nI 12 from nI_le (Nat.le_refl _) (by omega)) c_1
          | succ n ih =>
            intro k hk ls hl
            refine lv_iload hx hb dX0_turned_26 (lv_at hl 5 rfl) ?_
            refine lv_bipush (v := 12) hx hb dX0_turned_28 (by decide) ?_
            refine lv_icmp_ge (tgt := 62) hx hb dX0_turned_30 (by decide) (fun c_2 => ?_) (fun c_2 => ?_)
            · exact absurd (show nI 12 ≤ nI k from c_2) (nI_ge (by omega) (by omega))
            · skip
              refine lv_iload_n hx hb dX0_turned_33 rfl (lv_at hl 2 rfl) ?_
              refine lv_iload hx hb dX0_turned_34 (lv_at hl 3 rfl) ?_
              refine lv_aload_n hx hb dX0_turned_36 rfl (lv_at hl 0 rfl) ?_
              refine va_get (D := D) (ci := 0) (v := .ref a1) (C := RX0) (T := TX0) (N := 4) hx hb hts iX0_turned hown hK hP 0 rfl rfl 0 (by decide) (hts (.fieldLink RX0 9 "TideHouse" "readings" "[I") (by decide +kernel)) (fun _ h9 => h9) rfl dX0_turned_37 ?_
              refine lv_iload_n hx hb dX0_turned_40 rfl (lv_at hl 1 rfl) ?_
              refine lv_iload hx hb dX0_turned_41 (lv_at hl 5 rfl) ?_
              refine tv_callR (W.runS (As := [.int (nI r), .int (nI k)]) (rest := [.ref a1, .int (lvl lv g r), .int x2]) ⟨hx, hb, hml, hown, hts⟩ (c_X0_spot l r k) (va_cwS 2 hts gX0_turned_X0_spot rfl rfl rfl (by decide +kernel) ⟨Nat.le_of_ble_eq_true rfl, Nat.le_of_ble_eq_true rfl⟩) preEq rfl rfl hl.1 rfl (lv_room (Nat.le_of_ble_eq_true rfl)) dX0_turned_43 ⟨Nat.le_of_ble_eq_true rfl, Nat.le_of_ble_eq_true rfl⟩) ?_
              refine tv_iald (D := D) (cA := cI) (n := 96) (f := rd) (k := (12 * r + k)) hx hb hK hP 1 0 rfl rfl (by omega) (by omega) dX0_turned_46 ?_
              refine tv_callR (W.runS (As := [.int x2, .int (lvl lv g r), .int (rd (12 * r + k))]) (rest := []) ⟨hx, hb, hml, hown, hts⟩ (c_X0_isTrue l x2 (lvl lv g r) (rd (12 * r + k))) (va_cwS 3 hts gX0_turned_X0_isTrue rfl rfl rfl (by decide +kernel) ⟨Nat.le_of_ble_eq_true rfl, Nat.le_of_ble_eq_true rfl⟩) preEq rfl rfl hl.1 rfl (lv_room (Nat.le_of_ble_eq_true rfl)) dX0_turned_47 ⟨Nat.le_of_ble_eq_true rfl, Nat.le_of_ble_eq_true rfl⟩) ?_
              refine lv_if_ne (tgt := 56) hx hb dX0_turned_50 (by decide) (fun c_3 => ?_) (fun c_3 => ?_)
              · skip
                refine lv_iinc (v := nI (k + 1)) (lv' := [(6, .int (nI (k + 1))), (0, .ref h), (1, .int (nI r)), (2, .int x2), (4, .int (lvl lv g r)), (5, .int (cn (fun k => if tq x2 (lvl lv g r) (rw12 rd r k) = 0 then 1 else 0) k))]) hx hb dX0_turned_56 hl (k := 5) rfl (nI_1 k) (by decide) rfl (fun ls hl => ?_)
                refine lv_goto (tgt := 26) hx hb dX0_turned_59 (by decide) ?_
                exact ih (k + 1) (by omega) ls (by rw [show cn (fun k => if tq x2 (lvl lv g r) (rw12 rd r k) = 0 then 1 else 0) (k + 1) = cn (fun k => if tq x2 (lvl lv g r) (rw12 rd r k) = 0 then 1 else 0) k from cn_s0 (if_neg c_3)]; exact lv_sub hl [1, 2, 3, 4, 5, 0] rfl)
              · skip
                refine lv_iinc (v := cn (fun k => if tq x2 (lvl lv g r) (rw12 rd r k) = 0 then 1 else 0) k + 1) (lv' := [(5, .int (cn (fun k => if tq x2 (lvl lv g r) (rw12 rd r k) = 0 then 1 else 0) k + 1)), (0, .ref h), (1, .int (nI r)), (2, .int x2), (4, .int (lvl lv g r)), (6, .int (nI k))]) hx hb dX0_turned_53 hl (k := 4) rfl (rfl) (by decide) rfl (fun ls hl => ?_)
                refine lv_iinc (v := nI (k + 1)) (lv' := [(6, .int (nI (k + 1))), (5, .int (cn (fun k => if tq x2 (lvl lv g r) (rw12 rd r k) = 0 then 1 else 0) k + 1)), (0, .ref h), (1, .int (nI r)), (2, .int x2), (4, .int (lvl lv g r))]) hx hb dX0_turned_56 hl (k := 5) rfl (nI_1 k) (by decide) rfl (fun ls hl => ?_)
                refine lv_goto (tgt := 26) hx hb dX0_turned_59 (by decide) ?_
                exact ih (k + 1) (by omega) ls (by rw [show cn (fun k => if tq x2 (lvl lv g r) (rw12 rd r k) = 0 then 1 else 0) (k + 1) = cn (fun k => if tq x2 (lvl lv g r) (rw12 rd r k) = 0 then 1 else 0) k + 1 from cn_s1 (if_pos c_3)]; exact lv_sub hl [2, 3, 4, 5, 1, 0] rfl)
        exact loop 12 0 (by omega) ls (by rw [show cn (fun k => if tq x2 (lvl lv g r) (rw12 rd r k) = 0 then 1 else 0) 0 = 0 from rfl, show nI 0 = 0 from nI_0]; exact lv_sub hl [3, 4, 5, 2, 1, 0] rfl)
theorem iX0_meet : ∀ w ∈ wsX00, w ∈ wsX0_meet := by decide +kernel
set_option maxHeartbeats 4000000 in
set_option maxRecDepth 100000 in
theorem c_X0_meet (l : Launch) (hT : l.stackTraces = false) (D : va_G) (cI cZ cL : ClassId) (h a1 a2 a3 a4 : Nat) (rd lv op nt : Nat → Int32) (sz : Nat) (x1 x2 x3 : Int32) (V : TV) (hV : V = sp_meet x1 x2 x3 (rd, lv, op, nt)) : vx_Met l yX0_meet wsX0_meet tv_rmP (tv_PP D cI cZ cL (tv_cw cI cZ h a1 a2 a3 a4 (rd, lv, op, nt)) sz [.ref h, .int x1, .int x2, .int x3]) (tv_QP D cI cZ cL (tv_cw cI cZ h a1 a2 a3 a4) (tv_cw cI cZ h a1 a2 a3 a4 (rd, lv, op, nt)) sz V) (tv_XP V) 1 6 (va_A (tv_cw cI cZ h a1 a2 a3 a4 (rd, lv, op, nt)) sz) := by
  refine vx_ofW (cc := cX0_meet) (maxL := 6) (ret := (some .int)) (by decide) rfl ?_
  intro p e s m args below meth c s₁ B hml htab hv
  obtain ⟨rfl, hsz, hP, hK, hD0, hE⟩ := hv
  subst hsz
  have hx := B.exec
  have hb := B.bytes
  have hr := B.returns
  have hts := atoms_spec (ws := wsX0_meet) B.pre
  have hown : s.vm.findClass RX0 = some m.cls := findClass_of_methodNamed B.named
  have hlocks := B.notSynchronized
  have hD := hD0.self (sz := s.heap.size)
  obtain ⟨A, hAe⟩ : ∃ A, A = va_A (tv_cw cI cZ h a1 a2 a3 a4 (rd, lv, op, nt)) s.heap.size := ⟨_, rfl⟩
  rw [← hAe] at hD hE
  have hA : ∀ q : Nat, s.heap.size ≤ q → A q := fun q h => by rw [hAe]; exact Or.inr h
  have hS : va_S A s.heap s.heap [] := va_S.rf
  clear hD0
  have hl := lv_entry ([.ref h, .int x1, .int x2, .int x3]) (n := 6) (Nat.le_of_ble_eq_true rfl)
  rw [lg_entry_eq]
  generalize (lg_sl ([.ref h, .int x1, .int x2, .int x3]) ++ List.replicate (6 - (lg_sl ([.ref h, .int x1, .int x2, .int x3])).length) Slot.unset).toArray = ls at hl ⊢
  have hl : lv_has ls 6 [(0, .ref h), (1, .int x1), (2, .int x2), (3, .int x3)] := hl
  refine lv_iload_n hx hb dX0_meet_0 rfl (lv_at hl 1 rfl) ?_
  cases g1 : tv_in 8 x1 with
  | false =>
    have hV1 : V = (1, 0, (rd, lv, op, nt)) := by rw [hV]; simp only [sp_meet, g1, Bool.and_false, Bool.false_and, Bool.and_true, Bool.true_and, Bool.and_self, sp_f, sp_tf, sp_tt]
    exact tv_callT (a := #[]) (vx_runS (As := [.int x1]) (rest := []) ⟨hx, hb, hml, hown, hts⟩ (t_X0_needRow l hT x1 g1) (va_cwS 1 hts gX0_meet_X0_needRow rfl rfl rfl (by decide +kernel) ⟨Nat.le_of_ble_eq_true rfl, Nat.le_of_ble_eq_true rfl⟩) (tv_preT hE hS) rfl rfl hl.1 rfl (lv_room (Nat.le_of_ble_eq_true rfl)) dX0_meet_1 ⟨Nat.le_of_ble_eq_true rfl, Nat.le_of_ble_eq_true rfl⟩) htab hlocks (fun t hz hk => ⟨(), by rw [hV1]; exact (by decide : (1 : Int32) ≠ 0), by rw [hV1]; rfl, hz, fun q hq _ => hk q hq⟩) (fun z h => nomatch h) (Nat.le_of_ble_eq_true rfl) (Nat.le_of_ble_eq_true rfl)
  | true =>
    refine tv_callN (W.runS (As := [.int x1]) (rest := []) ⟨hx, hb, hml, hown, hts⟩ (n_X0_needRow l x1 g1) (va_cwS 1 hts gX0_meet_X0_needRow rfl rfl rfl (by decide +kernel) ⟨Nat.le_of_ble_eq_true rfl, Nat.le_of_ble_eq_true rfl⟩) preEq rfl rfl hl.1 rfl (lv_room (Nat.le_of_ble_eq_true rfl)) dX0_meet_1 ⟨Nat.le_of_ble_eq_true rfl, Nat.le_of_ble_eq_true rfl⟩) ?_
    obtain ⟨r, hr8, rfl⟩ := tv_in_of (by omega) g1
    refine lv_iload_n hx hb dX0_meet_4 rfl (lv_at hl 2 rfl) ?_
    cases g2 : tv_in 8 x2 with
    | false =>
      have hV1 : V = (1, 0, (rd, lv, op, nt)) := by rw [hV]; simp only [sp_meet, g1, g2, Bool.and_false, Bool.false_and, Bool.and_true, Bool.true_and, Bool.and_self, sp_f, sp_tf, sp_tt]
      exact tv_callT (a := #[]) (vx_runS (As := [.int x2]) (rest := []) ⟨hx, hb, hml, hown, hts⟩ (t_X0_needRow l hT x2 g2) (va_cwS 1 hts gX0_meet_X0_needRow rfl rfl rfl (by decide +kernel) ⟨Nat.le_of_ble_eq_true rfl, Nat.le_of_ble_eq_true rfl⟩) (tv_preT hE hS) rfl rfl hl.1 rfl (lv_room (Nat.le_of_ble_eq_true rfl)) dX0_meet_5 ⟨Nat.le_of_ble_eq_true rfl, Nat.le_of_ble_eq_true rfl⟩) htab hlocks (fun t hz hk => ⟨(), by rw [hV1]; exact (by decide : (1 : Int32) ≠ 0), by rw [hV1]; rfl, hz, fun q hq _ => hk q hq⟩) (fun z h => nomatch h) (Nat.le_of_ble_eq_true rfl) (Nat.le_of_ble_eq_true rfl)
    | true =>
      refine tv_callN (W.runS (As := [.int x2]) (rest := []) ⟨hx, hb, hml, hown, hts⟩ (n_X0_needRow l x2 g2) (va_cwS 1 hts gX0_meet_X0_needRow rfl rfl rfl (by decide +kernel) ⟨Nat.le_of_ble_eq_true rfl, Nat.le_of_ble_eq_true rfl⟩) preEq rfl rfl hl.1 rfl (lv_room (Nat.le_of_ble_eq_true rfl)) dX0_meet_5 ⟨Nat.le_of_ble_eq_true rfl, Nat.le_of_ble_eq_true rfl⟩) ?_
      obtain ⟨q, hq8, rfl⟩ := tv_in_of (by omega) g2
      refine lv_iload_n hx hb dX0_meet_8 rfl (lv_at hl 3 rfl) ?_
      cases g3 : tv_sg x3 with
      | false =>
        have hV1 : V = (2, 0, (rd, lv, op, nt)) := by rw [hV]; simp only [sp_meet, g1, g2, g3, Bool.and_false, Bool.false_and, Bool.and_true, Bool.true_and, Bool.and_self, sp_f, sp_tf, sp_tt]
        exact tv_callT (a := #[]) (vx_runS (As := [.int x3]) (rest := []) ⟨hx, hb, hml, hown, hts⟩ (t_X0_needSign l hT x3 g3) (va_cwS 1 hts gX0_meet_X0_needSign rfl rfl rfl (by decide +kernel) ⟨Nat.le_of_ble_eq_true rfl, Nat.le_of_ble_eq_true rfl⟩) (tv_preT hE hS) rfl rfl hl.1 rfl (lv_room (Nat.le_of_ble_eq_true rfl)) dX0_meet_9 ⟨Nat.le_of_ble_eq_true rfl, Nat.le_of_ble_eq_true rfl⟩) htab hlocks (fun t hz hk => ⟨(), by rw [hV1]; exact (by decide : (2 : Int32) ≠ 0), by rw [hV1]; rfl, hz, fun q hq _ => hk q hq⟩) (fun z h => nomatch h) (Nat.le_of_ble_eq_true rfl) (Nat.le_of_ble_eq_true rfl)
      | true =>
        refine tv_callN (W.runS (As := [.int x3]) (rest := []) ⟨hx, hb, hml, hown, hts⟩ (n_X0_needSign l x3 g3) (va_cwS 1 hts gX0_meet_X0_needSign rfl rfl rfl (by decide +kernel) ⟨Nat.le_of_ble_eq_true rfl, Nat.le_of_ble_eq_true rfl⟩) preEq rfl rfl hl.1 rfl (lv_room (Nat.le_of_ble_eq_true rfl)) dX0_meet_9 ⟨Nat.le_of_ble_eq_true rfl, Nat.le_of_ble_eq_true rfl⟩) ?_
        refine lv_iload_n hx hb dX0_meet_12 rfl (lv_at hl 1 rfl) ?_
        refine lv_iload_n hx hb dX0_meet_13 rfl (lv_at hl 2 rfl) ?_
        cases g4 : tv_os (nI r) (nI q) with
        | false =>
          have hV1 : V = (2, 0, (rd, lv, op, nt)) := by rw [hV]; simp only [sp_meet, g1, g2, g3, g4, Bool.and_false, Bool.false_and, Bool.and_true, Bool.true_and, Bool.and_self, sp_f, sp_tf, sp_tt]
          exact tv_callT (a := #[]) (vx_runS (As := [.int (nI r), .int (nI q)]) (rest := []) ⟨hx, hb, hml, hown, hts⟩ (t_X0_needOneSort l hT r q g4 hr8 hq8) (va_cwS 2 hts gX0_meet_X0_needOneSort rfl rfl rfl (by decide +kernel) ⟨Nat.le_of_ble_eq_true rfl, Nat.le_of_ble_eq_true rfl⟩) (tv_preT hE hS) rfl rfl hl.1 rfl (lv_room (Nat.le_of_ble_eq_true rfl)) dX0_meet_14 ⟨Nat.le_of_ble_eq_true rfl, Nat.le_of_ble_eq_true rfl⟩) htab hlocks (fun t hz hk => ⟨(), by rw [hV1]; exact (by decide : (2 : Int32) ≠ 0), by rw [hV1]; rfl, hz, fun q hq _ => hk q hq⟩) (fun z h => nomatch h) (Nat.le_of_ble_eq_true rfl) (Nat.le_of_ble_eq_true rfl)
        | true =>
          refine tv_callN (W.runS (As := [.int (nI r), .int (nI q)]) (rest := []) ⟨hx, hb, hml, hown, hts⟩ (n_X0_needOneSort l r q g4 hr8 hq8) (va_cwS 2 hts gX0_meet_X0_needOneSort rfl rfl rfl (by decide +kernel) ⟨Nat.le_of_ble_eq_true rfl, Nat.le_of_ble_eq_true rfl⟩) preEq rfl rfl hl.1 rfl (lv_room (Nat.le_of_ble_eq_true rfl)) dX0_meet_14 ⟨Nat.le_of_ble_eq_true rfl, Nat.le_of_ble_eq_true rfl⟩) ?_
          refine lv_iconst (v := 0) hx hb dX0_meet_17 (by decide) ?_
          refine lv_istore (lv' := [(4, .int 0), (0, .ref h), (1, .int (nI r)), (2, .int (nI q)), (3, .int x3)]) hx hb dX0_meet_18 hl (by decide) rfl (fun ls hl => ?_)
          refine lv_iconst (v := 0) hx hb dX0_meet_20 (by decide) ?_
          refine lv_istore (lv' := [(5, .int 0), (4, .int 0), (0, .ref h), (1, .int (nI r)), (2, .int (nI q)), (3, .int x3)]) hx hb dX0_meet_21 hl (by decide) rfl (fun ls hl => ?_)
          have hV0 : V = (0, cn (fun k => tq x3 (rw12 rd r k) (rw12 rd q k)) 12, (rd, lv, op, nt)) := by
            rw [hV]; simp only [sp_meet, tN, nI_clamp (show r < 2 ^ 31 by omega), nI_clamp (show q < 2 ^ 31 by omega), g1, g2, g3, g4, Bool.and_false, Bool.false_and, Bool.and_true, Bool.true_and, Bool.and_self, sp_f, sp_tf, sp_tt]
          have loop : ∀ (n k : Nat), k + n = 12 → ∀ ls : Array Slot, lv_has ls 6 [(0, .ref h), (1, .int (nI r)), (2, .int (nI q)), (3, .int x3), (4, .int (cn (fun k => tq x3 (rw12 rd r k) (rw12 rd q k)) k)), (5, .int (nI k))] → W p l e (headSpec wsX0_meet tv_rmP).room s m ([.ref h, .int (nI r), .int (nI q), .int x3] : List Value).toArray below meth c s.heap [] 0 0 (vx_MQ below (tv_QP D cI cZ cL (tv_cw cI cZ h a1 a2 a3 a4) (tv_cw cI cZ h a1 a2 a3 a4 (rd, lv, op, nt)) s.heap.size V) (tv_XP V) ([.ref h, .int (nI r), .int (nI q), .int x3] : List Value).toArray s 1 6 (va_A (tv_cw cI cZ h a1 a2 a3 a4 (rd, lv, op, nt)) s.heap.size)) (F0 m 23 ls []) := by
            intro n
            induction n with
            | zero =>
              intro k hk ls hl
              have hk2 : k = 12 := by omega
              subst hk2
              refine lv_iload hx hb dX0_meet_23 (lv_at hl 5 rfl) ?_
              refine lv_bipush (v := 12) hx hb dX0_meet_25 (by decide) ?_
              refine lv_icmp_ge (tgt := 68) hx hb dX0_meet_27 (by decide) (fun c_1 => ?_) (fun c_1 => ?_)
              · skip
                refine lv_iload hx hb dX0_meet_68 (lv_at hl 4 rfl) ?_
                exact tv_iretP (wf := tv_cw cI cZ h a1 a2 a3 a4) (σ := (rd, lv, op, nt)) (r := cn (fun k => tq x3 (rw12 rd r k) (rw12 rd q k)) 12) hAe hV0 hx hb hr hP hK hD hS dX0_meet_70 hlocks
              · exact absurd (show nI 12 ≤ nI 12 from nI_le (Nat.le_refl _) (by omega)) c_1
            | succ n ih =>
              intro k hk ls hl
              refine lv_iload hx hb dX0_meet_23 (lv_at hl 5 rfl) ?_
              refine lv_bipush (v := 12) hx hb dX0_meet_25 (by decide) ?_
              refine lv_icmp_ge (tgt := 68) hx hb dX0_meet_27 (by decide) (fun c_2 => ?_) (fun c_2 => ?_)
              · exact absurd (show nI 12 ≤ nI k from c_2) (nI_ge (by omega) (by omega))
              · skip
                refine lv_iload_n hx hb dX0_meet_30 rfl (lv_at hl 3 rfl) ?_
                refine lv_aload_n hx hb dX0_meet_31 rfl (lv_at hl 0 rfl) ?_
                refine va_get (D := D) (ci := 0) (v := .ref a1) (C := RX0) (T := TX0) (N := 4) hx hb hts iX0_meet hown hK hP 0 rfl rfl 0 (by decide) (hts (.fieldLink RX0 9 "TideHouse" "readings" "[I") (by decide +kernel)) (fun _ h9 => h9) rfl dX0_meet_32 ?_
                refine lv_iload_n hx hb dX0_meet_35 rfl (lv_at hl 1 rfl) ?_
                refine lv_iload hx hb dX0_meet_36 (lv_at hl 5 rfl) ?_
                refine tv_callR (W.runS (As := [.int (nI r), .int (nI k)]) (rest := [.ref a1, .int x3]) ⟨hx, hb, hml, hown, hts⟩ (c_X0_spot l r k) (va_cwS 2 hts gX0_meet_X0_spot rfl rfl rfl (by decide +kernel) ⟨Nat.le_of_ble_eq_true rfl, Nat.le_of_ble_eq_true rfl⟩) preEq rfl rfl hl.1 rfl (lv_room (Nat.le_of_ble_eq_true rfl)) dX0_meet_38 ⟨Nat.le_of_ble_eq_true rfl, Nat.le_of_ble_eq_true rfl⟩) ?_
                refine tv_iald (D := D) (cA := cI) (n := 96) (f := rd) (k := (12 * r + k)) hx hb hK hP 1 0 rfl rfl (by omega) (by omega) dX0_meet_41 ?_
                refine lv_aload_n hx hb dX0_meet_42 rfl (lv_at hl 0 rfl) ?_
                refine va_get (D := D) (ci := 0) (v := .ref a1) (C := RX0) (T := TX0) (N := 4) hx hb hts iX0_meet hown hK hP 0 rfl rfl 0 (by decide) (hts (.fieldLink RX0 9 "TideHouse" "readings" "[I") (by decide +kernel)) (fun _ h9 => h9) rfl dX0_meet_43 ?_
                refine lv_iload_n hx hb dX0_meet_46 rfl (lv_at hl 2 rfl) ?_
                refine lv_iload hx hb dX0_meet_47 (lv_at hl 5 rfl) ?_
                refine tv_callR (W.runS (As := [.int (nI q), .int (nI k)]) (rest := [.ref a1, .int (rd (12 * r + k)), .int x3]) ⟨hx, hb, hml, hown, hts⟩ (c_X0_spot l q k) (va_cwS 2 hts gX0_meet_X0_spot rfl rfl rfl (by decide +kernel) ⟨Nat.le_of_ble_eq_true rfl, Nat.le_of_ble_eq_true rfl⟩) preEq rfl rfl hl.1 rfl (lv_room (Nat.le_of_ble_eq_true rfl)) dX0_meet_49 ⟨Nat.le_of_ble_eq_true rfl, Nat.le_of_ble_eq_true rfl⟩) ?_
                refine tv_iald (D := D) (cA := cI) (n := 96) (f := rd) (k := (12 * q + k)) hx hb hK hP 1 0 rfl rfl (by omega) (by omega) dX0_meet_52 ?_
                refine tv_callR (W.runS (As := [.int x3, .int (rd (12 * r + k)), .int (rd (12 * q + k))]) (rest := []) ⟨hx, hb, hml, hown, hts⟩ (c_X0_isTrue l x3 (rd (12 * r + k)) (rd (12 * q + k))) (va_cwS 3 hts gX0_meet_X0_isTrue rfl rfl rfl (by decide +kernel) ⟨Nat.le_of_ble_eq_true rfl, Nat.le_of_ble_eq_true rfl⟩) preEq rfl rfl hl.1 rfl (lv_room (Nat.le_of_ble_eq_true rfl)) dX0_meet_53 ⟨Nat.le_of_ble_eq_true rfl, Nat.le_of_ble_eq_true rfl⟩) ?_
                refine lv_if_eq (tgt := 62) hx hb dX0_meet_56 (by decide) (fun c_3 => ?_) (fun c_3 => ?_)
                · skip
                  refine lv_iinc (v := nI (k + 1)) (lv' := [(5, .int (nI (k + 1))), (0, .ref h), (1, .int (nI r)), (2, .int (nI q)), (3, .int x3), (4, .int (cn (fun k => tq x3 (rw12 rd r k) (rw12 rd q k)) k))]) hx hb dX0_meet_62 hl (k := 5) rfl (nI_1 k) (by decide) rfl (fun ls hl => ?_)
                  refine lv_goto (tgt := 23) hx hb dX0_meet_65 (by decide) ?_
                  exact ih (k + 1) (by omega) ls (by rw [show cn (fun k => tq x3 (rw12 rd r k) (rw12 rd q k)) (k + 1) = cn (fun k => tq x3 (rw12 rd r k) (rw12 rd q k)) k from cn_s0 c_3]; exact lv_sub hl [1, 2, 3, 4, 5, 0] rfl)
                · skip
                  refine lv_iinc (v := cn (fun k => tq x3 (rw12 rd r k) (rw12 rd q k)) k + 1) (lv' := [(4, .int (cn (fun k => tq x3 (rw12 rd r k) (rw12 rd q k)) k + 1)), (0, .ref h), (1, .int (nI r)), (2, .int (nI q)), (3, .int x3), (5, .int (nI k))]) hx hb dX0_meet_59 hl (k := 4) rfl (rfl) (by decide) rfl (fun ls hl => ?_)
                  refine lv_iinc (v := nI (k + 1)) (lv' := [(5, .int (nI (k + 1))), (4, .int (cn (fun k => tq x3 (rw12 rd r k) (rw12 rd q k)) k + 1)), (0, .ref h), (1, .int (nI r)), (2, .int (nI q)), (3, .int x3)]) hx hb dX0_meet_62 hl (k := 5) rfl (nI_1 k) (by decide) rfl (fun ls hl => ?_)
                  refine lv_goto (tgt := 23) hx hb dX0_meet_65 (by decide) ?_
                  exact ih (k + 1) (by omega) ls (by rw [show cn (fun k => tq x3 (rw12 rd r k) (rw12 rd q k)) (k + 1) = cn (fun k => tq x3 (rw12 rd r k) (rw12 rd q k)) k + 1 from cn_s1 (tq1 c_3)]; exact lv_sub hl [2, 3, 4, 5, 1, 0] rfl)
          exact loop 12 0 (by omega) ls (by rw [show cn (fun k => tq x3 (rw12 rd r k) (rw12 rd q k)) 0 = 0 from rfl, show nI 0 = 0 from nI_0]; exact lv_sub hl [2, 3, 4, 5, 1, 0] rfl)
theorem iX0_between : ∀ w ∈ wsX00, w ∈ wsX0_between := by decide +kernel
set_option maxHeartbeats 4000000 in
set_option maxRecDepth 100000 in
theorem c_X0_between (l : Launch) (hT : l.stackTraces = false) (D : va_G) (cI cZ cL : ClassId) (h a1 a2 a3 a4 : Nat) (rd lv op nt : Nat → Int32) (sz : Nat) (x1 x2 x3 : Int32) (V : TV) (hV : V = sp_between x1 x2 x3 (rd, lv, op, nt)) : vx_Met l yX0_between wsX0_between tv_rmP (tv_PP D cI cZ cL (tv_cw cI cZ h a1 a2 a3 a4 (rd, lv, op, nt)) sz [.ref h, .int x1, .int x2, .int x3]) (tv_QP D cI cZ cL (tv_cw cI cZ h a1 a2 a3 a4) (tv_cw cI cZ h a1 a2 a3 a4 (rd, lv, op, nt)) sz V) (tv_XP V) 1 6 (va_A (tv_cw cI cZ h a1 a2 a3 a4 (rd, lv, op, nt)) sz) := by
  refine vx_ofW (cc := cX0_between) (maxL := 10) (ret := (some .int)) (by decide) rfl ?_
  intro p e s m args below meth c s₁ B hml htab hv
  obtain ⟨rfl, hsz, hP, hK, hD0, hE⟩ := hv
  subst hsz
  have hx := B.exec
  have hb := B.bytes
  have hr := B.returns
  have hts := atoms_spec (ws := wsX0_between) B.pre
  have hown : s.vm.findClass RX0 = some m.cls := findClass_of_methodNamed B.named
  have hlocks := B.notSynchronized
  have hD := hD0.self (sz := s.heap.size)
  obtain ⟨A, hAe⟩ : ∃ A, A = va_A (tv_cw cI cZ h a1 a2 a3 a4 (rd, lv, op, nt)) s.heap.size := ⟨_, rfl⟩
  rw [← hAe] at hD hE
  have hA : ∀ q : Nat, s.heap.size ≤ q → A q := fun q h => by rw [hAe]; exact Or.inr h
  have hS : va_S A s.heap s.heap [] := va_S.rf
  clear hD0
  have hl := lv_entry ([.ref h, .int x1, .int x2, .int x3]) (n := 10) (Nat.le_of_ble_eq_true rfl)
  rw [lg_entry_eq]
  generalize (lg_sl ([.ref h, .int x1, .int x2, .int x3]) ++ List.replicate (10 - (lg_sl ([.ref h, .int x1, .int x2, .int x3])).length) Slot.unset).toArray = ls at hl ⊢
  have hl : lv_has ls 10 [(0, .ref h), (1, .int x1), (2, .int x2), (3, .int x3)] := hl
  refine lv_iload_n hx hb dX0_between_0 rfl (lv_at hl 1 rfl) ?_
  cases g1 : tv_in 8 x1 with
  | false =>
    have hV1 : V = (1, 0, (rd, lv, op, nt)) := by rw [hV]; simp only [sp_between, g1, Bool.and_false, Bool.false_and, Bool.and_true, Bool.true_and, Bool.and_self, sp_f, sp_tf, sp_tt]
    exact tv_callT (a := #[]) (vx_runS (As := [.int x1]) (rest := []) ⟨hx, hb, hml, hown, hts⟩ (t_X0_needRow l hT x1 g1) (va_cwS 1 hts gX0_between_X0_needRow rfl rfl rfl (by decide +kernel) ⟨Nat.le_of_ble_eq_true rfl, Nat.le_of_ble_eq_true rfl⟩) (tv_preT hE hS) rfl rfl hl.1 rfl (lv_room (Nat.le_of_ble_eq_true rfl)) dX0_between_1 ⟨Nat.le_of_ble_eq_true rfl, Nat.le_of_ble_eq_true rfl⟩) htab hlocks (fun t hz hk => ⟨(), by rw [hV1]; exact (by decide : (1 : Int32) ≠ 0), by rw [hV1]; rfl, hz, fun q hq _ => hk q hq⟩) (fun z h => nomatch h) (Nat.le_of_ble_eq_true rfl) (Nat.le_of_ble_eq_true rfl)
  | true =>
    refine tv_callN (W.runS (As := [.int x1]) (rest := []) ⟨hx, hb, hml, hown, hts⟩ (n_X0_needRow l x1 g1) (va_cwS 1 hts gX0_between_X0_needRow rfl rfl rfl (by decide +kernel) ⟨Nat.le_of_ble_eq_true rfl, Nat.le_of_ble_eq_true rfl⟩) preEq rfl rfl hl.1 rfl (lv_room (Nat.le_of_ble_eq_true rfl)) dX0_between_1 ⟨Nat.le_of_ble_eq_true rfl, Nat.le_of_ble_eq_true rfl⟩) ?_
    obtain ⟨r, hr8, rfl⟩ := tv_in_of (by omega) g1
    refine lv_iload_n hx hb dX0_between_4 rfl (lv_at hl 2 rfl) ?_
    cases g2 : tv_in 4 x2 with
    | false =>
      have hV1 : V = (1, 0, (rd, lv, op, nt)) := by rw [hV]; simp only [sp_between, g1, g2, Bool.and_false, Bool.false_and, Bool.and_true, Bool.true_and, Bool.and_self, sp_f, sp_tf, sp_tt]
      exact tv_callT (a := #[]) (vx_runS (As := [.int x2]) (rest := []) ⟨hx, hb, hml, hown, hts⟩ (t_X0_needGate l hT x2 g2) (va_cwS 1 hts gX0_between_X0_needGate rfl rfl rfl (by decide +kernel) ⟨Nat.le_of_ble_eq_true rfl, Nat.le_of_ble_eq_true rfl⟩) (tv_preT hE hS) rfl rfl hl.1 rfl (lv_room (Nat.le_of_ble_eq_true rfl)) dX0_between_5 ⟨Nat.le_of_ble_eq_true rfl, Nat.le_of_ble_eq_true rfl⟩) htab hlocks (fun t hz hk => ⟨(), by rw [hV1]; exact (by decide : (1 : Int32) ≠ 0), by rw [hV1]; rfl, hz, fun q hq _ => hk q hq⟩) (fun z h => nomatch h) (Nat.le_of_ble_eq_true rfl) (Nat.le_of_ble_eq_true rfl)
    | true =>
      refine tv_callN (W.runS (As := [.int x2]) (rest := []) ⟨hx, hb, hml, hown, hts⟩ (n_X0_needGate l x2 g2) (va_cwS 1 hts gX0_between_X0_needGate rfl rfl rfl (by decide +kernel) ⟨Nat.le_of_ble_eq_true rfl, Nat.le_of_ble_eq_true rfl⟩) preEq rfl rfl hl.1 rfl (lv_room (Nat.le_of_ble_eq_true rfl)) dX0_between_5 ⟨Nat.le_of_ble_eq_true rfl, Nat.le_of_ble_eq_true rfl⟩) ?_
      obtain ⟨g, hg8, rfl⟩ := tv_in_of (by omega) g2
      refine lv_iload_n hx hb dX0_between_8 rfl (lv_at hl 3 rfl) ?_
      cases g3 : tv_in 4 x3 with
      | false =>
        have hV1 : V = (1, 0, (rd, lv, op, nt)) := by rw [hV]; simp only [sp_between, g1, g2, g3, Bool.and_false, Bool.false_and, Bool.and_true, Bool.true_and, Bool.and_self, sp_f, sp_tf, sp_tt]
        exact tv_callT (a := #[]) (vx_runS (As := [.int x3]) (rest := []) ⟨hx, hb, hml, hown, hts⟩ (t_X0_needGate l hT x3 g3) (va_cwS 1 hts gX0_between_X0_needGate rfl rfl rfl (by decide +kernel) ⟨Nat.le_of_ble_eq_true rfl, Nat.le_of_ble_eq_true rfl⟩) (tv_preT hE hS) rfl rfl hl.1 rfl (lv_room (Nat.le_of_ble_eq_true rfl)) dX0_between_9 ⟨Nat.le_of_ble_eq_true rfl, Nat.le_of_ble_eq_true rfl⟩) htab hlocks (fun t hz hk => ⟨(), by rw [hV1]; exact (by decide : (1 : Int32) ≠ 0), by rw [hV1]; rfl, hz, fun q hq _ => hk q hq⟩) (fun z h => nomatch h) (Nat.le_of_ble_eq_true rfl) (Nat.le_of_ble_eq_true rfl)
      | true =>
        refine tv_callN (W.runS (As := [.int x3]) (rest := []) ⟨hx, hb, hml, hown, hts⟩ (n_X0_needGate l x3 g3) (va_cwS 1 hts gX0_between_X0_needGate rfl rfl rfl (by decide +kernel) ⟨Nat.le_of_ble_eq_true rfl, Nat.le_of_ble_eq_true rfl⟩) preEq rfl rfl hl.1 rfl (lv_room (Nat.le_of_ble_eq_true rfl)) dX0_between_9 ⟨Nat.le_of_ble_eq_true rfl, Nat.le_of_ble_eq_true rfl⟩) ?_
        obtain ⟨u, hu8, rfl⟩ := tv_in_of (by omega) g3
        refine lv_aload_n hx hb dX0_between_12 rfl (lv_at hl 0 rfl) ?_
        refine lv_iload_n hx hb dX0_between_13 rfl (lv_at hl 2 rfl) ?_
        refine lv_iload_n hx hb dX0_between_14 rfl (lv_at hl 1 rfl) ?_
        refine tv_callR (W.runV (As := [.int (nI g), .int (nI r)]) (rest := []) ⟨hx, hb, hml, hown, hts⟩ (c_X0_levelFor l D cI cZ cL h a1 a2 a3 a4 rd lv op nt g r hg8 hr8) (cwV 2 hts gX0_between_X0_levelFor rfl rfl rfl (by decide +kernel) ⟨Nat.le_of_ble_eq_true rfl, Nat.le_of_ble_eq_true rfl⟩) (tv_preV hP hK rfl 0 rfl) rfl rfl hl.1 rfl (lv_room (Nat.le_of_ble_eq_true rfl)) dX0_between_15 ⟨Nat.le_of_ble_eq_true rfl, Nat.le_of_ble_eq_true rfl⟩) ?_
        refine lv_istore (lv' := [(4, .int (lvl lv g r)), (0, .ref h), (1, .int (nI r)), (2, .int (nI g)), (3, .int (nI u))]) hx hb dX0_between_18 hl (by decide) rfl (fun ls hl => ?_)
        refine lv_aload_n hx hb dX0_between_20 rfl (lv_at hl 1 rfl) ?_
        refine lv_iload_n hx hb dX0_between_21 rfl (lv_at hl 4 rfl) ?_
        refine lv_iload_n hx hb dX0_between_22 rfl (lv_at hl 2 rfl) ?_
        refine tv_callR (W.runV (As := [.int (nI u), .int (nI r)]) (rest := []) ⟨hx, hb, hml, hown, hts⟩ (c_X0_levelFor l D cI cZ cL h a1 a2 a3 a4 rd lv op nt u r hu8 hr8) (cwV 2 hts gX0_between_X0_levelFor rfl rfl rfl (by decide +kernel) ⟨Nat.le_of_ble_eq_true rfl, Nat.le_of_ble_eq_true rfl⟩) (tv_preV hP hK rfl 0 rfl) rfl rfl hl.1 rfl (lv_room (Nat.le_of_ble_eq_true rfl)) dX0_between_23 ⟨Nat.le_of_ble_eq_true rfl, Nat.le_of_ble_eq_true rfl⟩) ?_
        refine lv_istore (lv' := [(5, .int (lvl lv u r)), (4, .int (lvl lv g r)), (0, .ref h), (1, .int (nI r)), (2, .int (nI g)), (3, .int (nI u))]) hx hb dX0_between_26 hl (by decide) rfl (fun ls hl => ?_)
        refine lv_iconst (v := 0) hx hb dX0_between_28 (by decide) ?_
        refine lv_istore (lv' := [(6, .int 0), (5, .int (lvl lv u r)), (4, .int (lvl lv g r)), (0, .ref h), (1, .int (nI r)), (2, .int (nI g)), (3, .int (nI u))]) hx hb dX0_between_29 hl (by decide) rfl (fun ls hl => ?_)
        refine lv_iconst (v := 0) hx hb dX0_between_31 (by decide) ?_
        refine lv_istore (lv' := [(7, .int 0), (6, .int 0), (5, .int (lvl lv u r)), (4, .int (lvl lv g r)), (0, .ref h), (1, .int (nI r)), (2, .int (nI g)), (3, .int (nI u))]) hx hb dX0_between_32 hl (by decide) rfl (fun ls hl => ?_)
        refine lv_iconst (v := 0) hx hb dX0_between_34 (by decide) ?_
        refine lv_istore (lv' := [(8, .int 0), (7, .int 0), (6, .int 0), (5, .int (lvl lv u r)), (4, .int (lvl lv g r)), (0, .ref h), (1, .int (nI r)), (2, .int (nI g)), (3, .int (nI u))]) hx hb dX0_between_35 hl (by decide) rfl (fun ls hl => ?_)
        have hV0 : V = (0, 16 * cn (fun k => bt1 (rw12 rd r k) (lvl lv g r) (lvl lv u r)) 12 + cn (fun k => bt2 (rw12 rd r k) (lvl lv g r) (lvl lv u r)) 12, (rd, lv, op, nt)) := by
          rw [hV]; simp only [sp_between, tN, nI_clamp (show r < 2 ^ 31 by omega), nI_clamp (show g < 2 ^ 31 by omega), nI_clamp (show u < 2 ^ 31 by omega), g1, g2, g3, Bool.and_false, Bool.false_and, Bool.and_true, Bool.true_and, Bool.and_self, sp_f, sp_tf, sp_tt]
        have loop : ∀ (n k : Nat), k + n = 12 → ∀ ls : Array Slot, lv_has ls 10 [(0, .ref h), (1, .int (nI r)), (4, .int (lvl lv g r)), (5, .int (lvl lv u r)), (6, .int (cn (fun k => bt1 (rw12 rd r k) (lvl lv g r) (lvl lv u r)) k)), (7, .int (cn (fun k => bt2 (rw12 rd r k) (lvl lv g r) (lvl lv u r)) k)), (8, .int (nI k))] → W p l e (headSpec wsX0_between tv_rmP).room s m ([.ref h, .int (nI r), .int (nI g), .int (nI u)] : List Value).toArray below meth c s.heap [] 0 0 (vx_MQ below (tv_QP D cI cZ cL (tv_cw cI cZ h a1 a2 a3 a4) (tv_cw cI cZ h a1 a2 a3 a4 (rd, lv, op, nt)) s.heap.size V) (tv_XP V) ([.ref h, .int (nI r), .int (nI g), .int (nI u)] : List Value).toArray s 1 6 (va_A (tv_cw cI cZ h a1 a2 a3 a4 (rd, lv, op, nt)) s.heap.size)) (F0 m 37 ls []) := by
          intro n
          induction n with
          | zero =>
            intro k hk ls hl
            have hk2 : k = 12 := by omega
            subst hk2
            refine lv_iload hx hb dX0_between_37 (lv_at hl 6 rfl) ?_
            refine lv_bipush (v := 12) hx hb dX0_between_39 (by decide) ?_
            refine lv_icmp_ge (tgt := 113) hx hb dX0_between_41 (by decide) (fun c_1 => ?_) (fun c_1 => ?_)
            · skip
              refine lv_bipush (v := 16) hx hb dX0_between_113 (by decide) ?_
              refine lv_iload hx hb dX0_between_115 (lv_at hl 4 rfl) ?_
              refine lv_imul hx hb dX0_between_117 ?_
              refine lv_iload hx hb dX0_between_118 (lv_at hl 5 rfl) ?_
              refine lv_iadd hx hb dX0_between_120 ?_
              exact tv_iretP (wf := tv_cw cI cZ h a1 a2 a3 a4) (σ := (rd, lv, op, nt)) (r := (16 * (cn (fun k => bt1 (rw12 rd r k) (lvl lv g r) (lvl lv u r)) 12)) + (cn (fun k => bt2 (rw12 rd r k) (lvl lv g r) (lvl lv u r)) 12)) hAe hV0 hx hb hr hP hK hD hS dX0_between_121 hlocks
            · exact absurd (show nI 12 ≤ nI 12 from nI_le (Nat.le_refl _) (by omega)) c_1
          | succ n ih =>
            intro k hk ls hl
            refine lv_iload hx hb dX0_between_37 (lv_at hl 6 rfl) ?_
            refine lv_bipush (v := 12) hx hb dX0_between_39 (by decide) ?_
            refine lv_icmp_ge (tgt := 113) hx hb dX0_between_41 (by decide) (fun c_2 => ?_) (fun c_2 => ?_)
            · exact absurd (show nI 12 ≤ nI k from c_2) (nI_ge (by omega) (by omega))
            · skip
              refine lv_aload_n hx hb dX0_between_44 rfl (lv_at hl 0 rfl) ?_
              refine va_get (D := D) (ci := 0) (v := .ref a1) (C := RX0) (T := TX0) (N := 4) hx hb hts iX0_between hown hK hP 0 rfl rfl 0 (by decide) (hts (.fieldLink RX0 9 "TideHouse" "readings" "[I") (by decide +kernel)) (fun _ h9 => h9) rfl dX0_between_45 ?_
              refine lv_iload_n hx hb dX0_between_48 rfl (lv_at hl 1 rfl) ?_
              refine lv_iload hx hb dX0_between_49 (lv_at hl 6 rfl) ?_
              refine tv_callR (W.runS (As := [.int (nI r), .int (nI k)]) (rest := [.ref a1]) ⟨hx, hb, hml, hown, hts⟩ (c_X0_spot l r k) (va_cwS 2 hts gX0_between_X0_spot rfl rfl rfl (by decide +kernel) ⟨Nat.le_of_ble_eq_true rfl, Nat.le_of_ble_eq_true rfl⟩) preEq rfl rfl hl.1 rfl (lv_room (Nat.le_of_ble_eq_true rfl)) dX0_between_51 ⟨Nat.le_of_ble_eq_true rfl, Nat.le_of_ble_eq_true rfl⟩) ?_
              refine tv_iald (D := D) (cA := cI) (n := 96) (f := rd) (k := (12 * r + k)) hx hb hK hP 1 0 rfl rfl (by omega) (by omega) dX0_between_54 ?_
              refine lv_istore (lv' := [(9, .int (rd (12 * r + k))), (0, .ref h), (1, .int (nI r)), (4, .int (lvl lv g r)), (5, .int (lvl lv u r)), (6, .int (cn (fun k => bt1 (rw12 rd r k) (lvl lv g r) (lvl lv u r)) k)), (7, .int (cn (fun k => bt2 (rw12 rd r k) (lvl lv g r) (lvl lv u r)) k)), (8, .int (nI k))]) hx hb dX0_between_55 hl (by decide) rfl (fun ls hl => ?_)
              refine lv_iconst (v := 3) hx hb dX0_between_57 (by decide) ?_
              refine lv_iload hx hb dX0_between_58 (lv_at hl 0 rfl) ?_
              refine lv_iload hx hb dX0_between_60 (lv_at hl 3 rfl) ?_
              refine tv_callR (W.runS (As := [.int 3, .int (rd (12 * r + k)), .int (lvl lv g r)]) (rest := []) ⟨hx, hb, hml, hown, hts⟩ (c_X0_isTrue l 3 (rd (12 * r + k)) (lvl lv g r)) (va_cwS 3 hts gX0_between_X0_isTrue rfl rfl rfl (by decide +kernel) ⟨Nat.le_of_ble_eq_true rfl, Nat.le_of_ble_eq_true rfl⟩) preEq rfl rfl hl.1 rfl (lv_room (Nat.le_of_ble_eq_true rfl)) dX0_between_62 ⟨Nat.le_of_ble_eq_true rfl, Nat.le_of_ble_eq_true rfl⟩) ?_
              refine lv_if_eq (tgt := 82) hx hb dX0_between_65 (by decide) (fun c_3 => ?_) (fun c_3 => ?_)
              · skip
                refine lv_iconst (v := 0) hx hb dX0_between_82 (by decide) ?_
                refine lv_iload hx hb dX0_between_83 (lv_at hl 0 rfl) ?_
                refine lv_iload hx hb dX0_between_85 (lv_at hl 3 rfl) ?_
                refine tv_callR (W.runS (As := [.int 0, .int (rd (12 * r + k)), .int (lvl lv g r)]) (rest := []) ⟨hx, hb, hml, hown, hts⟩ (c_X0_isTrue l 0 (rd (12 * r + k)) (lvl lv g r)) (va_cwS 3 hts gX0_between_X0_isTrue rfl rfl rfl (by decide +kernel) ⟨Nat.le_of_ble_eq_true rfl, Nat.le_of_ble_eq_true rfl⟩) preEq rfl rfl hl.1 rfl (lv_room (Nat.le_of_ble_eq_true rfl)) dX0_between_87 ⟨Nat.le_of_ble_eq_true rfl, Nat.le_of_ble_eq_true rfl⟩) ?_
                refine lv_if_ne (tgt := 104) hx hb dX0_between_90 (by decide) (fun c_4 => ?_) (fun c_4 => ?_)
                · skip
                  refine lv_iinc (v := cn (fun k => bt2 (rw12 rd r k) (lvl lv g r) (lvl lv u r)) k + 1) (lv' := [(7, .int (cn (fun k => bt2 (rw12 rd r k) (lvl lv g r) (lvl lv u r)) k + 1)), (9, .int (rd (12 * r + k))), (0, .ref h), (1, .int (nI r)), (4, .int (lvl lv g r)), (5, .int (lvl lv u r)), (6, .int (cn (fun k => bt1 (rw12 rd r k) (lvl lv g r) (lvl lv u r)) k)), (8, .int (nI k))]) hx hb dX0_between_104 hl (k := 6) rfl (rfl) (by decide) rfl (fun ls hl => ?_)
                  refine lv_iinc (v := nI (k + 1)) (lv' := [(8, .int (nI (k + 1))), (7, .int (cn (fun k => bt2 (rw12 rd r k) (lvl lv g r) (lvl lv u r)) k + 1)), (9, .int (rd (12 * r + k))), (0, .ref h), (1, .int (nI r)), (4, .int (lvl lv g r)), (5, .int (lvl lv u r)), (6, .int (cn (fun k => bt1 (rw12 rd r k) (lvl lv g r) (lvl lv u r)) k))]) hx hb dX0_between_107 hl (k := 7) rfl (nI_1 k) (by decide) rfl (fun ls hl => ?_)
                  refine lv_goto (tgt := 37) hx hb dX0_between_110 (by decide) ?_
                  exact ih (k + 1) (by omega) ls (by rw [show cn (fun k => bt1 (rw12 rd r k) (lvl lv g r) (lvl lv u r)) (k + 1) = cn (fun k => bt1 (rw12 rd r k) (lvl lv g r) (lvl lv u r)) k from cn_s0 (by show bt1 _ _ _ = 0; rw [bt1, if_pos c_3]), show cn (fun k => bt2 (rw12 rd r k) (lvl lv g r) (lvl lv u r)) (k + 1) = cn (fun k => bt2 (rw12 rd r k) (lvl lv g r) (lvl lv u r)) k + 1 from cn_s1 (by show bt2 _ _ _ = 1; rw [bt2, if_neg c_4])]; exact lv_sub hl [3, 4, 5, 6, 7, 1, 0] rfl)
                · skip
                  refine lv_iconst (v := 2) hx hb dX0_between_93 (by decide) ?_
                  refine lv_iload hx hb dX0_between_94 (lv_at hl 0 rfl) ?_
                  refine lv_iload hx hb dX0_between_96 (lv_at hl 4 rfl) ?_
                  refine tv_callR (W.runS (As := [.int 2, .int (rd (12 * r + k)), .int (lvl lv u r)]) (rest := []) ⟨hx, hb, hml, hown, hts⟩ (c_X0_isTrue l 2 (rd (12 * r + k)) (lvl lv u r)) (va_cwS 3 hts gX0_between_X0_isTrue rfl rfl rfl (by decide +kernel) ⟨Nat.le_of_ble_eq_true rfl, Nat.le_of_ble_eq_true rfl⟩) preEq rfl rfl hl.1 rfl (lv_room (Nat.le_of_ble_eq_true rfl)) dX0_between_98 ⟨Nat.le_of_ble_eq_true rfl, Nat.le_of_ble_eq_true rfl⟩) ?_
                  refine lv_if_eq (tgt := 107) hx hb dX0_between_101 (by decide) (fun c_5 => ?_) (fun c_5 => ?_)
                  · skip
                    refine lv_iinc (v := nI (k + 1)) (lv' := [(8, .int (nI (k + 1))), (9, .int (rd (12 * r + k))), (0, .ref h), (1, .int (nI r)), (4, .int (lvl lv g r)), (5, .int (lvl lv u r)), (6, .int (cn (fun k => bt1 (rw12 rd r k) (lvl lv g r) (lvl lv u r)) k)), (7, .int (cn (fun k => bt2 (rw12 rd r k) (lvl lv g r) (lvl lv u r)) k))]) hx hb dX0_between_107 hl (k := 7) rfl (nI_1 k) (by decide) rfl (fun ls hl => ?_)
                    refine lv_goto (tgt := 37) hx hb dX0_between_110 (by decide) ?_
                    exact ih (k + 1) (by omega) ls (by rw [show cn (fun k => bt1 (rw12 rd r k) (lvl lv g r) (lvl lv u r)) (k + 1) = cn (fun k => bt1 (rw12 rd r k) (lvl lv g r) (lvl lv u r)) k from cn_s0 (by show bt1 _ _ _ = 0; rw [bt1, if_pos c_3]), show cn (fun k => bt2 (rw12 rd r k) (lvl lv g r) (lvl lv u r)) (k + 1) = cn (fun k => bt2 (rw12 rd r k) (lvl lv g r) (lvl lv u r)) k from cn_s0 (by show bt2 _ _ _ = 0; rw [bt2, if_pos c_4]; exact c_5)]; exact lv_sub hl [2, 3, 4, 5, 6, 7, 0] rfl)
                  · skip
                    refine lv_iinc (v := cn (fun k => bt2 (rw12 rd r k) (lvl lv g r) (lvl lv u r)) k + 1) (lv' := [(7, .int (cn (fun k => bt2 (rw12 rd r k) (lvl lv g r) (lvl lv u r)) k + 1)), (9, .int (rd (12 * r + k))), (0, .ref h), (1, .int (nI r)), (4, .int (lvl lv g r)), (5, .int (lvl lv u r)), (6, .int (cn (fun k => bt1 (rw12 rd r k) (lvl lv g r) (lvl lv u r)) k)), (8, .int (nI k))]) hx hb dX0_between_104 hl (k := 6) rfl (rfl) (by decide) rfl (fun ls hl => ?_)
                    refine lv_iinc (v := nI (k + 1)) (lv' := [(8, .int (nI (k + 1))), (7, .int (cn (fun k => bt2 (rw12 rd r k) (lvl lv g r) (lvl lv u r)) k + 1)), (9, .int (rd (12 * r + k))), (0, .ref h), (1, .int (nI r)), (4, .int (lvl lv g r)), (5, .int (lvl lv u r)), (6, .int (cn (fun k => bt1 (rw12 rd r k) (lvl lv g r) (lvl lv u r)) k))]) hx hb dX0_between_107 hl (k := 7) rfl (nI_1 k) (by decide) rfl (fun ls hl => ?_)
                    refine lv_goto (tgt := 37) hx hb dX0_between_110 (by decide) ?_
                    exact ih (k + 1) (by omega) ls (by rw [show cn (fun k => bt1 (rw12 rd r k) (lvl lv g r) (lvl lv u r)) (k + 1) = cn (fun k => bt1 (rw12 rd r k) (lvl lv g r) (lvl lv u r)) k from cn_s0 (by show bt1 _ _ _ = 0; rw [bt1, if_pos c_3]), show cn (fun k => bt2 (rw12 rd r k) (lvl lv g r) (lvl lv u r)) (k + 1) = cn (fun k => bt2 (rw12 rd r k) (lvl lv g r) (lvl lv u r)) k + 1 from cn_s1 (by show bt2 _ _ _ = 1; rw [bt2, if_pos c_4]; exact tq1 c_5)]; exact lv_sub hl [3, 4, 5, 6, 7, 1, 0] rfl)
              · skip
                refine lv_iconst (v := 1) hx hb dX0_between_68 (by decide) ?_
                refine lv_iload hx hb dX0_between_69 (lv_at hl 0 rfl) ?_
                refine lv_iload hx hb dX0_between_71 (lv_at hl 4 rfl) ?_
                refine tv_callR (W.runS (As := [.int 1, .int (rd (12 * r + k)), .int (lvl lv u r)]) (rest := []) ⟨hx, hb, hml, hown, hts⟩ (c_X0_isTrue l 1 (rd (12 * r + k)) (lvl lv u r)) (va_cwS 3 hts gX0_between_X0_isTrue rfl rfl rfl (by decide +kernel) ⟨Nat.le_of_ble_eq_true rfl, Nat.le_of_ble_eq_true rfl⟩) preEq rfl rfl hl.1 rfl (lv_room (Nat.le_of_ble_eq_true rfl)) dX0_between_73 ⟨Nat.le_of_ble_eq_true rfl, Nat.le_of_ble_eq_true rfl⟩) ?_
                refine lv_if_eq (tgt := 82) hx hb dX0_between_76 (by decide) (fun c_6 => ?_) (fun c_6 => ?_)
                · skip
                  refine lv_iconst (v := 0) hx hb dX0_between_82 (by decide) ?_
                  refine lv_iload hx hb dX0_between_83 (lv_at hl 0 rfl) ?_
                  refine lv_iload hx hb dX0_between_85 (lv_at hl 3 rfl) ?_
                  refine tv_callR (W.runS (As := [.int 0, .int (rd (12 * r + k)), .int (lvl lv g r)]) (rest := []) ⟨hx, hb, hml, hown, hts⟩ (c_X0_isTrue l 0 (rd (12 * r + k)) (lvl lv g r)) (va_cwS 3 hts gX0_between_X0_isTrue rfl rfl rfl (by decide +kernel) ⟨Nat.le_of_ble_eq_true rfl, Nat.le_of_ble_eq_true rfl⟩) preEq rfl rfl hl.1 rfl (lv_room (Nat.le_of_ble_eq_true rfl)) dX0_between_87 ⟨Nat.le_of_ble_eq_true rfl, Nat.le_of_ble_eq_true rfl⟩) ?_
                  refine lv_if_ne (tgt := 104) hx hb dX0_between_90 (by decide) (fun c_7 => ?_) (fun c_7 => ?_)
                  · skip
                    refine lv_iinc (v := cn (fun k => bt2 (rw12 rd r k) (lvl lv g r) (lvl lv u r)) k + 1) (lv' := [(7, .int (cn (fun k => bt2 (rw12 rd r k) (lvl lv g r) (lvl lv u r)) k + 1)), (9, .int (rd (12 * r + k))), (0, .ref h), (1, .int (nI r)), (4, .int (lvl lv g r)), (5, .int (lvl lv u r)), (6, .int (cn (fun k => bt1 (rw12 rd r k) (lvl lv g r) (lvl lv u r)) k)), (8, .int (nI k))]) hx hb dX0_between_104 hl (k := 6) rfl (rfl) (by decide) rfl (fun ls hl => ?_)
                    refine lv_iinc (v := nI (k + 1)) (lv' := [(8, .int (nI (k + 1))), (7, .int (cn (fun k => bt2 (rw12 rd r k) (lvl lv g r) (lvl lv u r)) k + 1)), (9, .int (rd (12 * r + k))), (0, .ref h), (1, .int (nI r)), (4, .int (lvl lv g r)), (5, .int (lvl lv u r)), (6, .int (cn (fun k => bt1 (rw12 rd r k) (lvl lv g r) (lvl lv u r)) k))]) hx hb dX0_between_107 hl (k := 7) rfl (nI_1 k) (by decide) rfl (fun ls hl => ?_)
                    refine lv_goto (tgt := 37) hx hb dX0_between_110 (by decide) ?_
                    exact ih (k + 1) (by omega) ls (by rw [show cn (fun k => bt1 (rw12 rd r k) (lvl lv g r) (lvl lv u r)) (k + 1) = cn (fun k => bt1 (rw12 rd r k) (lvl lv g r) (lvl lv u r)) k from cn_s0 (by show bt1 _ _ _ = 0; rw [bt1, if_neg c_3]; exact c_6), show cn (fun k => bt2 (rw12 rd r k) (lvl lv g r) (lvl lv u r)) (k + 1) = cn (fun k => bt2 (rw12 rd r k) (lvl lv g r) (lvl lv u r)) k + 1 from cn_s1 (by show bt2 _ _ _ = 1; rw [bt2, if_neg c_7])]; exact lv_sub hl [3, 4, 5, 6, 7, 1, 0] rfl)
                  · skip
                    refine lv_iconst (v := 2) hx hb dX0_between_93 (by decide) ?_
                    refine lv_iload hx hb dX0_between_94 (lv_at hl 0 rfl) ?_
                    refine lv_iload hx hb dX0_between_96 (lv_at hl 4 rfl) ?_
                    refine tv_callR (W.runS (As := [.int 2, .int (rd (12 * r + k)), .int (lvl lv u r)]) (rest := []) ⟨hx, hb, hml, hown, hts⟩ (c_X0_isTrue l 2 (rd (12 * r + k)) (lvl lv u r)) (va_cwS 3 hts gX0_between_X0_isTrue rfl rfl rfl (by decide +kernel) ⟨Nat.le_of_ble_eq_true rfl, Nat.le_of_ble_eq_true rfl⟩) preEq rfl rfl hl.1 rfl (lv_room (Nat.le_of_ble_eq_true rfl)) dX0_between_98 ⟨Nat.le_of_ble_eq_true rfl, Nat.le_of_ble_eq_true rfl⟩) ?_
                    refine lv_if_eq (tgt := 107) hx hb dX0_between_101 (by decide) (fun c_8 => ?_) (fun c_8 => ?_)
                    · skip
                      refine lv_iinc (v := nI (k + 1)) (lv' := [(8, .int (nI (k + 1))), (9, .int (rd (12 * r + k))), (0, .ref h), (1, .int (nI r)), (4, .int (lvl lv g r)), (5, .int (lvl lv u r)), (6, .int (cn (fun k => bt1 (rw12 rd r k) (lvl lv g r) (lvl lv u r)) k)), (7, .int (cn (fun k => bt2 (rw12 rd r k) (lvl lv g r) (lvl lv u r)) k))]) hx hb dX0_between_107 hl (k := 7) rfl (nI_1 k) (by decide) rfl (fun ls hl => ?_)
                      refine lv_goto (tgt := 37) hx hb dX0_between_110 (by decide) ?_
                      exact ih (k + 1) (by omega) ls (by rw [show cn (fun k => bt1 (rw12 rd r k) (lvl lv g r) (lvl lv u r)) (k + 1) = cn (fun k => bt1 (rw12 rd r k) (lvl lv g r) (lvl lv u r)) k from cn_s0 (by show bt1 _ _ _ = 0; rw [bt1, if_neg c_3]; exact c_6), show cn (fun k => bt2 (rw12 rd r k) (lvl lv g r) (lvl lv u r)) (k + 1) = cn (fun k => bt2 (rw12 rd r k) (lvl lv g r) (lvl lv u r)) k from cn_s0 (by show bt2 _ _ _ = 0; rw [bt2, if_pos c_7]; exact c_8)]; exact lv_sub hl [2, 3, 4, 5, 6, 7, 0] rfl)
                    · skip
                      refine lv_iinc (v := cn (fun k => bt2 (rw12 rd r k) (lvl lv g r) (lvl lv u r)) k + 1) (lv' := [(7, .int (cn (fun k => bt2 (rw12 rd r k) (lvl lv g r) (lvl lv u r)) k + 1)), (9, .int (rd (12 * r + k))), (0, .ref h), (1, .int (nI r)), (4, .int (lvl lv g r)), (5, .int (lvl lv u r)), (6, .int (cn (fun k => bt1 (rw12 rd r k) (lvl lv g r) (lvl lv u r)) k)), (8, .int (nI k))]) hx hb dX0_between_104 hl (k := 6) rfl (rfl) (by decide) rfl (fun ls hl => ?_)
                      refine lv_iinc (v := nI (k + 1)) (lv' := [(8, .int (nI (k + 1))), (7, .int (cn (fun k => bt2 (rw12 rd r k) (lvl lv g r) (lvl lv u r)) k + 1)), (9, .int (rd (12 * r + k))), (0, .ref h), (1, .int (nI r)), (4, .int (lvl lv g r)), (5, .int (lvl lv u r)), (6, .int (cn (fun k => bt1 (rw12 rd r k) (lvl lv g r) (lvl lv u r)) k))]) hx hb dX0_between_107 hl (k := 7) rfl (nI_1 k) (by decide) rfl (fun ls hl => ?_)
                      refine lv_goto (tgt := 37) hx hb dX0_between_110 (by decide) ?_
                      exact ih (k + 1) (by omega) ls (by rw [show cn (fun k => bt1 (rw12 rd r k) (lvl lv g r) (lvl lv u r)) (k + 1) = cn (fun k => bt1 (rw12 rd r k) (lvl lv g r) (lvl lv u r)) k from cn_s0 (by show bt1 _ _ _ = 0; rw [bt1, if_neg c_3]; exact c_6), show cn (fun k => bt2 (rw12 rd r k) (lvl lv g r) (lvl lv u r)) (k + 1) = cn (fun k => bt2 (rw12 rd r k) (lvl lv g r) (lvl lv u r)) k + 1 from cn_s1 (by show bt2 _ _ _ = 1; rw [bt2, if_pos c_7]; exact tq1 c_8)]; exact lv_sub hl [3, 4, 5, 6, 7, 1, 0] rfl)
                · skip
                  refine lv_iinc (v := cn (fun k => bt1 (rw12 rd r k) (lvl lv g r) (lvl lv u r)) k + 1) (lv' := [(6, .int (cn (fun k => bt1 (rw12 rd r k) (lvl lv g r) (lvl lv u r)) k + 1)), (9, .int (rd (12 * r + k))), (0, .ref h), (1, .int (nI r)), (4, .int (lvl lv g r)), (5, .int (lvl lv u r)), (7, .int (cn (fun k => bt2 (rw12 rd r k) (lvl lv g r) (lvl lv u r)) k)), (8, .int (nI k))]) hx hb dX0_between_79 hl (k := 5) rfl (rfl) (by decide) rfl (fun ls hl => ?_)
                  refine lv_iconst (v := 0) hx hb dX0_between_82 (by decide) ?_
                  refine lv_iload hx hb dX0_between_83 (lv_at hl 1 rfl) ?_
                  refine lv_iload hx hb dX0_between_85 (lv_at hl 4 rfl) ?_
                  refine tv_callR (W.runS (As := [.int 0, .int (rd (12 * r + k)), .int (lvl lv g r)]) (rest := []) ⟨hx, hb, hml, hown, hts⟩ (c_X0_isTrue l 0 (rd (12 * r + k)) (lvl lv g r)) (va_cwS 3 hts gX0_between_X0_isTrue rfl rfl rfl (by decide +kernel) ⟨Nat.le_of_ble_eq_true rfl, Nat.le_of_ble_eq_true rfl⟩) preEq rfl rfl hl.1 rfl (lv_room (Nat.le_of_ble_eq_true rfl)) dX0_between_87 ⟨Nat.le_of_ble_eq_true rfl, Nat.le_of_ble_eq_true rfl⟩) ?_
                  refine lv_if_ne (tgt := 104) hx hb dX0_between_90 (by decide) (fun c_9 => ?_) (fun c_9 => ?_)
                  · skip
                    refine lv_iinc (v := cn (fun k => bt2 (rw12 rd r k) (lvl lv g r) (lvl lv u r)) k + 1) (lv' := [(7, .int (cn (fun k => bt2 (rw12 rd r k) (lvl lv g r) (lvl lv u r)) k + 1)), (6, .int (cn (fun k => bt1 (rw12 rd r k) (lvl lv g r) (lvl lv u r)) k + 1)), (9, .int (rd (12 * r + k))), (0, .ref h), (1, .int (nI r)), (4, .int (lvl lv g r)), (5, .int (lvl lv u r)), (8, .int (nI k))]) hx hb dX0_between_104 hl (k := 6) rfl (rfl) (by decide) rfl (fun ls hl => ?_)
                    refine lv_iinc (v := nI (k + 1)) (lv' := [(8, .int (nI (k + 1))), (7, .int (cn (fun k => bt2 (rw12 rd r k) (lvl lv g r) (lvl lv u r)) k + 1)), (6, .int (cn (fun k => bt1 (rw12 rd r k) (lvl lv g r) (lvl lv u r)) k + 1)), (9, .int (rd (12 * r + k))), (0, .ref h), (1, .int (nI r)), (4, .int (lvl lv g r)), (5, .int (lvl lv u r))]) hx hb dX0_between_107 hl (k := 7) rfl (nI_1 k) (by decide) rfl (fun ls hl => ?_)
                    refine lv_goto (tgt := 37) hx hb dX0_between_110 (by decide) ?_
                    exact ih (k + 1) (by omega) ls (by rw [show cn (fun k => bt1 (rw12 rd r k) (lvl lv g r) (lvl lv u r)) (k + 1) = cn (fun k => bt1 (rw12 rd r k) (lvl lv g r) (lvl lv u r)) k + 1 from cn_s1 (by show bt1 _ _ _ = 1; rw [bt1, if_neg c_3]; exact tq1 c_6), show cn (fun k => bt2 (rw12 rd r k) (lvl lv g r) (lvl lv u r)) (k + 1) = cn (fun k => bt2 (rw12 rd r k) (lvl lv g r) (lvl lv u r)) k + 1 from cn_s1 (by show bt2 _ _ _ = 1; rw [bt2, if_neg c_9])]; exact lv_sub hl [4, 5, 6, 7, 2, 1, 0] rfl)
                  · skip
                    refine lv_iconst (v := 2) hx hb dX0_between_93 (by decide) ?_
                    refine lv_iload hx hb dX0_between_94 (lv_at hl 1 rfl) ?_
                    refine lv_iload hx hb dX0_between_96 (lv_at hl 5 rfl) ?_
                    refine tv_callR (W.runS (As := [.int 2, .int (rd (12 * r + k)), .int (lvl lv u r)]) (rest := []) ⟨hx, hb, hml, hown, hts⟩ (c_X0_isTrue l 2 (rd (12 * r + k)) (lvl lv u r)) (va_cwS 3 hts gX0_between_X0_isTrue rfl rfl rfl (by decide +kernel) ⟨Nat.le_of_ble_eq_true rfl, Nat.le_of_ble_eq_true rfl⟩) preEq rfl rfl hl.1 rfl (lv_room (Nat.le_of_ble_eq_true rfl)) dX0_between_98 ⟨Nat.le_of_ble_eq_true rfl, Nat.le_of_ble_eq_true rfl⟩) ?_
                    refine lv_if_eq (tgt := 107) hx hb dX0_between_101 (by decide) (fun c_10 => ?_) (fun c_10 => ?_)
                    · skip
                      refine lv_iinc (v := nI (k + 1)) (lv' := [(8, .int (nI (k + 1))), (6, .int (cn (fun k => bt1 (rw12 rd r k) (lvl lv g r) (lvl lv u r)) k + 1)), (9, .int (rd (12 * r + k))), (0, .ref h), (1, .int (nI r)), (4, .int (lvl lv g r)), (5, .int (lvl lv u r)), (7, .int (cn (fun k => bt2 (rw12 rd r k) (lvl lv g r) (lvl lv u r)) k))]) hx hb dX0_between_107 hl (k := 7) rfl (nI_1 k) (by decide) rfl (fun ls hl => ?_)
                      refine lv_goto (tgt := 37) hx hb dX0_between_110 (by decide) ?_
                      exact ih (k + 1) (by omega) ls (by rw [show cn (fun k => bt1 (rw12 rd r k) (lvl lv g r) (lvl lv u r)) (k + 1) = cn (fun k => bt1 (rw12 rd r k) (lvl lv g r) (lvl lv u r)) k + 1 from cn_s1 (by show bt1 _ _ _ = 1; rw [bt1, if_neg c_3]; exact tq1 c_6), show cn (fun k => bt2 (rw12 rd r k) (lvl lv g r) (lvl lv u r)) (k + 1) = cn (fun k => bt2 (rw12 rd r k) (lvl lv g r) (lvl lv u r)) k from cn_s0 (by show bt2 _ _ _ = 0; rw [bt2, if_pos c_9]; exact c_10)]; exact lv_sub hl [3, 4, 5, 6, 1, 7, 0] rfl)
                    · skip
                      refine lv_iinc (v := cn (fun k => bt2 (rw12 rd r k) (lvl lv g r) (lvl lv u r)) k + 1) (lv' := [(7, .int (cn (fun k => bt2 (rw12 rd r k) (lvl lv g r) (lvl lv u r)) k + 1)), (6, .int (cn (fun k => bt1 (rw12 rd r k) (lvl lv g r) (lvl lv u r)) k + 1)), (9, .int (rd (12 * r + k))), (0, .ref h), (1, .int (nI r)), (4, .int (lvl lv g r)), (5, .int (lvl lv u r)), (8, .int (nI k))]) hx hb dX0_between_104 hl (k := 6) rfl (rfl) (by decide) rfl (fun ls hl => ?_)
                      refine lv_iinc (v := nI (k + 1)) (lv' := [(8, .int (nI (k + 1))), (7, .int (cn (fun k => bt2 (rw12 rd r k) (lvl lv g r) (lvl lv u r)) k + 1)), (6, .int (cn (fun k => bt1 (rw12 rd r k) (lvl lv g r) (lvl lv u r)) k + 1)), (9, .int (rd (12 * r + k))), (0, .ref h), (1, .int (nI r)), (4, .int (lvl lv g r)), (5, .int (lvl lv u r))]) hx hb dX0_between_107 hl (k := 7) rfl (nI_1 k) (by decide) rfl (fun ls hl => ?_)
                      refine lv_goto (tgt := 37) hx hb dX0_between_110 (by decide) ?_
                      exact ih (k + 1) (by omega) ls (by rw [show cn (fun k => bt1 (rw12 rd r k) (lvl lv g r) (lvl lv u r)) (k + 1) = cn (fun k => bt1 (rw12 rd r k) (lvl lv g r) (lvl lv u r)) k + 1 from cn_s1 (by show bt1 _ _ _ = 1; rw [bt1, if_neg c_3]; exact tq1 c_6), show cn (fun k => bt2 (rw12 rd r k) (lvl lv g r) (lvl lv u r)) (k + 1) = cn (fun k => bt2 (rw12 rd r k) (lvl lv g r) (lvl lv u r)) k + 1 from cn_s1 (by show bt2 _ _ _ = 1; rw [bt2, if_pos c_9]; exact tq1 c_10)]; exact lv_sub hl [4, 5, 6, 7, 2, 1, 0] rfl)
        exact loop 12 0 (by omega) ls (by rw [show cn (fun k => bt1 (rw12 rd r k) (lvl lv g r) (lvl lv u r)) 0 = 0 from rfl, show cn (fun k => bt2 (rw12 rd r k) (lvl lv g r) (lvl lv u r)) 0 = 0 from rfl, show nI 0 = 0 from nI_0]; exact lv_sub hl [5, 6, 4, 3, 2, 1, 0] rfl)
