def bc1 (x : Int32) : Int32 := x - ((x.toUInt32 >>> ((1 : Int32).toUInt32 &&& Int32.toUInt32 31)).toInt32 &&& 1431655765)
def bc2 (x : Int32) : Int32 := (x &&& 858993459) + ((x.toUInt32 >>> ((2 : Int32).toUInt32 &&& Int32.toUInt32 31)).toInt32 &&& 858993459)
def bc3 (x : Int32) : Int32 := (x + (x.toUInt32 >>> ((4 : Int32).toUInt32 &&& Int32.toUInt32 31)).toInt32) &&& 252645135
def bc4 (x : Int32) : Int32 := x + (x.toUInt32 >>> ((8 : Int32).toUInt32 &&& Int32.toUInt32 31)).toInt32
def bc5 (x : Int32) : Int32 := x + (x.toUInt32 >>> ((16 : Int32).toUInt32 &&& Int32.toUInt32 31)).toInt32
def bcn (x : Int32) : Int32 := bc5 (bc4 (bc3 (bc2 (bc1 x)))) &&& 63
set_option maxHeartbeats 4000000 in
set_option maxRecDepth 100000 in
theorem c_J6_bitCount_0f7a4 (l : Launch) (x : Int32) : Met l yJ6_bitCount_0f7a4 wsJ6_bitCount_0f7a4 ({ frames := 0, cells := 0, slots := 0, locals := 0 } : Room) (fun av _ => av = ([.int x] : List Value).toArray) (QcRead (bcn x)) 0 0 (fun _ => False) := by
  refine Met.ofW (cc := cJ6_bitCount_0f7a4) (maxL := 1) (ret := (some .int)) (by decide) rfl ?_
  intro p e s m args below meth c s₁ B hml hv
  subst hv
  have hx := B.exec
  have hb := B.bytes
  have hr := B.returns
  have hts := atoms_spec (ws := wsJ6_bitCount_0f7a4) B.pre
  have hown : s.vm.findClass RJ6 = some m.cls := findClass_of_methodNamed B.named
  have hlocks := B.notSynchronized
  have hl := lv_entry ([.int x]) (n := 1) (Nat.le_of_ble_eq_true rfl)
  rw [lg_entry_eq]
  generalize (lg_sl ([.int x]) ++ List.replicate (1 - (lg_sl ([.int x])).length) Slot.unset).toArray = ls at hl ⊢
  have hl : lv_has ls 1 [(0, .int x)] := hl
  refine lv_iload_n hx hb dJ6_bitCount_0f7a4_0 rfl (lv_at hl 0 rfl) ?_
  refine lv_iload_n hx hb dJ6_bitCount_0f7a4_1 rfl (lv_at hl 0 rfl) ?_
  refine lv_iconst (v := 1) hx hb dJ6_bitCount_0f7a4_2 (by decide) ?_
  refine lv_iushr (v := (x.toUInt32 >>> ((1 : Int32).toUInt32 &&& Int32.toUInt32 31)).toInt32) hx hb dJ6_bitCount_0f7a4_3 rfl ?_
  refine lv_ldcw (v := 1431655765) hx hb hown (hts (.constant RJ6 265 (1431655765)) (by decide +kernel)) dJ6_bitCount_0f7a4_4 ?_
  refine lv_iand hx hb dJ6_bitCount_0f7a4_7 ?_
  refine lv_isub hx hb dJ6_bitCount_0f7a4_8 ?_
  refine tv_top (bc1 x) rfl ?_
  refine lv_istore_n (lv' := [(0, .int (bc1 x))]) hx hb dJ6_bitCount_0f7a4_9 rfl hl (by decide) rfl (fun ls hl => ?_)
  refine lv_iload_n hx hb dJ6_bitCount_0f7a4_10 rfl (lv_at hl 0 rfl) ?_
  refine lv_ldcw (v := 858993459) hx hb hown (hts (.constant RJ6 266 (858993459)) (by decide +kernel)) dJ6_bitCount_0f7a4_11 ?_
  refine lv_iand hx hb dJ6_bitCount_0f7a4_14 ?_
  refine lv_iload_n hx hb dJ6_bitCount_0f7a4_15 rfl (lv_at hl 0 rfl) ?_
  refine lv_iconst (v := 2) hx hb dJ6_bitCount_0f7a4_16 (by decide) ?_
  refine lv_iushr (v := ((bc1 x).toUInt32 >>> ((2 : Int32).toUInt32 &&& Int32.toUInt32 31)).toInt32) hx hb dJ6_bitCount_0f7a4_17 rfl ?_
  refine lv_ldcw (v := 858993459) hx hb hown (hts (.constant RJ6 266 (858993459)) (by decide +kernel)) dJ6_bitCount_0f7a4_18 ?_
  refine lv_iand hx hb dJ6_bitCount_0f7a4_21 ?_
  refine lv_iadd hx hb dJ6_bitCount_0f7a4_22 ?_
  refine tv_top (bc2 (bc1 x)) rfl ?_
  refine lv_istore_n (lv' := [(0, .int (bc2 (bc1 x)))]) hx hb dJ6_bitCount_0f7a4_23 rfl hl (by decide) rfl (fun ls hl => ?_)
  refine lv_iload_n hx hb dJ6_bitCount_0f7a4_24 rfl (lv_at hl 0 rfl) ?_
  refine lv_iload_n hx hb dJ6_bitCount_0f7a4_25 rfl (lv_at hl 0 rfl) ?_
  refine lv_iconst (v := 4) hx hb dJ6_bitCount_0f7a4_26 (by decide) ?_
  refine lv_iushr (v := ((bc2 (bc1 x)).toUInt32 >>> ((4 : Int32).toUInt32 &&& Int32.toUInt32 31)).toInt32) hx hb dJ6_bitCount_0f7a4_27 rfl ?_
  refine lv_iadd hx hb dJ6_bitCount_0f7a4_28 ?_
  refine lv_ldcw (v := 252645135) hx hb hown (hts (.constant RJ6 267 (252645135)) (by decide +kernel)) dJ6_bitCount_0f7a4_29 ?_
  refine lv_iand hx hb dJ6_bitCount_0f7a4_32 ?_
  refine tv_top (bc3 (bc2 (bc1 x))) rfl ?_
  refine lv_istore_n (lv' := [(0, .int (bc3 (bc2 (bc1 x))))]) hx hb dJ6_bitCount_0f7a4_33 rfl hl (by decide) rfl (fun ls hl => ?_)
  refine lv_iload_n hx hb dJ6_bitCount_0f7a4_34 rfl (lv_at hl 0 rfl) ?_
  refine lv_iload_n hx hb dJ6_bitCount_0f7a4_35 rfl (lv_at hl 0 rfl) ?_
  refine lv_bipush (v := 8) hx hb dJ6_bitCount_0f7a4_36 (by decide) ?_
  refine lv_iushr (v := ((bc3 (bc2 (bc1 x))).toUInt32 >>> ((8 : Int32).toUInt32 &&& Int32.toUInt32 31)).toInt32) hx hb dJ6_bitCount_0f7a4_38 rfl ?_
  refine lv_iadd hx hb dJ6_bitCount_0f7a4_39 ?_
  refine tv_top (bc4 (bc3 (bc2 (bc1 x)))) rfl ?_
  refine lv_istore_n (lv' := [(0, .int (bc4 (bc3 (bc2 (bc1 x)))))]) hx hb dJ6_bitCount_0f7a4_40 rfl hl (by decide) rfl (fun ls hl => ?_)
  refine lv_iload_n hx hb dJ6_bitCount_0f7a4_41 rfl (lv_at hl 0 rfl) ?_
  refine lv_iload_n hx hb dJ6_bitCount_0f7a4_42 rfl (lv_at hl 0 rfl) ?_
  refine lv_bipush (v := 16) hx hb dJ6_bitCount_0f7a4_43 (by decide) ?_
  refine lv_iushr (v := ((bc4 (bc3 (bc2 (bc1 x)))).toUInt32 >>> ((16 : Int32).toUInt32 &&& Int32.toUInt32 31)).toInt32) hx hb dJ6_bitCount_0f7a4_45 rfl ?_
  refine lv_iadd hx hb dJ6_bitCount_0f7a4_46 ?_
  refine tv_top (bc5 (bc4 (bc3 (bc2 (bc1 x))))) rfl ?_
  refine lv_istore_n (lv' := [(0, .int (bc5 (bc4 (bc3 (bc2 (bc1 x))))))]) hx hb dJ6_bitCount_0f7a4_47 rfl hl (by decide) rfl (fun ls hl => ?_)
  refine lv_iload_n hx hb dJ6_bitCount_0f7a4_48 rfl (lv_at hl 0 rfl) ?_
  refine lv_bipush (v := 63) hx hb dJ6_bitCount_0f7a4_49 (by decide) ?_
  refine lv_iand hx hb dJ6_bitCount_0f7a4_51 ?_
  refine tv_top (bcn x) rfl ?_
  exact W.iret (v := bcn x) hx hb hr (fun t ht hW => ⟨rfl, ht⟩) (fun q h => nomatch h) dJ6_bitCount_0f7a4_52
/-- the bits that stand, as a number -/
def kn (p : Nat → Int32) : Nat → Nat
  | 0 => 0
  | k + 1 => if p k = 0 then kn p k else kn p k + 2 ^ k
theorem kn_lt (p : Nat → Int32) : ∀ k : Nat, kn p k < 2 ^ k
  | 0 => by rw [kn]; decide
  | k + 1 => by
    have h := kn_lt p k
    rw [kn, Nat.pow_succ]
    split <;> omega
theorem kb_or : ∀ k : Fin 11, ∀ n : Fin 1024, n.val < 2 ^ k.val → nI n.val ||| ((1 : Int32) <<< (nI k.val &&& 31)) = nI (n.val + 2 ^ k.val) := by decide +kernel
theorem kb_kn (p : Nat → Int32) : ∀ k : Nat, k ≤ 11 → kb p k = nI (kn p k)
  | 0, _ => rfl
  | k + 1, h => by
    rw [kb, kn, kb_kn p k (by omega)]
    split
    · rfl
    · have h2 := kn_lt p k
      have h3 : 2 ^ k ≤ 1024 := Nat.pow_le_pow_right (by decide) (show k ≤ 10 by omega)
      exact kb_or ⟨k, by omega⟩ ⟨kn p k, by omega⟩ h2
def pop : Nat → Nat → Nat
  | 0, _ => 0
  | k + 1, n => pop k n + n / 2 ^ k % 2
theorem bcn_pop : ∀ n : Fin 2048, bcn (nI n.val) = nI (pop 11 n.val) := by decide +kernel
theorem pop_add : ∀ (k n c : Nat), n < 2 ^ k → pop k (n + c * 2 ^ k) = pop k n
  | 0, _, _, _ => rfl
  | k + 1, n, c, h => by
    have e1 : n + c * 2 ^ (k + 1) = (n % 2 ^ k) + (n / 2 ^ k + 2 * c) * 2 ^ k := by
      have := Nat.div_add_mod n (2 ^ k)
      rw [Nat.pow_succ, Nat.add_mul]
      have e2 : c * (2 ^ k * 2) = 2 * c * 2 ^ k := by rw [Nat.mul_comm (2 ^ k) 2, ← Nat.mul_assoc, Nat.mul_comm c 2]
      rw [e2, Nat.mul_comm (n / 2 ^ k)]
      omega
    have hl : n % 2 ^ k < 2 ^ k := Nat.mod_lt _ (Nat.two_pow_pos k)
    have e3 : n = n % 2 ^ k + n / 2 ^ k * 2 ^ k := by
      have := Nat.div_add_mod n (2 ^ k)
      rw [Nat.mul_comm] at this
      omega
    rw [pop, pop]
    have a1 : pop k (n + c * 2 ^ (k + 1)) = pop k (n % 2 ^ k) := by rw [e1]; exact pop_add k _ _ hl
    have a2 : pop k n = pop k (n % 2 ^ k) := by
      conv => lhs; rw [e3]
      exact pop_add k _ _ hl
    have a3 : (n + c * 2 ^ (k + 1)) / 2 ^ k % 2 = n / 2 ^ k % 2 := by
      rw [Nat.pow_succ, Nat.mul_comm (2 ^ k) 2, ← Nat.mul_assoc, Nat.add_mul_div_right _ _ (Nat.two_pow_pos k), Nat.add_mul_mod_self_right]
    rw [a1, a2, a3]
theorem pop_kn (p : Nat → Int32) (h01 : ∀ k, p k = 0 ∨ p k = 1) : ∀ k : Nat, nI (pop k (kn p k)) = cn p k
  | 0 => rfl
  | k + 1 => by
    have h := kn_lt p k
    have ih := pop_kn p h01 k
    rw [cn, kn, pop]
    rcases h01 k with e | e
    · rw [if_pos e, Nat.div_eq_of_lt h, e, ← ih]
      simp
    · rw [if_neg (by rw [e]; decide), e, ← ih]
      have a1 : pop k (kn p k + 2 ^ k) = pop k (kn p k) := by
        have := pop_add k (kn p k) 1 h
        rwa [Nat.one_mul] at this
      have a2 : (kn p k + 2 ^ k) / 2 ^ k % 2 = 1 := by rw [Nat.add_div_right _ (Nat.two_pow_pos k), Nat.div_eq_of_lt h]
      rw [a1, a2, nI_1]
theorem bcn_kb (p : Nat → Int32) (h01 : ∀ k, p k = 0 ∨ p k = 1) : bcn (kb p 11) = cn p 11 := by
  rw [kb_kn p 11 (Nat.le_refl _), ← pop_kn p h01 11]
  exact bcn_pop ⟨kn p 11, kn_lt p 11⟩
theorem iX0_copy : ∀ w ∈ wsX00, w ∈ wsX0_copy := by decide +kernel
set_option maxHeartbeats 4000000 in
set_option maxRecDepth 100000 in
theorem c_X0_copy (l : Launch) (hT : l.stackTraces = false) (D : va_G) (cI cZ cL : ClassId) (h a1 a2 a3 a4 : Nat) (rd lv op nt : Nat → Int32) (sz : Nat) (x1 x2 : Int32) (V : TV) (hV : V = sp_copy x1 x2 (rd, lv, op, nt)) : vx_Met l yX0_copy wsX0_copy tv_rmP (tv_PP D cI cZ cL (tv_cw cI cZ h a1 a2 a3 a4 (rd, lv, op, nt)) sz [.ref h, .int x1, .int x2]) (tv_QP D cI cZ cL (tv_cw cI cZ h a1 a2 a3 a4) (tv_cw cI cZ h a1 a2 a3 a4 (rd, lv, op, nt)) sz V) (tv_XP V) 1 6 (va_A (tv_cw cI cZ h a1 a2 a3 a4 (rd, lv, op, nt)) sz) := by
  refine vx_ofW (cc := cX0_copy) (maxL := 4) (ret := (some .int)) (by decide) rfl ?_
  intro p e s m args below meth c s₁ B hml htab hv
  obtain ⟨rfl, hsz, hP, hK, hD0, hE⟩ := hv
  subst hsz
  have hx := B.exec
  have hb := B.bytes
  have hr := B.returns
  have hts := atoms_spec (ws := wsX0_copy) B.pre
  have hown : s.vm.findClass RX0 = some m.cls := findClass_of_methodNamed B.named
  have hlocks := B.notSynchronized
  have hD := hD0.self (sz := s.heap.size)
  obtain ⟨A, hAe⟩ : ∃ A, A = va_A (tv_cw cI cZ h a1 a2 a3 a4 (rd, lv, op, nt)) s.heap.size := ⟨_, rfl⟩
  rw [← hAe] at hD hE
  have hA : ∀ q : Nat, s.heap.size ≤ q → A q := fun q h => by rw [hAe]; exact Or.inr h
  have hS : va_S A s.heap s.heap [] := va_S.rf
  clear hD0
  have hl := lv_entry ([.ref h, .int x1, .int x2]) (n := 4) (Nat.le_of_ble_eq_true rfl)
  rw [lg_entry_eq]
  generalize (lg_sl ([.ref h, .int x1, .int x2]) ++ List.replicate (4 - (lg_sl ([.ref h, .int x1, .int x2])).length) Slot.unset).toArray = ls at hl ⊢
  have hl : lv_has ls 4 [(0, .ref h), (1, .int x1), (2, .int x2)] := hl
  refine lv_iload_n hx hb dX0_copy_0 rfl (lv_at hl 1 rfl) ?_
  cases g1 : tv_in 8 x1 with
  | false =>
    have hV1 : V = (1, 0, (rd, lv, op, nt)) := by rw [hV]; simp only [sp_copy, g1, Bool.and_false, Bool.false_and, Bool.and_true, Bool.true_and, Bool.and_self, sp_f, sp_tf, sp_tt]
    exact tv_callT (a := #[]) (vx_runS (As := [.int x1]) (rest := []) ⟨hx, hb, hml, hown, hts⟩ (t_X0_needRow l hT x1 g1) (va_cwS 1 hts gX0_copy_X0_needRow rfl rfl rfl (by decide +kernel) ⟨Nat.le_of_ble_eq_true rfl, Nat.le_of_ble_eq_true rfl⟩) (tv_preT hE hS) rfl rfl hl.1 rfl (lv_room (Nat.le_of_ble_eq_true rfl)) dX0_copy_1 ⟨Nat.le_of_ble_eq_true rfl, Nat.le_of_ble_eq_true rfl⟩) htab hlocks (fun t hz hk => ⟨(), by rw [hV1]; exact (by decide : (1 : Int32) ≠ 0), by rw [hV1]; rfl, hz, fun q hq _ => hk q hq⟩) (fun z h => nomatch h) (Nat.le_of_ble_eq_true rfl) (Nat.le_of_ble_eq_true rfl)
  | true =>
    refine tv_callN (W.runS (As := [.int x1]) (rest := []) ⟨hx, hb, hml, hown, hts⟩ (n_X0_needRow l x1 g1) (va_cwS 1 hts gX0_copy_X0_needRow rfl rfl rfl (by decide +kernel) ⟨Nat.le_of_ble_eq_true rfl, Nat.le_of_ble_eq_true rfl⟩) preEq rfl rfl hl.1 rfl (lv_room (Nat.le_of_ble_eq_true rfl)) dX0_copy_1 ⟨Nat.le_of_ble_eq_true rfl, Nat.le_of_ble_eq_true rfl⟩) ?_
    obtain ⟨r, hr8, rfl⟩ := tv_in_of (by omega) g1
    refine lv_iload_n hx hb dX0_copy_4 rfl (lv_at hl 2 rfl) ?_
    cases g2 : tv_in 8 x2 with
    | false =>
      have hV1 : V = (1, 0, (rd, lv, op, nt)) := by rw [hV]; simp only [sp_copy, g1, g2, Bool.and_false, Bool.false_and, Bool.and_true, Bool.true_and, Bool.and_self, sp_f, sp_tf, sp_tt]
      exact tv_callT (a := #[]) (vx_runS (As := [.int x2]) (rest := []) ⟨hx, hb, hml, hown, hts⟩ (t_X0_needRow l hT x2 g2) (va_cwS 1 hts gX0_copy_X0_needRow rfl rfl rfl (by decide +kernel) ⟨Nat.le_of_ble_eq_true rfl, Nat.le_of_ble_eq_true rfl⟩) (tv_preT hE hS) rfl rfl hl.1 rfl (lv_room (Nat.le_of_ble_eq_true rfl)) dX0_copy_5 ⟨Nat.le_of_ble_eq_true rfl, Nat.le_of_ble_eq_true rfl⟩) htab hlocks (fun t hz hk => ⟨(), by rw [hV1]; exact (by decide : (1 : Int32) ≠ 0), by rw [hV1]; rfl, hz, fun q hq _ => hk q hq⟩) (fun z h => nomatch h) (Nat.le_of_ble_eq_true rfl) (Nat.le_of_ble_eq_true rfl)
    | true =>
      refine tv_callN (W.runS (As := [.int x2]) (rest := []) ⟨hx, hb, hml, hown, hts⟩ (n_X0_needRow l x2 g2) (va_cwS 1 hts gX0_copy_X0_needRow rfl rfl rfl (by decide +kernel) ⟨Nat.le_of_ble_eq_true rfl, Nat.le_of_ble_eq_true rfl⟩) preEq rfl rfl hl.1 rfl (lv_room (Nat.le_of_ble_eq_true rfl)) dX0_copy_5 ⟨Nat.le_of_ble_eq_true rfl, Nat.le_of_ble_eq_true rfl⟩) ?_
      obtain ⟨q, hq8, rfl⟩ := tv_in_of (by omega) g2
      refine lv_iload_n hx hb dX0_copy_8 rfl (lv_at hl 1 rfl) ?_
      refine lv_iload_n hx hb dX0_copy_9 rfl (lv_at hl 2 rfl) ?_
      cases g3 : tv_os (nI r) (nI q) with
      | false =>
        have hV1 : V = (2, 0, (rd, lv, op, nt)) := by rw [hV]; simp only [sp_copy, g1, g2, g3, Bool.and_false, Bool.false_and, Bool.and_true, Bool.true_and, Bool.and_self, sp_f, sp_tf, sp_tt]
        exact tv_callT (a := #[]) (vx_runS (As := [.int (nI r), .int (nI q)]) (rest := []) ⟨hx, hb, hml, hown, hts⟩ (t_X0_needOneSort l hT r q g3 hr8 hq8) (va_cwS 2 hts gX0_copy_X0_needOneSort rfl rfl rfl (by decide +kernel) ⟨Nat.le_of_ble_eq_true rfl, Nat.le_of_ble_eq_true rfl⟩) (tv_preT hE hS) rfl rfl hl.1 rfl (lv_room (Nat.le_of_ble_eq_true rfl)) dX0_copy_10 ⟨Nat.le_of_ble_eq_true rfl, Nat.le_of_ble_eq_true rfl⟩) htab hlocks (fun t hz hk => ⟨(), by rw [hV1]; exact (by decide : (2 : Int32) ≠ 0), by rw [hV1]; rfl, hz, fun q hq _ => hk q hq⟩) (fun z h => nomatch h) (Nat.le_of_ble_eq_true rfl) (Nat.le_of_ble_eq_true rfl)
      | true =>
        refine tv_callN (W.runS (As := [.int (nI r), .int (nI q)]) (rest := []) ⟨hx, hb, hml, hown, hts⟩ (n_X0_needOneSort l r q g3 hr8 hq8) (va_cwS 2 hts gX0_copy_X0_needOneSort rfl rfl rfl (by decide +kernel) ⟨Nat.le_of_ble_eq_true rfl, Nat.le_of_ble_eq_true rfl⟩) preEq rfl rfl hl.1 rfl (lv_room (Nat.le_of_ble_eq_true rfl)) dX0_copy_10 ⟨Nat.le_of_ble_eq_true rfl, Nat.le_of_ble_eq_true rfl⟩) ?_
        refine lv_iconst (v := 0) hx hb dX0_copy_13 (by decide) ?_
        refine lv_istore_n (lv' := [(3, .int 0), (0, .ref h), (1, .int (nI r)), (2, .int (nI q))]) hx hb dX0_copy_14 rfl hl (by decide) rfl (fun ls hl => ?_)
        have hV0 : V = (0, cn (fun k => if rd (12 * r + k) = -2147483648 then 1 else 0) 12, (cp r q rd 12, lv, op, nt)) := by
          rw [hV]; simp only [sp_copy, tN, nI_clamp (show r < 2 ^ 31 by omega), nI_clamp (show q < 2 ^ 31 by omega), g1, g2, g3, Bool.and_false, Bool.false_and, Bool.and_true, Bool.true_and, Bool.and_self, sp_f, sp_tf, sp_tt]
        have loop : ∀ (n k : Nat), k + n = 12 → ∀ (H : Heap) (locs : List Loc), va_P D vwCl (tv_cw cI cZ h a1 a2 a3 a4 (cp r q rd k, lv, op, nt)) H → va_D A (tv_cw cI cZ h a1 a2 a3 a4 (cp r q rd k, lv, op, nt)) → va_S A s.heap H locs → ∀ ls : Array Slot, lv_has ls 4 [(0, .ref h), (1, .int (nI r)), (2, .int (nI q)), (3, .int (nI k))] → W p l e (headSpec wsX0_copy tv_rmP).room s m ([.ref h, .int (nI r), .int (nI q)] : List Value).toArray below meth c H locs 0 0 (vx_MQ below (tv_QP D cI cZ cL (tv_cw cI cZ h a1 a2 a3 a4) (tv_cw cI cZ h a1 a2 a3 a4 (rd, lv, op, nt)) s.heap.size V) (tv_XP V) ([.ref h, .int (nI r), .int (nI q)] : List Value).toArray s 1 6 (va_A (tv_cw cI cZ h a1 a2 a3 a4 (rd, lv, op, nt)) s.heap.size)) (F0 m 15 ls []) := by
          intro n
          induction n with
          | zero =>
            intro k hk H locs hP hD hS ls hl
            have hk2 : k = 12 := by omega
            subst hk2
            refine lv_iload_n hx hb dX0_copy_15 rfl (lv_at hl 3 rfl) ?_
            refine lv_bipush (v := 12) hx hb dX0_copy_16 (by decide) ?_
            refine lv_icmp_ge (tgt := 47) hx hb dX0_copy_18 (by decide) (fun c_1 => ?_) (fun c_1 => ?_)
            · skip
              refine lv_aload_n hx hb dX0_copy_47 rfl (lv_at hl 0 rfl) ?_
              refine lv_iload_n hx hb dX0_copy_48 rfl (lv_at hl 2 rfl) ?_
              refine tv_callR (W.runV (As := [.int (nI q)]) (rest := []) ⟨hx, hb, hml, hown, hts⟩ (c_X0_countMissing l D cI cZ cL h a1 a2 a3 a4 (cp r q rd 12) lv op nt q hq8) (cwV 1 hts gX0_copy_X0_countMissing rfl rfl rfl (by decide +kernel) ⟨Nat.le_of_ble_eq_true rfl, Nat.le_of_ble_eq_true rfl⟩) (tv_preV hP hK rfl 0 rfl) rfl rfl hl.1 rfl (lv_room (Nat.le_of_ble_eq_true rfl)) dX0_copy_49 ⟨Nat.le_of_ble_eq_true rfl, Nat.le_of_ble_eq_true rfl⟩) ?_
              refine tv_top (cn (fun k => if rd (12 * r + k) = -2147483648 then 1 else 0) 12) (cn_congr 12 (fun k hk => by rw [cp_in rd 12 k hk (Nat.le_refl _)])) ?_
              exact tv_iretP (wf := tv_cw cI cZ h a1 a2 a3 a4) (σ := (cp r q rd 12, lv, op, nt)) (r := cn (fun k => if rd (12 * r + k) = -2147483648 then 1 else 0) 12) hAe hV0 hx hb hr hP hK hD hS dX0_copy_52 hlocks
            · exact absurd (show nI 12 ≤ nI 12 from nI_le (Nat.le_refl _) (by omega)) c_1
          | succ n ih =>
            intro k hk H locs hP hD hS ls hl
            refine lv_iload_n hx hb dX0_copy_15 rfl (lv_at hl 3 rfl) ?_
            refine lv_bipush (v := 12) hx hb dX0_copy_16 (by decide) ?_
            refine lv_icmp_ge (tgt := 47) hx hb dX0_copy_18 (by decide) (fun c_2 => ?_) (fun c_2 => ?_)
            · exact absurd (show nI 12 ≤ nI k from c_2) (nI_ge (by omega) (by omega))
            · skip
              refine lv_aload_n hx hb dX0_copy_21 rfl (lv_at hl 0 rfl) ?_
              refine va_get (D := D) (ci := 0) (v := .ref a1) (C := RX0) (T := TX0) (N := 4) hx hb hts iX0_copy hown hK hP 0 rfl rfl 0 (by decide) (hts (.fieldLink RX0 9 "TideHouse" "readings" "[I") (by decide +kernel)) (fun _ h9 => h9) rfl dX0_copy_22 ?_
              refine lv_iload_n hx hb dX0_copy_25 rfl (lv_at hl 2 rfl) ?_
              refine lv_iload_n hx hb dX0_copy_26 rfl (lv_at hl 3 rfl) ?_
              refine tv_callR (W.runS (As := [.int (nI q), .int (nI k)]) (rest := [.ref a1]) ⟨hx, hb, hml, hown, hts⟩ (c_X0_spot l q k) (va_cwS 2 hts gX0_copy_X0_spot rfl rfl rfl (by decide +kernel) ⟨Nat.le_of_ble_eq_true rfl, Nat.le_of_ble_eq_true rfl⟩) preEq rfl rfl hl.1 rfl (lv_room (Nat.le_of_ble_eq_true rfl)) dX0_copy_27 ⟨Nat.le_of_ble_eq_true rfl, Nat.le_of_ble_eq_true rfl⟩) ?_
              refine lv_aload_n hx hb dX0_copy_30 rfl (lv_at hl 0 rfl) ?_
              refine va_get (D := D) (ci := 0) (v := .ref a1) (C := RX0) (T := TX0) (N := 4) hx hb hts iX0_copy hown hK hP 0 rfl rfl 0 (by decide) (hts (.fieldLink RX0 9 "TideHouse" "readings" "[I") (by decide +kernel)) (fun _ h9 => h9) rfl dX0_copy_31 ?_
              refine lv_iload_n hx hb dX0_copy_34 rfl (lv_at hl 1 rfl) ?_
              refine lv_iload_n hx hb dX0_copy_35 rfl (lv_at hl 3 rfl) ?_
              refine tv_callR (W.runS (As := [.int (nI r), .int (nI k)]) (rest := [.ref a1, .int (nI (12 * q + k)), .ref a1]) ⟨hx, hb, hml, hown, hts⟩ (c_X0_spot l r k) (va_cwS 2 hts gX0_copy_X0_spot rfl rfl rfl (by decide +kernel) ⟨Nat.le_of_ble_eq_true rfl, Nat.le_of_ble_eq_true rfl⟩) preEq rfl rfl hl.1 rfl (lv_room (Nat.le_of_ble_eq_true rfl)) dX0_copy_36 ⟨Nat.le_of_ble_eq_true rfl, Nat.le_of_ble_eq_true rfl⟩) ?_
              refine tv_iald (D := D) (cA := cI) (n := 96) (f := cp r q rd k) (k := (12 * r + k)) hx hb hK hP 1 0 rfl rfl (by omega) (by omega) dX0_copy_39 ?_
              refine tv_iast (D := D) (cA := cI) (n := 96) (f := cp r q rd k) (k := (12 * q + k)) (x := (cp r q rd k) (12 * r + k)) (ws1 := tv_cw cI cZ h a1 a2 a3 a4 (upd (cp r q rd k) (12 * q + k) ((cp r q rd k) (12 * r + k)), lv, op, nt)) hx hb hK hP hD hS 1 0 rfl rfl (by omega) (by omega) rfl dX0_copy_40 (fun H locs hP hD hS => ?_)
              refine lv_iinc (v := nI (k + 1)) (lv' := [(3, .int (nI (k + 1))), (0, .ref h), (1, .int (nI r)), (2, .int (nI q))]) hx hb dX0_copy_41 hl (k := 3) rfl (nI_1 k) (by decide) rfl (fun ls hl => ?_)
              refine lv_goto (tgt := 15) hx hb dX0_copy_44 (by decide) ?_
              have hP : va_P D vwCl (tv_cw cI cZ h a1 a2 a3 a4 (cp r q rd (k + 1), lv, op, nt)) H := by exact hP
              have hD : va_D A (tv_cw cI cZ h a1 a2 a3 a4 (cp r q rd (k + 1), lv, op, nt)) := by exact hD
              exact ih (k + 1) (by omega) H locs hP hD hS ls (lv_sub hl [1, 2, 3, 0] rfl)
        exact loop 12 0 (by omega) s.heap [] hP hD hS ls (by rw [show nI 0 = 0 from nI_0]; exact lv_sub hl [1, 2, 3, 0] rfl)
theorem opn01 (x v tr : Int32) : opn x v tr = 0 ∨ opn x v tr = 1 := by
  unfold opn
  split
  · exact tq01 _ _ _
  · split
    · exact Or.inr rfl
    · exact Or.inl rfl
theorem iX0_watch : ∀ w ∈ wsX00, w ∈ wsX0_watch := by decide +kernel
set_option maxHeartbeats 4000000 in
set_option maxRecDepth 100000 in
theorem c_X0_watch (l : Launch) (hT : l.stackTraces = false) (D : va_G) (cI cZ cL : ClassId) (h a1 a2 a3 a4 : Nat) (rd lv op nt : Nat → Int32) (sz : Nat) (x1 x2 x3 : Int32) (V : TV) (hV : V = sp_watch x1 x2 x3 (rd, lv, op, nt)) (hop : ∀ j, op j = 0 ∨ op j = 1) : vx_Met l yX0_watch wsX0_watch tv_rmP (tv_PP D cI cZ cL (tv_cw cI cZ h a1 a2 a3 a4 (rd, lv, op, nt)) sz [.ref h, .int x1, .int x2, .int x3]) (tv_QP D cI cZ cL (tv_cw cI cZ h a1 a2 a3 a4) (tv_cw cI cZ h a1 a2 a3 a4 (rd, lv, op, nt)) sz V) (tv_XP V) 1 6 (va_A (tv_cw cI cZ h a1 a2 a3 a4 (rd, lv, op, nt)) sz) := by
  refine vx_ofW (cc := cX0_watch) (maxL := 8) (ret := (some .int)) (by decide) rfl ?_
  intro p e s m args below meth c s₁ B hml htab hv
  obtain ⟨rfl, hsz, hP, hK, hD0, hE⟩ := hv
  subst hsz
  have hx := B.exec
  have hb := B.bytes
  have hr := B.returns
  have hts := atoms_spec (ws := wsX0_watch) B.pre
  have hown : s.vm.findClass RX0 = some m.cls := findClass_of_methodNamed B.named
  have hlocks := B.notSynchronized
  have hD := hD0.self (sz := s.heap.size)
  obtain ⟨A, hAe⟩ : ∃ A, A = va_A (tv_cw cI cZ h a1 a2 a3 a4 (rd, lv, op, nt)) s.heap.size := ⟨_, rfl⟩
  rw [← hAe] at hD hE
  have hA : ∀ q : Nat, s.heap.size ≤ q → A q := fun q h => by rw [hAe]; exact Or.inr h
  have hS : va_S A s.heap s.heap [] := va_S.rf
  clear hD0
  have hl := lv_entry ([.ref h, .int x1, .int x2, .int x3]) (n := 8) (Nat.le_of_ble_eq_true rfl)
  rw [lg_entry_eq]
  generalize (lg_sl ([.ref h, .int x1, .int x2, .int x3]) ++ List.replicate (8 - (lg_sl ([.ref h, .int x1, .int x2, .int x3])).length) Slot.unset).toArray = ls at hl ⊢
  have hl : lv_has ls 8 [(0, .ref h), (1, .int x1), (2, .int x2), (3, .int x3)] := hl
  refine lv_iload_n hx hb dX0_watch_0 rfl (lv_at hl 1 rfl) ?_
  cases g1 : tv_in 4 x1 with
  | false =>
    have hV1 : V = (1, 0, (rd, lv, op, nt)) := by rw [hV]; simp only [sp_watch, g1, Bool.and_false, Bool.false_and, Bool.and_true, Bool.true_and, Bool.and_self, sp_f, sp_tf, sp_tt]
    exact tv_callT (a := #[]) (vx_runS (As := [.int x1]) (rest := []) ⟨hx, hb, hml, hown, hts⟩ (t_X0_needGate l hT x1 g1) (va_cwS 1 hts gX0_watch_X0_needGate rfl rfl rfl (by decide +kernel) ⟨Nat.le_of_ble_eq_true rfl, Nat.le_of_ble_eq_true rfl⟩) (tv_preT hE hS) rfl rfl hl.1 rfl (lv_room (Nat.le_of_ble_eq_true rfl)) dX0_watch_1 ⟨Nat.le_of_ble_eq_true rfl, Nat.le_of_ble_eq_true rfl⟩) htab hlocks (fun t hz hk => ⟨(), by rw [hV1]; exact (by decide : (1 : Int32) ≠ 0), by rw [hV1]; rfl, hz, fun q hq _ => hk q hq⟩) (fun z h => nomatch h) (Nat.le_of_ble_eq_true rfl) (Nat.le_of_ble_eq_true rfl)
  | true =>
    refine tv_callN (W.runS (As := [.int x1]) (rest := []) ⟨hx, hb, hml, hown, hts⟩ (n_X0_needGate l x1 g1) (va_cwS 1 hts gX0_watch_X0_needGate rfl rfl rfl (by decide +kernel) ⟨Nat.le_of_ble_eq_true rfl, Nat.le_of_ble_eq_true rfl⟩) preEq rfl rfl hl.1 rfl (lv_room (Nat.le_of_ble_eq_true rfl)) dX0_watch_1 ⟨Nat.le_of_ble_eq_true rfl, Nat.le_of_ble_eq_true rfl⟩) ?_
    obtain ⟨g, hg8, rfl⟩ := tv_in_of (by omega) g1
    refine lv_iload_n hx hb dX0_watch_4 rfl (lv_at hl 2 rfl) ?_
    cases g2 : tv_in 8 x2 with
    | false =>
      have hV1 : V = (1, 0, (rd, lv, op, nt)) := by rw [hV]; simp only [sp_watch, g1, g2, Bool.and_false, Bool.false_and, Bool.and_true, Bool.true_and, Bool.and_self, sp_f, sp_tf, sp_tt]
      exact tv_callT (a := #[]) (vx_runS (As := [.int x2]) (rest := []) ⟨hx, hb, hml, hown, hts⟩ (t_X0_needRow l hT x2 g2) (va_cwS 1 hts gX0_watch_X0_needRow rfl rfl rfl (by decide +kernel) ⟨Nat.le_of_ble_eq_true rfl, Nat.le_of_ble_eq_true rfl⟩) (tv_preT hE hS) rfl rfl hl.1 rfl (lv_room (Nat.le_of_ble_eq_true rfl)) dX0_watch_5 ⟨Nat.le_of_ble_eq_true rfl, Nat.le_of_ble_eq_true rfl⟩) htab hlocks (fun t hz hk => ⟨(), by rw [hV1]; exact (by decide : (1 : Int32) ≠ 0), by rw [hV1]; rfl, hz, fun q hq _ => hk q hq⟩) (fun z h => nomatch h) (Nat.le_of_ble_eq_true rfl) (Nat.le_of_ble_eq_true rfl)
    | true =>
      refine tv_callN (W.runS (As := [.int x2]) (rest := []) ⟨hx, hb, hml, hown, hts⟩ (n_X0_needRow l x2 g2) (va_cwS 1 hts gX0_watch_X0_needRow rfl rfl rfl (by decide +kernel) ⟨Nat.le_of_ble_eq_true rfl, Nat.le_of_ble_eq_true rfl⟩) preEq rfl rfl hl.1 rfl (lv_room (Nat.le_of_ble_eq_true rfl)) dX0_watch_5 ⟨Nat.le_of_ble_eq_true rfl, Nat.le_of_ble_eq_true rfl⟩) ?_
      obtain ⟨r, hr8, rfl⟩ := tv_in_of (by omega) g2
      refine lv_aload_n hx hb dX0_watch_8 rfl (lv_at hl 0 rfl) ?_
      refine lv_iload_n hx hb dX0_watch_9 rfl (lv_at hl 1 rfl) ?_
      refine lv_iload_n hx hb dX0_watch_10 rfl (lv_at hl 2 rfl) ?_
      refine tv_callR (W.runV (As := [.int (nI g), .int (nI r)]) (rest := []) ⟨hx, hb, hml, hown, hts⟩ (c_X0_levelFor l D cI cZ cL h a1 a2 a3 a4 rd lv op nt g r hg8 hr8) (cwV 2 hts gX0_watch_X0_levelFor rfl rfl rfl (by decide +kernel) ⟨Nat.le_of_ble_eq_true rfl, Nat.le_of_ble_eq_true rfl⟩) (tv_preV hP hK rfl 0 rfl) rfl rfl hl.1 rfl (lv_room (Nat.le_of_ble_eq_true rfl)) dX0_watch_11 ⟨Nat.le_of_ble_eq_true rfl, Nat.le_of_ble_eq_true rfl⟩) ?_
      refine lv_istore (lv' := [(4, .int (lvl lv g r)), (0, .ref h), (1, .int (nI g)), (2, .int (nI r)), (3, .int x3)]) hx hb dX0_watch_14 hl (by decide) rfl (fun ls hl => ?_)
      refine lv_iconst (v := 0) hx hb dX0_watch_16 (by decide) ?_
      refine lv_istore (lv' := [(5, .int 0), (4, .int (lvl lv g r)), (0, .ref h), (1, .int (nI g)), (2, .int (nI r)), (3, .int x3)]) hx hb dX0_watch_17 hl (by decide) rfl (fun ls hl => ?_)
      refine lv_iconst (v := 0) hx hb dX0_watch_19 (by decide) ?_
      refine lv_istore (lv' := [(6, .int 0), (5, .int 0), (4, .int (lvl lv g r)), (0, .ref h), (1, .int (nI g)), (2, .int (nI r)), (3, .int x3)]) hx hb dX0_watch_20 hl (by decide) rfl (fun ls hl => ?_)
      have hV0 : V = (0, (wa g (fun k => opn (rw12 rd r k) (lvl lv g r) x3) op 12).2, (rd, lv, (wa g (fun k => opn (rw12 rd r k) (lvl lv g r) x3) op 12).1, nt)) := by
        rw [hV]; simp only [sp_watch, tN, nI_clamp (show g < 2 ^ 31 by omega), nI_clamp (show r < 2 ^ 31 by omega), g1, g2, Bool.and_false, Bool.false_and, Bool.and_true, Bool.true_and, Bool.and_self, sp_f, sp_tf, sp_tt]
      have loop : ∀ (n k : Nat), k + n = 12 → ∀ (H : Heap) (locs : List Loc), va_P D vwCl (tv_cw cI cZ h a1 a2 a3 a4 (rd, lv, (wa g (fun k => opn (rw12 rd r k) (lvl lv g r) x3) op k).1, nt)) H → va_D A (tv_cw cI cZ h a1 a2 a3 a4 (rd, lv, (wa g (fun k => opn (rw12 rd r k) (lvl lv g r) x3) op k).1, nt)) → va_S A s.heap H locs → ∀ ls : Array Slot, lv_has ls 8 [(0, .ref h), (1, .int (nI g)), (2, .int (nI r)), (3, .int x3), (4, .int (lvl lv g r)), (5, .int ((wa g (fun k => opn (rw12 rd r k) (lvl lv g r) x3) op k).2)), (6, .int (nI k))] → W p l e (headSpec wsX0_watch tv_rmP).room s m ([.ref h, .int (nI g), .int (nI r), .int x3] : List Value).toArray below meth c H locs 0 0 (vx_MQ below (tv_QP D cI cZ cL (tv_cw cI cZ h a1 a2 a3 a4) (tv_cw cI cZ h a1 a2 a3 a4 (rd, lv, op, nt)) s.heap.size V) (tv_XP V) ([.ref h, .int (nI g), .int (nI r), .int x3] : List Value).toArray s 1 6 (va_A (tv_cw cI cZ h a1 a2 a3 a4 (rd, lv, op, nt)) s.heap.size)) (F0 m 22 ls []) := by
        intro n
        induction n with
        | zero =>
          intro k hk H locs hP hD hS ls hl
          have hk2 : k = 12 := by omega
          subst hk2
          refine lv_iload hx hb dX0_watch_22 (lv_at hl 6 rfl) ?_
          refine lv_bipush (v := 12) hx hb dX0_watch_24 (by decide) ?_
          refine lv_icmp_ge (tgt := 76) hx hb dX0_watch_26 (by decide) (fun c_1 => ?_) (fun c_1 => ?_)
          · skip
            refine lv_iload hx hb dX0_watch_76 (lv_at hl 5 rfl) ?_
            exact tv_iretP (wf := tv_cw cI cZ h a1 a2 a3 a4) (σ := (rd, lv, (wa g (fun k => opn (rw12 rd r k) (lvl lv g r) x3) op 12).1, nt)) (r := (wa g (fun k => opn (rw12 rd r k) (lvl lv g r) x3) op 12).2) hAe hV0 hx hb hr hP hK hD hS dX0_watch_78 hlocks
          · exact absurd (show nI 12 ≤ nI 12 from nI_le (Nat.le_refl _) (by omega)) c_1
        | succ n ih =>
          intro k hk H locs hP hD hS ls hl
          refine lv_iload hx hb dX0_watch_22 (lv_at hl 6 rfl) ?_
          refine lv_bipush (v := 12) hx hb dX0_watch_24 (by decide) ?_
          refine lv_icmp_ge (tgt := 76) hx hb dX0_watch_26 (by decide) (fun c_2 => ?_) (fun c_2 => ?_)
          · exact absurd (show nI 12 ≤ nI k from c_2) (nI_ge (by omega) (by omega))
          · skip
            refine lv_aload_n hx hb dX0_watch_29 rfl (lv_at hl 0 rfl) ?_
            refine va_get (D := D) (ci := 0) (v := .ref a1) (C := RX0) (T := TX0) (N := 4) hx hb hts iX0_watch hown hK hP 0 rfl rfl 0 (by decide) (hts (.fieldLink RX0 9 "TideHouse" "readings" "[I") (by decide +kernel)) (fun _ h9 => h9) rfl dX0_watch_30 ?_
            refine lv_iload_n hx hb dX0_watch_33 rfl (lv_at hl 2 rfl) ?_
            refine lv_iload hx hb dX0_watch_34 (lv_at hl 6 rfl) ?_
            refine tv_callR (W.runS (As := [.int (nI r), .int (nI k)]) (rest := [.ref a1]) ⟨hx, hb, hml, hown, hts⟩ (c_X0_spot l r k) (va_cwS 2 hts gX0_watch_X0_spot rfl rfl rfl (by decide +kernel) ⟨Nat.le_of_ble_eq_true rfl, Nat.le_of_ble_eq_true rfl⟩) preEq rfl rfl hl.1 rfl (lv_room (Nat.le_of_ble_eq_true rfl)) dX0_watch_36 ⟨Nat.le_of_ble_eq_true rfl, Nat.le_of_ble_eq_true rfl⟩) ?_
            refine tv_iald (D := D) (cA := cI) (n := 96) (f := rd) (k := (12 * r + k)) hx hb hK hP 1 0 rfl rfl (by omega) (by omega) dX0_watch_39 ?_
            refine lv_iload hx hb dX0_watch_40 (lv_at hl 4 rfl) ?_
            refine lv_iload_n hx hb dX0_watch_42 rfl (lv_at hl 3 rfl) ?_
            refine tv_callR (W.runS (As := [.int (rd (12 * r + k)), .int (lvl lv g r), .int x3]) (rest := []) ⟨hx, hb, hml, hown, hts⟩ (c_X0_opens l (rd (12 * r + k)) (lvl lv g r) x3) (va_cwS 3 hts gX0_watch_X0_opens rfl rfl rfl (by decide +kernel) ⟨Nat.le_of_ble_eq_true rfl, Nat.le_of_ble_eq_true rfl⟩) preEq rfl rfl hl.1 rfl (lv_room (Nat.le_of_ble_eq_true rfl)) dX0_watch_43 ⟨Nat.le_of_ble_eq_true rfl, Nat.le_of_ble_eq_true rfl⟩) ?_
            refine lv_istore (lv' := [(7, .int (opn (rd (12 * r + k)) (lvl lv g r) x3)), (0, .ref h), (1, .int (nI g)), (2, .int (nI r)), (3, .int x3), (4, .int (lvl lv g r)), (5, .int ((wa g (fun k => opn (rw12 rd r k) (lvl lv g r) x3) op k).2)), (6, .int (nI k))]) hx hb dX0_watch_46 hl (by decide) rfl (fun ls hl => ?_)
            refine lv_iload hx hb dX0_watch_48 (lv_at hl 0 rfl) ?_
            refine lv_aload_n hx hb dX0_watch_50 rfl (lv_at hl 1 rfl) ?_
            refine va_get (D := D) (ci := 0) (v := .ref a3) (C := RX0) (T := TX0) (N := 4) hx hb hts iX0_watch hown hK hP 0 rfl rfl 2 (by decide) (hts (.fieldLink RX0 16 "TideHouse" "open" "[Z") (by decide +kernel)) (fun _ h9 => h9) rfl dX0_watch_51 ?_
            refine lv_iload_n hx hb dX0_watch_54 rfl (lv_at hl 2 rfl) ?_
            refine tv_zald (D := D) (cA := cZ) (n := 4) (f := (wa g (fun k => opn (rw12 rd r k) (lvl lv g r) x3) op k).1) (k := g) hx hb hK hP 3 1 rfl rfl (by omega) (by omega) dX0_watch_55 ?_
            refine lv_icmp_eq (tgt := 70) hx hb dX0_watch_56 (by decide) (fun c_3 => ?_) (fun c_3 => ?_)
            · skip
              refine lv_iinc (v := nI (k + 1)) (lv' := [(6, .int (nI (k + 1))), (7, .int (opn (rd (12 * r + k)) (lvl lv g r) x3)), (0, .ref h), (1, .int (nI g)), (2, .int (nI r)), (3, .int x3), (4, .int (lvl lv g r)), (5, .int ((wa g (fun k => opn (rw12 rd r k) (lvl lv g r) x3) op k).2))]) hx hb dX0_watch_70 hl (k := 7) rfl (nI_1 k) (by decide) rfl (fun ls hl => ?_)
              refine lv_goto (tgt := 22) hx hb dX0_watch_73 (by decide) ?_
              have hw1 : (wa g (fun k => opn (rw12 rd r k) (lvl lv g r) x3) op (k + 1)).1 = (wa g (fun k => opn (rw12 rd r k) (lvl lv g r) x3) op k).1 := by
                show upd (wa g (fun k => opn (rw12 rd r k) (lvl lv g r) x3) op k).1 g (opn (rd (12 * r + k)) (lvl lv g r) x3) = _
                rw [c_3]; exact upd_same _ _
              have hP : va_P D vwCl (tv_cw cI cZ h a1 a2 a3 a4 (rd, lv, (wa g (fun k => opn (rw12 rd r k) (lvl lv g r) x3) op (k + 1)).1, nt)) H := by rw [hw1]; exact hP
              have hD : va_D A (tv_cw cI cZ h a1 a2 a3 a4 (rd, lv, (wa g (fun k => opn (rw12 rd r k) (lvl lv g r) x3) op (k + 1)).1, nt)) := by rw [hw1]; exact hD
              exact ih (k + 1) (by omega) H locs hP hD hS ls (by rw [show (wa g (fun k => opn (rw12 rd r k) (lvl lv g r) x3) op (k + 1)).2 = (wa g (fun k => opn (rw12 rd r k) (lvl lv g r) x3) op k).2 from by show (wa g (fun k => opn (rw12 rd r k) (lvl lv g r) x3) op k).2 + (if _ then 0 else 1) = _; rw [if_pos c_3]; simp]; exact lv_sub hl [2, 3, 4, 5, 6, 7, 0] rfl)
            · skip
              refine lv_aload_n hx hb dX0_watch_59 rfl (lv_at hl 1 rfl) ?_
              refine va_get (D := D) (ci := 0) (v := .ref a3) (C := RX0) (T := TX0) (N := 4) hx hb hts iX0_watch hown hK hP 0 rfl rfl 2 (by decide) (hts (.fieldLink RX0 16 "TideHouse" "open" "[Z") (by decide +kernel)) (fun _ h9 => h9) rfl dX0_watch_60 ?_
              refine lv_iload_n hx hb dX0_watch_63 rfl (lv_at hl 2 rfl) ?_
              refine lv_iload hx hb dX0_watch_64 (lv_at hl 0 rfl) ?_
              refine tv_zast (D := D) (cA := cZ) (n := 4) (f := (wa g (fun k => opn (rw12 rd r k) (lvl lv g r) x3) op k).1) (k := g) (x := opn (rd (12 * r + k)) (lvl lv g r) x3) (ws1 := tv_cw cI cZ h a1 a2 a3 a4 (rd, lv, upd ((wa g (fun k => opn (rw12 rd r k) (lvl lv g r) x3) op k).1) g (opn (rd (12 * r + k)) (lvl lv g r) x3), nt)) hx hb hK hP hD hS 3 1 rfl rfl (opn01 _ _ _) (by omega) (by omega) rfl dX0_watch_66 (fun H locs hP hD hS => ?_)
              refine lv_iinc (v := (wa g (fun k => opn (rw12 rd r k) (lvl lv g r) x3) op k).2 + 1) (lv' := [(5, .int ((wa g (fun k => opn (rw12 rd r k) (lvl lv g r) x3) op k).2 + 1)), (7, .int (opn (rd (12 * r + k)) (lvl lv g r) x3)), (0, .ref h), (1, .int (nI g)), (2, .int (nI r)), (3, .int x3), (4, .int (lvl lv g r)), (6, .int (nI k))]) hx hb dX0_watch_67 hl (k := 6) rfl (rfl) (by decide) rfl (fun ls hl => ?_)
              refine lv_iinc (v := nI (k + 1)) (lv' := [(6, .int (nI (k + 1))), (5, .int ((wa g (fun k => opn (rw12 rd r k) (lvl lv g r) x3) op k).2 + 1)), (7, .int (opn (rd (12 * r + k)) (lvl lv g r) x3)), (0, .ref h), (1, .int (nI g)), (2, .int (nI r)), (3, .int x3), (4, .int (lvl lv g r))]) hx hb dX0_watch_70 hl (k := 7) rfl (nI_1 k) (by decide) rfl (fun ls hl => ?_)
              refine lv_goto (tgt := 22) hx hb dX0_watch_73 (by decide) ?_
              have hP : va_P D vwCl (tv_cw cI cZ h a1 a2 a3 a4 (rd, lv, (wa g (fun k => opn (rw12 rd r k) (lvl lv g r) x3) op (k + 1)).1, nt)) H := by exact hP
              have hD : va_D A (tv_cw cI cZ h a1 a2 a3 a4 (rd, lv, (wa g (fun k => opn (rw12 rd r k) (lvl lv g r) x3) op (k + 1)).1, nt)) := by exact hD
              exact ih (k + 1) (by omega) H locs hP hD hS ls (by rw [show (wa g (fun k => opn (rw12 rd r k) (lvl lv g r) x3) op (k + 1)).2 = (wa g (fun k => opn (rw12 rd r k) (lvl lv g r) x3) op k).2 + 1 from by show (wa g (fun k => opn (rw12 rd r k) (lvl lv g r) x3) op k).2 + (if _ then 0 else 1) = _; rw [if_neg c_3]]; exact lv_sub hl [3, 4, 5, 6, 7, 1, 0] rfl)
      exact loop 12 0 (by omega) s.heap [] hP hD hS ls (by rw [show (wa g (fun k => opn (rw12 rd r k) (lvl lv g r) x3) op 0).2 = 0 from rfl, show nI 0 = 0 from nI_0]; exact lv_sub hl [3, 4, 5, 6, 2, 1, 0] rfl)
theorem iX0_pick : ∀ w ∈ wsX00, w ∈ wsX0_pick := by decide +kernel
set_option maxHeartbeats 4000000 in
set_option maxRecDepth 100000 in
theorem c_X0_pick (l : Launch) (hT : l.stackTraces = false) (D : va_G) (cI cZ cL : ClassId) (h a1 a2 a3 a4 : Nat) (rd lv op nt : Nat → Int32) (sz : Nat) (x1 x2 : Int32) (V : TV) (hV : V = sp_pick x1 x2 (rd, lv, op, nt)) : vx_Met l yX0_pick wsX0_pick tv_rmP (tv_PP D cI cZ cL (tv_cw cI cZ h a1 a2 a3 a4 (rd, lv, op, nt)) sz [.ref h, .int x1, .int x2]) (tv_QP D cI cZ cL (tv_cw cI cZ h a1 a2 a3 a4) (tv_cw cI cZ h a1 a2 a3 a4 (rd, lv, op, nt)) sz V) (tv_XP V) 1 6 (va_A (tv_cw cI cZ h a1 a2 a3 a4 (rd, lv, op, nt)) sz) := by
  refine vx_ofW (cc := cX0_pick) (maxL := 5) (ret := (some .int)) (by decide) rfl ?_
  intro p e s m args below meth c s₁ B hml htab hv
  obtain ⟨rfl, hsz, hP, hK, hD0, hE⟩ := hv
  subst hsz
  have hx := B.exec
  have hb := B.bytes
  have hr := B.returns
  have hts := atoms_spec (ws := wsX0_pick) B.pre
  have hown : s.vm.findClass RX0 = some m.cls := findClass_of_methodNamed B.named
  have hlocks := B.notSynchronized
  have hD := hD0.self (sz := s.heap.size)
  obtain ⟨A, hAe⟩ : ∃ A, A = va_A (tv_cw cI cZ h a1 a2 a3 a4 (rd, lv, op, nt)) s.heap.size := ⟨_, rfl⟩
  rw [← hAe] at hD hE
  have hA : ∀ q : Nat, s.heap.size ≤ q → A q := fun q h => by rw [hAe]; exact Or.inr h
  have hS : va_S A s.heap s.heap [] := va_S.rf
  clear hD0
  have hl := lv_entry ([.ref h, .int x1, .int x2]) (n := 5) (Nat.le_of_ble_eq_true rfl)
  rw [lg_entry_eq]
  generalize (lg_sl ([.ref h, .int x1, .int x2]) ++ List.replicate (5 - (lg_sl ([.ref h, .int x1, .int x2])).length) Slot.unset).toArray = ls at hl ⊢
  have hl : lv_has ls 5 [(0, .ref h), (1, .int x1), (2, .int x2)] := hl
  refine lv_iload_n hx hb dX0_pick_0 rfl (lv_at hl 1 rfl) ?_
  cases g1 : tv_in 8 x1 with
  | false =>
    have hV1 : V = (1, 0, (rd, lv, op, nt)) := by rw [hV]; simp only [sp_pick, g1, Bool.and_false, Bool.false_and, Bool.and_true, Bool.true_and, Bool.and_self, sp_f, sp_tf, sp_tt]
    exact tv_callT (a := #[]) (vx_runS (As := [.int x1]) (rest := []) ⟨hx, hb, hml, hown, hts⟩ (t_X0_needRow l hT x1 g1) (va_cwS 1 hts gX0_pick_X0_needRow rfl rfl rfl (by decide +kernel) ⟨Nat.le_of_ble_eq_true rfl, Nat.le_of_ble_eq_true rfl⟩) (tv_preT hE hS) rfl rfl hl.1 rfl (lv_room (Nat.le_of_ble_eq_true rfl)) dX0_pick_1 ⟨Nat.le_of_ble_eq_true rfl, Nat.le_of_ble_eq_true rfl⟩) htab hlocks (fun t hz hk => ⟨(), by rw [hV1]; exact (by decide : (1 : Int32) ≠ 0), by rw [hV1]; rfl, hz, fun q hq _ => hk q hq⟩) (fun z h => nomatch h) (Nat.le_of_ble_eq_true rfl) (Nat.le_of_ble_eq_true rfl)
  | true =>
    refine tv_callN (W.runS (As := [.int x1]) (rest := []) ⟨hx, hb, hml, hown, hts⟩ (n_X0_needRow l x1 g1) (va_cwS 1 hts gX0_pick_X0_needRow rfl rfl rfl (by decide +kernel) ⟨Nat.le_of_ble_eq_true rfl, Nat.le_of_ble_eq_true rfl⟩) preEq rfl rfl hl.1 rfl (lv_room (Nat.le_of_ble_eq_true rfl)) dX0_pick_1 ⟨Nat.le_of_ble_eq_true rfl, Nat.le_of_ble_eq_true rfl⟩) ?_
    obtain ⟨r, hr8, rfl⟩ := tv_in_of (by omega) g1
    refine lv_iload_n hx hb dX0_pick_4 rfl (lv_at hl 2 rfl) ?_
    cases g2 : tv_sg x2 with
    | false =>
      have hV1 : V = (2, 0, (rd, lv, op, nt)) := by rw [hV]; simp only [sp_pick, g1, g2, Bool.and_false, Bool.false_and, Bool.and_true, Bool.true_and, Bool.and_self, sp_f, sp_tf, sp_tt]
      exact tv_callT (a := #[]) (vx_runS (As := [.int x2]) (rest := []) ⟨hx, hb, hml, hown, hts⟩ (t_X0_needSign l hT x2 g2) (va_cwS 1 hts gX0_pick_X0_needSign rfl rfl rfl (by decide +kernel) ⟨Nat.le_of_ble_eq_true rfl, Nat.le_of_ble_eq_true rfl⟩) (tv_preT hE hS) rfl rfl hl.1 rfl (lv_room (Nat.le_of_ble_eq_true rfl)) dX0_pick_5 ⟨Nat.le_of_ble_eq_true rfl, Nat.le_of_ble_eq_true rfl⟩) htab hlocks (fun t hz hk => ⟨(), by rw [hV1]; exact (by decide : (2 : Int32) ≠ 0), by rw [hV1]; rfl, hz, fun q hq _ => hk q hq⟩) (fun z h => nomatch h) (Nat.le_of_ble_eq_true rfl) (Nat.le_of_ble_eq_true rfl)
    | true =>
      refine tv_callN (W.runS (As := [.int x2]) (rest := []) ⟨hx, hb, hml, hown, hts⟩ (n_X0_needSign l x2 g2) (va_cwS 1 hts gX0_pick_X0_needSign rfl rfl rfl (by decide +kernel) ⟨Nat.le_of_ble_eq_true rfl, Nat.le_of_ble_eq_true rfl⟩) preEq rfl rfl hl.1 rfl (lv_room (Nat.le_of_ble_eq_true rfl)) dX0_pick_5 ⟨Nat.le_of_ble_eq_true rfl, Nat.le_of_ble_eq_true rfl⟩) ?_
      refine lv_iconst (v := 0) hx hb dX0_pick_8 (by decide) ?_
      refine lv_istore_n (lv' := [(3, .int 0), (0, .ref h), (1, .int (nI r)), (2, .int x2)]) hx hb dX0_pick_9 rfl hl (by decide) rfl (fun ls hl => ?_)
      refine lv_iconst (v := 1) hx hb dX0_pick_10 (by decide) ?_
      refine lv_istore (lv' := [(4, .int 1), (3, .int 0), (0, .ref h), (1, .int (nI r)), (2, .int x2)]) hx hb dX0_pick_11 hl (by decide) rfl (fun ls hl => ?_)
      have hV0 : V = (0, nI (pck x2 (rw12 rd r) 11), (rd, lv, op, nt)) := by
        rw [hV]; simp only [sp_pick, tN, nI_clamp (show r < 2 ^ 31 by omega), g1, g2, Bool.and_false, Bool.false_and, Bool.and_true, Bool.true_and, Bool.and_self, sp_f, sp_tf, sp_tt]
      have loop : ∀ (n k : Nat), k + n = 11 → ∀ ls : Array Slot, lv_has ls 5 [(0, .ref h), (1, .int (nI r)), (2, .int x2), (3, .int (nI (pck x2 (rw12 rd r) k))), (4, .int (nI (k + 1)))] → W p l e (headSpec wsX0_pick tv_rmP).room s m ([.ref h, .int (nI r), .int x2] : List Value).toArray below meth c s.heap [] 0 0 (vx_MQ below (tv_QP D cI cZ cL (tv_cw cI cZ h a1 a2 a3 a4) (tv_cw cI cZ h a1 a2 a3 a4 (rd, lv, op, nt)) s.heap.size V) (tv_XP V) ([.ref h, .int (nI r), .int x2] : List Value).toArray s 1 6 (va_A (tv_cw cI cZ h a1 a2 a3 a4 (rd, lv, op, nt)) s.heap.size)) (F0 m 13 ls []) := by
        intro n
        induction n with
        | zero =>
          intro k hk ls hl
          have hk2 : k = 11 := by omega
          subst hk2
          refine lv_iload hx hb dX0_pick_13 (lv_at hl 4 rfl) ?_
          refine lv_bipush (v := 12) hx hb dX0_pick_15 (by decide) ?_
          refine lv_icmp_ge (tgt := 57) hx hb dX0_pick_17 (by decide) (fun c_1 => ?_) (fun c_1 => ?_)
          · skip
            refine lv_iload_n hx hb dX0_pick_57 rfl (lv_at hl 3 rfl) ?_
            exact tv_iretP (wf := tv_cw cI cZ h a1 a2 a3 a4) (σ := (rd, lv, op, nt)) (r := nI (pck x2 (rw12 rd r) 11)) hAe hV0 hx hb hr hP hK hD hS dX0_pick_58 hlocks
          · exact absurd (show nI 12 ≤ nI 12 from nI_le (Nat.le_refl _) (by omega)) c_1
        | succ n ih =>
          intro k hk ls hl
          have hp1 := pck_le x2 (rw12 rd r) k
          refine lv_iload hx hb dX0_pick_13 (lv_at hl 4 rfl) ?_
          refine lv_bipush (v := 12) hx hb dX0_pick_15 (by decide) ?_
          refine lv_icmp_ge (tgt := 57) hx hb dX0_pick_17 (by decide) (fun c_2 => ?_) (fun c_2 => ?_)
          · exact absurd (show nI 12 ≤ nI (k + 1) from c_2) (nI_ge (by omega) (by omega))
          · skip
            refine lv_iload_n hx hb dX0_pick_20 rfl (lv_at hl 2 rfl) ?_
            refine lv_aload_n hx hb dX0_pick_21 rfl (lv_at hl 0 rfl) ?_
            refine va_get (D := D) (ci := 0) (v := .ref a1) (C := RX0) (T := TX0) (N := 4) hx hb hts iX0_pick hown hK hP 0 rfl rfl 0 (by decide) (hts (.fieldLink RX0 9 "TideHouse" "readings" "[I") (by decide +kernel)) (fun _ h9 => h9) rfl dX0_pick_22 ?_
            refine lv_iload_n hx hb dX0_pick_25 rfl (lv_at hl 1 rfl) ?_
            refine lv_iload hx hb dX0_pick_26 (lv_at hl 4 rfl) ?_
            refine tv_callR (W.runS (As := [.int (nI r), .int (nI (k + 1))]) (rest := [.ref a1, .int x2]) ⟨hx, hb, hml, hown, hts⟩ (c_X0_spot l r (k + 1)) (va_cwS 2 hts gX0_pick_X0_spot rfl rfl rfl (by decide +kernel) ⟨Nat.le_of_ble_eq_true rfl, Nat.le_of_ble_eq_true rfl⟩) preEq rfl rfl hl.1 rfl (lv_room (Nat.le_of_ble_eq_true rfl)) dX0_pick_28 ⟨Nat.le_of_ble_eq_true rfl, Nat.le_of_ble_eq_true rfl⟩) ?_
            refine tv_iald (D := D) (cA := cI) (n := 96) (f := rd) (k := (12 * r + (k + 1))) hx hb hK hP 1 0 rfl rfl (by omega) (by omega) dX0_pick_31 ?_
            refine lv_aload_n hx hb dX0_pick_32 rfl (lv_at hl 0 rfl) ?_
            refine va_get (D := D) (ci := 0) (v := .ref a1) (C := RX0) (T := TX0) (N := 4) hx hb hts iX0_pick hown hK hP 0 rfl rfl 0 (by decide) (hts (.fieldLink RX0 9 "TideHouse" "readings" "[I") (by decide +kernel)) (fun _ h9 => h9) rfl dX0_pick_33 ?_
            refine lv_iload_n hx hb dX0_pick_36 rfl (lv_at hl 1 rfl) ?_
            refine lv_iload_n hx hb dX0_pick_37 rfl (lv_at hl 3 rfl) ?_
            refine tv_callR (W.runS (As := [.int (nI r), .int (nI (pck x2 (rw12 rd r) k))]) (rest := [.ref a1, .int (rd (12 * r + (k + 1))), .int x2]) ⟨hx, hb, hml, hown, hts⟩ (c_X0_spot l r (pck x2 (rw12 rd r) k)) (va_cwS 2 hts gX0_pick_X0_spot rfl rfl rfl (by decide +kernel) ⟨Nat.le_of_ble_eq_true rfl, Nat.le_of_ble_eq_true rfl⟩) preEq rfl rfl hl.1 rfl (lv_room (Nat.le_of_ble_eq_true rfl)) dX0_pick_38 ⟨Nat.le_of_ble_eq_true rfl, Nat.le_of_ble_eq_true rfl⟩) ?_
            refine tv_iald (D := D) (cA := cI) (n := 96) (f := rd) (k := (12 * r + (pck x2 (rw12 rd r) k))) hx hb hK hP 1 0 rfl rfl (by omega) (by omega) dX0_pick_41 ?_
            refine tv_callR (W.runS (As := [.int x2, .int (rd (12 * r + (k + 1))), .int (rd (12 * r + (pck x2 (rw12 rd r) k)))]) (rest := []) ⟨hx, hb, hml, hown, hts⟩ (c_X0_isTrue l x2 (rd (12 * r + (k + 1))) (rd (12 * r + (pck x2 (rw12 rd r) k)))) (va_cwS 3 hts gX0_pick_X0_isTrue rfl rfl rfl (by decide +kernel) ⟨Nat.le_of_ble_eq_true rfl, Nat.le_of_ble_eq_true rfl⟩) preEq rfl rfl hl.1 rfl (lv_room (Nat.le_of_ble_eq_true rfl)) dX0_pick_42 ⟨Nat.le_of_ble_eq_true rfl, Nat.le_of_ble_eq_true rfl⟩) ?_
            refine lv_if_eq (tgt := 51) hx hb dX0_pick_45 (by decide) (fun c_3 => ?_) (fun c_3 => ?_)
            · skip
              refine lv_iinc (v := nI ((k + 1) + 1)) (lv' := [(4, .int (nI ((k + 1) + 1))), (0, .ref h), (1, .int (nI r)), (2, .int x2), (3, .int (nI (pck x2 (rw12 rd r) k)))]) hx hb dX0_pick_51 hl (k := 4) rfl (nI_1 (k + 1)) (by decide) rfl (fun ls hl => ?_)
              refine lv_goto (tgt := 13) hx hb dX0_pick_54 (by decide) ?_
              exact ih (k + 1) (by omega) ls (by rw [show nI (pck x2 (rw12 rd r) (k + 1)) = nI (pck x2 (rw12 rd r) k) from by rw [pck, if_pos c_3]]; exact lv_sub hl [1, 2, 3, 4, 0] rfl)
            · skip
              refine lv_iload hx hb dX0_pick_48 (lv_at hl 4 rfl) ?_
              refine lv_istore_n (lv' := [(3, .int (nI (k + 1))), (0, .ref h), (1, .int (nI r)), (2, .int x2), (4, .int (nI (k + 1)))]) hx hb dX0_pick_50 rfl hl (by decide) rfl (fun ls hl => ?_)
              refine lv_iinc (v := nI ((k + 1) + 1)) (lv' := [(4, .int (nI ((k + 1) + 1))), (3, .int (nI (k + 1))), (0, .ref h), (1, .int (nI r)), (2, .int x2)]) hx hb dX0_pick_51 hl (k := 4) rfl (nI_1 (k + 1)) (by decide) rfl (fun ls hl => ?_)
              refine lv_goto (tgt := 13) hx hb dX0_pick_54 (by decide) ?_
              exact ih (k + 1) (by omega) ls (by rw [show nI (pck x2 (rw12 rd r) (k + 1)) = nI (k + 1) from by rw [pck, if_neg c_3]]; exact lv_sub hl [2, 3, 4, 1, 0] rfl)
      exact loop 11 0 (by omega) ls (by rw [show nI (pck x2 (rw12 rd r) 0) = 0 from rfl, show nI (0 + 1) = 1 from rfl]; exact lv_sub hl [2, 3, 4, 1, 0] rfl)
theorem iX0_keep : ∀ w ∈ wsX00, w ∈ wsX0_keep := by decide +kernel
set_option maxHeartbeats 4000000 in
set_option maxRecDepth 100000 in
theorem c_X0_keep (l : Launch) (hT : l.stackTraces = false) (D : va_G) (cI cZ cL : ClassId) (h a1 a2 a3 a4 : Nat) (rd lv op nt : Nat → Int32) (sz : Nat) (x1 x2 : Int32) (V : TV) (hV : V = sp_keep x1 x2 (rd, lv, op, nt)) : vx_Met l yX0_keep wsX0_keep tv_rmP (tv_PP D cI cZ cL (tv_cw cI cZ h a1 a2 a3 a4 (rd, lv, op, nt)) sz [.ref h, .int x1, .int x2]) (tv_QP D cI cZ cL (tv_cw cI cZ h a1 a2 a3 a4) (tv_cw cI cZ h a1 a2 a3 a4 (rd, lv, op, nt)) sz V) (tv_XP V) 1 6 (va_A (tv_cw cI cZ h a1 a2 a3 a4 (rd, lv, op, nt)) sz) := by
  refine vx_ofW (cc := cX0_keep) (maxL := 5) (ret := (some .int)) (by decide) rfl ?_
  intro p e s m args below meth c s₁ B hml htab hv
  obtain ⟨rfl, hsz, hP, hK, hD0, hE⟩ := hv
  subst hsz
  have hx := B.exec
  have hb := B.bytes
  have hr := B.returns
  have hts := atoms_spec (ws := wsX0_keep) B.pre
  have hown : s.vm.findClass RX0 = some m.cls := findClass_of_methodNamed B.named
  have hlocks := B.notSynchronized
  have hD := hD0.self (sz := s.heap.size)
  obtain ⟨A, hAe⟩ : ∃ A, A = va_A (tv_cw cI cZ h a1 a2 a3 a4 (rd, lv, op, nt)) s.heap.size := ⟨_, rfl⟩
  rw [← hAe] at hD hE
  have hA : ∀ q : Nat, s.heap.size ≤ q → A q := fun q h => by rw [hAe]; exact Or.inr h
  have hS : va_S A s.heap s.heap [] := va_S.rf
  clear hD0
  have hl := lv_entry ([.ref h, .int x1, .int x2]) (n := 5) (Nat.le_of_ble_eq_true rfl)
  rw [lg_entry_eq]
  generalize (lg_sl ([.ref h, .int x1, .int x2]) ++ List.replicate (5 - (lg_sl ([.ref h, .int x1, .int x2])).length) Slot.unset).toArray = ls at hl ⊢
  have hl : lv_has ls 5 [(0, .ref h), (1, .int x1), (2, .int x2)] := hl
  refine lv_iload_n hx hb dX0_keep_0 rfl (lv_at hl 1 rfl) ?_
  cases g1 : tv_in 8 x1 with
  | false =>
    have hV1 : V = (1, 0, (rd, lv, op, nt)) := by rw [hV]; simp only [sp_keep, g1, Bool.and_false, Bool.false_and, Bool.and_true, Bool.true_and, Bool.and_self, sp_f, sp_tf, sp_tt]
    exact tv_callT (a := #[]) (vx_runS (As := [.int x1]) (rest := []) ⟨hx, hb, hml, hown, hts⟩ (t_X0_needRow l hT x1 g1) (va_cwS 1 hts gX0_keep_X0_needRow rfl rfl rfl (by decide +kernel) ⟨Nat.le_of_ble_eq_true rfl, Nat.le_of_ble_eq_true rfl⟩) (tv_preT hE hS) rfl rfl hl.1 rfl (lv_room (Nat.le_of_ble_eq_true rfl)) dX0_keep_1 ⟨Nat.le_of_ble_eq_true rfl, Nat.le_of_ble_eq_true rfl⟩) htab hlocks (fun t hz hk => ⟨(), by rw [hV1]; exact (by decide : (1 : Int32) ≠ 0), by rw [hV1]; rfl, hz, fun q hq _ => hk q hq⟩) (fun z h => nomatch h) (Nat.le_of_ble_eq_true rfl) (Nat.le_of_ble_eq_true rfl)
  | true =>
    refine tv_callN (W.runS (As := [.int x1]) (rest := []) ⟨hx, hb, hml, hown, hts⟩ (n_X0_needRow l x1 g1) (va_cwS 1 hts gX0_keep_X0_needRow rfl rfl rfl (by decide +kernel) ⟨Nat.le_of_ble_eq_true rfl, Nat.le_of_ble_eq_true rfl⟩) preEq rfl rfl hl.1 rfl (lv_room (Nat.le_of_ble_eq_true rfl)) dX0_keep_1 ⟨Nat.le_of_ble_eq_true rfl, Nat.le_of_ble_eq_true rfl⟩) ?_
    obtain ⟨r, hr8, rfl⟩ := tv_in_of (by omega) g1
    refine lv_iload_n hx hb dX0_keep_4 rfl (lv_at hl 2 rfl) ?_
    cases g2 : tv_sg x2 with
    | false =>
      have hV1 : V = (2, 0, (rd, lv, op, nt)) := by rw [hV]; simp only [sp_keep, g1, g2, Bool.and_false, Bool.false_and, Bool.and_true, Bool.true_and, Bool.and_self, sp_f, sp_tf, sp_tt]
      exact tv_callT (a := #[]) (vx_runS (As := [.int x2]) (rest := []) ⟨hx, hb, hml, hown, hts⟩ (t_X0_needSign l hT x2 g2) (va_cwS 1 hts gX0_keep_X0_needSign rfl rfl rfl (by decide +kernel) ⟨Nat.le_of_ble_eq_true rfl, Nat.le_of_ble_eq_true rfl⟩) (tv_preT hE hS) rfl rfl hl.1 rfl (lv_room (Nat.le_of_ble_eq_true rfl)) dX0_keep_5 ⟨Nat.le_of_ble_eq_true rfl, Nat.le_of_ble_eq_true rfl⟩) htab hlocks (fun t hz hk => ⟨(), by rw [hV1]; exact (by decide : (2 : Int32) ≠ 0), by rw [hV1]; rfl, hz, fun q hq _ => hk q hq⟩) (fun z h => nomatch h) (Nat.le_of_ble_eq_true rfl) (Nat.le_of_ble_eq_true rfl)
    | true =>
      refine tv_callN (W.runS (As := [.int x2]) (rest := []) ⟨hx, hb, hml, hown, hts⟩ (n_X0_needSign l x2 g2) (va_cwS 1 hts gX0_keep_X0_needSign rfl rfl rfl (by decide +kernel) ⟨Nat.le_of_ble_eq_true rfl, Nat.le_of_ble_eq_true rfl⟩) preEq rfl rfl hl.1 rfl (lv_room (Nat.le_of_ble_eq_true rfl)) dX0_keep_5 ⟨Nat.le_of_ble_eq_true rfl, Nat.le_of_ble_eq_true rfl⟩) ?_
      refine lv_iconst (v := 0) hx hb dX0_keep_8 (by decide) ?_
      refine lv_istore_n (lv' := [(3, .int 0), (0, .ref h), (1, .int (nI r)), (2, .int x2)]) hx hb dX0_keep_9 rfl hl (by decide) rfl (fun ls hl => ?_)
      refine lv_iconst (v := 0) hx hb dX0_keep_10 (by decide) ?_
      refine lv_istore (lv' := [(4, .int 0), (3, .int 0), (0, .ref h), (1, .int (nI r)), (2, .int x2)]) hx hb dX0_keep_11 hl (by decide) rfl (fun ls hl => ?_)
      have hV0 : V = (0, cn (fun k => tq x2 (rw12 rd r k) (rw12 rd r (k + 1))) 11, (rd, lv, op, upd nt r (kb (fun k => tq x2 (rw12 rd r k) (rw12 rd r (k + 1))) 11))) := by
        rw [hV]; simp only [sp_keep, tN, nI_clamp (show r < 2 ^ 31 by omega), g1, g2, Bool.and_false, Bool.false_and, Bool.and_true, Bool.true_and, Bool.and_self, sp_f, sp_tf, sp_tt]
      have loop : ∀ (n k : Nat), k + n = 11 → ∀ ls : Array Slot, lv_has ls 5 [(0, .ref h), (1, .int (nI r)), (2, .int x2), (3, .int (kb (fun k => tq x2 (rw12 rd r k) (rw12 rd r (k + 1))) k)), (4, .int (nI k))] → W p l e (headSpec wsX0_keep tv_rmP).room s m ([.ref h, .int (nI r), .int x2] : List Value).toArray below meth c s.heap [] 0 0 (vx_MQ below (tv_QP D cI cZ cL (tv_cw cI cZ h a1 a2 a3 a4) (tv_cw cI cZ h a1 a2 a3 a4 (rd, lv, op, nt)) s.heap.size V) (tv_XP V) ([.ref h, .int (nI r), .int x2] : List Value).toArray s 1 6 (va_A (tv_cw cI cZ h a1 a2 a3 a4 (rd, lv, op, nt)) s.heap.size)) (F0 m 13 ls []) := by
        intro n
        induction n with
        | zero =>
          intro k hk ls hl
          have hk2 : k = 11 := by omega
          subst hk2
          refine lv_iload hx hb dX0_keep_13 (lv_at hl 4 rfl) ?_
          refine lv_bipush (v := 11) hx hb dX0_keep_15 (by decide) ?_
          refine lv_icmp_ge (tgt := 44) hx hb dX0_keep_17 (by decide) (fun c_1 => ?_) (fun c_1 => ?_)
          · skip
            refine lv_aload_n hx hb dX0_keep_44 rfl (lv_at hl 0 rfl) ?_
            refine va_get (D := D) (ci := 0) (v := .ref a4) (C := RX0) (T := TX0) (N := 4) hx hb hts iX0_keep hown hK hP 0 rfl rfl 3 (by decide) (hts (.fieldLink RX0 20 "TideHouse" "rowNotes" "[I") (by decide +kernel)) (fun _ h9 => h9) rfl dX0_keep_45 ?_
            refine lv_iload_n hx hb dX0_keep_48 rfl (lv_at hl 1 rfl) ?_
            refine lv_iload_n hx hb dX0_keep_49 rfl (lv_at hl 3 rfl) ?_
            refine tv_iast (D := D) (cA := cI) (n := 8) (f := nt) (k := r) (x := kb (fun k => tq x2 (rw12 rd r k) (rw12 rd r (k + 1))) 11) (ws1 := tv_cw cI cZ h a1 a2 a3 a4 (rd, lv, op, upd nt r (kb (fun k => tq x2 (rw12 rd r k) (rw12 rd r (k + 1))) 11))) hx hb hK hP hD hS 4 0 rfl rfl (by omega) (by omega) rfl dX0_keep_50 (fun H locs hP hD hS => ?_)
            refine lv_iload_n hx hb dX0_keep_51 rfl (lv_at hl 3 rfl) ?_
            refine tv_callR (W.runS (As := [.int (kb (fun k => tq x2 (rw12 rd r k) (rw12 rd r (k + 1))) 11)]) (rest := []) ⟨hx, hb, hml, hown, hts⟩ (c_J6_bitCount_0f7a4 l (kb (fun k => tq x2 (rw12 rd r k) (rw12 rd r (k + 1))) 11)) (va_cwS 1 hts gX0_keep_J6_bitCount_0f7a4 rfl rfl rfl (by decide +kernel) ⟨Nat.le_of_ble_eq_true rfl, Nat.le_of_ble_eq_true rfl⟩) preEq rfl rfl hl.1 rfl (lv_room (Nat.le_of_ble_eq_true rfl)) dX0_keep_52 ⟨Nat.le_of_ble_eq_true rfl, Nat.le_of_ble_eq_true rfl⟩) ?_
            refine tv_top (cn (fun k => tq x2 (rw12 rd r k) (rw12 rd r (k + 1))) 11) (bcn_kb _ (fun k => tq01 _ _ _)) ?_
            exact tv_iretP (wf := tv_cw cI cZ h a1 a2 a3 a4) (σ := (rd, lv, op, upd nt r (kb (fun k => tq x2 (rw12 rd r k) (rw12 rd r (k + 1))) 11))) (r := cn (fun k => tq x2 (rw12 rd r k) (rw12 rd r (k + 1))) 11) hAe hV0 hx hb hr hP hK hD hS dX0_keep_55 hlocks
          · exact absurd (show nI 11 ≤ nI 11 from nI_le (Nat.le_refl _) (by omega)) c_1
        | succ n ih =>
          intro k hk ls hl
          refine lv_iload hx hb dX0_keep_13 (lv_at hl 4 rfl) ?_
          refine lv_bipush (v := 11) hx hb dX0_keep_15 (by decide) ?_
          refine lv_icmp_ge (tgt := 44) hx hb dX0_keep_17 (by decide) (fun c_2 => ?_) (fun c_2 => ?_)
          · exact absurd (show nI 11 ≤ nI k from c_2) (nI_ge (by omega) (by omega))
          · skip
            refine lv_aload_n hx hb dX0_keep_20 rfl (lv_at hl 0 rfl) ?_
            refine lv_iload_n hx hb dX0_keep_21 rfl (lv_at hl 1 rfl) ?_
            refine lv_iload hx hb dX0_keep_22 (lv_at hl 4 rfl) ?_
            refine lv_iload_n hx hb dX0_keep_24 rfl (lv_at hl 2 rfl) ?_
            refine tv_callR (W.runV (As := [.int (nI r), .int (nI k), .int x2]) (rest := []) ⟨hx, hb, hml, hown, hts⟩ (c_X0_isTrueOfNext l D cI cZ cL h a1 a2 a3 a4 rd lv op nt r k x2 hr8 (by omega)) (cwV 3 hts gX0_keep_X0_isTrueOfNext rfl rfl rfl (by decide +kernel) ⟨Nat.le_of_ble_eq_true rfl, Nat.le_of_ble_eq_true rfl⟩) (tv_preV hP hK rfl 0 rfl) rfl rfl hl.1 rfl (lv_room (Nat.le_of_ble_eq_true rfl)) dX0_keep_25 ⟨Nat.le_of_ble_eq_true rfl, Nat.le_of_ble_eq_true rfl⟩) ?_
            refine lv_if_eq (tgt := 38) hx hb dX0_keep_28 (by decide) (fun c_3 => ?_) (fun c_3 => ?_)
            · skip
              refine lv_iinc (v := nI (k + 1)) (lv' := [(4, .int (nI (k + 1))), (0, .ref h), (1, .int (nI r)), (2, .int x2), (3, .int (kb (fun k => tq x2 (rw12 rd r k) (rw12 rd r (k + 1))) k))]) hx hb dX0_keep_38 hl (k := 4) rfl (nI_1 k) (by decide) rfl (fun ls hl => ?_)
              refine lv_goto (tgt := 13) hx hb dX0_keep_41 (by decide) ?_
              exact ih (k + 1) (by omega) ls (by rw [show kb (fun k => tq x2 (rw12 rd r k) (rw12 rd r (k + 1))) (k + 1) = kb (fun k => tq x2 (rw12 rd r k) (rw12 rd r (k + 1))) k from kb_s0 c_3]; exact lv_sub hl [1, 2, 3, 4, 0] rfl)
            · skip
              refine lv_iload_n hx hb dX0_keep_31 rfl (lv_at hl 3 rfl) ?_
              refine lv_iconst (v := 1) hx hb dX0_keep_32 (by decide) ?_
              refine lv_iload hx hb dX0_keep_33 (lv_at hl 4 rfl) ?_
              refine lv_ishl hx hb dX0_keep_35 ?_
              refine lv_ior hx hb dX0_keep_36 ?_
              refine lv_istore_n (lv' := [(3, .int ((kb (fun k => tq x2 (rw12 rd r k) (rw12 rd r (k + 1))) k) ||| (1 <<< ((nI k) &&& 31)))), (0, .ref h), (1, .int (nI r)), (2, .int x2), (4, .int (nI k))]) hx hb dX0_keep_37 rfl hl (by decide) rfl (fun ls hl => ?_)
              refine lv_iinc (v := nI (k + 1)) (lv' := [(4, .int (nI (k + 1))), (3, .int ((kb (fun k => tq x2 (rw12 rd r k) (rw12 rd r (k + 1))) k) ||| (1 <<< ((nI k) &&& 31)))), (0, .ref h), (1, .int (nI r)), (2, .int x2)]) hx hb dX0_keep_38 hl (k := 4) rfl (nI_1 k) (by decide) rfl (fun ls hl => ?_)
              refine lv_goto (tgt := 13) hx hb dX0_keep_41 (by decide) ?_
              exact ih (k + 1) (by omega) ls (by rw [show kb (fun k => tq x2 (rw12 rd r k) (rw12 rd r (k + 1))) (k + 1) = (kb (fun k => tq x2 (rw12 rd r k) (rw12 rd r (k + 1))) k) ||| (1 <<< ((nI k) &&& 31)) from kb_s1 c_3]; exact lv_sub hl [2, 3, 4, 1, 0] rfl)
      exact loop 11 0 (by omega) ls (by rw [show kb (fun k => tq x2 (rw12 rd r k) (rw12 rd r (k + 1))) 0 = 0 from rfl, show nI 0 = 0 from nI_0]; exact lv_sub hl [2, 3, 4, 1, 0] rfl)
set_option maxHeartbeats 4000000 in
set_option maxRecDepth 100000 in
theorem c_X0_settle (l : Launch) (hT : l.stackTraces = false) (D : va_G) (cI cZ cL : ClassId) (h a1 a2 a3 a4 : Nat) (rd lv op nt : Nat → Int32) (sz : Nat) (x1 x2 : Int32) (V : TV) (hV : V = sp_settle x1 x2 (rd, lv, op, nt)) : vx_Met l yX0_settle wsX0_settle tv_rmP (tv_PP D cI cZ cL (tv_cw cI cZ h a1 a2 a3 a4 (rd, lv, op, nt)) sz [.ref h, .int x1, .int x2]) (tv_QP D cI cZ cL (tv_cw cI cZ h a1 a2 a3 a4) (tv_cw cI cZ h a1 a2 a3 a4 (rd, lv, op, nt)) sz V) (tv_XP V) 1 6 (va_A (tv_cw cI cZ h a1 a2 a3 a4 (rd, lv, op, nt)) sz) := by
  refine vx_ofW (cc := cX0_settle) (maxL := 5) (ret := (some .int)) (by decide) rfl ?_
  intro p e s m args below meth c s₁ B hml htab hv
  obtain ⟨rfl, hsz, hP, hK, hD0, hE⟩ := hv
  subst hsz
  have hx := B.exec
  have hb := B.bytes
  have hr := B.returns
  have hts := atoms_spec (ws := wsX0_settle) B.pre
  have hown : s.vm.findClass RX0 = some m.cls := findClass_of_methodNamed B.named
  have hlocks := B.notSynchronized
  have hD := hD0.self (sz := s.heap.size)
  obtain ⟨A, hAe⟩ : ∃ A, A = va_A (tv_cw cI cZ h a1 a2 a3 a4 (rd, lv, op, nt)) s.heap.size := ⟨_, rfl⟩
  rw [← hAe] at hD hE
  have hA : ∀ q : Nat, s.heap.size ≤ q → A q := fun q h => by rw [hAe]; exact Or.inr h
  have hS : va_S A s.heap s.heap [] := va_S.rf
  clear hD0
  have hl := lv_entry ([.ref h, .int x1, .int x2]) (n := 5) (Nat.le_of_ble_eq_true rfl)
  rw [lg_entry_eq]
  generalize (lg_sl ([.ref h, .int x1, .int x2]) ++ List.replicate (5 - (lg_sl ([.ref h, .int x1, .int x2])).length) Slot.unset).toArray = ls at hl ⊢
  have hl : lv_has ls 5 [(0, .ref h), (1, .int x1), (2, .int x2)] := hl
  refine lv_iload_n hx hb dX0_settle_0 rfl (lv_at hl 1 rfl) ?_
  cases g1 : tv_in 8 x1 with
  | false =>
    have hV1 : V = (1, 0, (rd, lv, op, nt)) := by rw [hV]; simp only [sp_settle, g1, Bool.and_false, Bool.false_and, Bool.and_true, Bool.true_and, Bool.and_self, sp_f, sp_tf, sp_tt]
    exact tv_callT (a := #[]) (vx_runS (As := [.int x1]) (rest := []) ⟨hx, hb, hml, hown, hts⟩ (t_X0_needRow l hT x1 g1) (va_cwS 1 hts gX0_settle_X0_needRow rfl rfl rfl (by decide +kernel) ⟨Nat.le_of_ble_eq_true rfl, Nat.le_of_ble_eq_true rfl⟩) (tv_preT hE hS) rfl rfl hl.1 rfl (lv_room (Nat.le_of_ble_eq_true rfl)) dX0_settle_1 ⟨Nat.le_of_ble_eq_true rfl, Nat.le_of_ble_eq_true rfl⟩) htab hlocks (fun t hz hk => ⟨(), by rw [hV1]; exact (by decide : (1 : Int32) ≠ 0), by rw [hV1]; rfl, hz, fun q hq _ => hk q hq⟩) (fun z h => nomatch h) (Nat.le_of_ble_eq_true rfl) (Nat.le_of_ble_eq_true rfl)
  | true =>
    refine tv_callN (W.runS (As := [.int x1]) (rest := []) ⟨hx, hb, hml, hown, hts⟩ (n_X0_needRow l x1 g1) (va_cwS 1 hts gX0_settle_X0_needRow rfl rfl rfl (by decide +kernel) ⟨Nat.le_of_ble_eq_true rfl, Nat.le_of_ble_eq_true rfl⟩) preEq rfl rfl hl.1 rfl (lv_room (Nat.le_of_ble_eq_true rfl)) dX0_settle_1 ⟨Nat.le_of_ble_eq_true rfl, Nat.le_of_ble_eq_true rfl⟩) ?_
    obtain ⟨r, hr8, rfl⟩ := tv_in_of (by omega) g1
    refine lv_iload_n hx hb dX0_settle_4 rfl (lv_at hl 2 rfl) ?_
    cases g2 : tv_sg x2 with
    | false =>
      have hV1 : V = (2, 0, (rd, lv, op, nt)) := by rw [hV]; simp only [sp_settle, g1, g2, Bool.and_false, Bool.false_and, Bool.and_true, Bool.true_and, Bool.and_self, sp_f, sp_tf, sp_tt]
      exact tv_callT (a := #[]) (vx_runS (As := [.int x2]) (rest := []) ⟨hx, hb, hml, hown, hts⟩ (t_X0_needSign l hT x2 g2) (va_cwS 1 hts gX0_settle_X0_needSign rfl rfl rfl (by decide +kernel) ⟨Nat.le_of_ble_eq_true rfl, Nat.le_of_ble_eq_true rfl⟩) (tv_preT hE hS) rfl rfl hl.1 rfl (lv_room (Nat.le_of_ble_eq_true rfl)) dX0_settle_5 ⟨Nat.le_of_ble_eq_true rfl, Nat.le_of_ble_eq_true rfl⟩) htab hlocks (fun t hz hk => ⟨(), by rw [hV1]; exact (by decide : (2 : Int32) ≠ 0), by rw [hV1]; rfl, hz, fun q hq _ => hk q hq⟩) (fun z h => nomatch h) (Nat.le_of_ble_eq_true rfl) (Nat.le_of_ble_eq_true rfl)
    | true =>
      refine tv_callN (W.runS (As := [.int x2]) (rest := []) ⟨hx, hb, hml, hown, hts⟩ (n_X0_needSign l x2 g2) (va_cwS 1 hts gX0_settle_X0_needSign rfl rfl rfl (by decide +kernel) ⟨Nat.le_of_ble_eq_true rfl, Nat.le_of_ble_eq_true rfl⟩) preEq rfl rfl hl.1 rfl (lv_room (Nat.le_of_ble_eq_true rfl)) dX0_settle_5 ⟨Nat.le_of_ble_eq_true rfl, Nat.le_of_ble_eq_true rfl⟩) ?_
      refine lv_iconst (v := 0) hx hb dX0_settle_8 (by decide) ?_
      refine lv_istore_n (lv' := [(3, .int 0), (0, .ref h), (1, .int (nI r)), (2, .int x2)]) hx hb dX0_settle_9 rfl hl (by decide) rfl (fun ls hl => ?_)
      refine lv_iconst (v := 1) hx hb dX0_settle_10 (by decide) ?_
      refine lv_istore (lv' := [(4, .int 1), (3, .int 0), (0, .ref h), (1, .int (nI r)), (2, .int x2)]) hx hb dX0_settle_11 hl (by decide) rfl (fun ls hl => ?_)
      have hV0 : V = (0, (se x2 r rd 11).2, ((se x2 r rd 11).1, lv, op, nt)) := by
        rw [hV]; simp only [sp_settle, tN, nI_clamp (show r < 2 ^ 31 by omega), g1, g2, Bool.and_false, Bool.false_and, Bool.and_true, Bool.true_and, Bool.and_self, sp_f, sp_tf, sp_tt]
      have loop : ∀ (n k : Nat), k + n = 11 → ∀ (H : Heap) (locs : List Loc), va_P D vwCl (tv_cw cI cZ h a1 a2 a3 a4 ((se x2 r rd k).1, lv, op, nt)) H → va_D A (tv_cw cI cZ h a1 a2 a3 a4 ((se x2 r rd k).1, lv, op, nt)) → va_S A s.heap H locs → ∀ ls : Array Slot, lv_has ls 5 [(0, .ref h), (1, .int (nI r)), (2, .int x2), (3, .int ((se x2 r rd k).2)), (4, .int (nI (k + 1)))] → W p l e (headSpec wsX0_settle tv_rmP).room s m ([.ref h, .int (nI r), .int x2] : List Value).toArray below meth c H locs 0 0 (vx_MQ below (tv_QP D cI cZ cL (tv_cw cI cZ h a1 a2 a3 a4) (tv_cw cI cZ h a1 a2 a3 a4 (rd, lv, op, nt)) s.heap.size V) (tv_XP V) ([.ref h, .int (nI r), .int x2] : List Value).toArray s 1 6 (va_A (tv_cw cI cZ h a1 a2 a3 a4 (rd, lv, op, nt)) s.heap.size)) (F0 m 13 ls []) := by
        intro n
        induction n with
        | zero =>
          intro k hk H locs hP hD hS ls hl
          have hk2 : k = 11 := by omega
          subst hk2
          refine lv_iload hx hb dX0_settle_13 (lv_at hl 4 rfl) ?_
          refine lv_bipush (v := 12) hx hb dX0_settle_15 (by decide) ?_
          refine lv_icmp_ge (tgt := 37) hx hb dX0_settle_17 (by decide) (fun c_1 => ?_) (fun c_1 => ?_)
          · skip
            refine lv_iload_n hx hb dX0_settle_37 rfl (lv_at hl 3 rfl) ?_
            exact tv_iretP (wf := tv_cw cI cZ h a1 a2 a3 a4) (σ := ((se x2 r rd 11).1, lv, op, nt)) (r := (se x2 r rd 11).2) hAe hV0 hx hb hr hP hK hD hS dX0_settle_38 hlocks
          · exact absurd (show nI 12 ≤ nI 12 from nI_le (Nat.le_refl _) (by omega)) c_1
        | succ n ih =>
          intro k hk H locs hP hD hS ls hl
          refine lv_iload hx hb dX0_settle_13 (lv_at hl 4 rfl) ?_
          refine lv_bipush (v := 12) hx hb dX0_settle_15 (by decide) ?_
          refine lv_icmp_ge (tgt := 37) hx hb dX0_settle_17 (by decide) (fun c_2 => ?_) (fun c_2 => ?_)
          · exact absurd (show nI 12 ≤ nI (k + 1) from c_2) (nI_ge (by omega) (by omega))
          · skip
            refine lv_iload_n hx hb dX0_settle_20 rfl (lv_at hl 3 rfl) ?_
            refine lv_aload_n hx hb dX0_settle_21 rfl (lv_at hl 0 rfl) ?_
            refine lv_iload_n hx hb dX0_settle_22 rfl (lv_at hl 1 rfl) ?_
            refine lv_iload hx hb dX0_settle_23 (lv_at hl 4 rfl) ?_
            refine lv_iload_n hx hb dX0_settle_25 rfl (lv_at hl 2 rfl) ?_
            refine tv_callW (D := D) (ws := tv_cw cI cZ h a1 a2 a3 a4 ((se x2 r rd k).1, lv, op, nt)) (wc := tv_cw cI cZ h a1 a2 a3 a4 ((se x2 r rd k).1, lv, op, nt)) (wr := []) (wc' := tv_cw cI cZ h a1 a2 a3 a4 ((ml x2 r (k + 1) (se x2 r rd k).1).1, lv, op, nt)) (wsN := tv_cw cI cZ h a1 a2 a3 a4 ((ml x2 r (k + 1) (se x2 r rd k).1).1, lv, op, nt)) (r := nI (ml x2 r (k + 1) (se x2 r rd k).1).2) (va_runV (As := [.int (nI r), .int (nI (k + 1)), .int x2]) (rest := [.int ((se x2 r rd k).2)]) ⟨hx, hb, hml, hown, hts⟩ (c_X0_moveLeft l D cI cZ cL h a1 a2 a3 a4 (se x2 r rd k).1 lv op nt H.size r (k + 1) (ml x2 r (k + 1) (se x2 r rd k).1).2 x2 (ml x2 r (k + 1) (se x2 r rd k).1).1 hr8 (by omega) rfl rfl) (cwV 3 hts gX0_settle_X0_moveLeft rfl rfl rfl (by decide +kernel) ⟨Nat.le_of_ble_eq_true rfl, Nat.le_of_ble_eq_true rfl⟩) (tv_preDV hP hK hD [0, 1, 2, 3, 4] rfl rfl rfl rfl 0 rfl) rfl rfl hl.1 rfl (lv_room (Nat.le_of_ble_eq_true rfl)) dX0_settle_26 ⟨Nat.le_of_ble_eq_true rfl, Nat.le_of_ble_eq_true rfl⟩) hP hD hS hA [0, 1, 2, 3, 4] [] rfl rfl rfl (by decide) [0, 1, 2, 3, 4] rfl rfl rfl (fun H locs hP hD hS => ?_)
            refine lv_iadd hx hb dX0_settle_29 ?_
            refine lv_istore_n (lv' := [(3, .int (((se x2 r rd k).2) + (nI (ml x2 r (k + 1) (se x2 r rd k).1).2))), (0, .ref h), (1, .int (nI r)), (2, .int x2), (4, .int (nI (k + 1)))]) hx hb dX0_settle_30 rfl hl (by decide) rfl (fun ls hl => ?_)
            refine lv_iinc (v := nI ((k + 1) + 1)) (lv' := [(4, .int (nI ((k + 1) + 1))), (3, .int (((se x2 r rd k).2) + (nI (ml x2 r (k + 1) (se x2 r rd k).1).2))), (0, .ref h), (1, .int (nI r)), (2, .int x2)]) hx hb dX0_settle_31 hl (k := 4) rfl (nI_1 (k + 1)) (by decide) rfl (fun ls hl => ?_)
            refine lv_goto (tgt := 13) hx hb dX0_settle_34 (by decide) ?_
            have hP : va_P D vwCl (tv_cw cI cZ h a1 a2 a3 a4 ((se x2 r rd (k + 1)).1, lv, op, nt)) H := by exact hP
            have hD : va_D A (tv_cw cI cZ h a1 a2 a3 a4 ((se x2 r rd (k + 1)).1, lv, op, nt)) := by exact hD
            exact ih (k + 1) (by omega) H locs hP hD hS ls (by rw [show (se x2 r rd (k + 1)).2 = ((se x2 r rd k).2) + (nI (ml x2 r (k + 1) (se x2 r rd k).1).2) from rfl]; exact lv_sub hl [2, 3, 4, 1, 0] rfl)
      exact loop 11 0 (by omega) s.heap [] hP hD hS ls (by rw [show (se x2 r rd 0).2 = 0 from rfl, show nI (0 + 1) = 1 from rfl]; exact lv_sub hl [2, 3, 4, 1, 0] rfl)
theorem iX0_alike : ∀ w ∈ wsX00, w ∈ wsX0_alike := by decide +kernel
set_option maxHeartbeats 4000000 in
set_option maxRecDepth 100000 in
theorem c_X0_alike (l : Launch) (hT : l.stackTraces = false) (D : va_G) (cI cZ cL : ClassId) (h a1 a2 a3 a4 : Nat) (rd lv op nt : Nat → Int32) (sz : Nat) (x1 x2 : Int32) (V : TV) (hV : V = sp_alike x1 x2 (rd, lv, op, nt)) : vx_Met l yX0_alike wsX0_alike tv_rmP (tv_PP D cI cZ cL (tv_cw cI cZ h a1 a2 a3 a4 (rd, lv, op, nt)) sz [.ref h, .int x1, .int x2]) (tv_QP D cI cZ cL (tv_cw cI cZ h a1 a2 a3 a4) (tv_cw cI cZ h a1 a2 a3 a4 (rd, lv, op, nt)) sz V) (tv_XP V) 1 6 (va_A (tv_cw cI cZ h a1 a2 a3 a4 (rd, lv, op, nt)) sz) := by
  refine vx_ofW (cc := cX0_alike) (maxL := 4) (ret := (some .boolean)) (by decide) rfl ?_
  intro p e s m args below meth c s₁ B hml htab hv
  obtain ⟨rfl, hsz, hP, hK, hD0, hE⟩ := hv
  subst hsz
  have hx := B.exec
  have hb := B.bytes
  have hr := B.returns
  have hts := atoms_spec (ws := wsX0_alike) B.pre
  have hown : s.vm.findClass RX0 = some m.cls := findClass_of_methodNamed B.named
  have hlocks := B.notSynchronized
  have hD := hD0.self (sz := s.heap.size)
  obtain ⟨A, hAe⟩ : ∃ A, A = va_A (tv_cw cI cZ h a1 a2 a3 a4 (rd, lv, op, nt)) s.heap.size := ⟨_, rfl⟩
  rw [← hAe] at hD hE
  have hA : ∀ q : Nat, s.heap.size ≤ q → A q := fun q h => by rw [hAe]; exact Or.inr h
  have hS : va_S A s.heap s.heap [] := va_S.rf
  clear hD0
  have hl := lv_entry ([.ref h, .int x1, .int x2]) (n := 4) (Nat.le_of_ble_eq_true rfl)
  rw [lg_entry_eq]
  generalize (lg_sl ([.ref h, .int x1, .int x2]) ++ List.replicate (4 - (lg_sl ([.ref h, .int x1, .int x2])).length) Slot.unset).toArray = ls at hl ⊢
  have hl : lv_has ls 4 [(0, .ref h), (1, .int x1), (2, .int x2)] := hl
  refine lv_iload_n hx hb dX0_alike_0 rfl (lv_at hl 1 rfl) ?_
  cases g1 : tv_in 8 x1 with
  | false =>
    have hV1 : V = (1, 0, (rd, lv, op, nt)) := by rw [hV]; simp only [sp_alike, g1, Bool.and_false, Bool.false_and, Bool.and_true, Bool.true_and, Bool.and_self, sp_f, sp_tf, sp_tt]
    exact tv_callT (a := #[]) (vx_runS (As := [.int x1]) (rest := []) ⟨hx, hb, hml, hown, hts⟩ (t_X0_needRow l hT x1 g1) (va_cwS 1 hts gX0_alike_X0_needRow rfl rfl rfl (by decide +kernel) ⟨Nat.le_of_ble_eq_true rfl, Nat.le_of_ble_eq_true rfl⟩) (tv_preT hE hS) rfl rfl hl.1 rfl (lv_room (Nat.le_of_ble_eq_true rfl)) dX0_alike_1 ⟨Nat.le_of_ble_eq_true rfl, Nat.le_of_ble_eq_true rfl⟩) htab hlocks (fun t hz hk => ⟨(), by rw [hV1]; exact (by decide : (1 : Int32) ≠ 0), by rw [hV1]; rfl, hz, fun q hq _ => hk q hq⟩) (fun z h => nomatch h) (Nat.le_of_ble_eq_true rfl) (Nat.le_of_ble_eq_true rfl)
  | true =>
    refine tv_callN (W.runS (As := [.int x1]) (rest := []) ⟨hx, hb, hml, hown, hts⟩ (n_X0_needRow l x1 g1) (va_cwS 1 hts gX0_alike_X0_needRow rfl rfl rfl (by decide +kernel) ⟨Nat.le_of_ble_eq_true rfl, Nat.le_of_ble_eq_true rfl⟩) preEq rfl rfl hl.1 rfl (lv_room (Nat.le_of_ble_eq_true rfl)) dX0_alike_1 ⟨Nat.le_of_ble_eq_true rfl, Nat.le_of_ble_eq_true rfl⟩) ?_
    obtain ⟨r, hr8, rfl⟩ := tv_in_of (by omega) g1
    refine lv_iload_n hx hb dX0_alike_4 rfl (lv_at hl 2 rfl) ?_
    cases g2 : tv_in 8 x2 with
    | false =>
      have hV1 : V = (1, 0, (rd, lv, op, nt)) := by rw [hV]; simp only [sp_alike, g1, g2, Bool.and_false, Bool.false_and, Bool.and_true, Bool.true_and, Bool.and_self, sp_f, sp_tf, sp_tt]
      exact tv_callT (a := #[]) (vx_runS (As := [.int x2]) (rest := []) ⟨hx, hb, hml, hown, hts⟩ (t_X0_needRow l hT x2 g2) (va_cwS 1 hts gX0_alike_X0_needRow rfl rfl rfl (by decide +kernel) ⟨Nat.le_of_ble_eq_true rfl, Nat.le_of_ble_eq_true rfl⟩) (tv_preT hE hS) rfl rfl hl.1 rfl (lv_room (Nat.le_of_ble_eq_true rfl)) dX0_alike_5 ⟨Nat.le_of_ble_eq_true rfl, Nat.le_of_ble_eq_true rfl⟩) htab hlocks (fun t hz hk => ⟨(), by rw [hV1]; exact (by decide : (1 : Int32) ≠ 0), by rw [hV1]; rfl, hz, fun q hq _ => hk q hq⟩) (fun z h => nomatch h) (Nat.le_of_ble_eq_true rfl) (Nat.le_of_ble_eq_true rfl)
    | true =>
      refine tv_callN (W.runS (As := [.int x2]) (rest := []) ⟨hx, hb, hml, hown, hts⟩ (n_X0_needRow l x2 g2) (va_cwS 1 hts gX0_alike_X0_needRow rfl rfl rfl (by decide +kernel) ⟨Nat.le_of_ble_eq_true rfl, Nat.le_of_ble_eq_true rfl⟩) preEq rfl rfl hl.1 rfl (lv_room (Nat.le_of_ble_eq_true rfl)) dX0_alike_5 ⟨Nat.le_of_ble_eq_true rfl, Nat.le_of_ble_eq_true rfl⟩) ?_
      obtain ⟨q, hq8, rfl⟩ := tv_in_of (by omega) g2
      refine lv_iload_n hx hb dX0_alike_8 rfl (lv_at hl 1 rfl) ?_
      refine lv_iload_n hx hb dX0_alike_9 rfl (lv_at hl 2 rfl) ?_
      cases g3 : tv_os (nI r) (nI q) with
      | false =>
        have hV1 : V = (2, 0, (rd, lv, op, nt)) := by rw [hV]; simp only [sp_alike, g1, g2, g3, Bool.and_false, Bool.false_and, Bool.and_true, Bool.true_and, Bool.and_self, sp_f, sp_tf, sp_tt]
        exact tv_callT (a := #[]) (vx_runS (As := [.int (nI r), .int (nI q)]) (rest := []) ⟨hx, hb, hml, hown, hts⟩ (t_X0_needOneSort l hT r q g3 hr8 hq8) (va_cwS 2 hts gX0_alike_X0_needOneSort rfl rfl rfl (by decide +kernel) ⟨Nat.le_of_ble_eq_true rfl, Nat.le_of_ble_eq_true rfl⟩) (tv_preT hE hS) rfl rfl hl.1 rfl (lv_room (Nat.le_of_ble_eq_true rfl)) dX0_alike_10 ⟨Nat.le_of_ble_eq_true rfl, Nat.le_of_ble_eq_true rfl⟩) htab hlocks (fun t hz hk => ⟨(), by rw [hV1]; exact (by decide : (2 : Int32) ≠ 0), by rw [hV1]; rfl, hz, fun q hq _ => hk q hq⟩) (fun z h => nomatch h) (Nat.le_of_ble_eq_true rfl) (Nat.le_of_ble_eq_true rfl)
      | true =>
        refine tv_callN (W.runS (As := [.int (nI r), .int (nI q)]) (rest := []) ⟨hx, hb, hml, hown, hts⟩ (n_X0_needOneSort l r q g3 hr8 hq8) (va_cwS 2 hts gX0_alike_X0_needOneSort rfl rfl rfl (by decide +kernel) ⟨Nat.le_of_ble_eq_true rfl, Nat.le_of_ble_eq_true rfl⟩) preEq rfl rfl hl.1 rfl (lv_room (Nat.le_of_ble_eq_true rfl)) dX0_alike_10 ⟨Nat.le_of_ble_eq_true rfl, Nat.le_of_ble_eq_true rfl⟩) ?_
        refine lv_iconst (v := 0) hx hb dX0_alike_13 (by decide) ?_
        refine lv_istore_n (lv' := [(3, .int 0), (0, .ref h), (1, .int (nI r)), (2, .int (nI q))]) hx hb dX0_alike_14 rfl hl (by decide) rfl (fun ls hl => ?_)
        have hV0 : V = (0, al (fun k => rw12 rd r k = rw12 rd q k) (fun _ => inferInstance) 12, (rd, lv, op, nt)) := by
          rw [hV]; simp only [sp_alike, tN, nI_clamp (show r < 2 ^ 31 by omega), nI_clamp (show q < 2 ^ 31 by omega), g1, g2, g3, Bool.and_false, Bool.false_and, Bool.and_true, Bool.true_and, Bool.and_self, sp_f, sp_tf, sp_tt]; rw [nI_clamp (show r < 2 ^ 31 by omega), nI_clamp (show q < 2 ^ 31 by omega)]
        have loop : ∀ (n k : Nat), k + n = 12 → al (fun k => rw12 rd r k = rw12 rd q k) (fun _ => inferInstance) k = 1 → ∀ ls : Array Slot, lv_has ls 4 [(0, .ref h), (1, .int (nI r)), (2, .int (nI q)), (3, .int (nI k))] → W p l e (headSpec wsX0_alike tv_rmP).room s m ([.ref h, .int (nI r), .int (nI q)] : List Value).toArray below meth c s.heap [] 0 0 (vx_MQ below (tv_QP D cI cZ cL (tv_cw cI cZ h a1 a2 a3 a4) (tv_cw cI cZ h a1 a2 a3 a4 (rd, lv, op, nt)) s.heap.size V) (tv_XP V) ([.ref h, .int (nI r), .int (nI q)] : List Value).toArray s 1 6 (va_A (tv_cw cI cZ h a1 a2 a3 a4 (rd, lv, op, nt)) s.heap.size)) (F0 m 15 ls []) := by
          intro n
          induction n with
          | zero =>
            intro k hk hp ls hl
            have hk2 : k = 12 := by omega
            subst hk2
            refine lv_iload_n hx hb dX0_alike_15 rfl (lv_at hl 3 rfl) ?_
            refine lv_bipush (v := 12) hx hb dX0_alike_16 (by decide) ?_
            refine lv_icmp_ge (tgt := 52) hx hb dX0_alike_18 (by decide) (fun c_1 => ?_) (fun c_1 => ?_)
            · skip
              refine lv_iconst (v := 1) hx hb dX0_alike_52 (by decide) ?_
              refine tv_top (al (fun k => rw12 rd r k = rw12 rd q k) (fun _ => inferInstance) 12) hp.symm ?_
              exact tv_zretP (al01 12) (wf := tv_cw cI cZ h a1 a2 a3 a4) (σ := (rd, lv, op, nt)) (r := al (fun k => rw12 rd r k = rw12 rd q k) (fun _ => inferInstance) 12) hAe hV0 hx hb hr hP hK hD hS dX0_alike_53 hlocks
            · exact absurd (show nI 12 ≤ nI 12 from nI_le (Nat.le_refl _) (by omega)) c_1
          | succ n ih =>
            intro k hk hp ls hl
            refine lv_iload_n hx hb dX0_alike_15 rfl (lv_at hl 3 rfl) ?_
            refine lv_bipush (v := 12) hx hb dX0_alike_16 (by decide) ?_
            refine lv_icmp_ge (tgt := 52) hx hb dX0_alike_18 (by decide) (fun c_2 => ?_) (fun c_2 => ?_)
            · exact absurd (show nI 12 ≤ nI k from c_2) (nI_ge (by omega) (by omega))
            · skip
              refine lv_aload_n hx hb dX0_alike_21 rfl (lv_at hl 0 rfl) ?_
              refine va_get (D := D) (ci := 0) (v := .ref a1) (C := RX0) (T := TX0) (N := 4) hx hb hts iX0_alike hown hK hP 0 rfl rfl 0 (by decide) (hts (.fieldLink RX0 9 "TideHouse" "readings" "[I") (by decide +kernel)) (fun _ h9 => h9) rfl dX0_alike_22 ?_
              refine lv_iload_n hx hb dX0_alike_25 rfl (lv_at hl 1 rfl) ?_
              refine lv_iload_n hx hb dX0_alike_26 rfl (lv_at hl 3 rfl) ?_
              refine tv_callR (W.runS (As := [.int (nI r), .int (nI k)]) (rest := [.ref a1]) ⟨hx, hb, hml, hown, hts⟩ (c_X0_spot l r k) (va_cwS 2 hts gX0_alike_X0_spot rfl rfl rfl (by decide +kernel) ⟨Nat.le_of_ble_eq_true rfl, Nat.le_of_ble_eq_true rfl⟩) preEq rfl rfl hl.1 rfl (lv_room (Nat.le_of_ble_eq_true rfl)) dX0_alike_27 ⟨Nat.le_of_ble_eq_true rfl, Nat.le_of_ble_eq_true rfl⟩) ?_
              refine tv_iald (D := D) (cA := cI) (n := 96) (f := rd) (k := (12 * r + k)) hx hb hK hP 1 0 rfl rfl (by omega) (by omega) dX0_alike_30 ?_
              refine lv_aload_n hx hb dX0_alike_31 rfl (lv_at hl 0 rfl) ?_
              refine va_get (D := D) (ci := 0) (v := .ref a1) (C := RX0) (T := TX0) (N := 4) hx hb hts iX0_alike hown hK hP 0 rfl rfl 0 (by decide) (hts (.fieldLink RX0 9 "TideHouse" "readings" "[I") (by decide +kernel)) (fun _ h9 => h9) rfl dX0_alike_32 ?_
              refine lv_iload_n hx hb dX0_alike_35 rfl (lv_at hl 2 rfl) ?_
              refine lv_iload_n hx hb dX0_alike_36 rfl (lv_at hl 3 rfl) ?_
              refine tv_callR (W.runS (As := [.int (nI q), .int (nI k)]) (rest := [.ref a1, .int (rd (12 * r + k))]) ⟨hx, hb, hml, hown, hts⟩ (c_X0_spot l q k) (va_cwS 2 hts gX0_alike_X0_spot rfl rfl rfl (by decide +kernel) ⟨Nat.le_of_ble_eq_true rfl, Nat.le_of_ble_eq_true rfl⟩) preEq rfl rfl hl.1 rfl (lv_room (Nat.le_of_ble_eq_true rfl)) dX0_alike_37 ⟨Nat.le_of_ble_eq_true rfl, Nat.le_of_ble_eq_true rfl⟩) ?_
              refine tv_iald (D := D) (cA := cI) (n := 96) (f := rd) (k := (12 * q + k)) hx hb hK hP 1 0 rfl rfl (by omega) (by omega) dX0_alike_40 ?_
              refine lv_icmp_eq (tgt := 46) hx hb dX0_alike_41 (by decide) (fun c_3 => ?_) (fun c_3 => ?_)
              · skip
                refine lv_iinc (v := nI (k + 1)) (lv' := [(3, .int (nI (k + 1))), (0, .ref h), (1, .int (nI r)), (2, .int (nI q))]) hx hb dX0_alike_46 hl (k := 3) rfl (nI_1 k) (by decide) rfl (fun ls hl => ?_)
                refine lv_goto (tgt := 15) hx hb dX0_alike_49 (by decide) ?_
                exact ih (k + 1) (by omega) (al_s hp c_3) ls (lv_sub hl [1, 2, 3, 0] rfl)
              · skip
                refine lv_iconst (v := 0) hx hb dX0_alike_44 (by decide) ?_
                refine tv_top (al (fun k => rw12 rd r k = rw12 rd q k) (fun _ => inferInstance) 12) (((show 12 = k + 1 + (11 - k) by omega) ▸ (al_f (p := (fun k => rw12 rd r k = rw12 rd q k)) c_3 (11 - k))).symm) ?_
                exact tv_zretP (al01 12) (wf := tv_cw cI cZ h a1 a2 a3 a4) (σ := (rd, lv, op, nt)) (r := al (fun k => rw12 rd r k = rw12 rd q k) (fun _ => inferInstance) 12) hAe hV0 hx hb hr hP hK hD hS dX0_alike_45 hlocks
        exact loop 12 0 (by omega) rfl ls (by rw [show nI 0 = 0 from nI_0]; exact lv_sub hl [1, 2, 3, 0] rfl)
theorem iX0_merge : ∀ w ∈ wsX00, w ∈ wsX0_merge := by decide +kernel
set_option maxHeartbeats 4000000 in
set_option maxRecDepth 100000 in
theorem c_X0_merge (l : Launch) (hT : l.stackTraces = false) (D : va_G) (cI cZ cL : ClassId) (h a1 a2 a3 a4 : Nat) (rd lv op nt : Nat → Int32) (sz : Nat) (x1 x2 x3 x4 : Int32) (V : TV) (hV : V = sp_merge x1 x2 x3 x4 (rd, lv, op, nt)) : vx_Met l yX0_merge wsX0_merge tv_rmP (tv_PP D cI cZ cL (tv_cw cI cZ h a1 a2 a3 a4 (rd, lv, op, nt)) sz [.ref h, .int x1, .int x2, .int x3, .int x4]) (tv_QP D cI cZ cL (tv_cw cI cZ h a1 a2 a3 a4) (tv_cw cI cZ h a1 a2 a3 a4 (rd, lv, op, nt)) sz V) (tv_XP V) 1 6 (va_A (tv_cw cI cZ h a1 a2 a3 a4 (rd, lv, op, nt)) sz) := by
  refine vx_ofW (cc := cX0_merge) (maxL := 10) (ret := (some .int)) (by decide) rfl ?_
  intro p e s m args below meth c s₁ B hml htab hv
  obtain ⟨rfl, hsz, hP, hK, hD0, hE⟩ := hv
  subst hsz
  have hx := B.exec
  have hb := B.bytes
  have hr := B.returns
  have hts := atoms_spec (ws := wsX0_merge) B.pre
  have hown : s.vm.findClass RX0 = some m.cls := findClass_of_methodNamed B.named
  have hlocks := B.notSynchronized
  have hD := hD0.self (sz := s.heap.size)
  obtain ⟨A, hAe⟩ : ∃ A, A = va_A (tv_cw cI cZ h a1 a2 a3 a4 (rd, lv, op, nt)) s.heap.size := ⟨_, rfl⟩
  rw [← hAe] at hD hE
  have hA : ∀ q : Nat, s.heap.size ≤ q → A q := fun q h => by rw [hAe]; exact Or.inr h
  have hS : va_S A s.heap s.heap [] := va_S.rf
  clear hD0
  have hl := lv_entry ([.ref h, .int x1, .int x2, .int x3, .int x4]) (n := 10) (Nat.le_of_ble_eq_true rfl)
  rw [lg_entry_eq]
  generalize (lg_sl ([.ref h, .int x1, .int x2, .int x3, .int x4]) ++ List.replicate (10 - (lg_sl ([.ref h, .int x1, .int x2, .int x3, .int x4])).length) Slot.unset).toArray = ls at hl ⊢
  have hl : lv_has ls 10 [(0, .ref h), (1, .int x1), (2, .int x2), (3, .int x3), (4, .int x4)] := hl
  refine lv_iload_n hx hb dX0_merge_0 rfl (lv_at hl 1 rfl) ?_
  cases g1 : tv_in 8 x1 with
  | false =>
    have hV1 : V = (1, 0, (rd, lv, op, nt)) := by rw [hV]; simp only [sp_merge, g1, Bool.and_false, Bool.false_and, Bool.and_true, Bool.true_and, Bool.and_self, sp_f, sp_tf, sp_tt]
    exact tv_callT (a := #[]) (vx_runS (As := [.int x1]) (rest := []) ⟨hx, hb, hml, hown, hts⟩ (t_X0_needRow l hT x1 g1) (va_cwS 1 hts gX0_merge_X0_needRow rfl rfl rfl (by decide +kernel) ⟨Nat.le_of_ble_eq_true rfl, Nat.le_of_ble_eq_true rfl⟩) (tv_preT hE hS) rfl rfl hl.1 rfl (lv_room (Nat.le_of_ble_eq_true rfl)) dX0_merge_1 ⟨Nat.le_of_ble_eq_true rfl, Nat.le_of_ble_eq_true rfl⟩) htab hlocks (fun t hz hk => ⟨(), by rw [hV1]; exact (by decide : (1 : Int32) ≠ 0), by rw [hV1]; rfl, hz, fun q hq _ => hk q hq⟩) (fun z h => nomatch h) (Nat.le_of_ble_eq_true rfl) (Nat.le_of_ble_eq_true rfl)
  | true =>
    refine tv_callN (W.runS (As := [.int x1]) (rest := []) ⟨hx, hb, hml, hown, hts⟩ (n_X0_needRow l x1 g1) (va_cwS 1 hts gX0_merge_X0_needRow rfl rfl rfl (by decide +kernel) ⟨Nat.le_of_ble_eq_true rfl, Nat.le_of_ble_eq_true rfl⟩) preEq rfl rfl hl.1 rfl (lv_room (Nat.le_of_ble_eq_true rfl)) dX0_merge_1 ⟨Nat.le_of_ble_eq_true rfl, Nat.le_of_ble_eq_true rfl⟩) ?_
    obtain ⟨r, hr8, rfl⟩ := tv_in_of (by omega) g1
    refine lv_iload_n hx hb dX0_merge_4 rfl (lv_at hl 2 rfl) ?_
    cases g2 : tv_in 8 x2 with
    | false =>
      have hV1 : V = (1, 0, (rd, lv, op, nt)) := by rw [hV]; simp only [sp_merge, g1, g2, Bool.and_false, Bool.false_and, Bool.and_true, Bool.true_and, Bool.and_self, sp_f, sp_tf, sp_tt]
      exact tv_callT (a := #[]) (vx_runS (As := [.int x2]) (rest := []) ⟨hx, hb, hml, hown, hts⟩ (t_X0_needRow l hT x2 g2) (va_cwS 1 hts gX0_merge_X0_needRow rfl rfl rfl (by decide +kernel) ⟨Nat.le_of_ble_eq_true rfl, Nat.le_of_ble_eq_true rfl⟩) (tv_preT hE hS) rfl rfl hl.1 rfl (lv_room (Nat.le_of_ble_eq_true rfl)) dX0_merge_5 ⟨Nat.le_of_ble_eq_true rfl, Nat.le_of_ble_eq_true rfl⟩) htab hlocks (fun t hz hk => ⟨(), by rw [hV1]; exact (by decide : (1 : Int32) ≠ 0), by rw [hV1]; rfl, hz, fun q hq _ => hk q hq⟩) (fun z h => nomatch h) (Nat.le_of_ble_eq_true rfl) (Nat.le_of_ble_eq_true rfl)
    | true =>
      refine tv_callN (W.runS (As := [.int x2]) (rest := []) ⟨hx, hb, hml, hown, hts⟩ (n_X0_needRow l x2 g2) (va_cwS 1 hts gX0_merge_X0_needRow rfl rfl rfl (by decide +kernel) ⟨Nat.le_of_ble_eq_true rfl, Nat.le_of_ble_eq_true rfl⟩) preEq rfl rfl hl.1 rfl (lv_room (Nat.le_of_ble_eq_true rfl)) dX0_merge_5 ⟨Nat.le_of_ble_eq_true rfl, Nat.le_of_ble_eq_true rfl⟩) ?_
      obtain ⟨q, hq8, rfl⟩ := tv_in_of (by omega) g2
      refine lv_iload_n hx hb dX0_merge_8 rfl (lv_at hl 3 rfl) ?_
      cases g3 : tv_in 8 x3 with
      | false =>
        have hV1 : V = (1, 0, (rd, lv, op, nt)) := by rw [hV]; simp only [sp_merge, g1, g2, g3, Bool.and_false, Bool.false_and, Bool.and_true, Bool.true_and, Bool.and_self, sp_f, sp_tf, sp_tt]
        exact tv_callT (a := #[]) (vx_runS (As := [.int x3]) (rest := []) ⟨hx, hb, hml, hown, hts⟩ (t_X0_needRow l hT x3 g3) (va_cwS 1 hts gX0_merge_X0_needRow rfl rfl rfl (by decide +kernel) ⟨Nat.le_of_ble_eq_true rfl, Nat.le_of_ble_eq_true rfl⟩) (tv_preT hE hS) rfl rfl hl.1 rfl (lv_room (Nat.le_of_ble_eq_true rfl)) dX0_merge_9 ⟨Nat.le_of_ble_eq_true rfl, Nat.le_of_ble_eq_true rfl⟩) htab hlocks (fun t hz hk => ⟨(), by rw [hV1]; exact (by decide : (1 : Int32) ≠ 0), by rw [hV1]; rfl, hz, fun q hq _ => hk q hq⟩) (fun z h => nomatch h) (Nat.le_of_ble_eq_true rfl) (Nat.le_of_ble_eq_true rfl)
      | true =>
        refine tv_callN (W.runS (As := [.int x3]) (rest := []) ⟨hx, hb, hml, hown, hts⟩ (n_X0_needRow l x3 g3) (va_cwS 1 hts gX0_merge_X0_needRow rfl rfl rfl (by decide +kernel) ⟨Nat.le_of_ble_eq_true rfl, Nat.le_of_ble_eq_true rfl⟩) preEq rfl rfl hl.1 rfl (lv_room (Nat.le_of_ble_eq_true rfl)) dX0_merge_9 ⟨Nat.le_of_ble_eq_true rfl, Nat.le_of_ble_eq_true rfl⟩) ?_
        obtain ⟨t, ht8, rfl⟩ := tv_in_of (by omega) g3
        refine lv_iload hx hb dX0_merge_12 (lv_at hl 4 rfl) ?_
        cases g4 : tv_sg x4 with
        | false =>
          have hV1 : V = (2, 0, (rd, lv, op, nt)) := by rw [hV]; simp only [sp_merge, g1, g2, g3, g4, Bool.and_false, Bool.false_and, Bool.and_true, Bool.true_and, Bool.and_self, sp_f, sp_tf, sp_tt]
          exact tv_callT (a := #[]) (vx_runS (As := [.int x4]) (rest := []) ⟨hx, hb, hml, hown, hts⟩ (t_X0_needSign l hT x4 g4) (va_cwS 1 hts gX0_merge_X0_needSign rfl rfl rfl (by decide +kernel) ⟨Nat.le_of_ble_eq_true rfl, Nat.le_of_ble_eq_true rfl⟩) (tv_preT hE hS) rfl rfl hl.1 rfl (lv_room (Nat.le_of_ble_eq_true rfl)) dX0_merge_14 ⟨Nat.le_of_ble_eq_true rfl, Nat.le_of_ble_eq_true rfl⟩) htab hlocks (fun t hz hk => ⟨(), by rw [hV1]; exact (by decide : (2 : Int32) ≠ 0), by rw [hV1]; rfl, hz, fun q hq _ => hk q hq⟩) (fun z h => nomatch h) (Nat.le_of_ble_eq_true rfl) (Nat.le_of_ble_eq_true rfl)
        | true =>
          refine tv_callN (W.runS (As := [.int x4]) (rest := []) ⟨hx, hb, hml, hown, hts⟩ (n_X0_needSign l x4 g4) (va_cwS 1 hts gX0_merge_X0_needSign rfl rfl rfl (by decide +kernel) ⟨Nat.le_of_ble_eq_true rfl, Nat.le_of_ble_eq_true rfl⟩) preEq rfl rfl hl.1 rfl (lv_room (Nat.le_of_ble_eq_true rfl)) dX0_merge_14 ⟨Nat.le_of_ble_eq_true rfl, Nat.le_of_ble_eq_true rfl⟩) ?_
          refine lv_iload_n hx hb dX0_merge_17 rfl (lv_at hl 1 rfl) ?_
          refine lv_iload_n hx hb dX0_merge_18 rfl (lv_at hl 2 rfl) ?_
          cases g5 : tv_os (nI r) (nI q) with
          | false =>
            have hV1 : V = (2, 0, (rd, lv, op, nt)) := by rw [hV]; simp only [sp_merge, g1, g2, g3, g4, g5, Bool.and_false, Bool.false_and, Bool.and_true, Bool.true_and, Bool.and_self, sp_f, sp_tf, sp_tt]
            exact tv_callT (a := #[]) (vx_runS (As := [.int (nI r), .int (nI q)]) (rest := []) ⟨hx, hb, hml, hown, hts⟩ (t_X0_needOneSort l hT r q g5 hr8 hq8) (va_cwS 2 hts gX0_merge_X0_needOneSort rfl rfl rfl (by decide +kernel) ⟨Nat.le_of_ble_eq_true rfl, Nat.le_of_ble_eq_true rfl⟩) (tv_preT hE hS) rfl rfl hl.1 rfl (lv_room (Nat.le_of_ble_eq_true rfl)) dX0_merge_19 ⟨Nat.le_of_ble_eq_true rfl, Nat.le_of_ble_eq_true rfl⟩) htab hlocks (fun t hz hk => ⟨(), by rw [hV1]; exact (by decide : (2 : Int32) ≠ 0), by rw [hV1]; rfl, hz, fun q hq _ => hk q hq⟩) (fun z h => nomatch h) (Nat.le_of_ble_eq_true rfl) (Nat.le_of_ble_eq_true rfl)
          | true =>
            refine tv_callN (W.runS (As := [.int (nI r), .int (nI q)]) (rest := []) ⟨hx, hb, hml, hown, hts⟩ (n_X0_needOneSort l r q g5 hr8 hq8) (va_cwS 2 hts gX0_merge_X0_needOneSort rfl rfl rfl (by decide +kernel) ⟨Nat.le_of_ble_eq_true rfl, Nat.le_of_ble_eq_true rfl⟩) preEq rfl rfl hl.1 rfl (lv_room (Nat.le_of_ble_eq_true rfl)) dX0_merge_19 ⟨Nat.le_of_ble_eq_true rfl, Nat.le_of_ble_eq_true rfl⟩) ?_
            refine lv_iload_n hx hb dX0_merge_22 rfl (lv_at hl 1 rfl) ?_
            refine lv_iload_n hx hb dX0_merge_23 rfl (lv_at hl 3 rfl) ?_
            cases g6 : tv_os (nI r) (nI t) with
            | false =>
              have hV1 : V = (2, 0, (rd, lv, op, nt)) := by rw [hV]; simp only [sp_merge, g1, g2, g3, g4, g5, g6, Bool.and_false, Bool.false_and, Bool.and_true, Bool.true_and, Bool.and_self, sp_f, sp_tf, sp_tt]
              exact tv_callT (a := #[]) (vx_runS (As := [.int (nI r), .int (nI t)]) (rest := []) ⟨hx, hb, hml, hown, hts⟩ (t_X0_needOneSort l hT r t g6 hr8 ht8) (va_cwS 2 hts gX0_merge_X0_needOneSort rfl rfl rfl (by decide +kernel) ⟨Nat.le_of_ble_eq_true rfl, Nat.le_of_ble_eq_true rfl⟩) (tv_preT hE hS) rfl rfl hl.1 rfl (lv_room (Nat.le_of_ble_eq_true rfl)) dX0_merge_24 ⟨Nat.le_of_ble_eq_true rfl, Nat.le_of_ble_eq_true rfl⟩) htab hlocks (fun t hz hk => ⟨(), by rw [hV1]; exact (by decide : (2 : Int32) ≠ 0), by rw [hV1]; rfl, hz, fun q hq _ => hk q hq⟩) (fun z h => nomatch h) (Nat.le_of_ble_eq_true rfl) (Nat.le_of_ble_eq_true rfl)
            | true =>
              refine tv_callN (W.runS (As := [.int (nI r), .int (nI t)]) (rest := []) ⟨hx, hb, hml, hown, hts⟩ (n_X0_needOneSort l r t g6 hr8 ht8) (va_cwS 2 hts gX0_merge_X0_needOneSort rfl rfl rfl (by decide +kernel) ⟨Nat.le_of_ble_eq_true rfl, Nat.le_of_ble_eq_true rfl⟩) preEq rfl rfl hl.1 rfl (lv_room (Nat.le_of_ble_eq_true rfl)) dX0_merge_24 ⟨Nat.le_of_ble_eq_true rfl, Nat.le_of_ble_eq_true rfl⟩) ?_
              refine lv_iload_n hx hb dX0_merge_27 rfl (lv_at hl 3 rfl) ?_
              refine lv_iload_n hx hb dX0_merge_28 rfl (lv_at hl 1 rfl) ?_
              cases g7 : (!(decide (nI t = nI r))) with
              | false =>
                have hV1 : V = (2, 0, (rd, lv, op, nt)) := by rw [hV]; simp only [sp_merge, g1, g2, g3, g4, g5, g6, g7, Bool.and_false, Bool.false_and, Bool.and_true, Bool.true_and, Bool.and_self, sp_f, sp_tf, sp_tt]
                exact tv_callT (a := #[]) (vx_runS (As := [.int (nI t), .int (nI r)]) (rest := []) ⟨hx, hb, hml, hown, hts⟩ (t_X0_needApart l hT (nI t) (nI r) g7) (va_cwS 2 hts gX0_merge_X0_needApart rfl rfl rfl (by decide +kernel) ⟨Nat.le_of_ble_eq_true rfl, Nat.le_of_ble_eq_true rfl⟩) (tv_preT hE hS) rfl rfl hl.1 rfl (lv_room (Nat.le_of_ble_eq_true rfl)) dX0_merge_29 ⟨Nat.le_of_ble_eq_true rfl, Nat.le_of_ble_eq_true rfl⟩) htab hlocks (fun t hz hk => ⟨(), by rw [hV1]; exact (by decide : (2 : Int32) ≠ 0), by rw [hV1]; rfl, hz, fun q hq _ => hk q hq⟩) (fun z h => nomatch h) (Nat.le_of_ble_eq_true rfl) (Nat.le_of_ble_eq_true rfl)
              | true =>
                refine tv_callN (W.runS (As := [.int (nI t), .int (nI r)]) (rest := []) ⟨hx, hb, hml, hown, hts⟩ (n_X0_needApart l (nI t) (nI r) g7) (va_cwS 2 hts gX0_merge_X0_needApart rfl rfl rfl (by decide +kernel) ⟨Nat.le_of_ble_eq_true rfl, Nat.le_of_ble_eq_true rfl⟩) preEq rfl rfl hl.1 rfl (lv_room (Nat.le_of_ble_eq_true rfl)) dX0_merge_29 ⟨Nat.le_of_ble_eq_true rfl, Nat.le_of_ble_eq_true rfl⟩) ?_
                refine lv_iload_n hx hb dX0_merge_32 rfl (lv_at hl 3 rfl) ?_
                refine lv_iload_n hx hb dX0_merge_33 rfl (lv_at hl 2 rfl) ?_
                cases g8 : (!(decide (nI t = nI q))) with
                | false =>
                  have hV1 : V = (2, 0, (rd, lv, op, nt)) := by rw [hV]; simp only [sp_merge, g1, g2, g3, g4, g5, g6, g7, g8, Bool.and_false, Bool.false_and, Bool.and_true, Bool.true_and, Bool.and_self, sp_f, sp_tf, sp_tt]
                  exact tv_callT (a := #[]) (vx_runS (As := [.int (nI t), .int (nI q)]) (rest := []) ⟨hx, hb, hml, hown, hts⟩ (t_X0_needApart l hT (nI t) (nI q) g8) (va_cwS 2 hts gX0_merge_X0_needApart rfl rfl rfl (by decide +kernel) ⟨Nat.le_of_ble_eq_true rfl, Nat.le_of_ble_eq_true rfl⟩) (tv_preT hE hS) rfl rfl hl.1 rfl (lv_room (Nat.le_of_ble_eq_true rfl)) dX0_merge_34 ⟨Nat.le_of_ble_eq_true rfl, Nat.le_of_ble_eq_true rfl⟩) htab hlocks (fun t hz hk => ⟨(), by rw [hV1]; exact (by decide : (2 : Int32) ≠ 0), by rw [hV1]; rfl, hz, fun q hq _ => hk q hq⟩) (fun z h => nomatch h) (Nat.le_of_ble_eq_true rfl) (Nat.le_of_ble_eq_true rfl)
                | true =>
                  refine tv_callN (W.runS (As := [.int (nI t), .int (nI q)]) (rest := []) ⟨hx, hb, hml, hown, hts⟩ (n_X0_needApart l (nI t) (nI q) g8) (va_cwS 2 hts gX0_merge_X0_needApart rfl rfl rfl (by decide +kernel) ⟨Nat.le_of_ble_eq_true rfl, Nat.le_of_ble_eq_true rfl⟩) preEq rfl rfl hl.1 rfl (lv_room (Nat.le_of_ble_eq_true rfl)) dX0_merge_34 ⟨Nat.le_of_ble_eq_true rfl, Nat.le_of_ble_eq_true rfl⟩) ?_
                  refine lv_iconst (v := 0) hx hb dX0_merge_37 (by decide) ?_
                  refine lv_istore (lv' := [(5, .int 0), (0, .ref h), (1, .int (nI r)), (2, .int (nI q)), (3, .int (nI t)), (4, .int x4)]) hx hb dX0_merge_38 hl (by decide) rfl (fun ls hl => ?_)
                  refine lv_iconst (v := 0) hx hb dX0_merge_40 (by decide) ?_
                  refine lv_istore (lv' := [(6, .int 0), (5, .int 0), (0, .ref h), (1, .int (nI r)), (2, .int (nI q)), (3, .int (nI t)), (4, .int x4)]) hx hb dX0_merge_41 hl (by decide) rfl (fun ls hl => ?_)
                  have hV0 : V = (0, nI (mg x4 r q t rd 12).2, ((mg x4 r q t rd 12).1, lv, op, nt)) := by
                    rw [hV]; simp only [sp_merge, tN, nI_clamp (show r < 2 ^ 31 by omega), nI_clamp (show q < 2 ^ 31 by omega), nI_clamp (show t < 2 ^ 31 by omega), g1, g2, g3, g4, g5, g6, g7, g8, Bool.and_false, Bool.false_and, Bool.and_true, Bool.true_and, Bool.and_self, sp_f, sp_tf, sp_tt]
                  have loop : ∀ (n k : Nat), k + n = 12 → ∀ (H : Heap) (locs : List Loc), va_P D vwCl (tv_cw cI cZ h a1 a2 a3 a4 ((mg x4 r q t rd k).1, lv, op, nt)) H → va_D A (tv_cw cI cZ h a1 a2 a3 a4 ((mg x4 r q t rd k).1, lv, op, nt)) → va_S A s.heap H locs → ∀ ls : Array Slot, lv_has ls 10 [(0, .ref h), (1, .int (nI r)), (2, .int (nI q)), (3, .int (nI t)), (4, .int x4), (5, .int (nI (mg x4 r q t rd k).2)), (6, .int (nI k))] → W p l e (headSpec wsX0_merge tv_rmP).room s m ([.ref h, .int (nI r), .int (nI q), .int (nI t), .int x4] : List Value).toArray below meth c H locs 0 0 (vx_MQ below (tv_QP D cI cZ cL (tv_cw cI cZ h a1 a2 a3 a4) (tv_cw cI cZ h a1 a2 a3 a4 (rd, lv, op, nt)) s.heap.size V) (tv_XP V) ([.ref h, .int (nI r), .int (nI q), .int (nI t), .int x4] : List Value).toArray s 1 6 (va_A (tv_cw cI cZ h a1 a2 a3 a4 (rd, lv, op, nt)) s.heap.size)) (F0 m 43 ls []) := by
                    intro n
                    induction n with
                    | zero =>
                      intro k hk H locs hP hD hS ls hl
                      have hk2 : k = 12 := by omega
                      subst hk2
                      refine lv_iload hx hb dX0_merge_43 (lv_at hl 6 rfl) ?_
                      refine lv_bipush (v := 12) hx hb dX0_merge_45 (by decide) ?_
                      refine lv_icmp_ge (tgt := 127) hx hb dX0_merge_47 (by decide) (fun c_1 => ?_) (fun c_1 => ?_)
                      · skip
                        refine lv_iload hx hb dX0_merge_127 (lv_at hl 5 rfl) ?_
                        exact tv_iretP (wf := tv_cw cI cZ h a1 a2 a3 a4) (σ := ((mg x4 r q t rd 12).1, lv, op, nt)) (r := nI (mg x4 r q t rd 12).2) hAe hV0 hx hb hr hP hK hD hS dX0_merge_129 hlocks
                      · exact absurd (show nI 12 ≤ nI 12 from nI_le (Nat.le_refl _) (by omega)) c_1
                    | succ n ih =>
                      intro k hk H locs hP hD hS ls hl
                      have hm1 := mg_le x4 r q t rd k
                      refine lv_iload hx hb dX0_merge_43 (lv_at hl 6 rfl) ?_
                      refine lv_bipush (v := 12) hx hb dX0_merge_45 (by decide) ?_
                      refine lv_icmp_ge (tgt := 127) hx hb dX0_merge_47 (by decide) (fun c_2 => ?_) (fun c_2 => ?_)
                      · exact absurd (show nI 12 ≤ nI k from c_2) (nI_ge (by omega) (by omega))
                      · skip
                        refine lv_aload_n hx hb dX0_merge_50 rfl (lv_at hl 0 rfl) ?_
                        refine va_get (D := D) (ci := 0) (v := .ref a1) (C := RX0) (T := TX0) (N := 4) hx hb hts iX0_merge hown hK hP 0 rfl rfl 0 (by decide) (hts (.fieldLink RX0 9 "TideHouse" "readings" "[I") (by decide +kernel)) (fun _ h9 => h9) rfl dX0_merge_51 ?_
                        refine lv_iload_n hx hb dX0_merge_54 rfl (lv_at hl 1 rfl) ?_
                        refine lv_iload hx hb dX0_merge_55 (lv_at hl 5 rfl) ?_
                        refine tv_callR (W.runS (As := [.int (nI r), .int (nI (mg x4 r q t rd k).2)]) (rest := [.ref a1]) ⟨hx, hb, hml, hown, hts⟩ (c_X0_spot l r ((mg x4 r q t rd k).2)) (va_cwS 2 hts gX0_merge_X0_spot rfl rfl rfl (by decide +kernel) ⟨Nat.le_of_ble_eq_true rfl, Nat.le_of_ble_eq_true rfl⟩) preEq rfl rfl hl.1 rfl (lv_room (Nat.le_of_ble_eq_true rfl)) dX0_merge_57 ⟨Nat.le_of_ble_eq_true rfl, Nat.le_of_ble_eq_true rfl⟩) ?_
                        refine tv_iald (D := D) (cA := cI) (n := 96) (f := (mg x4 r q t rd k).1) (k := (12 * r + ((mg x4 r q t rd k).2))) hx hb hK hP 1 0 rfl rfl (by omega) (by omega) dX0_merge_60 ?_
                        refine lv_istore (lv' := [(7, .int (((mg x4 r q t rd k).1) (12 * r + ((mg x4 r q t rd k).2)))), (0, .ref h), (1, .int (nI r)), (2, .int (nI q)), (3, .int (nI t)), (4, .int x4), (5, .int (nI (mg x4 r q t rd k).2)), (6, .int (nI k))]) hx hb dX0_merge_61 hl (by decide) rfl (fun ls hl => ?_)
                        refine lv_aload_n hx hb dX0_merge_63 rfl (lv_at hl 1 rfl) ?_
                        refine va_get (D := D) (ci := 0) (v := .ref a1) (C := RX0) (T := TX0) (N := 4) hx hb hts iX0_merge hown hK hP 0 rfl rfl 0 (by decide) (hts (.fieldLink RX0 9 "TideHouse" "readings" "[I") (by decide +kernel)) (fun _ h9 => h9) rfl dX0_merge_64 ?_
                        refine lv_iload_n hx hb dX0_merge_67 rfl (lv_at hl 3 rfl) ?_
                        refine lv_iload hx hb dX0_merge_68 (lv_at hl 7 rfl) ?_
                        refine lv_iload hx hb dX0_merge_70 (lv_at hl 6 rfl) ?_
                        refine lv_isub hx hb dX0_merge_72 ?_
                        refine tv_top (nI (k - (mg x4 r q t rd k).2)) (pk_sub hm1) ?_
                        refine tv_callR (W.runS (As := [.int (nI q), .int (nI (k - (mg x4 r q t rd k).2))]) (rest := [.ref a1]) ⟨hx, hb, hml, hown, hts⟩ (c_X0_spot l q (k - (mg x4 r q t rd k).2)) (va_cwS 2 hts gX0_merge_X0_spot rfl rfl rfl (by decide +kernel) ⟨Nat.le_of_ble_eq_true rfl, Nat.le_of_ble_eq_true rfl⟩) preEq rfl rfl hl.1 rfl (lv_room (Nat.le_of_ble_eq_true rfl)) dX0_merge_73 ⟨Nat.le_of_ble_eq_true rfl, Nat.le_of_ble_eq_true rfl⟩) ?_
                        refine tv_iald (D := D) (cA := cI) (n := 96) (f := (mg x4 r q t rd k).1) (k := (12 * q + (k - (mg x4 r q t rd k).2))) hx hb hK hP 1 0 rfl rfl (by omega) (by omega) dX0_merge_76 ?_
                        refine lv_istore (lv' := [(8, .int (((mg x4 r q t rd k).1) (12 * q + (k - (mg x4 r q t rd k).2)))), (7, .int (((mg x4 r q t rd k).1) (12 * r + ((mg x4 r q t rd k).2)))), (0, .ref h), (1, .int (nI r)), (2, .int (nI q)), (3, .int (nI t)), (4, .int x4), (5, .int (nI (mg x4 r q t rd k).2)), (6, .int (nI k))]) hx hb dX0_merge_77 hl (by decide) rfl (fun ls hl => ?_)
                        refine lv_iload hx hb dX0_merge_79 (lv_at hl 6 rfl) ?_
                        refine lv_iload hx hb dX0_merge_81 (lv_at hl 1 rfl) ?_
                        refine lv_iload hx hb dX0_merge_83 (lv_at hl 0 rfl) ?_
                        refine tv_callR (W.runS (As := [.int x4, .int (((mg x4 r q t rd k).1) (12 * r + ((mg x4 r q t rd k).2))), .int (((mg x4 r q t rd k).1) (12 * q + (k - (mg x4 r q t rd k).2)))]) (rest := []) ⟨hx, hb, hml, hown, hts⟩ (c_X0_isTrue l x4 (((mg x4 r q t rd k).1) (12 * r + ((mg x4 r q t rd k).2))) (((mg x4 r q t rd k).1) (12 * q + (k - (mg x4 r q t rd k).2)))) (va_cwS 3 hts gX0_merge_X0_isTrue rfl rfl rfl (by decide +kernel) ⟨Nat.le_of_ble_eq_true rfl, Nat.le_of_ble_eq_true rfl⟩) preEq rfl rfl hl.1 rfl (lv_room (Nat.le_of_ble_eq_true rfl)) dX0_merge_85 ⟨Nat.le_of_ble_eq_true rfl, Nat.le_of_ble_eq_true rfl⟩) ?_
                        refine lv_istore (lv' := [(9, .int (tq x4 (((mg x4 r q t rd k).1) (12 * r + ((mg x4 r q t rd k).2))) (((mg x4 r q t rd k).1) (12 * q + (k - (mg x4 r q t rd k).2))))), (8, .int (((mg x4 r q t rd k).1) (12 * q + (k - (mg x4 r q t rd k).2)))), (7, .int (((mg x4 r q t rd k).1) (12 * r + ((mg x4 r q t rd k).2)))), (0, .ref h), (1, .int (nI r)), (2, .int (nI q)), (3, .int (nI t)), (4, .int x4), (5, .int (nI (mg x4 r q t rd k).2)), (6, .int (nI k))]) hx hb dX0_merge_88 hl (by decide) rfl (fun ls hl => ?_)
                        refine lv_aload_n hx hb dX0_merge_90 rfl (lv_at hl 3 rfl) ?_
                        refine va_get (D := D) (ci := 0) (v := .ref a1) (C := RX0) (T := TX0) (N := 4) hx hb hts iX0_merge hown hK hP 0 rfl rfl 0 (by decide) (hts (.fieldLink RX0 9 "TideHouse" "readings" "[I") (by decide +kernel)) (fun _ h9 => h9) rfl dX0_merge_91 ?_
                        refine lv_iload_n hx hb dX0_merge_94 rfl (lv_at hl 6 rfl) ?_
                        refine lv_iload hx hb dX0_merge_95 (lv_at hl 9 rfl) ?_
                        refine tv_callR (W.runS (As := [.int (nI t), .int (nI k)]) (rest := [.ref a1]) ⟨hx, hb, hml, hown, hts⟩ (c_X0_spot l t k) (va_cwS 2 hts gX0_merge_X0_spot rfl rfl rfl (by decide +kernel) ⟨Nat.le_of_ble_eq_true rfl, Nat.le_of_ble_eq_true rfl⟩) preEq rfl rfl hl.1 rfl (lv_room (Nat.le_of_ble_eq_true rfl)) dX0_merge_97 ⟨Nat.le_of_ble_eq_true rfl, Nat.le_of_ble_eq_true rfl⟩) ?_
                        refine lv_iload hx hb dX0_merge_100 (lv_at hl 0 rfl) ?_
                        refine lv_if_eq (tgt := 110) hx hb dX0_merge_102 (by decide) (fun c_3 => ?_) (fun c_3 => ?_)
                        · have hm2 : (mg x4 r q t rd (k + 1)) = (upd (mg x4 r q t rd k).1 (12 * t + k) ((mg x4 r q t rd k).1 (12 * q + (k - (mg x4 r q t rd k).2))), (mg x4 r q t rd k).2) := by
                            rw [mg, if_pos c_3, if_pos c_3]
                          refine lv_iload hx hb dX0_merge_110 (lv_at hl 1 rfl) ?_
                          refine tv_iast (D := D) (cA := cI) (n := 96) (f := (mg x4 r q t rd k).1) (k := (12 * t + k)) (x := ((mg x4 r q t rd k).1) (12 * q + (k - (mg x4 r q t rd k).2))) (ws1 := tv_cw cI cZ h a1 a2 a3 a4 (upd ((mg x4 r q t rd k).1) (12 * t + k) (((mg x4 r q t rd k).1) (12 * q + (k - (mg x4 r q t rd k).2))), lv, op, nt)) hx hb hK hP hD hS 1 0 rfl rfl (by omega) (by omega) rfl dX0_merge_112 (fun H locs hP hD hS => ?_)
                          refine lv_iload hx hb dX0_merge_113 (lv_at hl 0 rfl) ?_
                          refine lv_if_eq (tgt := 121) hx hb dX0_merge_115 (by decide) (fun c_4 => ?_) (fun c_4 => ?_)
                          · skip
                            refine lv_iinc (v := nI (k + 1)) (lv' := [(6, .int (nI (k + 1))), (9, .int (tq x4 (((mg x4 r q t rd k).1) (12 * r + ((mg x4 r q t rd k).2))) (((mg x4 r q t rd k).1) (12 * q + (k - (mg x4 r q t rd k).2))))), (8, .int (((mg x4 r q t rd k).1) (12 * q + (k - (mg x4 r q t rd k).2)))), (7, .int (((mg x4 r q t rd k).1) (12 * r + ((mg x4 r q t rd k).2)))), (0, .ref h), (1, .int (nI r)), (2, .int (nI q)), (3, .int (nI t)), (4, .int x4), (5, .int (nI (mg x4 r q t rd k).2))]) hx hb dX0_merge_121 hl (k := 9) rfl (nI_1 k) (by decide) rfl (fun ls hl => ?_)
                            refine lv_goto (tgt := 43) hx hb dX0_merge_124 (by decide) ?_
                            have hP : va_P D vwCl (tv_cw cI cZ h a1 a2 a3 a4 ((mg x4 r q t rd (k + 1)).1, lv, op, nt)) H := by rw [hm2]; exact hP
                            have hD : va_D A (tv_cw cI cZ h a1 a2 a3 a4 ((mg x4 r q t rd (k + 1)).1, lv, op, nt)) := by rw [hm2]; exact hD
                            exact ih (k + 1) (by omega) H locs hP hD hS ls (by rw [show nI (mg x4 r q t rd (k + 1)).2 = nI (mg x4 r q t rd k).2 from by rw [hm2]]; exact lv_sub hl [4, 5, 6, 7, 8, 9, 0] rfl)
                          · exact absurd c_3 c_4
                        · have hm2 : (mg x4 r q t rd (k + 1)) = (upd (mg x4 r q t rd k).1 (12 * t + k) ((mg x4 r q t rd k).1 (12 * r + (mg x4 r q t rd k).2)), (mg x4 r q t rd k).2 + 1) := by
                            rw [mg, if_neg c_3, if_neg c_3]
                          refine lv_iload hx hb dX0_merge_105 (lv_at hl 2 rfl) ?_
                          refine lv_goto (tgt := 112) hx hb dX0_merge_107 (by decide) ?_
                          refine tv_iast (D := D) (cA := cI) (n := 96) (f := (mg x4 r q t rd k).1) (k := (12 * t + k)) (x := ((mg x4 r q t rd k).1) (12 * r + ((mg x4 r q t rd k).2))) (ws1 := tv_cw cI cZ h a1 a2 a3 a4 (upd ((mg x4 r q t rd k).1) (12 * t + k) (((mg x4 r q t rd k).1) (12 * r + ((mg x4 r q t rd k).2))), lv, op, nt)) hx hb hK hP hD hS 1 0 rfl rfl (by omega) (by omega) rfl dX0_merge_112 (fun H locs hP hD hS => ?_)
                          refine lv_iload hx hb dX0_merge_113 (lv_at hl 0 rfl) ?_
                          refine lv_if_eq (tgt := 121) hx hb dX0_merge_115 (by decide) (fun c_5 => ?_) (fun c_5 => ?_)
                          · exact absurd c_5 c_3
                          · skip
                            refine lv_iinc (v := nI ((mg x4 r q t rd k).2 + 1)) (lv' := [(5, .int (nI ((mg x4 r q t rd k).2 + 1))), (9, .int (tq x4 (((mg x4 r q t rd k).1) (12 * r + ((mg x4 r q t rd k).2))) (((mg x4 r q t rd k).1) (12 * q + (k - (mg x4 r q t rd k).2))))), (8, .int (((mg x4 r q t rd k).1) (12 * q + (k - (mg x4 r q t rd k).2)))), (7, .int (((mg x4 r q t rd k).1) (12 * r + ((mg x4 r q t rd k).2)))), (0, .ref h), (1, .int (nI r)), (2, .int (nI q)), (3, .int (nI t)), (4, .int x4), (6, .int (nI k))]) hx hb dX0_merge_118 hl (k := 8) rfl (nI_1 ((mg x4 r q t rd k).2)) (by decide) rfl (fun ls hl => ?_)
                            refine lv_iinc (v := nI (k + 1)) (lv' := [(6, .int (nI (k + 1))), (5, .int (nI ((mg x4 r q t rd k).2 + 1))), (9, .int (tq x4 (((mg x4 r q t rd k).1) (12 * r + ((mg x4 r q t rd k).2))) (((mg x4 r q t rd k).1) (12 * q + (k - (mg x4 r q t rd k).2))))), (8, .int (((mg x4 r q t rd k).1) (12 * q + (k - (mg x4 r q t rd k).2)))), (7, .int (((mg x4 r q t rd k).1) (12 * r + ((mg x4 r q t rd k).2)))), (0, .ref h), (1, .int (nI r)), (2, .int (nI q)), (3, .int (nI t)), (4, .int x4)]) hx hb dX0_merge_121 hl (k := 9) rfl (nI_1 k) (by decide) rfl (fun ls hl => ?_)
                            refine lv_goto (tgt := 43) hx hb dX0_merge_124 (by decide) ?_
                            have hP : va_P D vwCl (tv_cw cI cZ h a1 a2 a3 a4 ((mg x4 r q t rd (k + 1)).1, lv, op, nt)) H := by rw [hm2]; exact hP
                            have hD : va_D A (tv_cw cI cZ h a1 a2 a3 a4 ((mg x4 r q t rd (k + 1)).1, lv, op, nt)) := by rw [hm2]; exact hD
                            exact ih (k + 1) (by omega) H locs hP hD hS ls (by rw [show nI (mg x4 r q t rd (k + 1)).2 = nI ((mg x4 r q t rd k).2 + 1) from by rw [hm2]]; exact lv_sub hl [5, 6, 7, 8, 9, 1, 0] rfl)
                  exact loop 12 0 (by omega) s.heap [] hP hD hS ls (by rw [show nI (mg x4 r q t rd 0).2 = 0 from rfl, show nI 0 = 0 from nI_0]; exact lv_sub hl [2, 3, 4, 5, 6, 1, 0] rfl)
