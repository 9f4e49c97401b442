set_option maxHeartbeats 4000000 in
set_option maxRecDepth 100000 in
/-- THE LAW'S LOOP: at its head, behind k calls, class and reference hold one state -/
theorem law_loop {p : Program} {e : Env} {s : State} {m : MethodId} {below : List Frame} {meth : Method} {c : Code} {l : Launch} (hT : l.stackTraces = false) {b L : Nat} {xs : Nat → Int32} (hL : L ≤ 2560) (C0 : lw_At p s m meth c b L xs) {D : va_G} {cI cZ cL : ClassId} (hK : va_K D vwCl (tv_ty cI cZ cL) s) (hE : tv_E (fun q : Nat => s.heap.size ≤ q) s s.heap) (hC : tv_C s) {h a1 a2 a3 a4 g b1 b2 b3 b4 ol : Nat} : ∀ (n k : Nat), 5 * k ≤ L → L < 5 * (k + n) → ∀ (σ : TS) (th : Int32) (f : Nat → Int64) (H : Heap) (locs : List Loc) (ls : Array Slot), (∀ j, σ.2.2.1 j = 0 ∨ σ.2.2.1 j = 1) → va_P D vwCl (tv_lw cI cZ cL h a1 a2 a3 a4 g b1 b2 b3 b4 ol σ σ th f) H → va_D (fun q : Nat => s.heap.size ≤ q) (tv_lw cI cZ cL h a1 a2 a3 a4 g b1 b2 b3 b4 ol σ σ th f) → va_S (fun q : Nat => s.heap.size ≤ q) s.heap H locs → lv_has ls 7 [(0, .ref b), (1, .ref h), (2, .ref g), (3, .ref ol), (4, .int (nI (5 * k)))] → W p l e room_1 s m #[Value.ref b] below meth c H locs (11 + k) (242 + 6 * k) (lw_Z below #[Value.ref b] s) (F0 m 23 ls []) := by
  obtain ⟨hx, hb0, hr, hml, hown, hts0, hX, hbl, hlocks, hgv⟩ := id C0
  have hb : c.code = cL_law := hb0
  have hbA : ¬ (fun q : Nat => s.heap.size ≤ q) b := Nat.not_le.mpr hbl
  have hL31 : L < 2 ^ 31 := by omega
  intro n
  induction n with
  | zero =>
    intro k h1 h2
    exact absurd h2 (by omega)
  | succ n ih =>
    intro k hk hn σ th f H locs ls hop hP hD hS hl
    refine lv_iload hx hb dL_law_23 (lv_at hl 4 rfl) ?_
    refine lv_aload_n hx hb dL_law_25 rfl (lv_at hl 0 rfl) ?_
    refine va_slen hx hb hX hbl hbA hS dL_law_26 ?_
    refine lv_iconst (v := 5) hx hb dL_law_27 (by decide) ?_
    refine lv_isub hx hb dL_law_28 ?_
    refine lv_icmp_gt (tgt := 1678) hx hb dL_law_29 (by decide) (fun c_1 => ?_) (fun c_1 => ?_)
    · refine lv_iconst (v := 1) hx hb dL_law_1678 (by decide) ?_
      refine va_forget (fun q hq => hS.2.2 q hq) ?_
      refine W.widen (k := 1043) (n := 8482) (by omega) (by omega) ?_
      exact lw_ret hx hb0 hr hlocks dL_law_1679
    · have hlt : 5 * k + 5 ≤ L := tv_le5 hL hk c_1
      have kk : ∀ (σ : TS) (th : Int32) (f : Nat → Int64) (H : Heap) (locs : List Loc) (ls : Array Slot), (∀ j, σ.2.2.1 j = 0 ∨ σ.2.2.1 j = 1) → va_P D vwCl (tv_lw cI cZ cL h a1 a2 a3 a4 g b1 b2 b3 b4 ol σ σ th f) H → va_D (fun q : Nat => s.heap.size ≤ q) (tv_lw cI cZ cL h a1 a2 a3 a4 g b1 b2 b3 b4 ol σ σ th f) → va_S (fun q : Nat => s.heap.size ≤ q) s.heap H locs → lv_has ls 7 [(0, .ref b), (1, .ref h), (2, .ref g), (3, .ref ol), (4, .int (nI (5 * k)))] → W p l e room_1 s m #[Value.ref b] below meth c H locs (11 + k + 1) (242 + 6 * k + 6) (lw_Z below #[Value.ref b] s) (F0 m 1672 ls []) := by
        intro σ th f H locs ls hop hP hD hS hl
        refine lv_iinc (v := nI (5 * (k + 1))) (lv' := [(4, .int (nI (5 * (k + 1)))), (0, .ref b), (1, .ref h), (2, .ref g), (3, .ref ol)]) hx hb dL_law_1672 hl (k := 4) rfl (tv_ik (5 * k) 5 rfl) (by decide) rfl (fun ls hl => ?_)
        refine lv_goto (tgt := 23) hx hb dL_law_1675 (by decide) ?_
        refine W.widen (k := 11 + (k + 1)) (n := 242 + 6 * (k + 1)) (by omega) (by omega) ?_
        exact ih (k + 1) (by omega) (by omega) σ th f H locs ls hop hP hD hS (lv_sub hl [1, 2, 3, 4, 0] rfl)
      refine lv_aload_n hx hb dL_law_32 rfl (lv_at hl 0 rfl) ?_
      refine lv_iload hx hb dL_law_33 (lv_at hl 4 rfl) ?_
      refine tv_sld hx hb hX hbl hbA hS (i := 5 * k) (by omega) hL31 dL_law_35 ?_
      refine lv_bipush (v := 31) hx hb dL_law_36 (by decide) ?_
      refine lv_iand hx hb dL_law_38 ?_
      have hcs : 11 + k + 1 ≤ room_1.cells := by show 11 + k + 1 ≤ 1043; omega
      have hss : 242 + 6 * k + 6 ≤ room_1.slots := by show 242 + 6 * k + 6 ≤ 8482; omega
      rcases tv_sw (xs (5 * k) &&& 31) with q | ⟨n9, hn9, hv⟩
      · refine lv_tableOut (tgt := 1672) hx hb dL_law_39 q (by decide) ?_
        refine W.widen (k := 11 + k + 1) (n := 242 + 6 * k + 6) (by omega) (by omega) ?_
        exact kk σ th f H locs ls hop hP hD hS hl
      · obtain ⟨rd, lv, op, nt⟩ := σ
        refine tv_top _ hv ?_
        rcases (show n9 = 0 ∨ n9 = 1 ∨ n9 = 2 ∨ n9 = 3 ∨ n9 = 4 ∨ n9 = 5 ∨ n9 = 6 ∨ n9 = 7 ∨ n9 = 8 ∨ n9 = 9 ∨ n9 = 10 ∨ n9 = 11 ∨ n9 = 12 ∨ n9 = 13 ∨ n9 = 14 ∨ n9 = 15 ∨ n9 = 16 ∨ n9 = 17 ∨ n9 = 18 ∨ n9 = 19 by omega) with rfl | rfl | rfl | rfl | rfl | rfl | rfl | rfl | rfl | rfl | rfl | rfl | rfl | rfl | rfl | rfl | rfl | rfl | rfl | rfl
        · exact lv_tableIn (off := 93) (tgt := 132) hx hb dL_law_39 (by decide) (by decide) (by decide) (by decide) (k_put hT hL C0 hK hE hC hcs hss hop hlt hP hD hS hl kk)
        · exact lv_tableIn (off := 180) (tgt := 219) hx hb dL_law_39 (by decide) (by decide) (by decide) (by decide) (k_reading hT hL C0 hK hE hC hcs hss hop hlt hP hD hS hl kk)
        · exact lv_tableIn (off := 248) (tgt := 287) hx hb dL_law_39 (by decide) (by decide) (by decide) (by decide) (k_level hT hL C0 hK hE hC hcs hss hop hlt hP hD hS hl kk)
        · exact lv_tableIn (off := 351) (tgt := 390) hx hb dL_law_39 (by decide) (by decide) (by decide) (by decide) (k_copy hT hL C0 hK hE hC hcs hss hop hlt hP hD hS hl kk)
        · exact lv_tableIn (off := 419) (tgt := 458) hx hb dL_law_39 (by decide) (by decide) (by decide) (by decide) (k_straight hT hL C0 hK hE hC hcs hss hop hlt hP hD hS hl kk)
        · exact lv_tableIn (off := 499) (tgt := 538) hx hb dL_law_39 (by decide) (by decide) (by decide) (by decide) (k_turned hT hL C0 hK hE hC hcs hss hop hlt hP hD hS hl kk)
        · exact lv_tableIn (off := 579) (tgt := 618) hx hb dL_law_39 (by decide) (by decide) (by decide) (by decide) (k_between hT hL C0 hK hE hC hcs hss hop hlt hP hD hS hl kk)
        · exact lv_tableIn (off := 659) (tgt := 698) hx hb dL_law_39 (by decide) (by decide) (by decide) (by decide) (k_must hT hL C0 hK hE hC hcs hss hop hlt hP hD hS hl kk)
        · exact lv_tableIn (off := 751) (tgt := 790) hx hb dL_law_39 (by decide) (by decide) (by decide) (by decide) (k_watch hT hL C0 hK hE hC hcs hss hop hlt hP hD hS hl kk)
        · exact lv_tableIn (off := 847) (tgt := 886) hx hb dL_law_39 (by decide) (by decide) (by decide) (by decide) (k_isOpen hT hL C0 hK hE hC hcs hss hop hlt hP hD hS hl kk)
        · exact lv_tableIn (off := 910) (tgt := 949) hx hb dL_law_39 (by decide) (by decide) (by decide) (by decide) (k_climb hT hL C0 hK hE hC hcs hss hop hlt hP hD hS hl kk)
        · exact lv_tableIn (off := 990) (tgt := 1029) hx hb dL_law_39 (by decide) (by decide) (by decide) (by decide) (k_drift hT hL C0 hK hE hC hcs hss hop hlt hP hD hS hl kk)
        · exact lv_tableIn (off := 1070) (tgt := 1109) hx hb dL_law_39 (by decide) (by decide) (by decide) (by decide) (k_pick hT hL C0 hK hE hC hcs hss hop hlt hP hD hS hl kk)
        · exact lv_tableIn (off := 1138) (tgt := 1177) hx hb dL_law_39 (by decide) (by decide) (by decide) (by decide) (k_keep hT hL C0 hK hE hC hcs hss hop hlt hP hD hS hl kk)
        · exact lv_tableIn (off := 1206) (tgt := 1245) hx hb dL_law_39 (by decide) (by decide) (by decide) (by decide) (k_notes hT hL C0 hK hE hC hcs hss hop hlt hP hD hS hl kk)
        · exact lv_tableIn (off := 1262) (tgt := 1301) hx hb dL_law_39 (by decide) (by decide) (by decide) (by decide) (k_gaps hT hL C0 hK hE hC hcs hss hop hlt hP hD hS hl kk)
        · exact lv_tableIn (off := 1318) (tgt := 1357) hx hb dL_law_39 (by decide) (by decide) (by decide) (by decide) (k_settle hT hL C0 hK hE hC hcs hss hop hlt hP hD hS hl kk)
        · exact lv_tableIn (off := 1386) (tgt := 1425) hx hb dL_law_39 (by decide) (by decide) (by decide) (by decide) (k_meet hT hL C0 hK hE hC hcs hss hop hlt hP hD hS hl kk)
        · exact lv_tableIn (off := 1466) (tgt := 1505) hx hb dL_law_39 (by decide) (by decide) (by decide) (by decide) (k_alike hT hL C0 hK hE hC hcs hss hop hlt hP hD hS hl kk)
        · exact lv_tableIn (off := 1541) (tgt := 1580) hx hb dL_law_39 (by decide) (by decide) (by decide) (by decide) (k_merge hT hL C0 hK hE hC hcs hss hop hlt hP hD hS hl kk)
