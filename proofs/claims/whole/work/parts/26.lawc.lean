theorem o_sp {a b : Bool} {F : TV} {σ : TS} (hF : ∀ j, F.2.2.2.2.1 j = 0 ∨ F.2.2.2.2.1 j = 1) (hσ : ∀ j, σ.2.2.1 j = 0 ∨ σ.2.2.1 j = 1) : ∀ j, (sp a b F σ).2.2.2.2.1 j = 0 ∨ (sp a b F σ).2.2.2.2.1 j = 1 := by
  cases a <;> cases b <;> first | exact hF | exact hσ
theorem wa01 {g : Nat} {op : Nat → Int32} {y : Nat → Int32} {v tr : Int32} (hop : ∀ j, op j = 0 ∨ op j = 1) : ∀ (n j : Nat), (wa g (fun k => opn (y k) v tr) op n).1 j = 0 ∨ (wa g (fun k => opn (y k) v tr) op n).1 j = 1
  | 0, j => hop j
  | n + 1, j => by
    rw [wa]
    by_cases h : j = g
    · subst h
      show upd _ j _ j = 0 ∨ upd _ j _ j = 1
      rw [pk_us]
      exact opn01 _ _ _
    · show upd _ g _ j = 0 ∨ upd _ g _ j = 1
      rw [pk_un h]
      exact wa01 hop n j
theorem o_put {x1 x2 x3 : Int32} {rd lv op nt : Nat → Int32} (hop : ∀ j, op j = 0 ∨ op j = 1) : ∀ j, (sp_put x1 x2 x3 (rd, lv, op, nt)).2.2.2.2.1 j = 0 ∨ (sp_put x1 x2 x3 (rd, lv, op, nt)).2.2.2.2.1 j = 1 := o_sp hop hop
theorem o_reading {x1 x2 : Int32} {rd lv op nt : Nat → Int32} (hop : ∀ j, op j = 0 ∨ op j = 1) : ∀ j, (sp_reading x1 x2 (rd, lv, op, nt)).2.2.2.2.1 j = 0 ∨ (sp_reading x1 x2 (rd, lv, op, nt)).2.2.2.2.1 j = 1 := o_sp hop hop
theorem o_level {x1 x2 x3 : Int32} {rd lv op nt : Nat → Int32} (hop : ∀ j, op j = 0 ∨ op j = 1) : ∀ j, (sp_level x1 x2 x3 (rd, lv, op, nt)).2.2.2.2.1 j = 0 ∨ (sp_level x1 x2 x3 (rd, lv, op, nt)).2.2.2.2.1 j = 1 := o_sp hop hop
theorem o_copy {x1 x2 : Int32} {rd lv op nt : Nat → Int32} (hop : ∀ j, op j = 0 ∨ op j = 1) : ∀ j, (sp_copy x1 x2 (rd, lv, op, nt)).2.2.2.2.1 j = 0 ∨ (sp_copy x1 x2 (rd, lv, op, nt)).2.2.2.2.1 j = 1 := o_sp hop hop
theorem o_straight {x1 x2 x3 : Int32} {rd lv op nt : Nat → Int32} (hop : ∀ j, op j = 0 ∨ op j = 1) : ∀ j, (sp_straight x1 x2 x3 (rd, lv, op, nt)).2.2.2.2.1 j = 0 ∨ (sp_straight x1 x2 x3 (rd, lv, op, nt)).2.2.2.2.1 j = 1 := o_sp hop hop
theorem o_turned {x1 x2 x3 : Int32} {rd lv op nt : Nat → Int32} (hop : ∀ j, op j = 0 ∨ op j = 1) : ∀ j, (sp_turned x1 x2 x3 (rd, lv, op, nt)).2.2.2.2.1 j = 0 ∨ (sp_turned x1 x2 x3 (rd, lv, op, nt)).2.2.2.2.1 j = 1 := o_sp hop hop
theorem o_between {x1 x2 x3 : Int32} {rd lv op nt : Nat → Int32} (hop : ∀ j, op j = 0 ∨ op j = 1) : ∀ j, (sp_between x1 x2 x3 (rd, lv, op, nt)).2.2.2.2.1 j = 0 ∨ (sp_between x1 x2 x3 (rd, lv, op, nt)).2.2.2.2.1 j = 1 := o_sp hop hop
theorem o_must {x1 x2 x3 x4 : Int32} {rd lv op nt : Nat → Int32} (hop : ∀ j, op j = 0 ∨ op j = 1) : ∀ j, (sp_must x1 x2 x3 x4 (rd, lv, op, nt)).2.2.2.2.1 j = 0 ∨ (sp_must x1 x2 x3 x4 (rd, lv, op, nt)).2.2.2.2.1 j = 1 := by unfold sp_must; exact o_sp (fun j => by split <;> exact hop j) hop
theorem o_watch {x1 x2 x3 : Int32} {rd lv op nt : Nat → Int32} (hop : ∀ j, op j = 0 ∨ op j = 1) : ∀ j, (sp_watch x1 x2 x3 (rd, lv, op, nt)).2.2.2.2.1 j = 0 ∨ (sp_watch x1 x2 x3 (rd, lv, op, nt)).2.2.2.2.1 j = 1 := o_sp (wa01 hop 12) hop
theorem o_isOpen {x1 : Int32} {rd lv op nt : Nat → Int32} (hop : ∀ j, op j = 0 ∨ op j = 1) : ∀ j, (sp_isOpen x1 (rd, lv, op, nt)).2.2.2.2.1 j = 0 ∨ (sp_isOpen x1 (rd, lv, op, nt)).2.2.2.2.1 j = 1 := o_sp hop hop
theorem o_climb {x1 x2 x3 : Int32} {rd lv op nt : Nat → Int32} (hop : ∀ j, op j = 0 ∨ op j = 1) : ∀ j, (sp_climb x1 x2 x3 (rd, lv, op, nt)).2.2.2.2.1 j = 0 ∨ (sp_climb x1 x2 x3 (rd, lv, op, nt)).2.2.2.2.1 j = 1 := o_sp hop hop
theorem o_drift {x1 x2 x3 : Int32} {rd lv op nt : Nat → Int32} (hop : ∀ j, op j = 0 ∨ op j = 1) : ∀ j, (sp_drift x1 x2 x3 (rd, lv, op, nt)).2.2.2.2.1 j = 0 ∨ (sp_drift x1 x2 x3 (rd, lv, op, nt)).2.2.2.2.1 j = 1 := o_sp hop hop
theorem o_pick {x1 x2 : Int32} {rd lv op nt : Nat → Int32} (hop : ∀ j, op j = 0 ∨ op j = 1) : ∀ j, (sp_pick x1 x2 (rd, lv, op, nt)).2.2.2.2.1 j = 0 ∨ (sp_pick x1 x2 (rd, lv, op, nt)).2.2.2.2.1 j = 1 := o_sp hop hop
theorem o_keep {x1 x2 : Int32} {rd lv op nt : Nat → Int32} (hop : ∀ j, op j = 0 ∨ op j = 1) : ∀ j, (sp_keep x1 x2 (rd, lv, op, nt)).2.2.2.2.1 j = 0 ∨ (sp_keep x1 x2 (rd, lv, op, nt)).2.2.2.2.1 j = 1 := o_sp hop hop
theorem o_notes {x1 : Int32} {rd lv op nt : Nat → Int32} (hop : ∀ j, op j = 0 ∨ op j = 1) : ∀ j, (sp_notes x1 (rd, lv, op, nt)).2.2.2.2.1 j = 0 ∨ (sp_notes x1 (rd, lv, op, nt)).2.2.2.2.1 j = 1 := o_sp hop hop
theorem o_gaps {x1 : Int32} {rd lv op nt : Nat → Int32} (hop : ∀ j, op j = 0 ∨ op j = 1) : ∀ j, (sp_gaps x1 (rd, lv, op, nt)).2.2.2.2.1 j = 0 ∨ (sp_gaps x1 (rd, lv, op, nt)).2.2.2.2.1 j = 1 := o_sp hop hop
theorem o_settle {x1 x2 : Int32} {rd lv op nt : Nat → Int32} (hop : ∀ j, op j = 0 ∨ op j = 1) : ∀ j, (sp_settle x1 x2 (rd, lv, op, nt)).2.2.2.2.1 j = 0 ∨ (sp_settle x1 x2 (rd, lv, op, nt)).2.2.2.2.1 j = 1 := o_sp hop hop
theorem o_meet {x1 x2 x3 : Int32} {rd lv op nt : Nat → Int32} (hop : ∀ j, op j = 0 ∨ op j = 1) : ∀ j, (sp_meet x1 x2 x3 (rd, lv, op, nt)).2.2.2.2.1 j = 0 ∨ (sp_meet x1 x2 x3 (rd, lv, op, nt)).2.2.2.2.1 j = 1 := o_sp hop hop
theorem o_alike {x1 x2 : Int32} {rd lv op nt : Nat → Int32} (hop : ∀ j, op j = 0 ∨ op j = 1) : ∀ j, (sp_alike x1 x2 (rd, lv, op, nt)).2.2.2.2.1 j = 0 ∨ (sp_alike x1 x2 (rd, lv, op, nt)).2.2.2.2.1 j = 1 := o_sp hop hop
theorem o_merge {x1 x2 x3 x4 : Int32} {rd lv op nt : Nat → Int32} (hop : ∀ j, op j = 0 ∨ op j = 1) : ∀ j, (sp_merge x1 x2 x3 x4 (rd, lv, op, nt)).2.2.2.2.1 j = 0 ∨ (sp_merge x1 x2 x3 x4 (rd, lv, op, nt)).2.2.2.2.1 j = 1 := o_sp hop hop
set_option maxHeartbeats 4000000 in
set_option maxRecDepth 100000 in
theorem k_put {p : Program} {e : Env} {s : State} {m : MethodId} {below : List Frame} {meth : Method} {c : Code} {l : Launch} (hT : l.stackTraces = false) {b L : Nat} {xs : Nat → Int32} (hL : L ≤ 2560) (C0 : lw_At p s m meth c b L xs) {D : va_G} {cI cZ cL : ClassId} (hK : va_K D vwCl (tv_ty cI cZ cL) s) (hE : tv_E (fun q : Nat => s.heap.size ≤ q) s s.heap) (hC : tv_C s) {Q : State → Prop} {cells slots : Nat} (hcs : cells + 1 ≤ room_1.cells) (hss : slots + 6 ≤ room_1.slots) {h a1 a2 a3 a4 g b1 b2 b3 b4 ol : Nat} {rd lv op nt : Nat → Int32} {th : Int32} {f : Nat → Int64} (hop : ∀ j, op j = 0 ∨ op j = 1) {i : Nat} (hi : i + 5 ≤ L) {H : Heap} {locs : List Loc} (hP : va_P D vwCl (tv_lw cI cZ cL h a1 a2 a3 a4 g b1 b2 b3 b4 ol (rd, lv, op, nt) (rd, lv, op, nt) th f) H) (hD : va_D (fun q : Nat => s.heap.size ≤ q) (tv_lw cI cZ cL h a1 a2 a3 a4 g b1 b2 b3 b4 ol (rd, lv, op, nt) (rd, lv, op, nt) th f)) (hS : va_S (fun q : Nat => s.heap.size ≤ q) s.heap H locs) {ls : Array Slot} (hl : lv_has ls 7 [(0, .ref b), (1, .ref h), (2, .ref g), (3, .ref ol), (4, .int (nI i))])
    (kk : ∀ (σ : TS) (th : Int32) (f : Nat → Int64) (H : Heap) (locs : List Loc) (ls : Array Slot), (∀ j, σ.2.2.1 j = 0 ∨ σ.2.2.1 j = 1) → va_P D vwCl (tv_lw cI cZ cL h a1 a2 a3 a4 g b1 b2 b3 b4 ol σ σ th f) H → va_D (fun q : Nat => s.heap.size ≤ q) (tv_lw cI cZ cL h a1 a2 a3 a4 g b1 b2 b3 b4 ol σ σ th f) → va_S (fun q : Nat => s.heap.size ≤ q) s.heap H locs → lv_has ls 7 [(0, .ref b), (1, .ref h), (2, .ref g), (3, .ref ol), (4, .int (nI i))] → W p l e room_1 s m #[Value.ref b] below meth c H locs (cells + 1) (slots + 6) Q (F0 m 1672 ls [])) : W p l e room_1 s m #[Value.ref b] below meth c H locs cells slots Q (F0 m 132 ls []) := by
  obtain ⟨hx, hb, hr, hml, hown, hts0, hX, hbl, hlocks, hgv⟩ := C0
  have hb : c.code = cL_law := hb
  have hown : s.vm.findClass RL = some m.cls := hown
  have hts : ∀ w ∈ wsL_law, w.before #[Value.ref b] s = true := fun w h => hts0 w (wsL_law_in w h)
  have hA : ∀ q : Nat, s.heap.size ≤ q → (fun q : Nat => s.heap.size ≤ q) q := fun _ h => h
  have hbA : ¬ (fun q : Nat => s.heap.size ≤ q) b := Nat.not_le.mpr hbl
  have hL31 : L < 2 ^ 31 := by omega
  refine lv_aload_n hx hb dL_law_132 rfl (lv_at hl 1 rfl) ?_
  refine lv_aload_n hx hb dL_law_133 rfl (lv_at hl 0 rfl) ?_
  refine lv_iload hx hb dL_law_134 (lv_at hl 4 rfl) ?_
  refine lv_iconst (v := 1) hx hb dL_law_136 (by decide) ?_
  refine lv_iadd hx hb dL_law_137 ?_
  refine tv_top (nI (i + 1)) (tv_ik i 1 rfl) ?_
  refine tv_sld hx hb hX hbl hbA hS (i := (i + 1)) (by omega) hL31 dL_law_138 ?_
  refine lv_aload_n hx hb dL_law_139 rfl (lv_at hl 0 rfl) ?_
  refine lv_iload hx hb dL_law_140 (lv_at hl 4 rfl) ?_
  refine lv_iconst (v := 2) hx hb dL_law_142 (by decide) ?_
  refine lv_iadd hx hb dL_law_143 ?_
  refine tv_top (nI (i + 2)) (tv_ik i 2 rfl) ?_
  refine tv_sld hx hb hX hbl hbA hS (i := (i + 2)) (by omega) hL31 dL_law_144 ?_
  refine lv_aload_n hx hb dL_law_145 rfl (lv_at hl 0 rfl) ?_
  refine lv_iload hx hb dL_law_146 (lv_at hl 4 rfl) ?_
  refine lv_iconst (v := 3) hx hb dL_law_148 (by decide) ?_
  refine lv_iadd hx hb dL_law_149 ?_
  refine tv_top (nI (i + 3)) (tv_ik i 3 rfl) ?_
  refine tv_sld hx hb hX hbl hbA hS (i := (i + 3)) (by omega) hL31 dL_law_150 ?_
  refine lv_aload_n hx hb dL_law_151 rfl (lv_at hl 3 rfl) ?_
  obtain ⟨V, hV⟩ : ∃ V : TV, V = sp_put (xs (i + 1)) (xs (i + 2)) (xs (i + 3)) (rd, lv, op, nt) := ⟨_, rfl⟩
  have hop2 : ∀ j, V.2.2.2.2.1 j = 0 ∨ V.2.2.2.2.1 j = 1 := by rw [hV]; exact o_put hop
  refine tv_callH (D := D) (V := V) (R64 := R64z) (wf := tv_hw cI cZ cL h a1 a2 a3 a4 ol) (ws := tv_lw cI cZ cL h a1 a2 a3 a4 g b1 b2 b3 b4 ol (rd, lv, op, nt) (rd, lv, op, nt) th f) (wc := tv_hw cI cZ cL h a1 a2 a3 a4 ol (rd, lv, op, nt) f) (wr := tv_mw cI cZ g b1 b2 b3 b4 th (rd, lv, op, nt)) (wN := fun f => tv_lw cI cZ cL h a1 a2 a3 a4 g b1 b2 b3 b4 ol V.2.2 (rd, lv, op, nt) th f) (vx_runSW (As := [.ref h, .int (xs (i + 1)), .int (xs (i + 2)), .int (xs (i + 3)), .ref ol]) (rest := []) ⟨hx, hb, hml, hown, hts⟩ (c_L_put l hT D cI cZ cL h a1 a2 a3 a4 rd lv op nt ol f H.size (xs (i + 1)) (xs (i + 2)) (xs (i + 3)) V hV) (vx_cwSW 5 hts gL_law_L_put rfl rfl rfl (by decide +kernel) ⟨Nat.le_of_ble_eq_true rfl, Nat.le_of_ble_eq_true rfl⟩) (tv_preH hP hK hD hS hA hE hC [0, 1, 2, 3, 4, 10] rfl rfl rfl) rfl rfl hl.1 rfl (lv_room (Nat.le_of_ble_eq_true rfl)) dL_law_152 ⟨hcs, hss⟩) hP hD hS hA [0, 1, 2, 3, 4, 10] [5, 6, 7, 8, 9] rfl rfl rfl (by decide) [5, 6, 7, 8, 9, 0, 1, 2, 3, 4, 10] (fun _ => rfl) (fun _ => rfl) rfl (fun f H locs hf hP hD hS => ?_)
  refine lv_istore (lv' := [(5, .int V.1), (0, .ref b), (1, .ref h), (2, .ref g), (3, .ref ol), (4, .int (nI i))]) hx hb dL_law_155 hl (by decide) rfl (fun ls hl => ?_)
  refine lv_aload_n hx hb dL_law_157 rfl (lv_at hl 3 rfl) ?_
  refine lv_aload_n hx hb dL_law_158 rfl (lv_at hl 1 rfl) ?_
  refine lv_iload hx hb dL_law_159 (lv_at hl 5 rfl) ?_
  refine lv_iconst (v := 1) hx hb dL_law_161 (by decide) ?_
  refine lv_iadd hx hb dL_law_162 ?_
  refine tv_top (nI (i + 1)) (tv_ik i 1 rfl) ?_
  refine tv_sld hx hb hX hbl hbA hS (i := (i + 1)) (by omega) hL31 dL_law_163 ?_
  refine lv_aload_n hx hb dL_law_164 rfl (lv_at hl 1 rfl) ?_
  refine lv_iload hx hb dL_law_165 (lv_at hl 5 rfl) ?_
  refine lv_iconst (v := 2) hx hb dL_law_167 (by decide) ?_
  refine lv_iadd hx hb dL_law_168 ?_
  refine tv_top (nI (i + 2)) (tv_ik i 2 rfl) ?_
  refine tv_sld hx hb hX hbl hbA hS (i := (i + 2)) (by omega) hL31 dL_law_169 ?_
  refine lv_aload_n hx hb dL_law_170 rfl (lv_at hl 1 rfl) ?_
  refine lv_iload hx hb dL_law_171 (lv_at hl 5 rfl) ?_
  refine lv_iconst (v := 3) hx hb dL_law_173 (by decide) ?_
  refine lv_iadd hx hb dL_law_174 ?_
  refine tv_top (nI (i + 3)) (tv_ik i 3 rfl) ?_
  refine tv_sld hx hb hX hbl hbA hS (i := (i + 3)) (by omega) hL31 dL_law_175 ?_
  refine tv_callM (D := D) (V := V) (wf := tv_mw cI cZ g b1 b2 b3 b4) (ws := tv_lw cI cZ cL h a1 a2 a3 a4 g b1 b2 b3 b4 ol V.2.2 (rd, lv, op, nt) th f) (wc := tv_mw cI cZ g b1 b2 b3 b4 th (rd, lv, op, nt)) (wr := [(h, .inr (0, [.ref a1, .ref a2, .ref a3, .ref a4])), (a1, .inl (cI, 96, .inl V.2.2.1)), (a2, .inl (cI, 8, .inl V.2.2.2.1)), (a3, .inl (cZ, 4, .inl V.2.2.2.2.1)), (a4, .inl (cI, 8, .inl V.2.2.2.2.2)), (ol, .inl (cL, 1, .inr (.inl f)))]) (wsN := tv_lw cI cZ cL h a1 a2 a3 a4 g b1 b2 b3 b4 ol V.2.2 V.2.2 V.1 f) (va_runV (As := [.int (xs (i + 1)), .int (xs (i + 2)), .int (xs (i + 3))]) (rest := []) ⟨hx, hb, hml, hown, hts⟩ (c_X1_put l D cI cZ cL g b1 b2 b3 b4 rd lv op nt th H.size (xs (i + 1)) (xs (i + 2)) (xs (i + 3)) V hV) (cwV 3 hts gL_law_X1_put rfl rfl rfl (by decide +kernel) ⟨Nat.le_of_ble_eq_true rfl, Nat.le_of_ble_eq_true rfl⟩) (tv_preDV hP hK hD [5, 6, 7, 8, 9] rfl rfl rfl rfl 5 rfl) rfl rfl hl.1 rfl (lv_room (Nat.le_of_ble_eq_true rfl)) dL_law_176 ⟨hcs, hss⟩) hP hD hS hA [5, 6, 7, 8, 9] [0, 1, 2, 3, 4, 10] rfl rfl rfl (by decide) [0, 1, 2, 3, 4, 6, 7, 8, 9, 10, 5] rfl rfl rfl rfl (fun r H locs hrv hP hD hS => ?_)
  refine lv_istore (lv' := [(6, .int r), (5, .int V.1), (0, .ref b), (1, .ref h), (2, .ref g), (3, .ref ol), (4, .int (nI i))]) hx hb dL_law_179 hl (by decide) rfl (fun ls hl => ?_)
  refine lv_aload_n hx hb dL_law_181 rfl (lv_at hl 4 rfl) ?_
  refine tv_callR (W.runV (As := []) (rest := []) ⟨hx, hb, hml, hown, hts⟩ (c_X1_thrown l D cI cZ cL g b1 b2 b3 b4 V.2.2.1 V.2.2.2.1 V.2.2.2.2.1 V.2.2.2.2.2 V.1) (cwV 0 hts gL_law_X1_thrown rfl rfl rfl (by decide +kernel) ⟨Nat.le_of_ble_eq_true rfl, Nat.le_of_ble_eq_true rfl⟩) (tv_preV (ws := tv_mw cI cZ g b1 b2 b3 b4 V.1 V.2.2) (hP.sub [5, 6, 7, 8, 9] rfl) hK rfl 0 rfl) rfl rfl hl.1 rfl (lv_room (Nat.le_of_ble_eq_true rfl)) dL_law_182 ⟨hcs, hss⟩) ?_
  refine lv_iload hx hb dL_law_185 (lv_at hl 1 rfl) ?_
  refine lv_icmp_eq (tgt := 192) hx hb dL_law_187 (by decide) (fun c_1 => ?_) (fun c_1 => ?_)
  · skip
    refine lv_iload hx hb dL_law_192 (lv_at hl 1 rfl) ?_
    refine lv_if_ne (tgt := 216) hx hb dL_law_194 (by decide) (fun c_2 => ?_) (fun c_2 => ?_)
    · skip
      refine lv_goto (tgt := 1672) hx hb dL_law_216 (by decide) ?_
      exact kk V.2.2 V.1 f H locs ls hop2 hP hD hS (lv_sub hl [2, 3, 4, 5, 6] rfl)
    · skip
      have hf0 := hf c_2
      have hr0 := hrv c_2
      refine lv_aload_n hx hb dL_law_197 rfl (lv_at hl 5 rfl) ?_
      refine lv_iconst (v := 0) hx hb dL_law_198 (by decide) ?_
      refine tv_lald0 (D := D) hx hb hK hP 10 rfl dL_law_199 ?_
      refine lv_iload hx hb dL_law_200 (lv_at hl 0 rfl) ?_
      refine lv_if_eq (tgt := 209) hx hb dL_law_202 (by decide) (fun c_3 => ?_) (fun c_3 => ?_)
      · skip
        refine lv_lconst (v := 0) hx hb dL_law_209 (by decide) ?_
        refine tv_lcmp0 hx hb (by rw [hf0, R64z, if_pos (hr0.symm.trans c_3)]) dL_law_210 ?_
        refine lv_if_eq (tgt := 216) hx hb dL_law_211 (by decide) (fun c_4 => ?_) (fun c_4 => ?_)
        · skip
          refine lv_goto (tgt := 1672) hx hb dL_law_216 (by decide) ?_
          exact kk V.2.2 V.1 f H locs ls hop2 hP hD hS (lv_sub hl [2, 3, 4, 5, 6] rfl)
        · exact absurd rfl c_4
      · skip
        refine lv_lconst (v := 1) hx hb dL_law_205 (by decide) ?_
        refine lv_goto (tgt := 210) hx hb dL_law_206 (by decide) ?_
        refine tv_lcmp0 hx hb (by rw [hf0, R64z, if_neg (fun q => c_3 (hr0.trans q))]) dL_law_210 ?_
        refine lv_if_eq (tgt := 216) hx hb dL_law_211 (by decide) (fun c_5 => ?_) (fun c_5 => ?_)
        · skip
          refine lv_goto (tgt := 1672) hx hb dL_law_216 (by decide) ?_
          exact kk V.2.2 V.1 f H locs ls hop2 hP hD hS (lv_sub hl [2, 3, 4, 5, 6] rfl)
        · exact absurd rfl c_5
  · exact absurd rfl c_1
set_option maxHeartbeats 4000000 in
set_option maxRecDepth 100000 in
theorem k_reading {p : Program} {e : Env} {s : State} {m : MethodId} {below : List Frame} {meth : Method} {c : Code} {l : Launch} (hT : l.stackTraces = false) {b L : Nat} {xs : Nat → Int32} (hL : L ≤ 2560) (C0 : lw_At p s m meth c b L xs) {D : va_G} {cI cZ cL : ClassId} (hK : va_K D vwCl (tv_ty cI cZ cL) s) (hE : tv_E (fun q : Nat => s.heap.size ≤ q) s s.heap) (hC : tv_C s) {Q : State → Prop} {cells slots : Nat} (hcs : cells + 1 ≤ room_1.cells) (hss : slots + 6 ≤ room_1.slots) {h a1 a2 a3 a4 g b1 b2 b3 b4 ol : Nat} {rd lv op nt : Nat → Int32} {th : Int32} {f : Nat → Int64} (hop : ∀ j, op j = 0 ∨ op j = 1) {i : Nat} (hi : i + 5 ≤ L) {H : Heap} {locs : List Loc} (hP : va_P D vwCl (tv_lw cI cZ cL h a1 a2 a3 a4 g b1 b2 b3 b4 ol (rd, lv, op, nt) (rd, lv, op, nt) th f) H) (hD : va_D (fun q : Nat => s.heap.size ≤ q) (tv_lw cI cZ cL h a1 a2 a3 a4 g b1 b2 b3 b4 ol (rd, lv, op, nt) (rd, lv, op, nt) th f)) (hS : va_S (fun q : Nat => s.heap.size ≤ q) s.heap H locs) {ls : Array Slot} (hl : lv_has ls 7 [(0, .ref b), (1, .ref h), (2, .ref g), (3, .ref ol), (4, .int (nI i))])
    (kk : ∀ (σ : TS) (th : Int32) (f : Nat → Int64) (H : Heap) (locs : List Loc) (ls : Array Slot), (∀ j, σ.2.2.1 j = 0 ∨ σ.2.2.1 j = 1) → va_P D vwCl (tv_lw cI cZ cL h a1 a2 a3 a4 g b1 b2 b3 b4 ol σ σ th f) H → va_D (fun q : Nat => s.heap.size ≤ q) (tv_lw cI cZ cL h a1 a2 a3 a4 g b1 b2 b3 b4 ol σ σ th f) → va_S (fun q : Nat => s.heap.size ≤ q) s.heap H locs → lv_has ls 7 [(0, .ref b), (1, .ref h), (2, .ref g), (3, .ref ol), (4, .int (nI i))] → W p l e room_1 s m #[Value.ref b] below meth c H locs (cells + 1) (slots + 6) Q (F0 m 1672 ls [])) : W p l e room_1 s m #[Value.ref b] below meth c H locs cells slots Q (F0 m 219 ls []) := by
  obtain ⟨hx, hb, hr, hml, hown, hts0, hX, hbl, hlocks, hgv⟩ := C0
  have hb : c.code = cL_law := hb
  have hown : s.vm.findClass RL = some m.cls := hown
  have hts : ∀ w ∈ wsL_law, w.before #[Value.ref b] s = true := fun w h => hts0 w (wsL_law_in w h)
  have hA : ∀ q : Nat, s.heap.size ≤ q → (fun q : Nat => s.heap.size ≤ q) q := fun _ h => h
  have hbA : ¬ (fun q : Nat => s.heap.size ≤ q) b := Nat.not_le.mpr hbl
  have hL31 : L < 2 ^ 31 := by omega
  refine lv_aload_n hx hb dL_law_219 rfl (lv_at hl 1 rfl) ?_
  refine lv_aload_n hx hb dL_law_220 rfl (lv_at hl 0 rfl) ?_
  refine lv_iload hx hb dL_law_221 (lv_at hl 4 rfl) ?_
  refine lv_iconst (v := 1) hx hb dL_law_223 (by decide) ?_
  refine lv_iadd hx hb dL_law_224 ?_
  refine tv_top (nI (i + 1)) (tv_ik i 1 rfl) ?_
  refine tv_sld hx hb hX hbl hbA hS (i := (i + 1)) (by omega) hL31 dL_law_225 ?_
  refine lv_aload_n hx hb dL_law_226 rfl (lv_at hl 0 rfl) ?_
  refine lv_iload hx hb dL_law_227 (lv_at hl 4 rfl) ?_
  refine lv_iconst (v := 2) hx hb dL_law_229 (by decide) ?_
  refine lv_iadd hx hb dL_law_230 ?_
  refine tv_top (nI (i + 2)) (tv_ik i 2 rfl) ?_
  refine tv_sld hx hb hX hbl hbA hS (i := (i + 2)) (by omega) hL31 dL_law_231 ?_
  refine lv_aload_n hx hb dL_law_232 rfl (lv_at hl 3 rfl) ?_
  obtain ⟨V, hV⟩ : ∃ V : TV, V = sp_reading (xs (i + 1)) (xs (i + 2)) (rd, lv, op, nt) := ⟨_, rfl⟩
  have hop2 : ∀ j, V.2.2.2.2.1 j = 0 ∨ V.2.2.2.2.1 j = 1 := by rw [hV]; exact o_reading hop
  refine tv_callH (D := D) (V := V) (R64 := R64i) (wf := tv_hw cI cZ cL h a1 a2 a3 a4 ol) (ws := tv_lw cI cZ cL h a1 a2 a3 a4 g b1 b2 b3 b4 ol (rd, lv, op, nt) (rd, lv, op, nt) th f) (wc := tv_hw cI cZ cL h a1 a2 a3 a4 ol (rd, lv, op, nt) f) (wr := tv_mw cI cZ g b1 b2 b3 b4 th (rd, lv, op, nt)) (wN := fun f => tv_lw cI cZ cL h a1 a2 a3 a4 g b1 b2 b3 b4 ol V.2.2 (rd, lv, op, nt) th f) (vx_runSW (As := [.ref h, .int (xs (i + 1)), .int (xs (i + 2)), .ref ol]) (rest := []) ⟨hx, hb, hml, hown, hts⟩ (c_L_reading l hT D cI cZ cL h a1 a2 a3 a4 rd lv op nt ol f H.size (xs (i + 1)) (xs (i + 2)) V hV) (vx_cwSW 4 hts gL_law_L_reading rfl rfl rfl (by decide +kernel) ⟨Nat.le_of_ble_eq_true rfl, Nat.le_of_ble_eq_true rfl⟩) (tv_preH hP hK hD hS hA hE hC [0, 1, 2, 3, 4, 10] rfl rfl rfl) rfl rfl hl.1 rfl (lv_room (Nat.le_of_ble_eq_true rfl)) dL_law_233 ⟨hcs, hss⟩) hP hD hS hA [0, 1, 2, 3, 4, 10] [5, 6, 7, 8, 9] rfl rfl rfl (by decide) [5, 6, 7, 8, 9, 0, 1, 2, 3, 4, 10] (fun _ => rfl) (fun _ => rfl) rfl (fun f H locs hf hP hD hS => ?_)
  refine lv_istore (lv' := [(5, .int V.1), (0, .ref b), (1, .ref h), (2, .ref g), (3, .ref ol), (4, .int (nI i))]) hx hb dL_law_236 hl (by decide) rfl (fun ls hl => ?_)
  refine lv_aload_n hx hb dL_law_238 rfl (lv_at hl 3 rfl) ?_
  refine lv_aload_n hx hb dL_law_239 rfl (lv_at hl 1 rfl) ?_
  refine lv_iload hx hb dL_law_240 (lv_at hl 5 rfl) ?_
  refine lv_iconst (v := 1) hx hb dL_law_242 (by decide) ?_
  refine lv_iadd hx hb dL_law_243 ?_
  refine tv_top (nI (i + 1)) (tv_ik i 1 rfl) ?_
  refine tv_sld hx hb hX hbl hbA hS (i := (i + 1)) (by omega) hL31 dL_law_244 ?_
  refine lv_aload_n hx hb dL_law_245 rfl (lv_at hl 1 rfl) ?_
  refine lv_iload hx hb dL_law_246 (lv_at hl 5 rfl) ?_
  refine lv_iconst (v := 2) hx hb dL_law_248 (by decide) ?_
  refine lv_iadd hx hb dL_law_249 ?_
  refine tv_top (nI (i + 2)) (tv_ik i 2 rfl) ?_
  refine tv_sld hx hb hX hbl hbA hS (i := (i + 2)) (by omega) hL31 dL_law_250 ?_
  refine tv_callM (D := D) (V := V) (wf := tv_mw cI cZ g b1 b2 b3 b4) (ws := tv_lw cI cZ cL h a1 a2 a3 a4 g b1 b2 b3 b4 ol V.2.2 (rd, lv, op, nt) th f) (wc := tv_mw cI cZ g b1 b2 b3 b4 th (rd, lv, op, nt)) (wr := [(h, .inr (0, [.ref a1, .ref a2, .ref a3, .ref a4])), (a1, .inl (cI, 96, .inl V.2.2.1)), (a2, .inl (cI, 8, .inl V.2.2.2.1)), (a3, .inl (cZ, 4, .inl V.2.2.2.2.1)), (a4, .inl (cI, 8, .inl V.2.2.2.2.2)), (ol, .inl (cL, 1, .inr (.inl f)))]) (wsN := tv_lw cI cZ cL h a1 a2 a3 a4 g b1 b2 b3 b4 ol V.2.2 V.2.2 V.1 f) (va_runV (As := [.int (xs (i + 1)), .int (xs (i + 2))]) (rest := []) ⟨hx, hb, hml, hown, hts⟩ (c_X1_reading l D cI cZ cL g b1 b2 b3 b4 rd lv op nt th H.size (xs (i + 1)) (xs (i + 2)) V hV) (cwV 2 hts gL_law_X1_reading rfl rfl rfl (by decide +kernel) ⟨Nat.le_of_ble_eq_true rfl, Nat.le_of_ble_eq_true rfl⟩) (tv_preDV hP hK hD [5, 6, 7, 8, 9] rfl rfl rfl rfl 5 rfl) rfl rfl hl.1 rfl (lv_room (Nat.le_of_ble_eq_true rfl)) dL_law_251 ⟨hcs, hss⟩) hP hD hS hA [5, 6, 7, 8, 9] [0, 1, 2, 3, 4, 10] rfl rfl rfl (by decide) [0, 1, 2, 3, 4, 6, 7, 8, 9, 10, 5] rfl rfl rfl rfl (fun r H locs hrv hP hD hS => ?_)
  refine lv_istore (lv' := [(6, .int r), (5, .int V.1), (0, .ref b), (1, .ref h), (2, .ref g), (3, .ref ol), (4, .int (nI i))]) hx hb dL_law_254 hl (by decide) rfl (fun ls hl => ?_)
  refine lv_aload_n hx hb dL_law_256 rfl (lv_at hl 4 rfl) ?_
  refine tv_callR (W.runV (As := []) (rest := []) ⟨hx, hb, hml, hown, hts⟩ (c_X1_thrown l D cI cZ cL g b1 b2 b3 b4 V.2.2.1 V.2.2.2.1 V.2.2.2.2.1 V.2.2.2.2.2 V.1) (cwV 0 hts gL_law_X1_thrown rfl rfl rfl (by decide +kernel) ⟨Nat.le_of_ble_eq_true rfl, Nat.le_of_ble_eq_true rfl⟩) (tv_preV (ws := tv_mw cI cZ g b1 b2 b3 b4 V.1 V.2.2) (hP.sub [5, 6, 7, 8, 9] rfl) hK rfl 0 rfl) rfl rfl hl.1 rfl (lv_room (Nat.le_of_ble_eq_true rfl)) dL_law_257 ⟨hcs, hss⟩) ?_
  refine lv_iload hx hb dL_law_260 (lv_at hl 1 rfl) ?_
  refine lv_icmp_eq (tgt := 267) hx hb dL_law_262 (by decide) (fun c_1 => ?_) (fun c_1 => ?_)
  · skip
    refine lv_iload hx hb dL_law_267 (lv_at hl 1 rfl) ?_
    refine lv_if_ne (tgt := 284) hx hb dL_law_269 (by decide) (fun c_2 => ?_) (fun c_2 => ?_)
    · skip
      refine lv_goto (tgt := 1672) hx hb dL_law_284 (by decide) ?_
      exact kk V.2.2 V.1 f H locs ls hop2 hP hD hS (lv_sub hl [2, 3, 4, 5, 6] rfl)
    · skip
      have hf0 := hf c_2
      have hr0 := hrv c_2
      refine lv_aload_n hx hb dL_law_272 rfl (lv_at hl 5 rfl) ?_
      refine lv_iconst (v := 0) hx hb dL_law_273 (by decide) ?_
      refine tv_lald0 (D := D) hx hb hK hP 10 rfl dL_law_274 ?_
      refine lv_iload hx hb dL_law_275 (lv_at hl 0 rfl) ?_
      refine lv_i2l hx hb dL_law_277 rfl ?_
      refine tv_lcmp0 hx hb (by rw [hf0, hr0]; rfl) dL_law_278 ?_
      refine lv_if_eq (tgt := 284) hx hb dL_law_279 (by decide) (fun c_3 => ?_) (fun c_3 => ?_)
      · skip
        refine lv_goto (tgt := 1672) hx hb dL_law_284 (by decide) ?_
        exact kk V.2.2 V.1 f H locs ls hop2 hP hD hS (lv_sub hl [2, 3, 4, 5, 6] rfl)
      · exact absurd rfl c_3
  · exact absurd rfl c_1
set_option maxHeartbeats 4000000 in
set_option maxRecDepth 100000 in
theorem k_level {p : Program} {e : Env} {s : State} {m : MethodId} {below : List Frame} {meth : Method} {c : Code} {l : Launch} (hT : l.stackTraces = false) {b L : Nat} {xs : Nat → Int32} (hL : L ≤ 2560) (C0 : lw_At p s m meth c b L xs) {D : va_G} {cI cZ cL : ClassId} (hK : va_K D vwCl (tv_ty cI cZ cL) s) (hE : tv_E (fun q : Nat => s.heap.size ≤ q) s s.heap) (hC : tv_C s) {Q : State → Prop} {cells slots : Nat} (hcs : cells + 1 ≤ room_1.cells) (hss : slots + 6 ≤ room_1.slots) {h a1 a2 a3 a4 g b1 b2 b3 b4 ol : Nat} {rd lv op nt : Nat → Int32} {th : Int32} {f : Nat → Int64} (hop : ∀ j, op j = 0 ∨ op j = 1) {i : Nat} (hi : i + 5 ≤ L) {H : Heap} {locs : List Loc} (hP : va_P D vwCl (tv_lw cI cZ cL h a1 a2 a3 a4 g b1 b2 b3 b4 ol (rd, lv, op, nt) (rd, lv, op, nt) th f) H) (hD : va_D (fun q : Nat => s.heap.size ≤ q) (tv_lw cI cZ cL h a1 a2 a3 a4 g b1 b2 b3 b4 ol (rd, lv, op, nt) (rd, lv, op, nt) th f)) (hS : va_S (fun q : Nat => s.heap.size ≤ q) s.heap H locs) {ls : Array Slot} (hl : lv_has ls 7 [(0, .ref b), (1, .ref h), (2, .ref g), (3, .ref ol), (4, .int (nI i))])
    (kk : ∀ (σ : TS) (th : Int32) (f : Nat → Int64) (H : Heap) (locs : List Loc) (ls : Array Slot), (∀ j, σ.2.2.1 j = 0 ∨ σ.2.2.1 j = 1) → va_P D vwCl (tv_lw cI cZ cL h a1 a2 a3 a4 g b1 b2 b3 b4 ol σ σ th f) H → va_D (fun q : Nat => s.heap.size ≤ q) (tv_lw cI cZ cL h a1 a2 a3 a4 g b1 b2 b3 b4 ol σ σ th f) → va_S (fun q : Nat => s.heap.size ≤ q) s.heap H locs → lv_has ls 7 [(0, .ref b), (1, .ref h), (2, .ref g), (3, .ref ol), (4, .int (nI i))] → W p l e room_1 s m #[Value.ref b] below meth c H locs (cells + 1) (slots + 6) Q (F0 m 1672 ls [])) : W p l e room_1 s m #[Value.ref b] below meth c H locs cells slots Q (F0 m 287 ls []) := by
  obtain ⟨hx, hb, hr, hml, hown, hts0, hX, hbl, hlocks, hgv⟩ := C0
  have hb : c.code = cL_law := hb
  have hown : s.vm.findClass RL = some m.cls := hown
  have hts : ∀ w ∈ wsL_law, w.before #[Value.ref b] s = true := fun w h => hts0 w (wsL_law_in w h)
  have hA : ∀ q : Nat, s.heap.size ≤ q → (fun q : Nat => s.heap.size ≤ q) q := fun _ h => h
  have hbA : ¬ (fun q : Nat => s.heap.size ≤ q) b := Nat.not_le.mpr hbl
  have hL31 : L < 2 ^ 31 := by omega
  refine lv_aload_n hx hb dL_law_287 rfl (lv_at hl 1 rfl) ?_
  refine lv_aload_n hx hb dL_law_288 rfl (lv_at hl 0 rfl) ?_
  refine lv_iload hx hb dL_law_289 (lv_at hl 4 rfl) ?_
  refine lv_iconst (v := 1) hx hb dL_law_291 (by decide) ?_
  refine lv_iadd hx hb dL_law_292 ?_
  refine tv_top (nI (i + 1)) (tv_ik i 1 rfl) ?_
  refine tv_sld hx hb hX hbl hbA hS (i := (i + 1)) (by omega) hL31 dL_law_293 ?_
  refine lv_aload_n hx hb dL_law_294 rfl (lv_at hl 0 rfl) ?_
  refine lv_iload hx hb dL_law_295 (lv_at hl 4 rfl) ?_
  refine lv_iconst (v := 2) hx hb dL_law_297 (by decide) ?_
  refine lv_iadd hx hb dL_law_298 ?_
  refine tv_top (nI (i + 2)) (tv_ik i 2 rfl) ?_
  refine tv_sld hx hb hX hbl hbA hS (i := (i + 2)) (by omega) hL31 dL_law_299 ?_
  refine lv_if_eq (tgt := 307) hx hb dL_law_300 (by decide) (fun c_1 => ?_) (fun c_1 => ?_)
  · skip
    refine lv_iconst (v := 0) hx hb dL_law_307 (by decide) ?_
    refine lv_aload_n hx hb dL_law_308 rfl (lv_at hl 0 rfl) ?_
    refine lv_iload hx hb dL_law_309 (lv_at hl 4 rfl) ?_
    refine lv_iconst (v := 3) hx hb dL_law_311 (by decide) ?_
    refine lv_iadd hx hb dL_law_312 ?_
    refine tv_top (nI (i + 3)) (tv_ik i 3 rfl) ?_
    refine tv_sld hx hb hX hbl hbA hS (i := (i + 3)) (by omega) hL31 dL_law_313 ?_
    refine lv_aload_n hx hb dL_law_314 rfl (lv_at hl 3 rfl) ?_
    obtain ⟨V, hV⟩ : ∃ V : TV, V = sp_level (xs (i + 1)) 0 (xs (i + 3)) (rd, lv, op, nt) := ⟨_, rfl⟩
    have hop2 : ∀ j, V.2.2.2.2.1 j = 0 ∨ V.2.2.2.2.1 j = 1 := by rw [hV]; exact o_level hop
    refine tv_callH (D := D) (V := V) (R64 := R64z) (wf := tv_hw cI cZ cL h a1 a2 a3 a4 ol) (ws := tv_lw cI cZ cL h a1 a2 a3 a4 g b1 b2 b3 b4 ol (rd, lv, op, nt) (rd, lv, op, nt) th f) (wc := tv_hw cI cZ cL h a1 a2 a3 a4 ol (rd, lv, op, nt) f) (wr := tv_mw cI cZ g b1 b2 b3 b4 th (rd, lv, op, nt)) (wN := fun f => tv_lw cI cZ cL h a1 a2 a3 a4 g b1 b2 b3 b4 ol V.2.2 (rd, lv, op, nt) th f) (vx_runSW (As := [.ref h, .int (xs (i + 1)), .int 0, .int (xs (i + 3)), .ref ol]) (rest := []) ⟨hx, hb, hml, hown, hts⟩ (c_L_level l hT D cI cZ cL h a1 a2 a3 a4 rd lv op nt ol f H.size (xs (i + 1)) 0 (xs (i + 3)) V hV) (vx_cwSW 5 hts gL_law_L_level rfl rfl rfl (by decide +kernel) ⟨Nat.le_of_ble_eq_true rfl, Nat.le_of_ble_eq_true rfl⟩) (tv_preH hP hK hD hS hA hE hC [0, 1, 2, 3, 4, 10] rfl rfl rfl) rfl rfl hl.1 rfl (lv_room (Nat.le_of_ble_eq_true rfl)) dL_law_315 ⟨hcs, hss⟩) hP hD hS hA [0, 1, 2, 3, 4, 10] [5, 6, 7, 8, 9] rfl rfl rfl (by decide) [5, 6, 7, 8, 9, 0, 1, 2, 3, 4, 10] (fun _ => rfl) (fun _ => rfl) rfl (fun f H locs hf hP hD hS => ?_)
    refine lv_istore (lv' := [(5, .int V.1), (0, .ref b), (1, .ref h), (2, .ref g), (3, .ref ol), (4, .int (nI i))]) hx hb dL_law_318 hl (by decide) rfl (fun ls hl => ?_)
    refine lv_aload_n hx hb dL_law_320 rfl (lv_at hl 3 rfl) ?_
    refine lv_aload_n hx hb dL_law_321 rfl (lv_at hl 1 rfl) ?_
    refine lv_iload hx hb dL_law_322 (lv_at hl 5 rfl) ?_
    refine lv_iconst (v := 1) hx hb dL_law_324 (by decide) ?_
    refine lv_iadd hx hb dL_law_325 ?_
    refine tv_top (nI (i + 1)) (tv_ik i 1 rfl) ?_
    refine tv_sld hx hb hX hbl hbA hS (i := (i + 1)) (by omega) hL31 dL_law_326 ?_
    refine lv_aload_n hx hb dL_law_327 rfl (lv_at hl 1 rfl) ?_
    refine lv_iload hx hb dL_law_328 (lv_at hl 5 rfl) ?_
    refine lv_iconst (v := 2) hx hb dL_law_330 (by decide) ?_
    refine lv_iadd hx hb dL_law_331 ?_
    refine tv_top (nI (i + 2)) (tv_ik i 2 rfl) ?_
    refine tv_sld hx hb hX hbl hbA hS (i := (i + 2)) (by omega) hL31 dL_law_332 ?_
    refine lv_if_eq (tgt := 340) hx hb dL_law_333 (by decide) (fun c_2 => ?_) (fun c_2 => ?_)
    · skip
      refine lv_iconst (v := 0) hx hb dL_law_340 (by decide) ?_
      refine lv_aload_n hx hb dL_law_341 rfl (lv_at hl 1 rfl) ?_
      refine lv_iload hx hb dL_law_342 (lv_at hl 5 rfl) ?_
      refine lv_iconst (v := 3) hx hb dL_law_344 (by decide) ?_
      refine lv_iadd hx hb dL_law_345 ?_
      refine tv_top (nI (i + 3)) (tv_ik i 3 rfl) ?_
      refine tv_sld hx hb hX hbl hbA hS (i := (i + 3)) (by omega) hL31 dL_law_346 ?_
      refine tv_callM (D := D) (V := V) (wf := tv_mw cI cZ g b1 b2 b3 b4) (ws := tv_lw cI cZ cL h a1 a2 a3 a4 g b1 b2 b3 b4 ol V.2.2 (rd, lv, op, nt) th f) (wc := tv_mw cI cZ g b1 b2 b3 b4 th (rd, lv, op, nt)) (wr := [(h, .inr (0, [.ref a1, .ref a2, .ref a3, .ref a4])), (a1, .inl (cI, 96, .inl V.2.2.1)), (a2, .inl (cI, 8, .inl V.2.2.2.1)), (a3, .inl (cZ, 4, .inl V.2.2.2.2.1)), (a4, .inl (cI, 8, .inl V.2.2.2.2.2)), (ol, .inl (cL, 1, .inr (.inl f)))]) (wsN := tv_lw cI cZ cL h a1 a2 a3 a4 g b1 b2 b3 b4 ol V.2.2 V.2.2 V.1 f) (va_runV (As := [.int (xs (i + 1)), .int 0, .int (xs (i + 3))]) (rest := []) ⟨hx, hb, hml, hown, hts⟩ (c_X1_level l D cI cZ cL g b1 b2 b3 b4 rd lv op nt th H.size (xs (i + 1)) 0 (xs (i + 3)) V hV) (cwV 3 hts gL_law_X1_level rfl rfl rfl (by decide +kernel) ⟨Nat.le_of_ble_eq_true rfl, Nat.le_of_ble_eq_true rfl⟩) (tv_preDV hP hK hD [5, 6, 7, 8, 9] rfl rfl rfl rfl 5 rfl) rfl rfl hl.1 rfl (lv_room (Nat.le_of_ble_eq_true rfl)) dL_law_347 ⟨hcs, hss⟩) hP hD hS hA [5, 6, 7, 8, 9] [0, 1, 2, 3, 4, 10] rfl rfl rfl (by decide) [0, 1, 2, 3, 4, 6, 7, 8, 9, 10, 5] rfl rfl rfl rfl (fun r H locs hrv hP hD hS => ?_)
      refine lv_istore (lv' := [(6, .int r), (5, .int V.1), (0, .ref b), (1, .ref h), (2, .ref g), (3, .ref ol), (4, .int (nI i))]) hx hb dL_law_350 hl (by decide) rfl (fun ls hl => ?_)
      refine lv_aload_n hx hb dL_law_352 rfl (lv_at hl 4 rfl) ?_
      refine tv_callR (W.runV (As := []) (rest := []) ⟨hx, hb, hml, hown, hts⟩ (c_X1_thrown l D cI cZ cL g b1 b2 b3 b4 V.2.2.1 V.2.2.2.1 V.2.2.2.2.1 V.2.2.2.2.2 V.1) (cwV 0 hts gL_law_X1_thrown rfl rfl rfl (by decide +kernel) ⟨Nat.le_of_ble_eq_true rfl, Nat.le_of_ble_eq_true rfl⟩) (tv_preV (ws := tv_mw cI cZ g b1 b2 b3 b4 V.1 V.2.2) (hP.sub [5, 6, 7, 8, 9] rfl) hK rfl 0 rfl) rfl rfl hl.1 rfl (lv_room (Nat.le_of_ble_eq_true rfl)) dL_law_353 ⟨hcs, hss⟩) ?_
      refine lv_iload hx hb dL_law_356 (lv_at hl 1 rfl) ?_
      refine lv_icmp_eq (tgt := 363) hx hb dL_law_358 (by decide) (fun c_3 => ?_) (fun c_3 => ?_)
      · skip
        refine lv_iload hx hb dL_law_363 (lv_at hl 1 rfl) ?_
        refine lv_if_ne (tgt := 387) hx hb dL_law_365 (by decide) (fun c_4 => ?_) (fun c_4 => ?_)
        · skip
          refine lv_goto (tgt := 1672) hx hb dL_law_387 (by decide) ?_
          exact kk V.2.2 V.1 f H locs ls hop2 hP hD hS (lv_sub hl [2, 3, 4, 5, 6] rfl)
        · skip
          have hf0 := hf c_4
          have hr0 := hrv c_4
          refine lv_aload_n hx hb dL_law_368 rfl (lv_at hl 5 rfl) ?_
          refine lv_iconst (v := 0) hx hb dL_law_369 (by decide) ?_
          refine tv_lald0 (D := D) hx hb hK hP 10 rfl dL_law_370 ?_
          refine lv_iload hx hb dL_law_371 (lv_at hl 0 rfl) ?_
          refine lv_if_eq (tgt := 380) hx hb dL_law_373 (by decide) (fun c_5 => ?_) (fun c_5 => ?_)
          · skip
            refine lv_lconst (v := 0) hx hb dL_law_380 (by decide) ?_
            refine tv_lcmp0 hx hb (by rw [hf0, R64z, if_pos (hr0.symm.trans c_5)]) dL_law_381 ?_
            refine lv_if_eq (tgt := 387) hx hb dL_law_382 (by decide) (fun c_6 => ?_) (fun c_6 => ?_)
            · skip
              refine lv_goto (tgt := 1672) hx hb dL_law_387 (by decide) ?_
              exact kk V.2.2 V.1 f H locs ls hop2 hP hD hS (lv_sub hl [2, 3, 4, 5, 6] rfl)
            · exact absurd rfl c_6
          · skip
            refine lv_lconst (v := 1) hx hb dL_law_376 (by decide) ?_
            refine lv_goto (tgt := 381) hx hb dL_law_377 (by decide) ?_
            refine tv_lcmp0 hx hb (by rw [hf0, R64z, if_neg (fun q => c_5 (hr0.trans q))]) dL_law_381 ?_
            refine lv_if_eq (tgt := 387) hx hb dL_law_382 (by decide) (fun c_7 => ?_) (fun c_7 => ?_)
            · skip
              refine lv_goto (tgt := 1672) hx hb dL_law_387 (by decide) ?_
              exact kk V.2.2 V.1 f H locs ls hop2 hP hD hS (lv_sub hl [2, 3, 4, 5, 6] rfl)
            · exact absurd rfl c_7
      · exact absurd rfl c_3
    · exact absurd c_1 c_2
  · skip
    refine lv_iconst (v := 1) hx hb dL_law_303 (by decide) ?_
    refine lv_goto (tgt := 308) hx hb dL_law_304 (by decide) ?_
    refine lv_aload_n hx hb dL_law_308 rfl (lv_at hl 0 rfl) ?_
    refine lv_iload hx hb dL_law_309 (lv_at hl 4 rfl) ?_
    refine lv_iconst (v := 3) hx hb dL_law_311 (by decide) ?_
    refine lv_iadd hx hb dL_law_312 ?_
    refine tv_top (nI (i + 3)) (tv_ik i 3 rfl) ?_
    refine tv_sld hx hb hX hbl hbA hS (i := (i + 3)) (by omega) hL31 dL_law_313 ?_
    refine lv_aload_n hx hb dL_law_314 rfl (lv_at hl 3 rfl) ?_
    obtain ⟨V, hV⟩ : ∃ V : TV, V = sp_level (xs (i + 1)) 1 (xs (i + 3)) (rd, lv, op, nt) := ⟨_, rfl⟩
    have hop2 : ∀ j, V.2.2.2.2.1 j = 0 ∨ V.2.2.2.2.1 j = 1 := by rw [hV]; exact o_level hop
    refine tv_callH (D := D) (V := V) (R64 := R64z) (wf := tv_hw cI cZ cL h a1 a2 a3 a4 ol) (ws := tv_lw cI cZ cL h a1 a2 a3 a4 g b1 b2 b3 b4 ol (rd, lv, op, nt) (rd, lv, op, nt) th f) (wc := tv_hw cI cZ cL h a1 a2 a3 a4 ol (rd, lv, op, nt) f) (wr := tv_mw cI cZ g b1 b2 b3 b4 th (rd, lv, op, nt)) (wN := fun f => tv_lw cI cZ cL h a1 a2 a3 a4 g b1 b2 b3 b4 ol V.2.2 (rd, lv, op, nt) th f) (vx_runSW (As := [.ref h, .int (xs (i + 1)), .int 1, .int (xs (i + 3)), .ref ol]) (rest := []) ⟨hx, hb, hml, hown, hts⟩ (c_L_level l hT D cI cZ cL h a1 a2 a3 a4 rd lv op nt ol f H.size (xs (i + 1)) 1 (xs (i + 3)) V hV) (vx_cwSW 5 hts gL_law_L_level rfl rfl rfl (by decide +kernel) ⟨Nat.le_of_ble_eq_true rfl, Nat.le_of_ble_eq_true rfl⟩) (tv_preH hP hK hD hS hA hE hC [0, 1, 2, 3, 4, 10] rfl rfl rfl) rfl rfl hl.1 rfl (lv_room (Nat.le_of_ble_eq_true rfl)) dL_law_315 ⟨hcs, hss⟩) hP hD hS hA [0, 1, 2, 3, 4, 10] [5, 6, 7, 8, 9] rfl rfl rfl (by decide) [5, 6, 7, 8, 9, 0, 1, 2, 3, 4, 10] (fun _ => rfl) (fun _ => rfl) rfl (fun f H locs hf hP hD hS => ?_)
    refine lv_istore (lv' := [(5, .int V.1), (0, .ref b), (1, .ref h), (2, .ref g), (3, .ref ol), (4, .int (nI i))]) hx hb dL_law_318 hl (by decide) rfl (fun ls hl => ?_)
    refine lv_aload_n hx hb dL_law_320 rfl (lv_at hl 3 rfl) ?_
    refine lv_aload_n hx hb dL_law_321 rfl (lv_at hl 1 rfl) ?_
    refine lv_iload hx hb dL_law_322 (lv_at hl 5 rfl) ?_
    refine lv_iconst (v := 1) hx hb dL_law_324 (by decide) ?_
    refine lv_iadd hx hb dL_law_325 ?_
    refine tv_top (nI (i + 1)) (tv_ik i 1 rfl) ?_
    refine tv_sld hx hb hX hbl hbA hS (i := (i + 1)) (by omega) hL31 dL_law_326 ?_
    refine lv_aload_n hx hb dL_law_327 rfl (lv_at hl 1 rfl) ?_
    refine lv_iload hx hb dL_law_328 (lv_at hl 5 rfl) ?_
    refine lv_iconst (v := 2) hx hb dL_law_330 (by decide) ?_
    refine lv_iadd hx hb dL_law_331 ?_
    refine tv_top (nI (i + 2)) (tv_ik i 2 rfl) ?_
    refine tv_sld hx hb hX hbl hbA hS (i := (i + 2)) (by omega) hL31 dL_law_332 ?_
    refine lv_if_eq (tgt := 340) hx hb dL_law_333 (by decide) (fun c_8 => ?_) (fun c_8 => ?_)
    · exact absurd c_8 c_1
    · skip
      refine lv_iconst (v := 1) hx hb dL_law_336 (by decide) ?_
      refine lv_goto (tgt := 341) hx hb dL_law_337 (by decide) ?_
      refine lv_aload_n hx hb dL_law_341 rfl (lv_at hl 1 rfl) ?_
      refine lv_iload hx hb dL_law_342 (lv_at hl 5 rfl) ?_
      refine lv_iconst (v := 3) hx hb dL_law_344 (by decide) ?_
      refine lv_iadd hx hb dL_law_345 ?_
      refine tv_top (nI (i + 3)) (tv_ik i 3 rfl) ?_
      refine tv_sld hx hb hX hbl hbA hS (i := (i + 3)) (by omega) hL31 dL_law_346 ?_
      refine tv_callM (D := D) (V := V) (wf := tv_mw cI cZ g b1 b2 b3 b4) (ws := tv_lw cI cZ cL h a1 a2 a3 a4 g b1 b2 b3 b4 ol V.2.2 (rd, lv, op, nt) th f) (wc := tv_mw cI cZ g b1 b2 b3 b4 th (rd, lv, op, nt)) (wr := [(h, .inr (0, [.ref a1, .ref a2, .ref a3, .ref a4])), (a1, .inl (cI, 96, .inl V.2.2.1)), (a2, .inl (cI, 8, .inl V.2.2.2.1)), (a3, .inl (cZ, 4, .inl V.2.2.2.2.1)), (a4, .inl (cI, 8, .inl V.2.2.2.2.2)), (ol, .inl (cL, 1, .inr (.inl f)))]) (wsN := tv_lw cI cZ cL h a1 a2 a3 a4 g b1 b2 b3 b4 ol V.2.2 V.2.2 V.1 f) (va_runV (As := [.int (xs (i + 1)), .int 1, .int (xs (i + 3))]) (rest := []) ⟨hx, hb, hml, hown, hts⟩ (c_X1_level l D cI cZ cL g b1 b2 b3 b4 rd lv op nt th H.size (xs (i + 1)) 1 (xs (i + 3)) V hV) (cwV 3 hts gL_law_X1_level rfl rfl rfl (by decide +kernel) ⟨Nat.le_of_ble_eq_true rfl, Nat.le_of_ble_eq_true rfl⟩) (tv_preDV hP hK hD [5, 6, 7, 8, 9] rfl rfl rfl rfl 5 rfl) rfl rfl hl.1 rfl (lv_room (Nat.le_of_ble_eq_true rfl)) dL_law_347 ⟨hcs, hss⟩) hP hD hS hA [5, 6, 7, 8, 9] [0, 1, 2, 3, 4, 10] rfl rfl rfl (by decide) [0, 1, 2, 3, 4, 6, 7, 8, 9, 10, 5] rfl rfl rfl rfl (fun r H locs hrv hP hD hS => ?_)
      refine lv_istore (lv' := [(6, .int r), (5, .int V.1), (0, .ref b), (1, .ref h), (2, .ref g), (3, .ref ol), (4, .int (nI i))]) hx hb dL_law_350 hl (by decide) rfl (fun ls hl => ?_)
      refine lv_aload_n hx hb dL_law_352 rfl (lv_at hl 4 rfl) ?_
      refine tv_callR (W.runV (As := []) (rest := []) ⟨hx, hb, hml, hown, hts⟩ (c_X1_thrown l D cI cZ cL g b1 b2 b3 b4 V.2.2.1 V.2.2.2.1 V.2.2.2.2.1 V.2.2.2.2.2 V.1) (cwV 0 hts gL_law_X1_thrown rfl rfl rfl (by decide +kernel) ⟨Nat.le_of_ble_eq_true rfl, Nat.le_of_ble_eq_true rfl⟩) (tv_preV (ws := tv_mw cI cZ g b1 b2 b3 b4 V.1 V.2.2) (hP.sub [5, 6, 7, 8, 9] rfl) hK rfl 0 rfl) rfl rfl hl.1 rfl (lv_room (Nat.le_of_ble_eq_true rfl)) dL_law_353 ⟨hcs, hss⟩) ?_
      refine lv_iload hx hb dL_law_356 (lv_at hl 1 rfl) ?_
      refine lv_icmp_eq (tgt := 363) hx hb dL_law_358 (by decide) (fun c_9 => ?_) (fun c_9 => ?_)
      · skip
        refine lv_iload hx hb dL_law_363 (lv_at hl 1 rfl) ?_
        refine lv_if_ne (tgt := 387) hx hb dL_law_365 (by decide) (fun c_10 => ?_) (fun c_10 => ?_)
        · skip
          refine lv_goto (tgt := 1672) hx hb dL_law_387 (by decide) ?_
          exact kk V.2.2 V.1 f H locs ls hop2 hP hD hS (lv_sub hl [2, 3, 4, 5, 6] rfl)
        · skip
          have hf0 := hf c_10
          have hr0 := hrv c_10
          refine lv_aload_n hx hb dL_law_368 rfl (lv_at hl 5 rfl) ?_
          refine lv_iconst (v := 0) hx hb dL_law_369 (by decide) ?_
          refine tv_lald0 (D := D) hx hb hK hP 10 rfl dL_law_370 ?_
          refine lv_iload hx hb dL_law_371 (lv_at hl 0 rfl) ?_
          refine lv_if_eq (tgt := 380) hx hb dL_law_373 (by decide) (fun c_11 => ?_) (fun c_11 => ?_)
          · skip
            refine lv_lconst (v := 0) hx hb dL_law_380 (by decide) ?_
            refine tv_lcmp0 hx hb (by rw [hf0, R64z, if_pos (hr0.symm.trans c_11)]) dL_law_381 ?_
            refine lv_if_eq (tgt := 387) hx hb dL_law_382 (by decide) (fun c_12 => ?_) (fun c_12 => ?_)
            · skip
              refine lv_goto (tgt := 1672) hx hb dL_law_387 (by decide) ?_
              exact kk V.2.2 V.1 f H locs ls hop2 hP hD hS (lv_sub hl [2, 3, 4, 5, 6] rfl)
            · exact absurd rfl c_12
          · skip
            refine lv_lconst (v := 1) hx hb dL_law_376 (by decide) ?_
            refine lv_goto (tgt := 381) hx hb dL_law_377 (by decide) ?_
            refine tv_lcmp0 hx hb (by rw [hf0, R64z, if_neg (fun q => c_11 (hr0.trans q))]) dL_law_381 ?_
            refine lv_if_eq (tgt := 387) hx hb dL_law_382 (by decide) (fun c_13 => ?_) (fun c_13 => ?_)
            · skip
              refine lv_goto (tgt := 1672) hx hb dL_law_387 (by decide) ?_
              exact kk V.2.2 V.1 f H locs ls hop2 hP hD hS (lv_sub hl [2, 3, 4, 5, 6] rfl)
            · exact absurd rfl c_13
      · exact absurd rfl c_9
set_option maxHeartbeats 4000000 in
set_option maxRecDepth 100000 in
theorem k_copy {p : Program} {e : Env} {s : State} {m : MethodId} {below : List Frame} {meth : Method} {c : Code} {l : Launch} (hT : l.stackTraces = false) {b L : Nat} {xs : Nat → Int32} (hL : L ≤ 2560) (C0 : lw_At p s m meth c b L xs) {D : va_G} {cI cZ cL : ClassId} (hK : va_K D vwCl (tv_ty cI cZ cL) s) (hE : tv_E (fun q : Nat => s.heap.size ≤ q) s s.heap) (hC : tv_C s) {Q : State → Prop} {cells slots : Nat} (hcs : cells + 1 ≤ room_1.cells) (hss : slots + 6 ≤ room_1.slots) {h a1 a2 a3 a4 g b1 b2 b3 b4 ol : Nat} {rd lv op nt : Nat → Int32} {th : Int32} {f : Nat → Int64} (hop : ∀ j, op j = 0 ∨ op j = 1) {i : Nat} (hi : i + 5 ≤ L) {H : Heap} {locs : List Loc} (hP : va_P D vwCl (tv_lw cI cZ cL h a1 a2 a3 a4 g b1 b2 b3 b4 ol (rd, lv, op, nt) (rd, lv, op, nt) th f) H) (hD : va_D (fun q : Nat => s.heap.size ≤ q) (tv_lw cI cZ cL h a1 a2 a3 a4 g b1 b2 b3 b4 ol (rd, lv, op, nt) (rd, lv, op, nt) th f)) (hS : va_S (fun q : Nat => s.heap.size ≤ q) s.heap H locs) {ls : Array Slot} (hl : lv_has ls 7 [(0, .ref b), (1, .ref h), (2, .ref g), (3, .ref ol), (4, .int (nI i))])
    (kk : ∀ (σ : TS) (th : Int32) (f : Nat → Int64) (H : Heap) (locs : List Loc) (ls : Array Slot), (∀ j, σ.2.2.1 j = 0 ∨ σ.2.2.1 j = 1) → va_P D vwCl (tv_lw cI cZ cL h a1 a2 a3 a4 g b1 b2 b3 b4 ol σ σ th f) H → va_D (fun q : Nat => s.heap.size ≤ q) (tv_lw cI cZ cL h a1 a2 a3 a4 g b1 b2 b3 b4 ol σ σ th f) → va_S (fun q : Nat => s.heap.size ≤ q) s.heap H locs → lv_has ls 7 [(0, .ref b), (1, .ref h), (2, .ref g), (3, .ref ol), (4, .int (nI i))] → W p l e room_1 s m #[Value.ref b] below meth c H locs (cells + 1) (slots + 6) Q (F0 m 1672 ls [])) : W p l e room_1 s m #[Value.ref b] below meth c H locs cells slots Q (F0 m 390 ls []) := by
  obtain ⟨hx, hb, hr, hml, hown, hts0, hX, hbl, hlocks, hgv⟩ := C0
  have hb : c.code = cL_law := hb
  have hown : s.vm.findClass RL = some m.cls := hown
  have hts : ∀ w ∈ wsL_law, w.before #[Value.ref b] s = true := fun w h => hts0 w (wsL_law_in w h)
  have hA : ∀ q : Nat, s.heap.size ≤ q → (fun q : Nat => s.heap.size ≤ q) q := fun _ h => h
  have hbA : ¬ (fun q : Nat => s.heap.size ≤ q) b := Nat.not_le.mpr hbl
  have hL31 : L < 2 ^ 31 := by omega
  refine lv_aload_n hx hb dL_law_390 rfl (lv_at hl 1 rfl) ?_
  refine lv_aload_n hx hb dL_law_391 rfl (lv_at hl 0 rfl) ?_
  refine lv_iload hx hb dL_law_392 (lv_at hl 4 rfl) ?_
  refine lv_iconst (v := 1) hx hb dL_law_394 (by decide) ?_
  refine lv_iadd hx hb dL_law_395 ?_
  refine tv_top (nI (i + 1)) (tv_ik i 1 rfl) ?_
  refine tv_sld hx hb hX hbl hbA hS (i := (i + 1)) (by omega) hL31 dL_law_396 ?_
  refine lv_aload_n hx hb dL_law_397 rfl (lv_at hl 0 rfl) ?_
  refine lv_iload hx hb dL_law_398 (lv_at hl 4 rfl) ?_
  refine lv_iconst (v := 2) hx hb dL_law_400 (by decide) ?_
  refine lv_iadd hx hb dL_law_401 ?_
  refine tv_top (nI (i + 2)) (tv_ik i 2 rfl) ?_
  refine tv_sld hx hb hX hbl hbA hS (i := (i + 2)) (by omega) hL31 dL_law_402 ?_
  refine lv_aload_n hx hb dL_law_403 rfl (lv_at hl 3 rfl) ?_
  obtain ⟨V, hV⟩ : ∃ V : TV, V = sp_copy (xs (i + 1)) (xs (i + 2)) (rd, lv, op, nt) := ⟨_, rfl⟩
  have hop2 : ∀ j, V.2.2.2.2.1 j = 0 ∨ V.2.2.2.2.1 j = 1 := by rw [hV]; exact o_copy hop
  refine tv_callH (D := D) (V := V) (R64 := R64i) (wf := tv_hw cI cZ cL h a1 a2 a3 a4 ol) (ws := tv_lw cI cZ cL h a1 a2 a3 a4 g b1 b2 b3 b4 ol (rd, lv, op, nt) (rd, lv, op, nt) th f) (wc := tv_hw cI cZ cL h a1 a2 a3 a4 ol (rd, lv, op, nt) f) (wr := tv_mw cI cZ g b1 b2 b3 b4 th (rd, lv, op, nt)) (wN := fun f => tv_lw cI cZ cL h a1 a2 a3 a4 g b1 b2 b3 b4 ol V.2.2 (rd, lv, op, nt) th f) (vx_runSW (As := [.ref h, .int (xs (i + 1)), .int (xs (i + 2)), .ref ol]) (rest := []) ⟨hx, hb, hml, hown, hts⟩ (c_L_copy l hT D cI cZ cL h a1 a2 a3 a4 rd lv op nt ol f H.size (xs (i + 1)) (xs (i + 2)) V hV) (vx_cwSW 4 hts gL_law_L_copy rfl rfl rfl (by decide +kernel) ⟨Nat.le_of_ble_eq_true rfl, Nat.le_of_ble_eq_true rfl⟩) (tv_preH hP hK hD hS hA hE hC [0, 1, 2, 3, 4, 10] rfl rfl rfl) rfl rfl hl.1 rfl (lv_room (Nat.le_of_ble_eq_true rfl)) dL_law_404 ⟨hcs, hss⟩) hP hD hS hA [0, 1, 2, 3, 4, 10] [5, 6, 7, 8, 9] rfl rfl rfl (by decide) [5, 6, 7, 8, 9, 0, 1, 2, 3, 4, 10] (fun _ => rfl) (fun _ => rfl) rfl (fun f H locs hf hP hD hS => ?_)
  refine lv_istore (lv' := [(5, .int V.1), (0, .ref b), (1, .ref h), (2, .ref g), (3, .ref ol), (4, .int (nI i))]) hx hb dL_law_407 hl (by decide) rfl (fun ls hl => ?_)
  refine lv_aload_n hx hb dL_law_409 rfl (lv_at hl 3 rfl) ?_
  refine lv_aload_n hx hb dL_law_410 rfl (lv_at hl 1 rfl) ?_
  refine lv_iload hx hb dL_law_411 (lv_at hl 5 rfl) ?_
  refine lv_iconst (v := 1) hx hb dL_law_413 (by decide) ?_
  refine lv_iadd hx hb dL_law_414 ?_
  refine tv_top (nI (i + 1)) (tv_ik i 1 rfl) ?_
  refine tv_sld hx hb hX hbl hbA hS (i := (i + 1)) (by omega) hL31 dL_law_415 ?_
  refine lv_aload_n hx hb dL_law_416 rfl (lv_at hl 1 rfl) ?_
  refine lv_iload hx hb dL_law_417 (lv_at hl 5 rfl) ?_
  refine lv_iconst (v := 2) hx hb dL_law_419 (by decide) ?_
  refine lv_iadd hx hb dL_law_420 ?_
  refine tv_top (nI (i + 2)) (tv_ik i 2 rfl) ?_
  refine tv_sld hx hb hX hbl hbA hS (i := (i + 2)) (by omega) hL31 dL_law_421 ?_
  refine tv_callM (D := D) (V := V) (wf := tv_mw cI cZ g b1 b2 b3 b4) (ws := tv_lw cI cZ cL h a1 a2 a3 a4 g b1 b2 b3 b4 ol V.2.2 (rd, lv, op, nt) th f) (wc := tv_mw cI cZ g b1 b2 b3 b4 th (rd, lv, op, nt)) (wr := [(h, .inr (0, [.ref a1, .ref a2, .ref a3, .ref a4])), (a1, .inl (cI, 96, .inl V.2.2.1)), (a2, .inl (cI, 8, .inl V.2.2.2.1)), (a3, .inl (cZ, 4, .inl V.2.2.2.2.1)), (a4, .inl (cI, 8, .inl V.2.2.2.2.2)), (ol, .inl (cL, 1, .inr (.inl f)))]) (wsN := tv_lw cI cZ cL h a1 a2 a3 a4 g b1 b2 b3 b4 ol V.2.2 V.2.2 V.1 f) (va_runV (As := [.int (xs (i + 1)), .int (xs (i + 2))]) (rest := []) ⟨hx, hb, hml, hown, hts⟩ (c_X1_copy l D cI cZ cL g b1 b2 b3 b4 rd lv op nt th H.size (xs (i + 1)) (xs (i + 2)) V hV) (cwV 2 hts gL_law_X1_copy rfl rfl rfl (by decide +kernel) ⟨Nat.le_of_ble_eq_true rfl, Nat.le_of_ble_eq_true rfl⟩) (tv_preDV hP hK hD [5, 6, 7, 8, 9] rfl rfl rfl rfl 5 rfl) rfl rfl hl.1 rfl (lv_room (Nat.le_of_ble_eq_true rfl)) dL_law_422 ⟨hcs, hss⟩) hP hD hS hA [5, 6, 7, 8, 9] [0, 1, 2, 3, 4, 10] rfl rfl rfl (by decide) [0, 1, 2, 3, 4, 6, 7, 8, 9, 10, 5] rfl rfl rfl rfl (fun r H locs hrv hP hD hS => ?_)
  refine lv_istore (lv' := [(6, .int r), (5, .int V.1), (0, .ref b), (1, .ref h), (2, .ref g), (3, .ref ol), (4, .int (nI i))]) hx hb dL_law_425 hl (by decide) rfl (fun ls hl => ?_)
  refine lv_aload_n hx hb dL_law_427 rfl (lv_at hl 4 rfl) ?_
  refine tv_callR (W.runV (As := []) (rest := []) ⟨hx, hb, hml, hown, hts⟩ (c_X1_thrown l D cI cZ cL g b1 b2 b3 b4 V.2.2.1 V.2.2.2.1 V.2.2.2.2.1 V.2.2.2.2.2 V.1) (cwV 0 hts gL_law_X1_thrown rfl rfl rfl (by decide +kernel) ⟨Nat.le_of_ble_eq_true rfl, Nat.le_of_ble_eq_true rfl⟩) (tv_preV (ws := tv_mw cI cZ g b1 b2 b3 b4 V.1 V.2.2) (hP.sub [5, 6, 7, 8, 9] rfl) hK rfl 0 rfl) rfl rfl hl.1 rfl (lv_room (Nat.le_of_ble_eq_true rfl)) dL_law_428 ⟨hcs, hss⟩) ?_
  refine lv_iload hx hb dL_law_431 (lv_at hl 1 rfl) ?_
  refine lv_icmp_eq (tgt := 438) hx hb dL_law_433 (by decide) (fun c_1 => ?_) (fun c_1 => ?_)
  · skip
    refine lv_iload hx hb dL_law_438 (lv_at hl 1 rfl) ?_
    refine lv_if_ne (tgt := 455) hx hb dL_law_440 (by decide) (fun c_2 => ?_) (fun c_2 => ?_)
    · skip
      refine lv_goto (tgt := 1672) hx hb dL_law_455 (by decide) ?_
      exact kk V.2.2 V.1 f H locs ls hop2 hP hD hS (lv_sub hl [2, 3, 4, 5, 6] rfl)
    · skip
      have hf0 := hf c_2
      have hr0 := hrv c_2
      refine lv_aload_n hx hb dL_law_443 rfl (lv_at hl 5 rfl) ?_
      refine lv_iconst (v := 0) hx hb dL_law_444 (by decide) ?_
      refine tv_lald0 (D := D) hx hb hK hP 10 rfl dL_law_445 ?_
      refine lv_iload hx hb dL_law_446 (lv_at hl 0 rfl) ?_
      refine lv_i2l hx hb dL_law_448 rfl ?_
      refine tv_lcmp0 hx hb (by rw [hf0, hr0]; rfl) dL_law_449 ?_
      refine lv_if_eq (tgt := 455) hx hb dL_law_450 (by decide) (fun c_3 => ?_) (fun c_3 => ?_)
      · skip
        refine lv_goto (tgt := 1672) hx hb dL_law_455 (by decide) ?_
        exact kk V.2.2 V.1 f H locs ls hop2 hP hD hS (lv_sub hl [2, 3, 4, 5, 6] rfl)
      · exact absurd rfl c_3
  · exact absurd rfl c_1
set_option maxHeartbeats 4000000 in
set_option maxRecDepth 100000 in
theorem k_straight {p : Program} {e : Env} {s : State} {m : MethodId} {below : List Frame} {meth : Method} {c : Code} {l : Launch} (hT : l.stackTraces = false) {b L : Nat} {xs : Nat → Int32} (hL : L ≤ 2560) (C0 : lw_At p s m meth c b L xs) {D : va_G} {cI cZ cL : ClassId} (hK : va_K D vwCl (tv_ty cI cZ cL) s) (hE : tv_E (fun q : Nat => s.heap.size ≤ q) s s.heap) (hC : tv_C s) {Q : State → Prop} {cells slots : Nat} (hcs : cells + 1 ≤ room_1.cells) (hss : slots + 6 ≤ room_1.slots) {h a1 a2 a3 a4 g b1 b2 b3 b4 ol : Nat} {rd lv op nt : Nat → Int32} {th : Int32} {f : Nat → Int64} (hop : ∀ j, op j = 0 ∨ op j = 1) {i : Nat} (hi : i + 5 ≤ L) {H : Heap} {locs : List Loc} (hP : va_P D vwCl (tv_lw cI cZ cL h a1 a2 a3 a4 g b1 b2 b3 b4 ol (rd, lv, op, nt) (rd, lv, op, nt) th f) H) (hD : va_D (fun q : Nat => s.heap.size ≤ q) (tv_lw cI cZ cL h a1 a2 a3 a4 g b1 b2 b3 b4 ol (rd, lv, op, nt) (rd, lv, op, nt) th f)) (hS : va_S (fun q : Nat => s.heap.size ≤ q) s.heap H locs) {ls : Array Slot} (hl : lv_has ls 7 [(0, .ref b), (1, .ref h), (2, .ref g), (3, .ref ol), (4, .int (nI i))])
    (kk : ∀ (σ : TS) (th : Int32) (f : Nat → Int64) (H : Heap) (locs : List Loc) (ls : Array Slot), (∀ j, σ.2.2.1 j = 0 ∨ σ.2.2.1 j = 1) → va_P D vwCl (tv_lw cI cZ cL h a1 a2 a3 a4 g b1 b2 b3 b4 ol σ σ th f) H → va_D (fun q : Nat => s.heap.size ≤ q) (tv_lw cI cZ cL h a1 a2 a3 a4 g b1 b2 b3 b4 ol σ σ th f) → va_S (fun q : Nat => s.heap.size ≤ q) s.heap H locs → lv_has ls 7 [(0, .ref b), (1, .ref h), (2, .ref g), (3, .ref ol), (4, .int (nI i))] → W p l e room_1 s m #[Value.ref b] below meth c H locs (cells + 1) (slots + 6) Q (F0 m 1672 ls [])) : W p l e room_1 s m #[Value.ref b] below meth c H locs cells slots Q (F0 m 458 ls []) := by
  obtain ⟨hx, hb, hr, hml, hown, hts0, hX, hbl, hlocks, hgv⟩ := C0
  have hb : c.code = cL_law := hb
  have hown : s.vm.findClass RL = some m.cls := hown
  have hts : ∀ w ∈ wsL_law, w.before #[Value.ref b] s = true := fun w h => hts0 w (wsL_law_in w h)
  have hA : ∀ q : Nat, s.heap.size ≤ q → (fun q : Nat => s.heap.size ≤ q) q := fun _ h => h
  have hbA : ¬ (fun q : Nat => s.heap.size ≤ q) b := Nat.not_le.mpr hbl
  have hL31 : L < 2 ^ 31 := by omega
  refine lv_aload_n hx hb dL_law_458 rfl (lv_at hl 1 rfl) ?_
  refine lv_aload_n hx hb dL_law_459 rfl (lv_at hl 0 rfl) ?_
  refine lv_iload hx hb dL_law_460 (lv_at hl 4 rfl) ?_
  refine lv_iconst (v := 1) hx hb dL_law_462 (by decide) ?_
  refine lv_iadd hx hb dL_law_463 ?_
  refine tv_top (nI (i + 1)) (tv_ik i 1 rfl) ?_
  refine tv_sld hx hb hX hbl hbA hS (i := (i + 1)) (by omega) hL31 dL_law_464 ?_
  refine lv_aload_n hx hb dL_law_465 rfl (lv_at hl 0 rfl) ?_
  refine lv_iload hx hb dL_law_466 (lv_at hl 4 rfl) ?_
  refine lv_iconst (v := 2) hx hb dL_law_468 (by decide) ?_
  refine lv_iadd hx hb dL_law_469 ?_
  refine tv_top (nI (i + 2)) (tv_ik i 2 rfl) ?_
  refine tv_sld hx hb hX hbl hbA hS (i := (i + 2)) (by omega) hL31 dL_law_470 ?_
  refine lv_aload_n hx hb dL_law_471 rfl (lv_at hl 0 rfl) ?_
  refine lv_iload hx hb dL_law_472 (lv_at hl 4 rfl) ?_
  refine lv_iconst (v := 3) hx hb dL_law_474 (by decide) ?_
  refine lv_iadd hx hb dL_law_475 ?_
  refine tv_top (nI (i + 3)) (tv_ik i 3 rfl) ?_
  refine tv_sld hx hb hX hbl hbA hS (i := (i + 3)) (by omega) hL31 dL_law_476 ?_
  refine lv_aload_n hx hb dL_law_477 rfl (lv_at hl 3 rfl) ?_
  obtain ⟨V, hV⟩ : ∃ V : TV, V = sp_straight (xs (i + 1)) (xs (i + 2)) (xs (i + 3)) (rd, lv, op, nt) := ⟨_, rfl⟩
  have hop2 : ∀ j, V.2.2.2.2.1 j = 0 ∨ V.2.2.2.2.1 j = 1 := by rw [hV]; exact o_straight hop
  refine tv_callH (D := D) (V := V) (R64 := R64i) (wf := tv_hw cI cZ cL h a1 a2 a3 a4 ol) (ws := tv_lw cI cZ cL h a1 a2 a3 a4 g b1 b2 b3 b4 ol (rd, lv, op, nt) (rd, lv, op, nt) th f) (wc := tv_hw cI cZ cL h a1 a2 a3 a4 ol (rd, lv, op, nt) f) (wr := tv_mw cI cZ g b1 b2 b3 b4 th (rd, lv, op, nt)) (wN := fun f => tv_lw cI cZ cL h a1 a2 a3 a4 g b1 b2 b3 b4 ol V.2.2 (rd, lv, op, nt) th f) (vx_runSW (As := [.ref h, .int (xs (i + 1)), .int (xs (i + 2)), .int (xs (i + 3)), .ref ol]) (rest := []) ⟨hx, hb, hml, hown, hts⟩ (c_L_straight l hT D cI cZ cL h a1 a2 a3 a4 rd lv op nt ol f H.size (xs (i + 1)) (xs (i + 2)) (xs (i + 3)) V hV) (vx_cwSW 5 hts gL_law_L_straight rfl rfl rfl (by decide +kernel) ⟨Nat.le_of_ble_eq_true rfl, Nat.le_of_ble_eq_true rfl⟩) (tv_preH hP hK hD hS hA hE hC [0, 1, 2, 3, 4, 10] rfl rfl rfl) rfl rfl hl.1 rfl (lv_room (Nat.le_of_ble_eq_true rfl)) dL_law_478 ⟨hcs, hss⟩) hP hD hS hA [0, 1, 2, 3, 4, 10] [5, 6, 7, 8, 9] rfl rfl rfl (by decide) [5, 6, 7, 8, 9, 0, 1, 2, 3, 4, 10] (fun _ => rfl) (fun _ => rfl) rfl (fun f H locs hf hP hD hS => ?_)
  refine lv_istore (lv' := [(5, .int V.1), (0, .ref b), (1, .ref h), (2, .ref g), (3, .ref ol), (4, .int (nI i))]) hx hb dL_law_481 hl (by decide) rfl (fun ls hl => ?_)
  refine lv_aload_n hx hb dL_law_483 rfl (lv_at hl 3 rfl) ?_
  refine lv_aload_n hx hb dL_law_484 rfl (lv_at hl 1 rfl) ?_
  refine lv_iload hx hb dL_law_485 (lv_at hl 5 rfl) ?_
  refine lv_iconst (v := 1) hx hb dL_law_487 (by decide) ?_
  refine lv_iadd hx hb dL_law_488 ?_
  refine tv_top (nI (i + 1)) (tv_ik i 1 rfl) ?_
  refine tv_sld hx hb hX hbl hbA hS (i := (i + 1)) (by omega) hL31 dL_law_489 ?_
  refine lv_aload_n hx hb dL_law_490 rfl (lv_at hl 1 rfl) ?_
  refine lv_iload hx hb dL_law_491 (lv_at hl 5 rfl) ?_
  refine lv_iconst (v := 2) hx hb dL_law_493 (by decide) ?_
  refine lv_iadd hx hb dL_law_494 ?_
  refine tv_top (nI (i + 2)) (tv_ik i 2 rfl) ?_
  refine tv_sld hx hb hX hbl hbA hS (i := (i + 2)) (by omega) hL31 dL_law_495 ?_
  refine lv_aload_n hx hb dL_law_496 rfl (lv_at hl 1 rfl) ?_
  refine lv_iload hx hb dL_law_497 (lv_at hl 5 rfl) ?_
  refine lv_iconst (v := 3) hx hb dL_law_499 (by decide) ?_
  refine lv_iadd hx hb dL_law_500 ?_
  refine tv_top (nI (i + 3)) (tv_ik i 3 rfl) ?_
  refine tv_sld hx hb hX hbl hbA hS (i := (i + 3)) (by omega) hL31 dL_law_501 ?_
  refine tv_callM (D := D) (V := V) (wf := tv_mw cI cZ g b1 b2 b3 b4) (ws := tv_lw cI cZ cL h a1 a2 a3 a4 g b1 b2 b3 b4 ol V.2.2 (rd, lv, op, nt) th f) (wc := tv_mw cI cZ g b1 b2 b3 b4 th (rd, lv, op, nt)) (wr := [(h, .inr (0, [.ref a1, .ref a2, .ref a3, .ref a4])), (a1, .inl (cI, 96, .inl V.2.2.1)), (a2, .inl (cI, 8, .inl V.2.2.2.1)), (a3, .inl (cZ, 4, .inl V.2.2.2.2.1)), (a4, .inl (cI, 8, .inl V.2.2.2.2.2)), (ol, .inl (cL, 1, .inr (.inl f)))]) (wsN := tv_lw cI cZ cL h a1 a2 a3 a4 g b1 b2 b3 b4 ol V.2.2 V.2.2 V.1 f) (va_runV (As := [.int (xs (i + 1)), .int (xs (i + 2)), .int (xs (i + 3))]) (rest := []) ⟨hx, hb, hml, hown, hts⟩ (c_X1_straight l D cI cZ cL g b1 b2 b3 b4 rd lv op nt th H.size (xs (i + 1)) (xs (i + 2)) (xs (i + 3)) V hV) (cwV 3 hts gL_law_X1_straight rfl rfl rfl (by decide +kernel) ⟨Nat.le_of_ble_eq_true rfl, Nat.le_of_ble_eq_true rfl⟩) (tv_preDV hP hK hD [5, 6, 7, 8, 9] rfl rfl rfl rfl 5 rfl) rfl rfl hl.1 rfl (lv_room (Nat.le_of_ble_eq_true rfl)) dL_law_502 ⟨hcs, hss⟩) hP hD hS hA [5, 6, 7, 8, 9] [0, 1, 2, 3, 4, 10] rfl rfl rfl (by decide) [0, 1, 2, 3, 4, 6, 7, 8, 9, 10, 5] rfl rfl rfl rfl (fun r H locs hrv hP hD hS => ?_)
  refine lv_istore (lv' := [(6, .int r), (5, .int V.1), (0, .ref b), (1, .ref h), (2, .ref g), (3, .ref ol), (4, .int (nI i))]) hx hb dL_law_505 hl (by decide) rfl (fun ls hl => ?_)
  refine lv_aload_n hx hb dL_law_507 rfl (lv_at hl 4 rfl) ?_
  refine tv_callR (W.runV (As := []) (rest := []) ⟨hx, hb, hml, hown, hts⟩ (c_X1_thrown l D cI cZ cL g b1 b2 b3 b4 V.2.2.1 V.2.2.2.1 V.2.2.2.2.1 V.2.2.2.2.2 V.1) (cwV 0 hts gL_law_X1_thrown rfl rfl rfl (by decide +kernel) ⟨Nat.le_of_ble_eq_true rfl, Nat.le_of_ble_eq_true rfl⟩) (tv_preV (ws := tv_mw cI cZ g b1 b2 b3 b4 V.1 V.2.2) (hP.sub [5, 6, 7, 8, 9] rfl) hK rfl 0 rfl) rfl rfl hl.1 rfl (lv_room (Nat.le_of_ble_eq_true rfl)) dL_law_508 ⟨hcs, hss⟩) ?_
  refine lv_iload hx hb dL_law_511 (lv_at hl 1 rfl) ?_
  refine lv_icmp_eq (tgt := 518) hx hb dL_law_513 (by decide) (fun c_1 => ?_) (fun c_1 => ?_)
  · skip
    refine lv_iload hx hb dL_law_518 (lv_at hl 1 rfl) ?_
    refine lv_if_ne (tgt := 535) hx hb dL_law_520 (by decide) (fun c_2 => ?_) (fun c_2 => ?_)
    · skip
      refine lv_goto (tgt := 1672) hx hb dL_law_535 (by decide) ?_
      exact kk V.2.2 V.1 f H locs ls hop2 hP hD hS (lv_sub hl [2, 3, 4, 5, 6] rfl)
    · skip
      have hf0 := hf c_2
      have hr0 := hrv c_2
      refine lv_aload_n hx hb dL_law_523 rfl (lv_at hl 5 rfl) ?_
      refine lv_iconst (v := 0) hx hb dL_law_524 (by decide) ?_
      refine tv_lald0 (D := D) hx hb hK hP 10 rfl dL_law_525 ?_
      refine lv_iload hx hb dL_law_526 (lv_at hl 0 rfl) ?_
      refine lv_i2l hx hb dL_law_528 rfl ?_
      refine tv_lcmp0 hx hb (by rw [hf0, hr0]; rfl) dL_law_529 ?_
      refine lv_if_eq (tgt := 535) hx hb dL_law_530 (by decide) (fun c_3 => ?_) (fun c_3 => ?_)
      · skip
        refine lv_goto (tgt := 1672) hx hb dL_law_535 (by decide) ?_
        exact kk V.2.2 V.1 f H locs ls hop2 hP hD hS (lv_sub hl [2, 3, 4, 5, 6] rfl)
      · exact absurd rfl c_3
  · exact absurd rfl c_1
set_option maxHeartbeats 4000000 in
set_option maxRecDepth 100000 in
theorem k_turned {p : Program} {e : Env} {s : State} {m : MethodId} {below : List Frame} {meth : Method} {c : Code} {l : Launch} (hT : l.stackTraces = false) {b L : Nat} {xs : Nat → Int32} (hL : L ≤ 2560) (C0 : lw_At p s m meth c b L xs) {D : va_G} {cI cZ cL : ClassId} (hK : va_K D vwCl (tv_ty cI cZ cL) s) (hE : tv_E (fun q : Nat => s.heap.size ≤ q) s s.heap) (hC : tv_C s) {Q : State → Prop} {cells slots : Nat} (hcs : cells + 1 ≤ room_1.cells) (hss : slots + 6 ≤ room_1.slots) {h a1 a2 a3 a4 g b1 b2 b3 b4 ol : Nat} {rd lv op nt : Nat → Int32} {th : Int32} {f : Nat → Int64} (hop : ∀ j, op j = 0 ∨ op j = 1) {i : Nat} (hi : i + 5 ≤ L) {H : Heap} {locs : List Loc} (hP : va_P D vwCl (tv_lw cI cZ cL h a1 a2 a3 a4 g b1 b2 b3 b4 ol (rd, lv, op, nt) (rd, lv, op, nt) th f) H) (hD : va_D (fun q : Nat => s.heap.size ≤ q) (tv_lw cI cZ cL h a1 a2 a3 a4 g b1 b2 b3 b4 ol (rd, lv, op, nt) (rd, lv, op, nt) th f)) (hS : va_S (fun q : Nat => s.heap.size ≤ q) s.heap H locs) {ls : Array Slot} (hl : lv_has ls 7 [(0, .ref b), (1, .ref h), (2, .ref g), (3, .ref ol), (4, .int (nI i))])
    (kk : ∀ (σ : TS) (th : Int32) (f : Nat → Int64) (H : Heap) (locs : List Loc) (ls : Array Slot), (∀ j, σ.2.2.1 j = 0 ∨ σ.2.2.1 j = 1) → va_P D vwCl (tv_lw cI cZ cL h a1 a2 a3 a4 g b1 b2 b3 b4 ol σ σ th f) H → va_D (fun q : Nat => s.heap.size ≤ q) (tv_lw cI cZ cL h a1 a2 a3 a4 g b1 b2 b3 b4 ol σ σ th f) → va_S (fun q : Nat => s.heap.size ≤ q) s.heap H locs → lv_has ls 7 [(0, .ref b), (1, .ref h), (2, .ref g), (3, .ref ol), (4, .int (nI i))] → W p l e room_1 s m #[Value.ref b] below meth c H locs (cells + 1) (slots + 6) Q (F0 m 1672 ls [])) : W p l e room_1 s m #[Value.ref b] below meth c H locs cells slots Q (F0 m 538 ls []) := by
  obtain ⟨hx, hb, hr, hml, hown, hts0, hX, hbl, hlocks, hgv⟩ := C0
  have hb : c.code = cL_law := hb
  have hown : s.vm.findClass RL = some m.cls := hown
  have hts : ∀ w ∈ wsL_law, w.before #[Value.ref b] s = true := fun w h => hts0 w (wsL_law_in w h)
  have hA : ∀ q : Nat, s.heap.size ≤ q → (fun q : Nat => s.heap.size ≤ q) q := fun _ h => h
  have hbA : ¬ (fun q : Nat => s.heap.size ≤ q) b := Nat.not_le.mpr hbl
  have hL31 : L < 2 ^ 31 := by omega
  refine lv_aload_n hx hb dL_law_538 rfl (lv_at hl 1 rfl) ?_
  refine lv_aload_n hx hb dL_law_539 rfl (lv_at hl 0 rfl) ?_
  refine lv_iload hx hb dL_law_540 (lv_at hl 4 rfl) ?_
  refine lv_iconst (v := 1) hx hb dL_law_542 (by decide) ?_
  refine lv_iadd hx hb dL_law_543 ?_
  refine tv_top (nI (i + 1)) (tv_ik i 1 rfl) ?_
  refine tv_sld hx hb hX hbl hbA hS (i := (i + 1)) (by omega) hL31 dL_law_544 ?_
  refine lv_aload_n hx hb dL_law_545 rfl (lv_at hl 0 rfl) ?_
  refine lv_iload hx hb dL_law_546 (lv_at hl 4 rfl) ?_
  refine lv_iconst (v := 2) hx hb dL_law_548 (by decide) ?_
  refine lv_iadd hx hb dL_law_549 ?_
  refine tv_top (nI (i + 2)) (tv_ik i 2 rfl) ?_
  refine tv_sld hx hb hX hbl hbA hS (i := (i + 2)) (by omega) hL31 dL_law_550 ?_
  refine lv_aload_n hx hb dL_law_551 rfl (lv_at hl 0 rfl) ?_
  refine lv_iload hx hb dL_law_552 (lv_at hl 4 rfl) ?_
  refine lv_iconst (v := 3) hx hb dL_law_554 (by decide) ?_
  refine lv_iadd hx hb dL_law_555 ?_
  refine tv_top (nI (i + 3)) (tv_ik i 3 rfl) ?_
  refine tv_sld hx hb hX hbl hbA hS (i := (i + 3)) (by omega) hL31 dL_law_556 ?_
  refine lv_aload_n hx hb dL_law_557 rfl (lv_at hl 3 rfl) ?_
  obtain ⟨V, hV⟩ : ∃ V : TV, V = sp_turned (xs (i + 1)) (xs (i + 2)) (xs (i + 3)) (rd, lv, op, nt) := ⟨_, rfl⟩
  have hop2 : ∀ j, V.2.2.2.2.1 j = 0 ∨ V.2.2.2.2.1 j = 1 := by rw [hV]; exact o_turned hop
  refine tv_callH (D := D) (V := V) (R64 := R64i) (wf := tv_hw cI cZ cL h a1 a2 a3 a4 ol) (ws := tv_lw cI cZ cL h a1 a2 a3 a4 g b1 b2 b3 b4 ol (rd, lv, op, nt) (rd, lv, op, nt) th f) (wc := tv_hw cI cZ cL h a1 a2 a3 a4 ol (rd, lv, op, nt) f) (wr := tv_mw cI cZ g b1 b2 b3 b4 th (rd, lv, op, nt)) (wN := fun f => tv_lw cI cZ cL h a1 a2 a3 a4 g b1 b2 b3 b4 ol V.2.2 (rd, lv, op, nt) th f) (vx_runSW (As := [.ref h, .int (xs (i + 1)), .int (xs (i + 2)), .int (xs (i + 3)), .ref ol]) (rest := []) ⟨hx, hb, hml, hown, hts⟩ (c_L_turned l hT D cI cZ cL h a1 a2 a3 a4 rd lv op nt ol f H.size (xs (i + 1)) (xs (i + 2)) (xs (i + 3)) V hV) (vx_cwSW 5 hts gL_law_L_turned rfl rfl rfl (by decide +kernel) ⟨Nat.le_of_ble_eq_true rfl, Nat.le_of_ble_eq_true rfl⟩) (tv_preH hP hK hD hS hA hE hC [0, 1, 2, 3, 4, 10] rfl rfl rfl) rfl rfl hl.1 rfl (lv_room (Nat.le_of_ble_eq_true rfl)) dL_law_558 ⟨hcs, hss⟩) hP hD hS hA [0, 1, 2, 3, 4, 10] [5, 6, 7, 8, 9] rfl rfl rfl (by decide) [5, 6, 7, 8, 9, 0, 1, 2, 3, 4, 10] (fun _ => rfl) (fun _ => rfl) rfl (fun f H locs hf hP hD hS => ?_)
  refine lv_istore (lv' := [(5, .int V.1), (0, .ref b), (1, .ref h), (2, .ref g), (3, .ref ol), (4, .int (nI i))]) hx hb dL_law_561 hl (by decide) rfl (fun ls hl => ?_)
  refine lv_aload_n hx hb dL_law_563 rfl (lv_at hl 3 rfl) ?_
  refine lv_aload_n hx hb dL_law_564 rfl (lv_at hl 1 rfl) ?_
  refine lv_iload hx hb dL_law_565 (lv_at hl 5 rfl) ?_
  refine lv_iconst (v := 1) hx hb dL_law_567 (by decide) ?_
  refine lv_iadd hx hb dL_law_568 ?_
  refine tv_top (nI (i + 1)) (tv_ik i 1 rfl) ?_
  refine tv_sld hx hb hX hbl hbA hS (i := (i + 1)) (by omega) hL31 dL_law_569 ?_
  refine lv_aload_n hx hb dL_law_570 rfl (lv_at hl 1 rfl) ?_
  refine lv_iload hx hb dL_law_571 (lv_at hl 5 rfl) ?_
  refine lv_iconst (v := 2) hx hb dL_law_573 (by decide) ?_
  refine lv_iadd hx hb dL_law_574 ?_
  refine tv_top (nI (i + 2)) (tv_ik i 2 rfl) ?_
  refine tv_sld hx hb hX hbl hbA hS (i := (i + 2)) (by omega) hL31 dL_law_575 ?_
  refine lv_aload_n hx hb dL_law_576 rfl (lv_at hl 1 rfl) ?_
  refine lv_iload hx hb dL_law_577 (lv_at hl 5 rfl) ?_
  refine lv_iconst (v := 3) hx hb dL_law_579 (by decide) ?_
  refine lv_iadd hx hb dL_law_580 ?_
  refine tv_top (nI (i + 3)) (tv_ik i 3 rfl) ?_
  refine tv_sld hx hb hX hbl hbA hS (i := (i + 3)) (by omega) hL31 dL_law_581 ?_
  refine tv_callM (D := D) (V := V) (wf := tv_mw cI cZ g b1 b2 b3 b4) (ws := tv_lw cI cZ cL h a1 a2 a3 a4 g b1 b2 b3 b4 ol V.2.2 (rd, lv, op, nt) th f) (wc := tv_mw cI cZ g b1 b2 b3 b4 th (rd, lv, op, nt)) (wr := [(h, .inr (0, [.ref a1, .ref a2, .ref a3, .ref a4])), (a1, .inl (cI, 96, .inl V.2.2.1)), (a2, .inl (cI, 8, .inl V.2.2.2.1)), (a3, .inl (cZ, 4, .inl V.2.2.2.2.1)), (a4, .inl (cI, 8, .inl V.2.2.2.2.2)), (ol, .inl (cL, 1, .inr (.inl f)))]) (wsN := tv_lw cI cZ cL h a1 a2 a3 a4 g b1 b2 b3 b4 ol V.2.2 V.2.2 V.1 f) (va_runV (As := [.int (xs (i + 1)), .int (xs (i + 2)), .int (xs (i + 3))]) (rest := []) ⟨hx, hb, hml, hown, hts⟩ (c_X1_turned l D cI cZ cL g b1 b2 b3 b4 rd lv op nt th H.size (xs (i + 1)) (xs (i + 2)) (xs (i + 3)) V hV) (cwV 3 hts gL_law_X1_turned rfl rfl rfl (by decide +kernel) ⟨Nat.le_of_ble_eq_true rfl, Nat.le_of_ble_eq_true rfl⟩) (tv_preDV hP hK hD [5, 6, 7, 8, 9] rfl rfl rfl rfl 5 rfl) rfl rfl hl.1 rfl (lv_room (Nat.le_of_ble_eq_true rfl)) dL_law_582 ⟨hcs, hss⟩) hP hD hS hA [5, 6, 7, 8, 9] [0, 1, 2, 3, 4, 10] rfl rfl rfl (by decide) [0, 1, 2, 3, 4, 6, 7, 8, 9, 10, 5] rfl rfl rfl rfl (fun r H locs hrv hP hD hS => ?_)
  refine lv_istore (lv' := [(6, .int r), (5, .int V.1), (0, .ref b), (1, .ref h), (2, .ref g), (3, .ref ol), (4, .int (nI i))]) hx hb dL_law_585 hl (by decide) rfl (fun ls hl => ?_)
  refine lv_aload_n hx hb dL_law_587 rfl (lv_at hl 4 rfl) ?_
  refine tv_callR (W.runV (As := []) (rest := []) ⟨hx, hb, hml, hown, hts⟩ (c_X1_thrown l D cI cZ cL g b1 b2 b3 b4 V.2.2.1 V.2.2.2.1 V.2.2.2.2.1 V.2.2.2.2.2 V.1) (cwV 0 hts gL_law_X1_thrown rfl rfl rfl (by decide +kernel) ⟨Nat.le_of_ble_eq_true rfl, Nat.le_of_ble_eq_true rfl⟩) (tv_preV (ws := tv_mw cI cZ g b1 b2 b3 b4 V.1 V.2.2) (hP.sub [5, 6, 7, 8, 9] rfl) hK rfl 0 rfl) rfl rfl hl.1 rfl (lv_room (Nat.le_of_ble_eq_true rfl)) dL_law_588 ⟨hcs, hss⟩) ?_
  refine lv_iload hx hb dL_law_591 (lv_at hl 1 rfl) ?_
  refine lv_icmp_eq (tgt := 598) hx hb dL_law_593 (by decide) (fun c_1 => ?_) (fun c_1 => ?_)
  · skip
    refine lv_iload hx hb dL_law_598 (lv_at hl 1 rfl) ?_
    refine lv_if_ne (tgt := 615) hx hb dL_law_600 (by decide) (fun c_2 => ?_) (fun c_2 => ?_)
    · skip
      refine lv_goto (tgt := 1672) hx hb dL_law_615 (by decide) ?_
      exact kk V.2.2 V.1 f H locs ls hop2 hP hD hS (lv_sub hl [2, 3, 4, 5, 6] rfl)
    · skip
      have hf0 := hf c_2
      have hr0 := hrv c_2
      refine lv_aload_n hx hb dL_law_603 rfl (lv_at hl 5 rfl) ?_
      refine lv_iconst (v := 0) hx hb dL_law_604 (by decide) ?_
      refine tv_lald0 (D := D) hx hb hK hP 10 rfl dL_law_605 ?_
      refine lv_iload hx hb dL_law_606 (lv_at hl 0 rfl) ?_
      refine lv_i2l hx hb dL_law_608 rfl ?_
      refine tv_lcmp0 hx hb (by rw [hf0, hr0]; rfl) dL_law_609 ?_
      refine lv_if_eq (tgt := 615) hx hb dL_law_610 (by decide) (fun c_3 => ?_) (fun c_3 => ?_)
      · skip
        refine lv_goto (tgt := 1672) hx hb dL_law_615 (by decide) ?_
        exact kk V.2.2 V.1 f H locs ls hop2 hP hD hS (lv_sub hl [2, 3, 4, 5, 6] rfl)
      · exact absurd rfl c_3
  · exact absurd rfl c_1
set_option maxHeartbeats 4000000 in
set_option maxRecDepth 100000 in
theorem k_between {p : Program} {e : Env} {s : State} {m : MethodId} {below : List Frame} {meth : Method} {c : Code} {l : Launch} (hT : l.stackTraces = false) {b L : Nat} {xs : Nat → Int32} (hL : L ≤ 2560) (C0 : lw_At p s m meth c b L xs) {D : va_G} {cI cZ cL : ClassId} (hK : va_K D vwCl (tv_ty cI cZ cL) s) (hE : tv_E (fun q : Nat => s.heap.size ≤ q) s s.heap) (hC : tv_C s) {Q : State → Prop} {cells slots : Nat} (hcs : cells + 1 ≤ room_1.cells) (hss : slots + 6 ≤ room_1.slots) {h a1 a2 a3 a4 g b1 b2 b3 b4 ol : Nat} {rd lv op nt : Nat → Int32} {th : Int32} {f : Nat → Int64} (hop : ∀ j, op j = 0 ∨ op j = 1) {i : Nat} (hi : i + 5 ≤ L) {H : Heap} {locs : List Loc} (hP : va_P D vwCl (tv_lw cI cZ cL h a1 a2 a3 a4 g b1 b2 b3 b4 ol (rd, lv, op, nt) (rd, lv, op, nt) th f) H) (hD : va_D (fun q : Nat => s.heap.size ≤ q) (tv_lw cI cZ cL h a1 a2 a3 a4 g b1 b2 b3 b4 ol (rd, lv, op, nt) (rd, lv, op, nt) th f)) (hS : va_S (fun q : Nat => s.heap.size ≤ q) s.heap H locs) {ls : Array Slot} (hl : lv_has ls 7 [(0, .ref b), (1, .ref h), (2, .ref g), (3, .ref ol), (4, .int (nI i))])
    (kk : ∀ (σ : TS) (th : Int32) (f : Nat → Int64) (H : Heap) (locs : List Loc) (ls : Array Slot), (∀ j, σ.2.2.1 j = 0 ∨ σ.2.2.1 j = 1) → va_P D vwCl (tv_lw cI cZ cL h a1 a2 a3 a4 g b1 b2 b3 b4 ol σ σ th f) H → va_D (fun q : Nat => s.heap.size ≤ q) (tv_lw cI cZ cL h a1 a2 a3 a4 g b1 b2 b3 b4 ol σ σ th f) → va_S (fun q : Nat => s.heap.size ≤ q) s.heap H locs → lv_has ls 7 [(0, .ref b), (1, .ref h), (2, .ref g), (3, .ref ol), (4, .int (nI i))] → W p l e room_1 s m #[Value.ref b] below meth c H locs (cells + 1) (slots + 6) Q (F0 m 1672 ls [])) : W p l e room_1 s m #[Value.ref b] below meth c H locs cells slots Q (F0 m 618 ls []) := by
  obtain ⟨hx, hb, hr, hml, hown, hts0, hX, hbl, hlocks, hgv⟩ := C0
  have hb : c.code = cL_law := hb
  have hown : s.vm.findClass RL = some m.cls := hown
  have hts : ∀ w ∈ wsL_law, w.before #[Value.ref b] s = true := fun w h => hts0 w (wsL_law_in w h)
  have hA : ∀ q : Nat, s.heap.size ≤ q → (fun q : Nat => s.heap.size ≤ q) q := fun _ h => h
  have hbA : ¬ (fun q : Nat => s.heap.size ≤ q) b := Nat.not_le.mpr hbl
  have hL31 : L < 2 ^ 31 := by omega
  refine lv_aload_n hx hb dL_law_618 rfl (lv_at hl 1 rfl) ?_
  refine lv_aload_n hx hb dL_law_619 rfl (lv_at hl 0 rfl) ?_
  refine lv_iload hx hb dL_law_620 (lv_at hl 4 rfl) ?_
  refine lv_iconst (v := 1) hx hb dL_law_622 (by decide) ?_
  refine lv_iadd hx hb dL_law_623 ?_
  refine tv_top (nI (i + 1)) (tv_ik i 1 rfl) ?_
  refine tv_sld hx hb hX hbl hbA hS (i := (i + 1)) (by omega) hL31 dL_law_624 ?_
  refine lv_aload_n hx hb dL_law_625 rfl (lv_at hl 0 rfl) ?_
  refine lv_iload hx hb dL_law_626 (lv_at hl 4 rfl) ?_
  refine lv_iconst (v := 2) hx hb dL_law_628 (by decide) ?_
  refine lv_iadd hx hb dL_law_629 ?_
  refine tv_top (nI (i + 2)) (tv_ik i 2 rfl) ?_
  refine tv_sld hx hb hX hbl hbA hS (i := (i + 2)) (by omega) hL31 dL_law_630 ?_
  refine lv_aload_n hx hb dL_law_631 rfl (lv_at hl 0 rfl) ?_
  refine lv_iload hx hb dL_law_632 (lv_at hl 4 rfl) ?_
  refine lv_iconst (v := 3) hx hb dL_law_634 (by decide) ?_
  refine lv_iadd hx hb dL_law_635 ?_
  refine tv_top (nI (i + 3)) (tv_ik i 3 rfl) ?_
  refine tv_sld hx hb hX hbl hbA hS (i := (i + 3)) (by omega) hL31 dL_law_636 ?_
  refine lv_aload_n hx hb dL_law_637 rfl (lv_at hl 3 rfl) ?_
  obtain ⟨V, hV⟩ : ∃ V : TV, V = sp_between (xs (i + 1)) (xs (i + 2)) (xs (i + 3)) (rd, lv, op, nt) := ⟨_, rfl⟩
  have hop2 : ∀ j, V.2.2.2.2.1 j = 0 ∨ V.2.2.2.2.1 j = 1 := by rw [hV]; exact o_between hop
  refine tv_callH (D := D) (V := V) (R64 := R64i) (wf := tv_hw cI cZ cL h a1 a2 a3 a4 ol) (ws := tv_lw cI cZ cL h a1 a2 a3 a4 g b1 b2 b3 b4 ol (rd, lv, op, nt) (rd, lv, op, nt) th f) (wc := tv_hw cI cZ cL h a1 a2 a3 a4 ol (rd, lv, op, nt) f) (wr := tv_mw cI cZ g b1 b2 b3 b4 th (rd, lv, op, nt)) (wN := fun f => tv_lw cI cZ cL h a1 a2 a3 a4 g b1 b2 b3 b4 ol V.2.2 (rd, lv, op, nt) th f) (vx_runSW (As := [.ref h, .int (xs (i + 1)), .int (xs (i + 2)), .int (xs (i + 3)), .ref ol]) (rest := []) ⟨hx, hb, hml, hown, hts⟩ (c_L_between l hT D cI cZ cL h a1 a2 a3 a4 rd lv op nt ol f H.size (xs (i + 1)) (xs (i + 2)) (xs (i + 3)) V hV) (vx_cwSW 5 hts gL_law_L_between rfl rfl rfl (by decide +kernel) ⟨Nat.le_of_ble_eq_true rfl, Nat.le_of_ble_eq_true rfl⟩) (tv_preH hP hK hD hS hA hE hC [0, 1, 2, 3, 4, 10] rfl rfl rfl) rfl rfl hl.1 rfl (lv_room (Nat.le_of_ble_eq_true rfl)) dL_law_638 ⟨hcs, hss⟩) hP hD hS hA [0, 1, 2, 3, 4, 10] [5, 6, 7, 8, 9] rfl rfl rfl (by decide) [5, 6, 7, 8, 9, 0, 1, 2, 3, 4, 10] (fun _ => rfl) (fun _ => rfl) rfl (fun f H locs hf hP hD hS => ?_)
  refine lv_istore (lv' := [(5, .int V.1), (0, .ref b), (1, .ref h), (2, .ref g), (3, .ref ol), (4, .int (nI i))]) hx hb dL_law_641 hl (by decide) rfl (fun ls hl => ?_)
  refine lv_aload_n hx hb dL_law_643 rfl (lv_at hl 3 rfl) ?_
  refine lv_aload_n hx hb dL_law_644 rfl (lv_at hl 1 rfl) ?_
  refine lv_iload hx hb dL_law_645 (lv_at hl 5 rfl) ?_
  refine lv_iconst (v := 1) hx hb dL_law_647 (by decide) ?_
  refine lv_iadd hx hb dL_law_648 ?_
  refine tv_top (nI (i + 1)) (tv_ik i 1 rfl) ?_
  refine tv_sld hx hb hX hbl hbA hS (i := (i + 1)) (by omega) hL31 dL_law_649 ?_
  refine lv_aload_n hx hb dL_law_650 rfl (lv_at hl 1 rfl) ?_
  refine lv_iload hx hb dL_law_651 (lv_at hl 5 rfl) ?_
  refine lv_iconst (v := 2) hx hb dL_law_653 (by decide) ?_
  refine lv_iadd hx hb dL_law_654 ?_
  refine tv_top (nI (i + 2)) (tv_ik i 2 rfl) ?_
  refine tv_sld hx hb hX hbl hbA hS (i := (i + 2)) (by omega) hL31 dL_law_655 ?_
  refine lv_aload_n hx hb dL_law_656 rfl (lv_at hl 1 rfl) ?_
  refine lv_iload hx hb dL_law_657 (lv_at hl 5 rfl) ?_
  refine lv_iconst (v := 3) hx hb dL_law_659 (by decide) ?_
  refine lv_iadd hx hb dL_law_660 ?_
  refine tv_top (nI (i + 3)) (tv_ik i 3 rfl) ?_
  refine tv_sld hx hb hX hbl hbA hS (i := (i + 3)) (by omega) hL31 dL_law_661 ?_
  refine tv_callM (D := D) (V := V) (wf := tv_mw cI cZ g b1 b2 b3 b4) (ws := tv_lw cI cZ cL h a1 a2 a3 a4 g b1 b2 b3 b4 ol V.2.2 (rd, lv, op, nt) th f) (wc := tv_mw cI cZ g b1 b2 b3 b4 th (rd, lv, op, nt)) (wr := [(h, .inr (0, [.ref a1, .ref a2, .ref a3, .ref a4])), (a1, .inl (cI, 96, .inl V.2.2.1)), (a2, .inl (cI, 8, .inl V.2.2.2.1)), (a3, .inl (cZ, 4, .inl V.2.2.2.2.1)), (a4, .inl (cI, 8, .inl V.2.2.2.2.2)), (ol, .inl (cL, 1, .inr (.inl f)))]) (wsN := tv_lw cI cZ cL h a1 a2 a3 a4 g b1 b2 b3 b4 ol V.2.2 V.2.2 V.1 f) (va_runV (As := [.int (xs (i + 1)), .int (xs (i + 2)), .int (xs (i + 3))]) (rest := []) ⟨hx, hb, hml, hown, hts⟩ (c_X1_between l D cI cZ cL g b1 b2 b3 b4 rd lv op nt th H.size (xs (i + 1)) (xs (i + 2)) (xs (i + 3)) V hV) (cwV 3 hts gL_law_X1_between rfl rfl rfl (by decide +kernel) ⟨Nat.le_of_ble_eq_true rfl, Nat.le_of_ble_eq_true rfl⟩) (tv_preDV hP hK hD [5, 6, 7, 8, 9] rfl rfl rfl rfl 5 rfl) rfl rfl hl.1 rfl (lv_room (Nat.le_of_ble_eq_true rfl)) dL_law_662 ⟨hcs, hss⟩) hP hD hS hA [5, 6, 7, 8, 9] [0, 1, 2, 3, 4, 10] rfl rfl rfl (by decide) [0, 1, 2, 3, 4, 6, 7, 8, 9, 10, 5] rfl rfl rfl rfl (fun r H locs hrv hP hD hS => ?_)
  refine lv_istore (lv' := [(6, .int r), (5, .int V.1), (0, .ref b), (1, .ref h), (2, .ref g), (3, .ref ol), (4, .int (nI i))]) hx hb dL_law_665 hl (by decide) rfl (fun ls hl => ?_)
  refine lv_aload_n hx hb dL_law_667 rfl (lv_at hl 4 rfl) ?_
  refine tv_callR (W.runV (As := []) (rest := []) ⟨hx, hb, hml, hown, hts⟩ (c_X1_thrown l D cI cZ cL g b1 b2 b3 b4 V.2.2.1 V.2.2.2.1 V.2.2.2.2.1 V.2.2.2.2.2 V.1) (cwV 0 hts gL_law_X1_thrown rfl rfl rfl (by decide +kernel) ⟨Nat.le_of_ble_eq_true rfl, Nat.le_of_ble_eq_true rfl⟩) (tv_preV (ws := tv_mw cI cZ g b1 b2 b3 b4 V.1 V.2.2) (hP.sub [5, 6, 7, 8, 9] rfl) hK rfl 0 rfl) rfl rfl hl.1 rfl (lv_room (Nat.le_of_ble_eq_true rfl)) dL_law_668 ⟨hcs, hss⟩) ?_
  refine lv_iload hx hb dL_law_671 (lv_at hl 1 rfl) ?_
  refine lv_icmp_eq (tgt := 678) hx hb dL_law_673 (by decide) (fun c_1 => ?_) (fun c_1 => ?_)
  · skip
    refine lv_iload hx hb dL_law_678 (lv_at hl 1 rfl) ?_
    refine lv_if_ne (tgt := 695) hx hb dL_law_680 (by decide) (fun c_2 => ?_) (fun c_2 => ?_)
    · skip
      refine lv_goto (tgt := 1672) hx hb dL_law_695 (by decide) ?_
      exact kk V.2.2 V.1 f H locs ls hop2 hP hD hS (lv_sub hl [2, 3, 4, 5, 6] rfl)
    · skip
      have hf0 := hf c_2
      have hr0 := hrv c_2
      refine lv_aload_n hx hb dL_law_683 rfl (lv_at hl 5 rfl) ?_
      refine lv_iconst (v := 0) hx hb dL_law_684 (by decide) ?_
      refine tv_lald0 (D := D) hx hb hK hP 10 rfl dL_law_685 ?_
      refine lv_iload hx hb dL_law_686 (lv_at hl 0 rfl) ?_
      refine lv_i2l hx hb dL_law_688 rfl ?_
      refine tv_lcmp0 hx hb (by rw [hf0, hr0]; rfl) dL_law_689 ?_
      refine lv_if_eq (tgt := 695) hx hb dL_law_690 (by decide) (fun c_3 => ?_) (fun c_3 => ?_)
      · skip
        refine lv_goto (tgt := 1672) hx hb dL_law_695 (by decide) ?_
        exact kk V.2.2 V.1 f H locs ls hop2 hP hD hS (lv_sub hl [2, 3, 4, 5, 6] rfl)
      · exact absurd rfl c_3
  · exact absurd rfl c_1
