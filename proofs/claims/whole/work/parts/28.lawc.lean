set_option maxHeartbeats 4000000 in
set_option maxRecDepth 100000 in
theorem k_notes {p : Program} {e : Env} {s : State} {m : MethodId} {below : List Frame} {meth : Method} {c : Code} {l : Launch} (hT : l.stackTraces = false) {b L : Nat} {xs : Nat → Int32} (hL : L ≤ 2560) (C0 : lw_At p s m meth c b L xs) {D : va_G} {cI cZ cL : ClassId} (hK : va_K D vwCl (tv_ty cI cZ cL) s) (hE : tv_E (fun q : Nat => s.heap.size ≤ q) s s.heap) (hC : tv_C s) {Q : State → Prop} {cells slots : Nat} (hcs : cells + 1 ≤ room_1.cells) (hss : slots + 6 ≤ room_1.slots) {h a1 a2 a3 a4 g b1 b2 b3 b4 ol : Nat} {rd lv op nt : Nat → Int32} {th : Int32} {f : Nat → Int64} (hop : ∀ j, op j = 0 ∨ op j = 1) {i : Nat} (hi : i + 5 ≤ L) {H : Heap} {locs : List Loc} (hP : va_P D vwCl (tv_lw cI cZ cL h a1 a2 a3 a4 g b1 b2 b3 b4 ol (rd, lv, op, nt) (rd, lv, op, nt) th f) H) (hD : va_D (fun q : Nat => s.heap.size ≤ q) (tv_lw cI cZ cL h a1 a2 a3 a4 g b1 b2 b3 b4 ol (rd, lv, op, nt) (rd, lv, op, nt) th f)) (hS : va_S (fun q : Nat => s.heap.size ≤ q) s.heap H locs) {ls : Array Slot} (hl : lv_has ls 7 [(0, .ref b), (1, .ref h), (2, .ref g), (3, .ref ol), (4, .int (nI i))])
    (kk : ∀ (σ : TS) (th : Int32) (f : Nat → Int64) (H : Heap) (locs : List Loc) (ls : Array Slot), (∀ j, σ.2.2.1 j = 0 ∨ σ.2.2.1 j = 1) → va_P D vwCl (tv_lw cI cZ cL h a1 a2 a3 a4 g b1 b2 b3 b4 ol σ σ th f) H → va_D (fun q : Nat => s.heap.size ≤ q) (tv_lw cI cZ cL h a1 a2 a3 a4 g b1 b2 b3 b4 ol σ σ th f) → va_S (fun q : Nat => s.heap.size ≤ q) s.heap H locs → lv_has ls 7 [(0, .ref b), (1, .ref h), (2, .ref g), (3, .ref ol), (4, .int (nI i))] → W p l e room_1 s m #[Value.ref b] below meth c H locs (cells + 1) (slots + 6) Q (F0 m 1672 ls [])) : W p l e room_1 s m #[Value.ref b] below meth c H locs cells slots Q (F0 m 1245 ls []) := by
  obtain ⟨hx, hb, hr, hml, hown, hts0, hX, hbl, hlocks, hgv⟩ := C0
  have hb : c.code = cL_law := hb
  have hown : s.vm.findClass RL = some m.cls := hown
  have hts : ∀ w ∈ wsL_law, w.before #[Value.ref b] s = true := fun w h => hts0 w (wsL_law_in w h)
  have hA : ∀ q : Nat, s.heap.size ≤ q → (fun q : Nat => s.heap.size ≤ q) q := fun _ h => h
  have hbA : ¬ (fun q : Nat => s.heap.size ≤ q) b := Nat.not_le.mpr hbl
  have hL31 : L < 2 ^ 31 := by omega
  refine lv_aload_n hx hb dL_law_1245 rfl (lv_at hl 1 rfl) ?_
  refine lv_aload_n hx hb dL_law_1246 rfl (lv_at hl 0 rfl) ?_
  refine lv_iload hx hb dL_law_1247 (lv_at hl 4 rfl) ?_
  refine lv_iconst (v := 1) hx hb dL_law_1249 (by decide) ?_
  refine lv_iadd hx hb dL_law_1250 ?_
  refine tv_top (nI (i + 1)) (tv_ik i 1 rfl) ?_
  refine tv_sld hx hb hX hbl hbA hS (i := (i + 1)) (by omega) hL31 dL_law_1251 ?_
  refine lv_aload_n hx hb dL_law_1252 rfl (lv_at hl 3 rfl) ?_
  obtain ⟨V, hV⟩ : ∃ V : TV, V = sp_notes (xs (i + 1)) (rd, lv, op, nt) := ⟨_, rfl⟩
  have hop2 : ∀ j, V.2.2.2.2.1 j = 0 ∨ V.2.2.2.2.1 j = 1 := by rw [hV]; exact o_notes hop
  refine tv_callH (D := D) (V := V) (R64 := R64i) (wf := tv_hw cI cZ cL h a1 a2 a3 a4 ol) (ws := tv_lw cI cZ cL h a1 a2 a3 a4 g b1 b2 b3 b4 ol (rd, lv, op, nt) (rd, lv, op, nt) th f) (wc := tv_hw cI cZ cL h a1 a2 a3 a4 ol (rd, lv, op, nt) f) (wr := tv_mw cI cZ g b1 b2 b3 b4 th (rd, lv, op, nt)) (wN := fun f => tv_lw cI cZ cL h a1 a2 a3 a4 g b1 b2 b3 b4 ol V.2.2 (rd, lv, op, nt) th f) (vx_runSW (As := [.ref h, .int (xs (i + 1)), .ref ol]) (rest := []) ⟨hx, hb, hml, hown, hts⟩ (c_L_notes l hT D cI cZ cL h a1 a2 a3 a4 rd lv op nt ol f H.size (xs (i + 1)) V hV) (vx_cwSW 3 hts gL_law_L_notes rfl rfl rfl (by decide +kernel) ⟨Nat.le_of_ble_eq_true rfl, Nat.le_of_ble_eq_true rfl⟩) (tv_preH hP hK hD hS hA hE hC [0, 1, 2, 3, 4, 10] rfl rfl rfl) rfl rfl hl.1 rfl (lv_room (Nat.le_of_ble_eq_true rfl)) dL_law_1253 ⟨hcs, hss⟩) hP hD hS hA [0, 1, 2, 3, 4, 10] [5, 6, 7, 8, 9] rfl rfl rfl (by decide) [5, 6, 7, 8, 9, 0, 1, 2, 3, 4, 10] (fun _ => rfl) (fun _ => rfl) rfl (fun f H locs hf hP hD hS => ?_)
  refine lv_istore (lv' := [(5, .int V.1), (0, .ref b), (1, .ref h), (2, .ref g), (3, .ref ol), (4, .int (nI i))]) hx hb dL_law_1256 hl (by decide) rfl (fun ls hl => ?_)
  refine lv_aload_n hx hb dL_law_1258 rfl (lv_at hl 3 rfl) ?_
  refine lv_aload_n hx hb dL_law_1259 rfl (lv_at hl 1 rfl) ?_
  refine lv_iload hx hb dL_law_1260 (lv_at hl 5 rfl) ?_
  refine lv_iconst (v := 1) hx hb dL_law_1262 (by decide) ?_
  refine lv_iadd hx hb dL_law_1263 ?_
  refine tv_top (nI (i + 1)) (tv_ik i 1 rfl) ?_
  refine tv_sld hx hb hX hbl hbA hS (i := (i + 1)) (by omega) hL31 dL_law_1264 ?_
  refine tv_callM (D := D) (V := V) (wf := tv_mw cI cZ g b1 b2 b3 b4) (ws := tv_lw cI cZ cL h a1 a2 a3 a4 g b1 b2 b3 b4 ol V.2.2 (rd, lv, op, nt) th f) (wc := tv_mw cI cZ g b1 b2 b3 b4 th (rd, lv, op, nt)) (wr := [(h, .inr (0, [.ref a1, .ref a2, .ref a3, .ref a4])), (a1, .inl (cI, 96, .inl V.2.2.1)), (a2, .inl (cI, 8, .inl V.2.2.2.1)), (a3, .inl (cZ, 4, .inl V.2.2.2.2.1)), (a4, .inl (cI, 8, .inl V.2.2.2.2.2)), (ol, .inl (cL, 1, .inr (.inl f)))]) (wsN := tv_lw cI cZ cL h a1 a2 a3 a4 g b1 b2 b3 b4 ol V.2.2 V.2.2 V.1 f) (va_runV (As := [.int (xs (i + 1))]) (rest := []) ⟨hx, hb, hml, hown, hts⟩ (c_X1_notes l D cI cZ cL g b1 b2 b3 b4 rd lv op nt th H.size (xs (i + 1)) V hV) (cwV 1 hts gL_law_X1_notes rfl rfl rfl (by decide +kernel) ⟨Nat.le_of_ble_eq_true rfl, Nat.le_of_ble_eq_true rfl⟩) (tv_preDV hP hK hD [5, 6, 7, 8, 9] rfl rfl rfl rfl 5 rfl) rfl rfl hl.1 rfl (lv_room (Nat.le_of_ble_eq_true rfl)) dL_law_1265 ⟨hcs, hss⟩) hP hD hS hA [5, 6, 7, 8, 9] [0, 1, 2, 3, 4, 10] rfl rfl rfl (by decide) [0, 1, 2, 3, 4, 6, 7, 8, 9, 10, 5] rfl rfl rfl rfl (fun r H locs hrv hP hD hS => ?_)
  refine lv_istore (lv' := [(6, .int r), (5, .int V.1), (0, .ref b), (1, .ref h), (2, .ref g), (3, .ref ol), (4, .int (nI i))]) hx hb dL_law_1268 hl (by decide) rfl (fun ls hl => ?_)
  refine lv_aload_n hx hb dL_law_1270 rfl (lv_at hl 4 rfl) ?_
  refine tv_callR (W.runV (As := []) (rest := []) ⟨hx, hb, hml, hown, hts⟩ (c_X1_thrown l D cI cZ cL g b1 b2 b3 b4 V.2.2.1 V.2.2.2.1 V.2.2.2.2.1 V.2.2.2.2.2 V.1) (cwV 0 hts gL_law_X1_thrown rfl rfl rfl (by decide +kernel) ⟨Nat.le_of_ble_eq_true rfl, Nat.le_of_ble_eq_true rfl⟩) (tv_preV (ws := tv_mw cI cZ g b1 b2 b3 b4 V.1 V.2.2) (hP.sub [5, 6, 7, 8, 9] rfl) hK rfl 0 rfl) rfl rfl hl.1 rfl (lv_room (Nat.le_of_ble_eq_true rfl)) dL_law_1271 ⟨hcs, hss⟩) ?_
  refine lv_iload hx hb dL_law_1274 (lv_at hl 1 rfl) ?_
  refine lv_icmp_eq (tgt := 1281) hx hb dL_law_1276 (by decide) (fun c_1 => ?_) (fun c_1 => ?_)
  · skip
    refine lv_iload hx hb dL_law_1281 (lv_at hl 1 rfl) ?_
    refine lv_if_ne (tgt := 1298) hx hb dL_law_1283 (by decide) (fun c_2 => ?_) (fun c_2 => ?_)
    · skip
      refine lv_goto (tgt := 1672) hx hb dL_law_1298 (by decide) ?_
      exact kk V.2.2 V.1 f H locs ls hop2 hP hD hS (lv_sub hl [2, 3, 4, 5, 6] rfl)
    · skip
      have hf0 := hf c_2
      have hr0 := hrv c_2
      refine lv_aload_n hx hb dL_law_1286 rfl (lv_at hl 5 rfl) ?_
      refine lv_iconst (v := 0) hx hb dL_law_1287 (by decide) ?_
      refine tv_lald0 (D := D) hx hb hK hP 10 rfl dL_law_1288 ?_
      refine lv_iload hx hb dL_law_1289 (lv_at hl 0 rfl) ?_
      refine lv_i2l hx hb dL_law_1291 rfl ?_
      refine tv_lcmp0 hx hb (by rw [hf0, hr0]; rfl) dL_law_1292 ?_
      refine lv_if_eq (tgt := 1298) hx hb dL_law_1293 (by decide) (fun c_3 => ?_) (fun c_3 => ?_)
      · skip
        refine lv_goto (tgt := 1672) hx hb dL_law_1298 (by decide) ?_
        exact kk V.2.2 V.1 f H locs ls hop2 hP hD hS (lv_sub hl [2, 3, 4, 5, 6] rfl)
      · exact absurd rfl c_3
  · exact absurd rfl c_1
set_option maxHeartbeats 4000000 in
set_option maxRecDepth 100000 in
theorem k_gaps {p : Program} {e : Env} {s : State} {m : MethodId} {below : List Frame} {meth : Method} {c : Code} {l : Launch} (hT : l.stackTraces = false) {b L : Nat} {xs : Nat → Int32} (hL : L ≤ 2560) (C0 : lw_At p s m meth c b L xs) {D : va_G} {cI cZ cL : ClassId} (hK : va_K D vwCl (tv_ty cI cZ cL) s) (hE : tv_E (fun q : Nat => s.heap.size ≤ q) s s.heap) (hC : tv_C s) {Q : State → Prop} {cells slots : Nat} (hcs : cells + 1 ≤ room_1.cells) (hss : slots + 6 ≤ room_1.slots) {h a1 a2 a3 a4 g b1 b2 b3 b4 ol : Nat} {rd lv op nt : Nat → Int32} {th : Int32} {f : Nat → Int64} (hop : ∀ j, op j = 0 ∨ op j = 1) {i : Nat} (hi : i + 5 ≤ L) {H : Heap} {locs : List Loc} (hP : va_P D vwCl (tv_lw cI cZ cL h a1 a2 a3 a4 g b1 b2 b3 b4 ol (rd, lv, op, nt) (rd, lv, op, nt) th f) H) (hD : va_D (fun q : Nat => s.heap.size ≤ q) (tv_lw cI cZ cL h a1 a2 a3 a4 g b1 b2 b3 b4 ol (rd, lv, op, nt) (rd, lv, op, nt) th f)) (hS : va_S (fun q : Nat => s.heap.size ≤ q) s.heap H locs) {ls : Array Slot} (hl : lv_has ls 7 [(0, .ref b), (1, .ref h), (2, .ref g), (3, .ref ol), (4, .int (nI i))])
    (kk : ∀ (σ : TS) (th : Int32) (f : Nat → Int64) (H : Heap) (locs : List Loc) (ls : Array Slot), (∀ j, σ.2.2.1 j = 0 ∨ σ.2.2.1 j = 1) → va_P D vwCl (tv_lw cI cZ cL h a1 a2 a3 a4 g b1 b2 b3 b4 ol σ σ th f) H → va_D (fun q : Nat => s.heap.size ≤ q) (tv_lw cI cZ cL h a1 a2 a3 a4 g b1 b2 b3 b4 ol σ σ th f) → va_S (fun q : Nat => s.heap.size ≤ q) s.heap H locs → lv_has ls 7 [(0, .ref b), (1, .ref h), (2, .ref g), (3, .ref ol), (4, .int (nI i))] → W p l e room_1 s m #[Value.ref b] below meth c H locs (cells + 1) (slots + 6) Q (F0 m 1672 ls [])) : W p l e room_1 s m #[Value.ref b] below meth c H locs cells slots Q (F0 m 1301 ls []) := by
  obtain ⟨hx, hb, hr, hml, hown, hts0, hX, hbl, hlocks, hgv⟩ := C0
  have hb : c.code = cL_law := hb
  have hown : s.vm.findClass RL = some m.cls := hown
  have hts : ∀ w ∈ wsL_law, w.before #[Value.ref b] s = true := fun w h => hts0 w (wsL_law_in w h)
  have hA : ∀ q : Nat, s.heap.size ≤ q → (fun q : Nat => s.heap.size ≤ q) q := fun _ h => h
  have hbA : ¬ (fun q : Nat => s.heap.size ≤ q) b := Nat.not_le.mpr hbl
  have hL31 : L < 2 ^ 31 := by omega
  refine lv_aload_n hx hb dL_law_1301 rfl (lv_at hl 1 rfl) ?_
  refine lv_aload_n hx hb dL_law_1302 rfl (lv_at hl 0 rfl) ?_
  refine lv_iload hx hb dL_law_1303 (lv_at hl 4 rfl) ?_
  refine lv_iconst (v := 1) hx hb dL_law_1305 (by decide) ?_
  refine lv_iadd hx hb dL_law_1306 ?_
  refine tv_top (nI (i + 1)) (tv_ik i 1 rfl) ?_
  refine tv_sld hx hb hX hbl hbA hS (i := (i + 1)) (by omega) hL31 dL_law_1307 ?_
  refine lv_aload_n hx hb dL_law_1308 rfl (lv_at hl 3 rfl) ?_
  obtain ⟨V, hV⟩ : ∃ V : TV, V = sp_gaps (xs (i + 1)) (rd, lv, op, nt) := ⟨_, rfl⟩
  have hop2 : ∀ j, V.2.2.2.2.1 j = 0 ∨ V.2.2.2.2.1 j = 1 := by rw [hV]; exact o_gaps hop
  refine tv_callH (D := D) (V := V) (R64 := R64i) (wf := tv_hw cI cZ cL h a1 a2 a3 a4 ol) (ws := tv_lw cI cZ cL h a1 a2 a3 a4 g b1 b2 b3 b4 ol (rd, lv, op, nt) (rd, lv, op, nt) th f) (wc := tv_hw cI cZ cL h a1 a2 a3 a4 ol (rd, lv, op, nt) f) (wr := tv_mw cI cZ g b1 b2 b3 b4 th (rd, lv, op, nt)) (wN := fun f => tv_lw cI cZ cL h a1 a2 a3 a4 g b1 b2 b3 b4 ol V.2.2 (rd, lv, op, nt) th f) (vx_runSW (As := [.ref h, .int (xs (i + 1)), .ref ol]) (rest := []) ⟨hx, hb, hml, hown, hts⟩ (c_L_gaps l hT D cI cZ cL h a1 a2 a3 a4 rd lv op nt ol f H.size (xs (i + 1)) V hV) (vx_cwSW 3 hts gL_law_L_gaps rfl rfl rfl (by decide +kernel) ⟨Nat.le_of_ble_eq_true rfl, Nat.le_of_ble_eq_true rfl⟩) (tv_preH hP hK hD hS hA hE hC [0, 1, 2, 3, 4, 10] rfl rfl rfl) rfl rfl hl.1 rfl (lv_room (Nat.le_of_ble_eq_true rfl)) dL_law_1309 ⟨hcs, hss⟩) hP hD hS hA [0, 1, 2, 3, 4, 10] [5, 6, 7, 8, 9] rfl rfl rfl (by decide) [5, 6, 7, 8, 9, 0, 1, 2, 3, 4, 10] (fun _ => rfl) (fun _ => rfl) rfl (fun f H locs hf hP hD hS => ?_)
  refine lv_istore (lv' := [(5, .int V.1), (0, .ref b), (1, .ref h), (2, .ref g), (3, .ref ol), (4, .int (nI i))]) hx hb dL_law_1312 hl (by decide) rfl (fun ls hl => ?_)
  refine lv_aload_n hx hb dL_law_1314 rfl (lv_at hl 3 rfl) ?_
  refine lv_aload_n hx hb dL_law_1315 rfl (lv_at hl 1 rfl) ?_
  refine lv_iload hx hb dL_law_1316 (lv_at hl 5 rfl) ?_
  refine lv_iconst (v := 1) hx hb dL_law_1318 (by decide) ?_
  refine lv_iadd hx hb dL_law_1319 ?_
  refine tv_top (nI (i + 1)) (tv_ik i 1 rfl) ?_
  refine tv_sld hx hb hX hbl hbA hS (i := (i + 1)) (by omega) hL31 dL_law_1320 ?_
  refine tv_callM (D := D) (V := V) (wf := tv_mw cI cZ g b1 b2 b3 b4) (ws := tv_lw cI cZ cL h a1 a2 a3 a4 g b1 b2 b3 b4 ol V.2.2 (rd, lv, op, nt) th f) (wc := tv_mw cI cZ g b1 b2 b3 b4 th (rd, lv, op, nt)) (wr := [(h, .inr (0, [.ref a1, .ref a2, .ref a3, .ref a4])), (a1, .inl (cI, 96, .inl V.2.2.1)), (a2, .inl (cI, 8, .inl V.2.2.2.1)), (a3, .inl (cZ, 4, .inl V.2.2.2.2.1)), (a4, .inl (cI, 8, .inl V.2.2.2.2.2)), (ol, .inl (cL, 1, .inr (.inl f)))]) (wsN := tv_lw cI cZ cL h a1 a2 a3 a4 g b1 b2 b3 b4 ol V.2.2 V.2.2 V.1 f) (va_runV (As := [.int (xs (i + 1))]) (rest := []) ⟨hx, hb, hml, hown, hts⟩ (c_X1_gaps l D cI cZ cL g b1 b2 b3 b4 rd lv op nt th H.size (xs (i + 1)) V hV) (cwV 1 hts gL_law_X1_gaps rfl rfl rfl (by decide +kernel) ⟨Nat.le_of_ble_eq_true rfl, Nat.le_of_ble_eq_true rfl⟩) (tv_preDV hP hK hD [5, 6, 7, 8, 9] rfl rfl rfl rfl 5 rfl) rfl rfl hl.1 rfl (lv_room (Nat.le_of_ble_eq_true rfl)) dL_law_1321 ⟨hcs, hss⟩) hP hD hS hA [5, 6, 7, 8, 9] [0, 1, 2, 3, 4, 10] rfl rfl rfl (by decide) [0, 1, 2, 3, 4, 6, 7, 8, 9, 10, 5] rfl rfl rfl rfl (fun r H locs hrv hP hD hS => ?_)
  refine lv_istore (lv' := [(6, .int r), (5, .int V.1), (0, .ref b), (1, .ref h), (2, .ref g), (3, .ref ol), (4, .int (nI i))]) hx hb dL_law_1324 hl (by decide) rfl (fun ls hl => ?_)
  refine lv_aload_n hx hb dL_law_1326 rfl (lv_at hl 4 rfl) ?_
  refine tv_callR (W.runV (As := []) (rest := []) ⟨hx, hb, hml, hown, hts⟩ (c_X1_thrown l D cI cZ cL g b1 b2 b3 b4 V.2.2.1 V.2.2.2.1 V.2.2.2.2.1 V.2.2.2.2.2 V.1) (cwV 0 hts gL_law_X1_thrown rfl rfl rfl (by decide +kernel) ⟨Nat.le_of_ble_eq_true rfl, Nat.le_of_ble_eq_true rfl⟩) (tv_preV (ws := tv_mw cI cZ g b1 b2 b3 b4 V.1 V.2.2) (hP.sub [5, 6, 7, 8, 9] rfl) hK rfl 0 rfl) rfl rfl hl.1 rfl (lv_room (Nat.le_of_ble_eq_true rfl)) dL_law_1327 ⟨hcs, hss⟩) ?_
  refine lv_iload hx hb dL_law_1330 (lv_at hl 1 rfl) ?_
  refine lv_icmp_eq (tgt := 1337) hx hb dL_law_1332 (by decide) (fun c_1 => ?_) (fun c_1 => ?_)
  · skip
    refine lv_iload hx hb dL_law_1337 (lv_at hl 1 rfl) ?_
    refine lv_if_ne (tgt := 1354) hx hb dL_law_1339 (by decide) (fun c_2 => ?_) (fun c_2 => ?_)
    · skip
      refine lv_goto (tgt := 1672) hx hb dL_law_1354 (by decide) ?_
      exact kk V.2.2 V.1 f H locs ls hop2 hP hD hS (lv_sub hl [2, 3, 4, 5, 6] rfl)
    · skip
      have hf0 := hf c_2
      have hr0 := hrv c_2
      refine lv_aload_n hx hb dL_law_1342 rfl (lv_at hl 5 rfl) ?_
      refine lv_iconst (v := 0) hx hb dL_law_1343 (by decide) ?_
      refine tv_lald0 (D := D) hx hb hK hP 10 rfl dL_law_1344 ?_
      refine lv_iload hx hb dL_law_1345 (lv_at hl 0 rfl) ?_
      refine lv_i2l hx hb dL_law_1347 rfl ?_
      refine tv_lcmp0 hx hb (by rw [hf0, hr0]; rfl) dL_law_1348 ?_
      refine lv_if_eq (tgt := 1354) hx hb dL_law_1349 (by decide) (fun c_3 => ?_) (fun c_3 => ?_)
      · skip
        refine lv_goto (tgt := 1672) hx hb dL_law_1354 (by decide) ?_
        exact kk V.2.2 V.1 f H locs ls hop2 hP hD hS (lv_sub hl [2, 3, 4, 5, 6] rfl)
      · exact absurd rfl c_3
  · exact absurd rfl c_1
set_option maxHeartbeats 4000000 in
set_option maxRecDepth 100000 in
theorem k_settle {p : Program} {e : Env} {s : State} {m : MethodId} {below : List Frame} {meth : Method} {c : Code} {l : Launch} (hT : l.stackTraces = false) {b L : Nat} {xs : Nat → Int32} (hL : L ≤ 2560) (C0 : lw_At p s m meth c b L xs) {D : va_G} {cI cZ cL : ClassId} (hK : va_K D vwCl (tv_ty cI cZ cL) s) (hE : tv_E (fun q : Nat => s.heap.size ≤ q) s s.heap) (hC : tv_C s) {Q : State → Prop} {cells slots : Nat} (hcs : cells + 1 ≤ room_1.cells) (hss : slots + 6 ≤ room_1.slots) {h a1 a2 a3 a4 g b1 b2 b3 b4 ol : Nat} {rd lv op nt : Nat → Int32} {th : Int32} {f : Nat → Int64} (hop : ∀ j, op j = 0 ∨ op j = 1) {i : Nat} (hi : i + 5 ≤ L) {H : Heap} {locs : List Loc} (hP : va_P D vwCl (tv_lw cI cZ cL h a1 a2 a3 a4 g b1 b2 b3 b4 ol (rd, lv, op, nt) (rd, lv, op, nt) th f) H) (hD : va_D (fun q : Nat => s.heap.size ≤ q) (tv_lw cI cZ cL h a1 a2 a3 a4 g b1 b2 b3 b4 ol (rd, lv, op, nt) (rd, lv, op, nt) th f)) (hS : va_S (fun q : Nat => s.heap.size ≤ q) s.heap H locs) {ls : Array Slot} (hl : lv_has ls 7 [(0, .ref b), (1, .ref h), (2, .ref g), (3, .ref ol), (4, .int (nI i))])
    (kk : ∀ (σ : TS) (th : Int32) (f : Nat → Int64) (H : Heap) (locs : List Loc) (ls : Array Slot), (∀ j, σ.2.2.1 j = 0 ∨ σ.2.2.1 j = 1) → va_P D vwCl (tv_lw cI cZ cL h a1 a2 a3 a4 g b1 b2 b3 b4 ol σ σ th f) H → va_D (fun q : Nat => s.heap.size ≤ q) (tv_lw cI cZ cL h a1 a2 a3 a4 g b1 b2 b3 b4 ol σ σ th f) → va_S (fun q : Nat => s.heap.size ≤ q) s.heap H locs → lv_has ls 7 [(0, .ref b), (1, .ref h), (2, .ref g), (3, .ref ol), (4, .int (nI i))] → W p l e room_1 s m #[Value.ref b] below meth c H locs (cells + 1) (slots + 6) Q (F0 m 1672 ls [])) : W p l e room_1 s m #[Value.ref b] below meth c H locs cells slots Q (F0 m 1357 ls []) := by
  obtain ⟨hx, hb, hr, hml, hown, hts0, hX, hbl, hlocks, hgv⟩ := C0
  have hb : c.code = cL_law := hb
  have hown : s.vm.findClass RL = some m.cls := hown
  have hts : ∀ w ∈ wsL_law, w.before #[Value.ref b] s = true := fun w h => hts0 w (wsL_law_in w h)
  have hA : ∀ q : Nat, s.heap.size ≤ q → (fun q : Nat => s.heap.size ≤ q) q := fun _ h => h
  have hbA : ¬ (fun q : Nat => s.heap.size ≤ q) b := Nat.not_le.mpr hbl
  have hL31 : L < 2 ^ 31 := by omega
  refine lv_aload_n hx hb dL_law_1357 rfl (lv_at hl 1 rfl) ?_
  refine lv_aload_n hx hb dL_law_1358 rfl (lv_at hl 0 rfl) ?_
  refine lv_iload hx hb dL_law_1359 (lv_at hl 4 rfl) ?_
  refine lv_iconst (v := 1) hx hb dL_law_1361 (by decide) ?_
  refine lv_iadd hx hb dL_law_1362 ?_
  refine tv_top (nI (i + 1)) (tv_ik i 1 rfl) ?_
  refine tv_sld hx hb hX hbl hbA hS (i := (i + 1)) (by omega) hL31 dL_law_1363 ?_
  refine lv_aload_n hx hb dL_law_1364 rfl (lv_at hl 0 rfl) ?_
  refine lv_iload hx hb dL_law_1365 (lv_at hl 4 rfl) ?_
  refine lv_iconst (v := 2) hx hb dL_law_1367 (by decide) ?_
  refine lv_iadd hx hb dL_law_1368 ?_
  refine tv_top (nI (i + 2)) (tv_ik i 2 rfl) ?_
  refine tv_sld hx hb hX hbl hbA hS (i := (i + 2)) (by omega) hL31 dL_law_1369 ?_
  refine lv_aload_n hx hb dL_law_1370 rfl (lv_at hl 3 rfl) ?_
  obtain ⟨V, hV⟩ : ∃ V : TV, V = sp_settle (xs (i + 1)) (xs (i + 2)) (rd, lv, op, nt) := ⟨_, rfl⟩
  have hop2 : ∀ j, V.2.2.2.2.1 j = 0 ∨ V.2.2.2.2.1 j = 1 := by rw [hV]; exact o_settle hop
  refine tv_callH (D := D) (V := V) (R64 := R64i) (wf := tv_hw cI cZ cL h a1 a2 a3 a4 ol) (ws := tv_lw cI cZ cL h a1 a2 a3 a4 g b1 b2 b3 b4 ol (rd, lv, op, nt) (rd, lv, op, nt) th f) (wc := tv_hw cI cZ cL h a1 a2 a3 a4 ol (rd, lv, op, nt) f) (wr := tv_mw cI cZ g b1 b2 b3 b4 th (rd, lv, op, nt)) (wN := fun f => tv_lw cI cZ cL h a1 a2 a3 a4 g b1 b2 b3 b4 ol V.2.2 (rd, lv, op, nt) th f) (vx_runSW (As := [.ref h, .int (xs (i + 1)), .int (xs (i + 2)), .ref ol]) (rest := []) ⟨hx, hb, hml, hown, hts⟩ (c_L_settle l hT D cI cZ cL h a1 a2 a3 a4 rd lv op nt ol f H.size (xs (i + 1)) (xs (i + 2)) V hV) (vx_cwSW 4 hts gL_law_L_settle rfl rfl rfl (by decide +kernel) ⟨Nat.le_of_ble_eq_true rfl, Nat.le_of_ble_eq_true rfl⟩) (tv_preH hP hK hD hS hA hE hC [0, 1, 2, 3, 4, 10] rfl rfl rfl) rfl rfl hl.1 rfl (lv_room (Nat.le_of_ble_eq_true rfl)) dL_law_1371 ⟨hcs, hss⟩) hP hD hS hA [0, 1, 2, 3, 4, 10] [5, 6, 7, 8, 9] rfl rfl rfl (by decide) [5, 6, 7, 8, 9, 0, 1, 2, 3, 4, 10] (fun _ => rfl) (fun _ => rfl) rfl (fun f H locs hf hP hD hS => ?_)
  refine lv_istore (lv' := [(5, .int V.1), (0, .ref b), (1, .ref h), (2, .ref g), (3, .ref ol), (4, .int (nI i))]) hx hb dL_law_1374 hl (by decide) rfl (fun ls hl => ?_)
  refine lv_aload_n hx hb dL_law_1376 rfl (lv_at hl 3 rfl) ?_
  refine lv_aload_n hx hb dL_law_1377 rfl (lv_at hl 1 rfl) ?_
  refine lv_iload hx hb dL_law_1378 (lv_at hl 5 rfl) ?_
  refine lv_iconst (v := 1) hx hb dL_law_1380 (by decide) ?_
  refine lv_iadd hx hb dL_law_1381 ?_
  refine tv_top (nI (i + 1)) (tv_ik i 1 rfl) ?_
  refine tv_sld hx hb hX hbl hbA hS (i := (i + 1)) (by omega) hL31 dL_law_1382 ?_
  refine lv_aload_n hx hb dL_law_1383 rfl (lv_at hl 1 rfl) ?_
  refine lv_iload hx hb dL_law_1384 (lv_at hl 5 rfl) ?_
  refine lv_iconst (v := 2) hx hb dL_law_1386 (by decide) ?_
  refine lv_iadd hx hb dL_law_1387 ?_
  refine tv_top (nI (i + 2)) (tv_ik i 2 rfl) ?_
  refine tv_sld hx hb hX hbl hbA hS (i := (i + 2)) (by omega) hL31 dL_law_1388 ?_
  refine tv_callM (D := D) (V := V) (wf := tv_mw cI cZ g b1 b2 b3 b4) (ws := tv_lw cI cZ cL h a1 a2 a3 a4 g b1 b2 b3 b4 ol V.2.2 (rd, lv, op, nt) th f) (wc := tv_mw cI cZ g b1 b2 b3 b4 th (rd, lv, op, nt)) (wr := [(h, .inr (0, [.ref a1, .ref a2, .ref a3, .ref a4])), (a1, .inl (cI, 96, .inl V.2.2.1)), (a2, .inl (cI, 8, .inl V.2.2.2.1)), (a3, .inl (cZ, 4, .inl V.2.2.2.2.1)), (a4, .inl (cI, 8, .inl V.2.2.2.2.2)), (ol, .inl (cL, 1, .inr (.inl f)))]) (wsN := tv_lw cI cZ cL h a1 a2 a3 a4 g b1 b2 b3 b4 ol V.2.2 V.2.2 V.1 f) (va_runV (As := [.int (xs (i + 1)), .int (xs (i + 2))]) (rest := []) ⟨hx, hb, hml, hown, hts⟩ (c_X1_settle l D cI cZ cL g b1 b2 b3 b4 rd lv op nt th H.size (xs (i + 1)) (xs (i + 2)) V hV) (cwV 2 hts gL_law_X1_settle rfl rfl rfl (by decide +kernel) ⟨Nat.le_of_ble_eq_true rfl, Nat.le_of_ble_eq_true rfl⟩) (tv_preDV hP hK hD [5, 6, 7, 8, 9] rfl rfl rfl rfl 5 rfl) rfl rfl hl.1 rfl (lv_room (Nat.le_of_ble_eq_true rfl)) dL_law_1389 ⟨hcs, hss⟩) hP hD hS hA [5, 6, 7, 8, 9] [0, 1, 2, 3, 4, 10] rfl rfl rfl (by decide) [0, 1, 2, 3, 4, 6, 7, 8, 9, 10, 5] rfl rfl rfl rfl (fun r H locs hrv hP hD hS => ?_)
  refine lv_istore (lv' := [(6, .int r), (5, .int V.1), (0, .ref b), (1, .ref h), (2, .ref g), (3, .ref ol), (4, .int (nI i))]) hx hb dL_law_1392 hl (by decide) rfl (fun ls hl => ?_)
  refine lv_aload_n hx hb dL_law_1394 rfl (lv_at hl 4 rfl) ?_
  refine tv_callR (W.runV (As := []) (rest := []) ⟨hx, hb, hml, hown, hts⟩ (c_X1_thrown l D cI cZ cL g b1 b2 b3 b4 V.2.2.1 V.2.2.2.1 V.2.2.2.2.1 V.2.2.2.2.2 V.1) (cwV 0 hts gL_law_X1_thrown rfl rfl rfl (by decide +kernel) ⟨Nat.le_of_ble_eq_true rfl, Nat.le_of_ble_eq_true rfl⟩) (tv_preV (ws := tv_mw cI cZ g b1 b2 b3 b4 V.1 V.2.2) (hP.sub [5, 6, 7, 8, 9] rfl) hK rfl 0 rfl) rfl rfl hl.1 rfl (lv_room (Nat.le_of_ble_eq_true rfl)) dL_law_1395 ⟨hcs, hss⟩) ?_
  refine lv_iload hx hb dL_law_1398 (lv_at hl 1 rfl) ?_
  refine lv_icmp_eq (tgt := 1405) hx hb dL_law_1400 (by decide) (fun c_1 => ?_) (fun c_1 => ?_)
  · skip
    refine lv_iload hx hb dL_law_1405 (lv_at hl 1 rfl) ?_
    refine lv_if_ne (tgt := 1422) hx hb dL_law_1407 (by decide) (fun c_2 => ?_) (fun c_2 => ?_)
    · skip
      refine lv_goto (tgt := 1672) hx hb dL_law_1422 (by decide) ?_
      exact kk V.2.2 V.1 f H locs ls hop2 hP hD hS (lv_sub hl [2, 3, 4, 5, 6] rfl)
    · skip
      have hf0 := hf c_2
      have hr0 := hrv c_2
      refine lv_aload_n hx hb dL_law_1410 rfl (lv_at hl 5 rfl) ?_
      refine lv_iconst (v := 0) hx hb dL_law_1411 (by decide) ?_
      refine tv_lald0 (D := D) hx hb hK hP 10 rfl dL_law_1412 ?_
      refine lv_iload hx hb dL_law_1413 (lv_at hl 0 rfl) ?_
      refine lv_i2l hx hb dL_law_1415 rfl ?_
      refine tv_lcmp0 hx hb (by rw [hf0, hr0]; rfl) dL_law_1416 ?_
      refine lv_if_eq (tgt := 1422) hx hb dL_law_1417 (by decide) (fun c_3 => ?_) (fun c_3 => ?_)
      · skip
        refine lv_goto (tgt := 1672) hx hb dL_law_1422 (by decide) ?_
        exact kk V.2.2 V.1 f H locs ls hop2 hP hD hS (lv_sub hl [2, 3, 4, 5, 6] rfl)
      · exact absurd rfl c_3
  · exact absurd rfl c_1
set_option maxHeartbeats 4000000 in
set_option maxRecDepth 100000 in
theorem k_meet {p : Program} {e : Env} {s : State} {m : MethodId} {below : List Frame} {meth : Method} {c : Code} {l : Launch} (hT : l.stackTraces = false) {b L : Nat} {xs : Nat → Int32} (hL : L ≤ 2560) (C0 : lw_At p s m meth c b L xs) {D : va_G} {cI cZ cL : ClassId} (hK : va_K D vwCl (tv_ty cI cZ cL) s) (hE : tv_E (fun q : Nat => s.heap.size ≤ q) s s.heap) (hC : tv_C s) {Q : State → Prop} {cells slots : Nat} (hcs : cells + 1 ≤ room_1.cells) (hss : slots + 6 ≤ room_1.slots) {h a1 a2 a3 a4 g b1 b2 b3 b4 ol : Nat} {rd lv op nt : Nat → Int32} {th : Int32} {f : Nat → Int64} (hop : ∀ j, op j = 0 ∨ op j = 1) {i : Nat} (hi : i + 5 ≤ L) {H : Heap} {locs : List Loc} (hP : va_P D vwCl (tv_lw cI cZ cL h a1 a2 a3 a4 g b1 b2 b3 b4 ol (rd, lv, op, nt) (rd, lv, op, nt) th f) H) (hD : va_D (fun q : Nat => s.heap.size ≤ q) (tv_lw cI cZ cL h a1 a2 a3 a4 g b1 b2 b3 b4 ol (rd, lv, op, nt) (rd, lv, op, nt) th f)) (hS : va_S (fun q : Nat => s.heap.size ≤ q) s.heap H locs) {ls : Array Slot} (hl : lv_has ls 7 [(0, .ref b), (1, .ref h), (2, .ref g), (3, .ref ol), (4, .int (nI i))])
    (kk : ∀ (σ : TS) (th : Int32) (f : Nat → Int64) (H : Heap) (locs : List Loc) (ls : Array Slot), (∀ j, σ.2.2.1 j = 0 ∨ σ.2.2.1 j = 1) → va_P D vwCl (tv_lw cI cZ cL h a1 a2 a3 a4 g b1 b2 b3 b4 ol σ σ th f) H → va_D (fun q : Nat => s.heap.size ≤ q) (tv_lw cI cZ cL h a1 a2 a3 a4 g b1 b2 b3 b4 ol σ σ th f) → va_S (fun q : Nat => s.heap.size ≤ q) s.heap H locs → lv_has ls 7 [(0, .ref b), (1, .ref h), (2, .ref g), (3, .ref ol), (4, .int (nI i))] → W p l e room_1 s m #[Value.ref b] below meth c H locs (cells + 1) (slots + 6) Q (F0 m 1672 ls [])) : W p l e room_1 s m #[Value.ref b] below meth c H locs cells slots Q (F0 m 1425 ls []) := by
  obtain ⟨hx, hb, hr, hml, hown, hts0, hX, hbl, hlocks, hgv⟩ := C0
  have hb : c.code = cL_law := hb
  have hown : s.vm.findClass RL = some m.cls := hown
  have hts : ∀ w ∈ wsL_law, w.before #[Value.ref b] s = true := fun w h => hts0 w (wsL_law_in w h)
  have hA : ∀ q : Nat, s.heap.size ≤ q → (fun q : Nat => s.heap.size ≤ q) q := fun _ h => h
  have hbA : ¬ (fun q : Nat => s.heap.size ≤ q) b := Nat.not_le.mpr hbl
  have hL31 : L < 2 ^ 31 := by omega
  refine lv_aload_n hx hb dL_law_1425 rfl (lv_at hl 1 rfl) ?_
  refine lv_aload_n hx hb dL_law_1426 rfl (lv_at hl 0 rfl) ?_
  refine lv_iload hx hb dL_law_1427 (lv_at hl 4 rfl) ?_
  refine lv_iconst (v := 1) hx hb dL_law_1429 (by decide) ?_
  refine lv_iadd hx hb dL_law_1430 ?_
  refine tv_top (nI (i + 1)) (tv_ik i 1 rfl) ?_
  refine tv_sld hx hb hX hbl hbA hS (i := (i + 1)) (by omega) hL31 dL_law_1431 ?_
  refine lv_aload_n hx hb dL_law_1432 rfl (lv_at hl 0 rfl) ?_
  refine lv_iload hx hb dL_law_1433 (lv_at hl 4 rfl) ?_
  refine lv_iconst (v := 2) hx hb dL_law_1435 (by decide) ?_
  refine lv_iadd hx hb dL_law_1436 ?_
  refine tv_top (nI (i + 2)) (tv_ik i 2 rfl) ?_
  refine tv_sld hx hb hX hbl hbA hS (i := (i + 2)) (by omega) hL31 dL_law_1437 ?_
  refine lv_aload_n hx hb dL_law_1438 rfl (lv_at hl 0 rfl) ?_
  refine lv_iload hx hb dL_law_1439 (lv_at hl 4 rfl) ?_
  refine lv_iconst (v := 3) hx hb dL_law_1441 (by decide) ?_
  refine lv_iadd hx hb dL_law_1442 ?_
  refine tv_top (nI (i + 3)) (tv_ik i 3 rfl) ?_
  refine tv_sld hx hb hX hbl hbA hS (i := (i + 3)) (by omega) hL31 dL_law_1443 ?_
  refine lv_aload_n hx hb dL_law_1444 rfl (lv_at hl 3 rfl) ?_
  obtain ⟨V, hV⟩ : ∃ V : TV, V = sp_meet (xs (i + 1)) (xs (i + 2)) (xs (i + 3)) (rd, lv, op, nt) := ⟨_, rfl⟩
  have hop2 : ∀ j, V.2.2.2.2.1 j = 0 ∨ V.2.2.2.2.1 j = 1 := by rw [hV]; exact o_meet hop
  refine tv_callH (D := D) (V := V) (R64 := R64i) (wf := tv_hw cI cZ cL h a1 a2 a3 a4 ol) (ws := tv_lw cI cZ cL h a1 a2 a3 a4 g b1 b2 b3 b4 ol (rd, lv, op, nt) (rd, lv, op, nt) th f) (wc := tv_hw cI cZ cL h a1 a2 a3 a4 ol (rd, lv, op, nt) f) (wr := tv_mw cI cZ g b1 b2 b3 b4 th (rd, lv, op, nt)) (wN := fun f => tv_lw cI cZ cL h a1 a2 a3 a4 g b1 b2 b3 b4 ol V.2.2 (rd, lv, op, nt) th f) (vx_runSW (As := [.ref h, .int (xs (i + 1)), .int (xs (i + 2)), .int (xs (i + 3)), .ref ol]) (rest := []) ⟨hx, hb, hml, hown, hts⟩ (c_L_meet l hT D cI cZ cL h a1 a2 a3 a4 rd lv op nt ol f H.size (xs (i + 1)) (xs (i + 2)) (xs (i + 3)) V hV) (vx_cwSW 5 hts gL_law_L_meet rfl rfl rfl (by decide +kernel) ⟨Nat.le_of_ble_eq_true rfl, Nat.le_of_ble_eq_true rfl⟩) (tv_preH hP hK hD hS hA hE hC [0, 1, 2, 3, 4, 10] rfl rfl rfl) rfl rfl hl.1 rfl (lv_room (Nat.le_of_ble_eq_true rfl)) dL_law_1445 ⟨hcs, hss⟩) hP hD hS hA [0, 1, 2, 3, 4, 10] [5, 6, 7, 8, 9] rfl rfl rfl (by decide) [5, 6, 7, 8, 9, 0, 1, 2, 3, 4, 10] (fun _ => rfl) (fun _ => rfl) rfl (fun f H locs hf hP hD hS => ?_)
  refine lv_istore (lv' := [(5, .int V.1), (0, .ref b), (1, .ref h), (2, .ref g), (3, .ref ol), (4, .int (nI i))]) hx hb dL_law_1448 hl (by decide) rfl (fun ls hl => ?_)
  refine lv_aload_n hx hb dL_law_1450 rfl (lv_at hl 3 rfl) ?_
  refine lv_aload_n hx hb dL_law_1451 rfl (lv_at hl 1 rfl) ?_
  refine lv_iload hx hb dL_law_1452 (lv_at hl 5 rfl) ?_
  refine lv_iconst (v := 1) hx hb dL_law_1454 (by decide) ?_
  refine lv_iadd hx hb dL_law_1455 ?_
  refine tv_top (nI (i + 1)) (tv_ik i 1 rfl) ?_
  refine tv_sld hx hb hX hbl hbA hS (i := (i + 1)) (by omega) hL31 dL_law_1456 ?_
  refine lv_aload_n hx hb dL_law_1457 rfl (lv_at hl 1 rfl) ?_
  refine lv_iload hx hb dL_law_1458 (lv_at hl 5 rfl) ?_
  refine lv_iconst (v := 2) hx hb dL_law_1460 (by decide) ?_
  refine lv_iadd hx hb dL_law_1461 ?_
  refine tv_top (nI (i + 2)) (tv_ik i 2 rfl) ?_
  refine tv_sld hx hb hX hbl hbA hS (i := (i + 2)) (by omega) hL31 dL_law_1462 ?_
  refine lv_aload_n hx hb dL_law_1463 rfl (lv_at hl 1 rfl) ?_
  refine lv_iload hx hb dL_law_1464 (lv_at hl 5 rfl) ?_
  refine lv_iconst (v := 3) hx hb dL_law_1466 (by decide) ?_
  refine lv_iadd hx hb dL_law_1467 ?_
  refine tv_top (nI (i + 3)) (tv_ik i 3 rfl) ?_
  refine tv_sld hx hb hX hbl hbA hS (i := (i + 3)) (by omega) hL31 dL_law_1468 ?_
  refine tv_callM (D := D) (V := V) (wf := tv_mw cI cZ g b1 b2 b3 b4) (ws := tv_lw cI cZ cL h a1 a2 a3 a4 g b1 b2 b3 b4 ol V.2.2 (rd, lv, op, nt) th f) (wc := tv_mw cI cZ g b1 b2 b3 b4 th (rd, lv, op, nt)) (wr := [(h, .inr (0, [.ref a1, .ref a2, .ref a3, .ref a4])), (a1, .inl (cI, 96, .inl V.2.2.1)), (a2, .inl (cI, 8, .inl V.2.2.2.1)), (a3, .inl (cZ, 4, .inl V.2.2.2.2.1)), (a4, .inl (cI, 8, .inl V.2.2.2.2.2)), (ol, .inl (cL, 1, .inr (.inl f)))]) (wsN := tv_lw cI cZ cL h a1 a2 a3 a4 g b1 b2 b3 b4 ol V.2.2 V.2.2 V.1 f) (va_runV (As := [.int (xs (i + 1)), .int (xs (i + 2)), .int (xs (i + 3))]) (rest := []) ⟨hx, hb, hml, hown, hts⟩ (c_X1_meet l D cI cZ cL g b1 b2 b3 b4 rd lv op nt th H.size (xs (i + 1)) (xs (i + 2)) (xs (i + 3)) V hV) (cwV 3 hts gL_law_X1_meet rfl rfl rfl (by decide +kernel) ⟨Nat.le_of_ble_eq_true rfl, Nat.le_of_ble_eq_true rfl⟩) (tv_preDV hP hK hD [5, 6, 7, 8, 9] rfl rfl rfl rfl 5 rfl) rfl rfl hl.1 rfl (lv_room (Nat.le_of_ble_eq_true rfl)) dL_law_1469 ⟨hcs, hss⟩) hP hD hS hA [5, 6, 7, 8, 9] [0, 1, 2, 3, 4, 10] rfl rfl rfl (by decide) [0, 1, 2, 3, 4, 6, 7, 8, 9, 10, 5] rfl rfl rfl rfl (fun r H locs hrv hP hD hS => ?_)
  refine lv_istore (lv' := [(6, .int r), (5, .int V.1), (0, .ref b), (1, .ref h), (2, .ref g), (3, .ref ol), (4, .int (nI i))]) hx hb dL_law_1472 hl (by decide) rfl (fun ls hl => ?_)
  refine lv_aload_n hx hb dL_law_1474 rfl (lv_at hl 4 rfl) ?_
  refine tv_callR (W.runV (As := []) (rest := []) ⟨hx, hb, hml, hown, hts⟩ (c_X1_thrown l D cI cZ cL g b1 b2 b3 b4 V.2.2.1 V.2.2.2.1 V.2.2.2.2.1 V.2.2.2.2.2 V.1) (cwV 0 hts gL_law_X1_thrown rfl rfl rfl (by decide +kernel) ⟨Nat.le_of_ble_eq_true rfl, Nat.le_of_ble_eq_true rfl⟩) (tv_preV (ws := tv_mw cI cZ g b1 b2 b3 b4 V.1 V.2.2) (hP.sub [5, 6, 7, 8, 9] rfl) hK rfl 0 rfl) rfl rfl hl.1 rfl (lv_room (Nat.le_of_ble_eq_true rfl)) dL_law_1475 ⟨hcs, hss⟩) ?_
  refine lv_iload hx hb dL_law_1478 (lv_at hl 1 rfl) ?_
  refine lv_icmp_eq (tgt := 1485) hx hb dL_law_1480 (by decide) (fun c_1 => ?_) (fun c_1 => ?_)
  · skip
    refine lv_iload hx hb dL_law_1485 (lv_at hl 1 rfl) ?_
    refine lv_if_ne (tgt := 1502) hx hb dL_law_1487 (by decide) (fun c_2 => ?_) (fun c_2 => ?_)
    · skip
      refine lv_goto (tgt := 1672) hx hb dL_law_1502 (by decide) ?_
      exact kk V.2.2 V.1 f H locs ls hop2 hP hD hS (lv_sub hl [2, 3, 4, 5, 6] rfl)
    · skip
      have hf0 := hf c_2
      have hr0 := hrv c_2
      refine lv_aload_n hx hb dL_law_1490 rfl (lv_at hl 5 rfl) ?_
      refine lv_iconst (v := 0) hx hb dL_law_1491 (by decide) ?_
      refine tv_lald0 (D := D) hx hb hK hP 10 rfl dL_law_1492 ?_
      refine lv_iload hx hb dL_law_1493 (lv_at hl 0 rfl) ?_
      refine lv_i2l hx hb dL_law_1495 rfl ?_
      refine tv_lcmp0 hx hb (by rw [hf0, hr0]; rfl) dL_law_1496 ?_
      refine lv_if_eq (tgt := 1502) hx hb dL_law_1497 (by decide) (fun c_3 => ?_) (fun c_3 => ?_)
      · skip
        refine lv_goto (tgt := 1672) hx hb dL_law_1502 (by decide) ?_
        exact kk V.2.2 V.1 f H locs ls hop2 hP hD hS (lv_sub hl [2, 3, 4, 5, 6] rfl)
      · exact absurd rfl c_3
  · exact absurd rfl c_1
set_option maxHeartbeats 4000000 in
set_option maxRecDepth 100000 in
theorem k_alike {p : Program} {e : Env} {s : State} {m : MethodId} {below : List Frame} {meth : Method} {c : Code} {l : Launch} (hT : l.stackTraces = false) {b L : Nat} {xs : Nat → Int32} (hL : L ≤ 2560) (C0 : lw_At p s m meth c b L xs) {D : va_G} {cI cZ cL : ClassId} (hK : va_K D vwCl (tv_ty cI cZ cL) s) (hE : tv_E (fun q : Nat => s.heap.size ≤ q) s s.heap) (hC : tv_C s) {Q : State → Prop} {cells slots : Nat} (hcs : cells + 1 ≤ room_1.cells) (hss : slots + 6 ≤ room_1.slots) {h a1 a2 a3 a4 g b1 b2 b3 b4 ol : Nat} {rd lv op nt : Nat → Int32} {th : Int32} {f : Nat → Int64} (hop : ∀ j, op j = 0 ∨ op j = 1) {i : Nat} (hi : i + 5 ≤ L) {H : Heap} {locs : List Loc} (hP : va_P D vwCl (tv_lw cI cZ cL h a1 a2 a3 a4 g b1 b2 b3 b4 ol (rd, lv, op, nt) (rd, lv, op, nt) th f) H) (hD : va_D (fun q : Nat => s.heap.size ≤ q) (tv_lw cI cZ cL h a1 a2 a3 a4 g b1 b2 b3 b4 ol (rd, lv, op, nt) (rd, lv, op, nt) th f)) (hS : va_S (fun q : Nat => s.heap.size ≤ q) s.heap H locs) {ls : Array Slot} (hl : lv_has ls 7 [(0, .ref b), (1, .ref h), (2, .ref g), (3, .ref ol), (4, .int (nI i))])
    (kk : ∀ (σ : TS) (th : Int32) (f : Nat → Int64) (H : Heap) (locs : List Loc) (ls : Array Slot), (∀ j, σ.2.2.1 j = 0 ∨ σ.2.2.1 j = 1) → va_P D vwCl (tv_lw cI cZ cL h a1 a2 a3 a4 g b1 b2 b3 b4 ol σ σ th f) H → va_D (fun q : Nat => s.heap.size ≤ q) (tv_lw cI cZ cL h a1 a2 a3 a4 g b1 b2 b3 b4 ol σ σ th f) → va_S (fun q : Nat => s.heap.size ≤ q) s.heap H locs → lv_has ls 7 [(0, .ref b), (1, .ref h), (2, .ref g), (3, .ref ol), (4, .int (nI i))] → W p l e room_1 s m #[Value.ref b] below meth c H locs (cells + 1) (slots + 6) Q (F0 m 1672 ls [])) : W p l e room_1 s m #[Value.ref b] below meth c H locs cells slots Q (F0 m 1505 ls []) := by
  obtain ⟨hx, hb, hr, hml, hown, hts0, hX, hbl, hlocks, hgv⟩ := C0
  have hb : c.code = cL_law := hb
  have hown : s.vm.findClass RL = some m.cls := hown
  have hts : ∀ w ∈ wsL_law, w.before #[Value.ref b] s = true := fun w h => hts0 w (wsL_law_in w h)
  have hA : ∀ q : Nat, s.heap.size ≤ q → (fun q : Nat => s.heap.size ≤ q) q := fun _ h => h
  have hbA : ¬ (fun q : Nat => s.heap.size ≤ q) b := Nat.not_le.mpr hbl
  have hL31 : L < 2 ^ 31 := by omega
  refine lv_aload_n hx hb dL_law_1505 rfl (lv_at hl 1 rfl) ?_
  refine lv_aload_n hx hb dL_law_1506 rfl (lv_at hl 0 rfl) ?_
  refine lv_iload hx hb dL_law_1507 (lv_at hl 4 rfl) ?_
  refine lv_iconst (v := 1) hx hb dL_law_1509 (by decide) ?_
  refine lv_iadd hx hb dL_law_1510 ?_
  refine tv_top (nI (i + 1)) (tv_ik i 1 rfl) ?_
  refine tv_sld hx hb hX hbl hbA hS (i := (i + 1)) (by omega) hL31 dL_law_1511 ?_
  refine lv_aload_n hx hb dL_law_1512 rfl (lv_at hl 0 rfl) ?_
  refine lv_iload hx hb dL_law_1513 (lv_at hl 4 rfl) ?_
  refine lv_iconst (v := 2) hx hb dL_law_1515 (by decide) ?_
  refine lv_iadd hx hb dL_law_1516 ?_
  refine tv_top (nI (i + 2)) (tv_ik i 2 rfl) ?_
  refine tv_sld hx hb hX hbl hbA hS (i := (i + 2)) (by omega) hL31 dL_law_1517 ?_
  refine lv_aload_n hx hb dL_law_1518 rfl (lv_at hl 3 rfl) ?_
  obtain ⟨V, hV⟩ : ∃ V : TV, V = sp_alike (xs (i + 1)) (xs (i + 2)) (rd, lv, op, nt) := ⟨_, rfl⟩
  have hop2 : ∀ j, V.2.2.2.2.1 j = 0 ∨ V.2.2.2.2.1 j = 1 := by rw [hV]; exact o_alike hop
  refine tv_callH (D := D) (V := V) (R64 := R64z) (wf := tv_hw cI cZ cL h a1 a2 a3 a4 ol) (ws := tv_lw cI cZ cL h a1 a2 a3 a4 g b1 b2 b3 b4 ol (rd, lv, op, nt) (rd, lv, op, nt) th f) (wc := tv_hw cI cZ cL h a1 a2 a3 a4 ol (rd, lv, op, nt) f) (wr := tv_mw cI cZ g b1 b2 b3 b4 th (rd, lv, op, nt)) (wN := fun f => tv_lw cI cZ cL h a1 a2 a3 a4 g b1 b2 b3 b4 ol V.2.2 (rd, lv, op, nt) th f) (vx_runSW (As := [.ref h, .int (xs (i + 1)), .int (xs (i + 2)), .ref ol]) (rest := []) ⟨hx, hb, hml, hown, hts⟩ (c_L_alike l hT D cI cZ cL h a1 a2 a3 a4 rd lv op nt ol f H.size (xs (i + 1)) (xs (i + 2)) V hV) (vx_cwSW 4 hts gL_law_L_alike rfl rfl rfl (by decide +kernel) ⟨Nat.le_of_ble_eq_true rfl, Nat.le_of_ble_eq_true rfl⟩) (tv_preH hP hK hD hS hA hE hC [0, 1, 2, 3, 4, 10] rfl rfl rfl) rfl rfl hl.1 rfl (lv_room (Nat.le_of_ble_eq_true rfl)) dL_law_1519 ⟨hcs, hss⟩) hP hD hS hA [0, 1, 2, 3, 4, 10] [5, 6, 7, 8, 9] rfl rfl rfl (by decide) [5, 6, 7, 8, 9, 0, 1, 2, 3, 4, 10] (fun _ => rfl) (fun _ => rfl) rfl (fun f H locs hf hP hD hS => ?_)
  refine lv_istore (lv' := [(5, .int V.1), (0, .ref b), (1, .ref h), (2, .ref g), (3, .ref ol), (4, .int (nI i))]) hx hb dL_law_1522 hl (by decide) rfl (fun ls hl => ?_)
  refine lv_aload_n hx hb dL_law_1524 rfl (lv_at hl 3 rfl) ?_
  refine lv_aload_n hx hb dL_law_1525 rfl (lv_at hl 1 rfl) ?_
  refine lv_iload hx hb dL_law_1526 (lv_at hl 5 rfl) ?_
  refine lv_iconst (v := 1) hx hb dL_law_1528 (by decide) ?_
  refine lv_iadd hx hb dL_law_1529 ?_
  refine tv_top (nI (i + 1)) (tv_ik i 1 rfl) ?_
  refine tv_sld hx hb hX hbl hbA hS (i := (i + 1)) (by omega) hL31 dL_law_1530 ?_
  refine lv_aload_n hx hb dL_law_1531 rfl (lv_at hl 1 rfl) ?_
  refine lv_iload hx hb dL_law_1532 (lv_at hl 5 rfl) ?_
  refine lv_iconst (v := 2) hx hb dL_law_1534 (by decide) ?_
  refine lv_iadd hx hb dL_law_1535 ?_
  refine tv_top (nI (i + 2)) (tv_ik i 2 rfl) ?_
  refine tv_sld hx hb hX hbl hbA hS (i := (i + 2)) (by omega) hL31 dL_law_1536 ?_
  refine tv_callM (D := D) (V := V) (wf := tv_mw cI cZ g b1 b2 b3 b4) (ws := tv_lw cI cZ cL h a1 a2 a3 a4 g b1 b2 b3 b4 ol V.2.2 (rd, lv, op, nt) th f) (wc := tv_mw cI cZ g b1 b2 b3 b4 th (rd, lv, op, nt)) (wr := [(h, .inr (0, [.ref a1, .ref a2, .ref a3, .ref a4])), (a1, .inl (cI, 96, .inl V.2.2.1)), (a2, .inl (cI, 8, .inl V.2.2.2.1)), (a3, .inl (cZ, 4, .inl V.2.2.2.2.1)), (a4, .inl (cI, 8, .inl V.2.2.2.2.2)), (ol, .inl (cL, 1, .inr (.inl f)))]) (wsN := tv_lw cI cZ cL h a1 a2 a3 a4 g b1 b2 b3 b4 ol V.2.2 V.2.2 V.1 f) (va_runV (As := [.int (xs (i + 1)), .int (xs (i + 2))]) (rest := []) ⟨hx, hb, hml, hown, hts⟩ (c_X1_alike l D cI cZ cL g b1 b2 b3 b4 rd lv op nt th H.size (xs (i + 1)) (xs (i + 2)) V hV) (cwV 2 hts gL_law_X1_alike rfl rfl rfl (by decide +kernel) ⟨Nat.le_of_ble_eq_true rfl, Nat.le_of_ble_eq_true rfl⟩) (tv_preDV hP hK hD [5, 6, 7, 8, 9] rfl rfl rfl rfl 5 rfl) rfl rfl hl.1 rfl (lv_room (Nat.le_of_ble_eq_true rfl)) dL_law_1537 ⟨hcs, hss⟩) hP hD hS hA [5, 6, 7, 8, 9] [0, 1, 2, 3, 4, 10] rfl rfl rfl (by decide) [0, 1, 2, 3, 4, 6, 7, 8, 9, 10, 5] rfl rfl rfl rfl (fun r H locs hrv hP hD hS => ?_)
  refine lv_istore (lv' := [(6, .int r), (5, .int V.1), (0, .ref b), (1, .ref h), (2, .ref g), (3, .ref ol), (4, .int (nI i))]) hx hb dL_law_1540 hl (by decide) rfl (fun ls hl => ?_)
  refine lv_aload_n hx hb dL_law_1542 rfl (lv_at hl 4 rfl) ?_
  refine tv_callR (W.runV (As := []) (rest := []) ⟨hx, hb, hml, hown, hts⟩ (c_X1_thrown l D cI cZ cL g b1 b2 b3 b4 V.2.2.1 V.2.2.2.1 V.2.2.2.2.1 V.2.2.2.2.2 V.1) (cwV 0 hts gL_law_X1_thrown rfl rfl rfl (by decide +kernel) ⟨Nat.le_of_ble_eq_true rfl, Nat.le_of_ble_eq_true rfl⟩) (tv_preV (ws := tv_mw cI cZ g b1 b2 b3 b4 V.1 V.2.2) (hP.sub [5, 6, 7, 8, 9] rfl) hK rfl 0 rfl) rfl rfl hl.1 rfl (lv_room (Nat.le_of_ble_eq_true rfl)) dL_law_1543 ⟨hcs, hss⟩) ?_
  refine lv_iload hx hb dL_law_1546 (lv_at hl 1 rfl) ?_
  refine lv_icmp_eq (tgt := 1553) hx hb dL_law_1548 (by decide) (fun c_1 => ?_) (fun c_1 => ?_)
  · skip
    refine lv_iload hx hb dL_law_1553 (lv_at hl 1 rfl) ?_
    refine lv_if_ne (tgt := 1577) hx hb dL_law_1555 (by decide) (fun c_2 => ?_) (fun c_2 => ?_)
    · skip
      refine lv_goto (tgt := 1672) hx hb dL_law_1577 (by decide) ?_
      exact kk V.2.2 V.1 f H locs ls hop2 hP hD hS (lv_sub hl [2, 3, 4, 5, 6] rfl)
    · skip
      have hf0 := hf c_2
      have hr0 := hrv c_2
      refine lv_aload_n hx hb dL_law_1558 rfl (lv_at hl 5 rfl) ?_
      refine lv_iconst (v := 0) hx hb dL_law_1559 (by decide) ?_
      refine tv_lald0 (D := D) hx hb hK hP 10 rfl dL_law_1560 ?_
      refine lv_iload hx hb dL_law_1561 (lv_at hl 0 rfl) ?_
      refine lv_if_eq (tgt := 1570) hx hb dL_law_1563 (by decide) (fun c_3 => ?_) (fun c_3 => ?_)
      · skip
        refine lv_lconst (v := 0) hx hb dL_law_1570 (by decide) ?_
        refine tv_lcmp0 hx hb (by rw [hf0, R64z, if_pos (hr0.symm.trans c_3)]) dL_law_1571 ?_
        refine lv_if_eq (tgt := 1577) hx hb dL_law_1572 (by decide) (fun c_4 => ?_) (fun c_4 => ?_)
        · skip
          refine lv_goto (tgt := 1672) hx hb dL_law_1577 (by decide) ?_
          exact kk V.2.2 V.1 f H locs ls hop2 hP hD hS (lv_sub hl [2, 3, 4, 5, 6] rfl)
        · exact absurd rfl c_4
      · skip
        refine lv_lconst (v := 1) hx hb dL_law_1566 (by decide) ?_
        refine lv_goto (tgt := 1571) hx hb dL_law_1567 (by decide) ?_
        refine tv_lcmp0 hx hb (by rw [hf0, R64z, if_neg (fun q => c_3 (hr0.trans q))]) dL_law_1571 ?_
        refine lv_if_eq (tgt := 1577) hx hb dL_law_1572 (by decide) (fun c_5 => ?_) (fun c_5 => ?_)
        · skip
          refine lv_goto (tgt := 1672) hx hb dL_law_1577 (by decide) ?_
          exact kk V.2.2 V.1 f H locs ls hop2 hP hD hS (lv_sub hl [2, 3, 4, 5, 6] rfl)
        · exact absurd rfl c_5
  · exact absurd rfl c_1
set_option maxHeartbeats 4000000 in
set_option maxRecDepth 100000 in
theorem k_merge {p : Program} {e : Env} {s : State} {m : MethodId} {below : List Frame} {meth : Method} {c : Code} {l : Launch} (hT : l.stackTraces = false) {b L : Nat} {xs : Nat → Int32} (hL : L ≤ 2560) (C0 : lw_At p s m meth c b L xs) {D : va_G} {cI cZ cL : ClassId} (hK : va_K D vwCl (tv_ty cI cZ cL) s) (hE : tv_E (fun q : Nat => s.heap.size ≤ q) s s.heap) (hC : tv_C s) {Q : State → Prop} {cells slots : Nat} (hcs : cells + 1 ≤ room_1.cells) (hss : slots + 6 ≤ room_1.slots) {h a1 a2 a3 a4 g b1 b2 b3 b4 ol : Nat} {rd lv op nt : Nat → Int32} {th : Int32} {f : Nat → Int64} (hop : ∀ j, op j = 0 ∨ op j = 1) {i : Nat} (hi : i + 5 ≤ L) {H : Heap} {locs : List Loc} (hP : va_P D vwCl (tv_lw cI cZ cL h a1 a2 a3 a4 g b1 b2 b3 b4 ol (rd, lv, op, nt) (rd, lv, op, nt) th f) H) (hD : va_D (fun q : Nat => s.heap.size ≤ q) (tv_lw cI cZ cL h a1 a2 a3 a4 g b1 b2 b3 b4 ol (rd, lv, op, nt) (rd, lv, op, nt) th f)) (hS : va_S (fun q : Nat => s.heap.size ≤ q) s.heap H locs) {ls : Array Slot} (hl : lv_has ls 7 [(0, .ref b), (1, .ref h), (2, .ref g), (3, .ref ol), (4, .int (nI i))])
    (kk : ∀ (σ : TS) (th : Int32) (f : Nat → Int64) (H : Heap) (locs : List Loc) (ls : Array Slot), (∀ j, σ.2.2.1 j = 0 ∨ σ.2.2.1 j = 1) → va_P D vwCl (tv_lw cI cZ cL h a1 a2 a3 a4 g b1 b2 b3 b4 ol σ σ th f) H → va_D (fun q : Nat => s.heap.size ≤ q) (tv_lw cI cZ cL h a1 a2 a3 a4 g b1 b2 b3 b4 ol σ σ th f) → va_S (fun q : Nat => s.heap.size ≤ q) s.heap H locs → lv_has ls 7 [(0, .ref b), (1, .ref h), (2, .ref g), (3, .ref ol), (4, .int (nI i))] → W p l e room_1 s m #[Value.ref b] below meth c H locs (cells + 1) (slots + 6) Q (F0 m 1672 ls [])) : W p l e room_1 s m #[Value.ref b] below meth c H locs cells slots Q (F0 m 1580 ls []) := by
  obtain ⟨hx, hb, hr, hml, hown, hts0, hX, hbl, hlocks, hgv⟩ := C0
  have hb : c.code = cL_law := hb
  have hown : s.vm.findClass RL = some m.cls := hown
  have hts : ∀ w ∈ wsL_law, w.before #[Value.ref b] s = true := fun w h => hts0 w (wsL_law_in w h)
  have hA : ∀ q : Nat, s.heap.size ≤ q → (fun q : Nat => s.heap.size ≤ q) q := fun _ h => h
  have hbA : ¬ (fun q : Nat => s.heap.size ≤ q) b := Nat.not_le.mpr hbl
  have hL31 : L < 2 ^ 31 := by omega
  refine lv_aload_n hx hb dL_law_1580 rfl (lv_at hl 1 rfl) ?_
  refine lv_aload_n hx hb dL_law_1581 rfl (lv_at hl 0 rfl) ?_
  refine lv_iload hx hb dL_law_1582 (lv_at hl 4 rfl) ?_
  refine lv_iconst (v := 1) hx hb dL_law_1584 (by decide) ?_
  refine lv_iadd hx hb dL_law_1585 ?_
  refine tv_top (nI (i + 1)) (tv_ik i 1 rfl) ?_
  refine tv_sld hx hb hX hbl hbA hS (i := (i + 1)) (by omega) hL31 dL_law_1586 ?_
  refine lv_aload_n hx hb dL_law_1587 rfl (lv_at hl 0 rfl) ?_
  refine lv_iload hx hb dL_law_1588 (lv_at hl 4 rfl) ?_
  refine lv_iconst (v := 2) hx hb dL_law_1590 (by decide) ?_
  refine lv_iadd hx hb dL_law_1591 ?_
  refine tv_top (nI (i + 2)) (tv_ik i 2 rfl) ?_
  refine tv_sld hx hb hX hbl hbA hS (i := (i + 2)) (by omega) hL31 dL_law_1592 ?_
  refine lv_aload_n hx hb dL_law_1593 rfl (lv_at hl 0 rfl) ?_
  refine lv_iload hx hb dL_law_1594 (lv_at hl 4 rfl) ?_
  refine lv_iconst (v := 3) hx hb dL_law_1596 (by decide) ?_
  refine lv_iadd hx hb dL_law_1597 ?_
  refine tv_top (nI (i + 3)) (tv_ik i 3 rfl) ?_
  refine tv_sld hx hb hX hbl hbA hS (i := (i + 3)) (by omega) hL31 dL_law_1598 ?_
  refine lv_aload_n hx hb dL_law_1599 rfl (lv_at hl 0 rfl) ?_
  refine lv_iload hx hb dL_law_1600 (lv_at hl 4 rfl) ?_
  refine lv_iconst (v := 4) hx hb dL_law_1602 (by decide) ?_
  refine lv_iadd hx hb dL_law_1603 ?_
  refine tv_top (nI (i + 4)) (tv_ik i 4 rfl) ?_
  refine tv_sld hx hb hX hbl hbA hS (i := (i + 4)) (by omega) hL31 dL_law_1604 ?_
  refine lv_aload_n hx hb dL_law_1605 rfl (lv_at hl 3 rfl) ?_
  obtain ⟨V, hV⟩ : ∃ V : TV, V = sp_merge (xs (i + 1)) (xs (i + 2)) (xs (i + 3)) (xs (i + 4)) (rd, lv, op, nt) := ⟨_, rfl⟩
  have hop2 : ∀ j, V.2.2.2.2.1 j = 0 ∨ V.2.2.2.2.1 j = 1 := by rw [hV]; exact o_merge hop
  refine tv_callH (D := D) (V := V) (R64 := R64i) (wf := tv_hw cI cZ cL h a1 a2 a3 a4 ol) (ws := tv_lw cI cZ cL h a1 a2 a3 a4 g b1 b2 b3 b4 ol (rd, lv, op, nt) (rd, lv, op, nt) th f) (wc := tv_hw cI cZ cL h a1 a2 a3 a4 ol (rd, lv, op, nt) f) (wr := tv_mw cI cZ g b1 b2 b3 b4 th (rd, lv, op, nt)) (wN := fun f => tv_lw cI cZ cL h a1 a2 a3 a4 g b1 b2 b3 b4 ol V.2.2 (rd, lv, op, nt) th f) (vx_runSW (As := [.ref h, .int (xs (i + 1)), .int (xs (i + 2)), .int (xs (i + 3)), .int (xs (i + 4)), .ref ol]) (rest := []) ⟨hx, hb, hml, hown, hts⟩ (c_L_merge l hT D cI cZ cL h a1 a2 a3 a4 rd lv op nt ol f H.size (xs (i + 1)) (xs (i + 2)) (xs (i + 3)) (xs (i + 4)) V hV) (vx_cwSW 6 hts gL_law_L_merge rfl rfl rfl (by decide +kernel) ⟨Nat.le_of_ble_eq_true rfl, Nat.le_of_ble_eq_true rfl⟩) (tv_preH hP hK hD hS hA hE hC [0, 1, 2, 3, 4, 10] rfl rfl rfl) rfl rfl hl.1 rfl (lv_room (Nat.le_of_ble_eq_true rfl)) dL_law_1606 ⟨hcs, hss⟩) hP hD hS hA [0, 1, 2, 3, 4, 10] [5, 6, 7, 8, 9] rfl rfl rfl (by decide) [5, 6, 7, 8, 9, 0, 1, 2, 3, 4, 10] (fun _ => rfl) (fun _ => rfl) rfl (fun f H locs hf hP hD hS => ?_)
  refine lv_istore (lv' := [(5, .int V.1), (0, .ref b), (1, .ref h), (2, .ref g), (3, .ref ol), (4, .int (nI i))]) hx hb dL_law_1609 hl (by decide) rfl (fun ls hl => ?_)
  refine lv_aload_n hx hb dL_law_1611 rfl (lv_at hl 3 rfl) ?_
  refine lv_aload_n hx hb dL_law_1612 rfl (lv_at hl 1 rfl) ?_
  refine lv_iload hx hb dL_law_1613 (lv_at hl 5 rfl) ?_
  refine lv_iconst (v := 1) hx hb dL_law_1615 (by decide) ?_
  refine lv_iadd hx hb dL_law_1616 ?_
  refine tv_top (nI (i + 1)) (tv_ik i 1 rfl) ?_
  refine tv_sld hx hb hX hbl hbA hS (i := (i + 1)) (by omega) hL31 dL_law_1617 ?_
  refine lv_aload_n hx hb dL_law_1618 rfl (lv_at hl 1 rfl) ?_
  refine lv_iload hx hb dL_law_1619 (lv_at hl 5 rfl) ?_
  refine lv_iconst (v := 2) hx hb dL_law_1621 (by decide) ?_
  refine lv_iadd hx hb dL_law_1622 ?_
  refine tv_top (nI (i + 2)) (tv_ik i 2 rfl) ?_
  refine tv_sld hx hb hX hbl hbA hS (i := (i + 2)) (by omega) hL31 dL_law_1623 ?_
  refine lv_aload_n hx hb dL_law_1624 rfl (lv_at hl 1 rfl) ?_
  refine lv_iload hx hb dL_law_1625 (lv_at hl 5 rfl) ?_
  refine lv_iconst (v := 3) hx hb dL_law_1627 (by decide) ?_
  refine lv_iadd hx hb dL_law_1628 ?_
  refine tv_top (nI (i + 3)) (tv_ik i 3 rfl) ?_
  refine tv_sld hx hb hX hbl hbA hS (i := (i + 3)) (by omega) hL31 dL_law_1629 ?_
  refine lv_aload_n hx hb dL_law_1630 rfl (lv_at hl 1 rfl) ?_
  refine lv_iload hx hb dL_law_1631 (lv_at hl 5 rfl) ?_
  refine lv_iconst (v := 4) hx hb dL_law_1633 (by decide) ?_
  refine lv_iadd hx hb dL_law_1634 ?_
  refine tv_top (nI (i + 4)) (tv_ik i 4 rfl) ?_
  refine tv_sld hx hb hX hbl hbA hS (i := (i + 4)) (by omega) hL31 dL_law_1635 ?_
  refine tv_callM (D := D) (V := V) (wf := tv_mw cI cZ g b1 b2 b3 b4) (ws := tv_lw cI cZ cL h a1 a2 a3 a4 g b1 b2 b3 b4 ol V.2.2 (rd, lv, op, nt) th f) (wc := tv_mw cI cZ g b1 b2 b3 b4 th (rd, lv, op, nt)) (wr := [(h, .inr (0, [.ref a1, .ref a2, .ref a3, .ref a4])), (a1, .inl (cI, 96, .inl V.2.2.1)), (a2, .inl (cI, 8, .inl V.2.2.2.1)), (a3, .inl (cZ, 4, .inl V.2.2.2.2.1)), (a4, .inl (cI, 8, .inl V.2.2.2.2.2)), (ol, .inl (cL, 1, .inr (.inl f)))]) (wsN := tv_lw cI cZ cL h a1 a2 a3 a4 g b1 b2 b3 b4 ol V.2.2 V.2.2 V.1 f) (va_runV (As := [.int (xs (i + 1)), .int (xs (i + 2)), .int (xs (i + 3)), .int (xs (i + 4))]) (rest := []) ⟨hx, hb, hml, hown, hts⟩ (c_X1_merge l D cI cZ cL g b1 b2 b3 b4 rd lv op nt th H.size (xs (i + 1)) (xs (i + 2)) (xs (i + 3)) (xs (i + 4)) V hV) (cwV 4 hts gL_law_X1_merge rfl rfl rfl (by decide +kernel) ⟨Nat.le_of_ble_eq_true rfl, Nat.le_of_ble_eq_true rfl⟩) (tv_preDV hP hK hD [5, 6, 7, 8, 9] rfl rfl rfl rfl 5 rfl) rfl rfl hl.1 rfl (lv_room (Nat.le_of_ble_eq_true rfl)) dL_law_1636 ⟨hcs, hss⟩) hP hD hS hA [5, 6, 7, 8, 9] [0, 1, 2, 3, 4, 10] rfl rfl rfl (by decide) [0, 1, 2, 3, 4, 6, 7, 8, 9, 10, 5] rfl rfl rfl rfl (fun r H locs hrv hP hD hS => ?_)
  refine lv_istore (lv' := [(6, .int r), (5, .int V.1), (0, .ref b), (1, .ref h), (2, .ref g), (3, .ref ol), (4, .int (nI i))]) hx hb dL_law_1639 hl (by decide) rfl (fun ls hl => ?_)
  refine lv_aload_n hx hb dL_law_1641 rfl (lv_at hl 4 rfl) ?_
  refine tv_callR (W.runV (As := []) (rest := []) ⟨hx, hb, hml, hown, hts⟩ (c_X1_thrown l D cI cZ cL g b1 b2 b3 b4 V.2.2.1 V.2.2.2.1 V.2.2.2.2.1 V.2.2.2.2.2 V.1) (cwV 0 hts gL_law_X1_thrown rfl rfl rfl (by decide +kernel) ⟨Nat.le_of_ble_eq_true rfl, Nat.le_of_ble_eq_true rfl⟩) (tv_preV (ws := tv_mw cI cZ g b1 b2 b3 b4 V.1 V.2.2) (hP.sub [5, 6, 7, 8, 9] rfl) hK rfl 0 rfl) rfl rfl hl.1 rfl (lv_room (Nat.le_of_ble_eq_true rfl)) dL_law_1642 ⟨hcs, hss⟩) ?_
  refine lv_iload hx hb dL_law_1645 (lv_at hl 1 rfl) ?_
  refine lv_icmp_eq (tgt := 1652) hx hb dL_law_1647 (by decide) (fun c_1 => ?_) (fun c_1 => ?_)
  · skip
    refine lv_iload hx hb dL_law_1652 (lv_at hl 1 rfl) ?_
    refine lv_if_ne (tgt := 1669) hx hb dL_law_1654 (by decide) (fun c_2 => ?_) (fun c_2 => ?_)
    · skip
      refine lv_goto (tgt := 1672) hx hb dL_law_1669 (by decide) ?_
      exact kk V.2.2 V.1 f H locs ls hop2 hP hD hS (lv_sub hl [2, 3, 4, 5, 6] rfl)
    · skip
      have hf0 := hf c_2
      have hr0 := hrv c_2
      refine lv_aload_n hx hb dL_law_1657 rfl (lv_at hl 5 rfl) ?_
      refine lv_iconst (v := 0) hx hb dL_law_1658 (by decide) ?_
      refine tv_lald0 (D := D) hx hb hK hP 10 rfl dL_law_1659 ?_
      refine lv_iload hx hb dL_law_1660 (lv_at hl 0 rfl) ?_
      refine lv_i2l hx hb dL_law_1662 rfl ?_
      refine tv_lcmp0 hx hb (by rw [hf0, hr0]; rfl) dL_law_1663 ?_
      refine lv_if_eq (tgt := 1669) hx hb dL_law_1664 (by decide) (fun c_3 => ?_) (fun c_3 => ?_)
      · skip
        refine lv_goto (tgt := 1672) hx hb dL_law_1669 (by decide) ?_
        exact kk V.2.2 V.1 f H locs ls hop2 hP hD hS (lv_sub hl [2, 3, 4, 5, 6] rfl)
      · exact absurd rfl c_3
  · exact absurd rfl c_1
