section LC
variable {p : Program} {l : Launch} {e : Env} {s : State} {m : MethodId} {args : Array Value} {below : List Frame} {meth : Method} {c : Code} {H : Heap} {locs : List Loc} {cells slots : Nat} {Q : State → Prop}
variable {ls : Array Slot} {A : Nat → Prop} {E : wEn} {w : wW} {b L x mo oL oD N : Nat} {xs : Nat → Int32} {MA : Nat → Nat} {i : Int32}
set_option maxHeartbeats 4000000 in
set_option maxRecDepth 100000 in
theorem lc_bill (hst : l.stackTraces = false) (SA : lwA p s m args meth c A E b L xs) (hI : lwI E MA x mo oL oD N w) (hN : N < 512) (h1 : vp_in (i + 1) L) (h2 : vp_in (i + 2) L) (h3 : vp_in (i + 3) L) (h4 : vp_in (i + 4) L) (hP : wP E.1 A w H) (hS : va_S A s.heap H locs) (hl : lv_has ls 9 [(5, .int i), (0, .ref b), (1, .ref x), (2, .ref mo), (3, .ref oL), (4, .ref oD)]) (hc : cells + 20 ≤ room_1.cells) (hs9 : slots + 100 ≤ room_1.slots)
    (kk : ∀ (w2 : wW) (H2 : Heap) (locs2 : List Loc) (ls2 : Array Slot), lwI E MA x mo oL oD (N + 1) w2 → wP E.1 A w2 H2 → va_S A s.heap H2 locs2 → lv_has ls2 9 [(5, .int i), (0, .ref b), (1, .ref x), (2, .ref mo), (3, .ref oL), (4, .ref oD)] → W p l e room_1 s m args below meth c H2 locs2 (cells + 20) (slots + 100) Q (F0 m 1862 ls2 [])) : W p l e room_1 s m args below meth c H locs cells slots Q (F0 m 1295 ls []) := by
  obtain ⟨C0, hnc, hX, hbl, hbA⟩ := SA
  obtain ⟨F, AD, cd, fo, go, hI, hs, rfl, hm, ho, hd⟩ := hI
  have hx := C0.1
  have hb := C0.2.1
  have hts := C0.2.2.2.2.1
  have hn := hI.n
  refine lv_aload_n hx hb dL_law_1295 rfl (lv_at hl 2 rfl) ?_
  refine lv_aload_n hx hb dL_law_1296 rfl (lv_at hl 1 rfl) ?_
  refine lv_iload hx hb dL_law_1297 (lv_at hl 0 rfl) ?_
  refine lv_iconst (v := 1) hx hb dL_law_1299 (by decide) ?_
  refine lv_iadd hx hb dL_law_1300 ?_
  refine va_sld hx hb hX hbl hbA hS h1 dL_law_1301 ?_
  refine lv_aload_n hx hb dL_law_1302 rfl (lv_at hl 4 rfl) ?_
  refine wl_go (wl_runSN (As := [.ref (AD 5 0), .int (xs (i + 1).toNatClampNeg), .ref oL]) (rest := []) C0 hnc hP hS (k_L_bill l hst E w H.size F AD N hI hs oL fo ho ((xs (i + 1).toNatClampNeg))) (vx_cwSW 3 hts gL_law_L_bill rfl rfl rfl (by decide +kernel) ⟨(Nat.le_of_ble_eq_true rfl), (Nat.le_of_ble_eq_true rfl)⟩) rfl rfl hl.1 (Nat.le_of_ble_eq_true rfl) dL_law_1303 ⟨Nat.le_trans (by omega) hc, Nat.le_trans (by omega) hs9⟩) hS (wA_in hP hS C0.2.2.2.2.2.2.2.2 rfl) (fun X ce q9 w2 H locs hpx => hpx.elim) (fun v w2 H locs hq hP _ hS _ _ => ?_)
  obtain ⟨rfl, AD2, hs2, ha2, hk2, f2, ho2, hf2⟩ := hq
  refine W.eq (g2 := F0 m 1306 ls [.int (nI (s_bill F ((xs (i + 1).toNatClampNeg))).1)]) rfl ?_
  refine lv_istore (lv' := [(6, .int (nI (s_bill F ((xs (i + 1).toNatClampNeg))).1)), (5, .int i), (0, .ref b), (1, .ref (AD 5 0)), (2, .ref mo), (3, .ref oL), (4, .ref oD)]) hx hb dL_law_1306 hl (by decide) rfl (fun ls hl => ?_)
  refine lv_aload_n hx hb dL_law_1308 rfl (lv_at hl 4 rfl) ?_
  refine lv_aload_n hx hb dL_law_1309 rfl (lv_at hl 2 rfl) ?_
  refine lv_iload hx hb dL_law_1310 (lv_at hl 1 rfl) ?_
  refine lv_iconst (v := 1) hx hb dL_law_1312 (by decide) ?_
  refine lv_iadd hx hb dL_law_1313 ?_
  refine va_sld hx hb hX hbl hbA hS h1 dL_law_1314 ?_
  have hm2 := lw_mo hm ho hk2
  refine wl_go (wl_runV (As := [.int (xs (i + 1).toNatClampNeg)]) (rest := []) C0 hP hS (k_X7_bill l hst E w2 H.size F MA mo cd N hI hm2 ((xs (i + 1).toNatClampNeg))) (cwV 1 hts gL_law_X7_bill rfl rfl rfl (by decide +kernel) ⟨(Nat.le_of_ble_eq_true rfl), (Nat.le_of_ble_eq_true rfl)⟩) hm2.x rfl rfl rfl hl.1 (Nat.le_of_ble_eq_true rfl) dL_law_1315 ⟨Nat.le_trans (by omega) hc, Nat.le_trans (by omega) hs9⟩) hS (wA_in hP hS C0.2.2.2.2.2.2.2.2 rfl) (fun X ce q9 w3 H locs hpx => hpx.elim) (fun v w3 H locs hq hP _ hS _ _ => ?_)
  obtain ⟨rfl, hm3, hk3⟩ := hq
  refine W.eq (g2 := F0 m 1318 ls [.long ((s_bill F ((xs (i + 1).toNatClampNeg))).2.1)]) rfl ?_
  refine lv_lstore (lv' := [(7, .long ((s_bill F ((xs (i + 1).toNatClampNeg))).2.1)), (6, .int (nI (s_bill F ((xs (i + 1).toNatClampNeg))).1)), (5, .int i), (0, .ref b), (1, .ref (AD 5 0)), (2, .ref mo), (3, .ref oL), (4, .ref oD)]) hx hb dL_law_1318 hl (by decide) rfl (fun ls hl => ?_)
  refine lv_aload_n hx hb dL_law_1320 rfl (lv_at hl 5 rfl) ?_
  obtain ⟨hI3, ho3⟩ := lw_next (J_bill hI hN ((xs (i + 1).toNatClampNeg))) hm ho hd hk2 hs2 ha2 ho2 hm3 hk3
  refine wl_go (wl_runV (As := []) (rest := []) C0 hP hS (k_X7_thrown l hst E w3 H.size (s_bill F ((xs (i + 1).toNatClampNeg))).2.2 MA mo (nI (s_bill F ((xs (i + 1).toNatClampNeg))).1) hm3) (cwV 0 hts gL_law_X7_thrown rfl rfl rfl (by decide +kernel) ⟨(Nat.le_of_ble_eq_true rfl), (Nat.le_of_ble_eq_true rfl)⟩) hm3.x rfl rfl rfl hl.1 (Nat.le_of_ble_eq_true rfl) dL_law_1321 ⟨Nat.le_trans (by omega) hc, Nat.le_trans (by omega) hs9⟩) hS (wA_in hP hS C0.2.2.2.2.2.2.2.2 rfl) (fun X ce q9 w4 H locs hpx => hpx.elim) (fun v w4 H locs hq hP _ hS _ _ => ?_)
  obtain ⟨rfl, hw9⟩ := hq
  rw [hw9] at hP
  refine W.eq (g2 := F0 m 1324 ls [.int (nI (s_bill F ((xs (i + 1).toNatClampNeg))).1)]) rfl ?_
  refine lv_iload hx hb dL_law_1324 (lv_at hl 1 rfl) ?_
  refine lv_icmp_eq (tgt := 1331) hx hb dL_law_1326 (by decide) (fun _ => ?_) (fun c9 => absurd rfl c9)
  refine W.widen (k := cells + 20) (n := slots + 100) (by omega) (by omega) ?_
  refine lv_iload hx hb dL_law_1331 (lv_at hl 1 rfl) ?_
  refine lv_if_ne (tgt := 1347) hx hb dL_law_1333 (by decide) (fun _ => ?_) (fun c0 => ?_)
  · refine lv_goto (tgt := 1862) hx hb dL_law_1347 (by decide) ?_
    exact kk _ H locs ls hI3 hP hS (lv_sub hl [2, 3, 4, 5, 6, 7] rfl)
  · have h0 : (s_bill F ((xs (i + 1).toNatClampNeg))).1 = 0 := (nI_e0 cb_bill).mp c0
    refine lv_aload_n hx hb dL_law_1336 rfl (lv_at hl 6 rfl) ?_
    refine lv_iconst (v := 0) hx hb dL_law_1337 (by decide) ?_
    refine wl_lald C0 hP ho3 (show vp_in (nI 0) 1 from vp_in_nI (by omega) (by omega)) dL_law_1338 ?_
    refine lv_lload hx hb dL_law_1339 (lv_at hl 0 rfl) ?_
    refine W.lcmp hx hb dL_law_1341 ?_
    refine lv_if_eq (tgt := 1347) hx hb dL_law_1342 (by decide) (fun _ => ?_) (fun c2 => absurd (lw_cmp (by rw [lw_z0]; exact hf2 h0)) c2)
    refine lv_goto (tgt := 1862) hx hb dL_law_1347 (by decide) ?_
    exact kk _ H locs ls hI3 hP hS (lv_sub hl [2, 3, 4, 5, 6, 7] rfl)
set_option maxHeartbeats 4000000 in
set_option maxRecDepth 100000 in
theorem lc_billByLog (hst : l.stackTraces = false) (SA : lwA p s m args meth c A E b L xs) (hI : lwI E MA x mo oL oD N w) (hN : N < 512) (h1 : vp_in (i + 1) L) (h2 : vp_in (i + 2) L) (h3 : vp_in (i + 3) L) (h4 : vp_in (i + 4) L) (hP : wP E.1 A w H) (hS : va_S A s.heap H locs) (hl : lv_has ls 9 [(5, .int i), (0, .ref b), (1, .ref x), (2, .ref mo), (3, .ref oL), (4, .ref oD)]) (hc : cells + 20 ≤ room_1.cells) (hs9 : slots + 100 ≤ room_1.slots)
    (kk : ∀ (w2 : wW) (H2 : Heap) (locs2 : List Loc) (ls2 : Array Slot), lwI E MA x mo oL oD (N + 1) w2 → wP E.1 A w2 H2 → va_S A s.heap H2 locs2 → lv_has ls2 9 [(5, .int i), (0, .ref b), (1, .ref x), (2, .ref mo), (3, .ref oL), (4, .ref oD)] → W p l e room_1 s m args below meth c H2 locs2 (cells + 20) (slots + 100) Q (F0 m 1862 ls2 [])) : W p l e room_1 s m args below meth c H locs cells slots Q (F0 m 1350 ls []) := by
  obtain ⟨C0, hnc, hX, hbl, hbA⟩ := SA
  obtain ⟨F, AD, cd, fo, go, hI, hs, rfl, hm, ho, hd⟩ := hI
  have hx := C0.1
  have hb := C0.2.1
  have hts := C0.2.2.2.2.1
  have hn := hI.n
  refine lv_aload_n hx hb dL_law_1350 rfl (lv_at hl 2 rfl) ?_
  refine lv_aload_n hx hb dL_law_1351 rfl (lv_at hl 1 rfl) ?_
  refine lv_iload hx hb dL_law_1352 (lv_at hl 0 rfl) ?_
  refine lv_iconst (v := 1) hx hb dL_law_1354 (by decide) ?_
  refine lv_iadd hx hb dL_law_1355 ?_
  refine va_sld hx hb hX hbl hbA hS h1 dL_law_1356 ?_
  refine lv_aload_n hx hb dL_law_1357 rfl (lv_at hl 4 rfl) ?_
  refine wl_go (wl_runSN (As := [.ref (AD 5 0), .int (xs (i + 1).toNatClampNeg), .ref oL]) (rest := []) C0 hnc hP hS (k_L_billByLog l hst E w H.size F AD N hI hs oL fo ho ((xs (i + 1).toNatClampNeg))) (vx_cwSW 3 hts gL_law_L_billByLog rfl rfl rfl (by decide +kernel) ⟨(Nat.le_of_ble_eq_true rfl), (Nat.le_of_ble_eq_true rfl)⟩) rfl rfl hl.1 (Nat.le_of_ble_eq_true rfl) dL_law_1358 ⟨Nat.le_trans (by omega) hc, Nat.le_trans (by omega) hs9⟩) hS (wA_in hP hS C0.2.2.2.2.2.2.2.2 rfl) (fun X ce q9 w2 H locs hpx => hpx.elim) (fun v w2 H locs hq hP _ hS _ _ => ?_)
  obtain ⟨rfl, AD2, hs2, ha2, hk2, f2, ho2, hf2⟩ := hq
  refine W.eq (g2 := F0 m 1361 ls [.int (nI (s_bill F ((xs (i + 1).toNatClampNeg))).1)]) rfl ?_
  refine lv_istore (lv' := [(6, .int (nI (s_bill F ((xs (i + 1).toNatClampNeg))).1)), (5, .int i), (0, .ref b), (1, .ref (AD 5 0)), (2, .ref mo), (3, .ref oL), (4, .ref oD)]) hx hb dL_law_1361 hl (by decide) rfl (fun ls hl => ?_)
  refine lv_aload_n hx hb dL_law_1363 rfl (lv_at hl 4 rfl) ?_
  refine lv_aload_n hx hb dL_law_1364 rfl (lv_at hl 2 rfl) ?_
  refine lv_iload hx hb dL_law_1365 (lv_at hl 1 rfl) ?_
  refine lv_iconst (v := 1) hx hb dL_law_1367 (by decide) ?_
  refine lv_iadd hx hb dL_law_1368 ?_
  refine va_sld hx hb hX hbl hbA hS h1 dL_law_1369 ?_
  have hm2 := lw_mo hm ho hk2
  refine wl_go (wl_runV (As := [.int (xs (i + 1).toNatClampNeg)]) (rest := []) C0 hP hS (k_X7_billByLog l hst E w2 H.size F MA mo cd N hI hm2 ((xs (i + 1).toNatClampNeg))) (cwV 1 hts gL_law_X7_billByLog rfl rfl rfl (by decide +kernel) ⟨(Nat.le_of_ble_eq_true rfl), (Nat.le_of_ble_eq_true rfl)⟩) hm2.x rfl rfl rfl hl.1 (Nat.le_of_ble_eq_true rfl) dL_law_1370 ⟨Nat.le_trans (by omega) hc, Nat.le_trans (by omega) hs9⟩) hS (wA_in hP hS C0.2.2.2.2.2.2.2.2 rfl) (fun X ce q9 w3 H locs hpx => hpx.elim) (fun v w3 H locs hq hP _ hS _ _ => ?_)
  obtain ⟨rfl, hm3, hk3⟩ := hq
  refine W.eq (g2 := F0 m 1373 ls [.long ((s_bill F ((xs (i + 1).toNatClampNeg))).2.1)]) rfl ?_
  refine lv_lstore (lv' := [(7, .long ((s_bill F ((xs (i + 1).toNatClampNeg))).2.1)), (6, .int (nI (s_bill F ((xs (i + 1).toNatClampNeg))).1)), (5, .int i), (0, .ref b), (1, .ref (AD 5 0)), (2, .ref mo), (3, .ref oL), (4, .ref oD)]) hx hb dL_law_1373 hl (by decide) rfl (fun ls hl => ?_)
  refine lv_aload_n hx hb dL_law_1375 rfl (lv_at hl 5 rfl) ?_
  obtain ⟨hI3, ho3⟩ := lw_next (J_bill hI hN ((xs (i + 1).toNatClampNeg))) hm ho hd hk2 hs2 ha2 ho2 hm3 hk3
  refine wl_go (wl_runV (As := []) (rest := []) C0 hP hS (k_X7_thrown l hst E w3 H.size (s_bill F ((xs (i + 1).toNatClampNeg))).2.2 MA mo (nI (s_bill F ((xs (i + 1).toNatClampNeg))).1) hm3) (cwV 0 hts gL_law_X7_thrown rfl rfl rfl (by decide +kernel) ⟨(Nat.le_of_ble_eq_true rfl), (Nat.le_of_ble_eq_true rfl)⟩) hm3.x rfl rfl rfl hl.1 (Nat.le_of_ble_eq_true rfl) dL_law_1376 ⟨Nat.le_trans (by omega) hc, Nat.le_trans (by omega) hs9⟩) hS (wA_in hP hS C0.2.2.2.2.2.2.2.2 rfl) (fun X ce q9 w4 H locs hpx => hpx.elim) (fun v w4 H locs hq hP _ hS _ _ => ?_)
  obtain ⟨rfl, hw9⟩ := hq
  rw [hw9] at hP
  refine W.eq (g2 := F0 m 1379 ls [.int (nI (s_bill F ((xs (i + 1).toNatClampNeg))).1)]) rfl ?_
  refine lv_iload hx hb dL_law_1379 (lv_at hl 1 rfl) ?_
  refine lv_icmp_eq (tgt := 1386) hx hb dL_law_1381 (by decide) (fun _ => ?_) (fun c9 => absurd rfl c9)
  refine W.widen (k := cells + 20) (n := slots + 100) (by omega) (by omega) ?_
  refine lv_iload hx hb dL_law_1386 (lv_at hl 1 rfl) ?_
  refine lv_if_ne (tgt := 1402) hx hb dL_law_1388 (by decide) (fun _ => ?_) (fun c0 => ?_)
  · refine lv_goto (tgt := 1862) hx hb dL_law_1402 (by decide) ?_
    exact kk _ H locs ls hI3 hP hS (lv_sub hl [2, 3, 4, 5, 6, 7] rfl)
  · have h0 : (s_bill F ((xs (i + 1).toNatClampNeg))).1 = 0 := (nI_e0 cb_bill).mp c0
    refine lv_aload_n hx hb dL_law_1391 rfl (lv_at hl 6 rfl) ?_
    refine lv_iconst (v := 0) hx hb dL_law_1392 (by decide) ?_
    refine wl_lald C0 hP ho3 (show vp_in (nI 0) 1 from vp_in_nI (by omega) (by omega)) dL_law_1393 ?_
    refine lv_lload hx hb dL_law_1394 (lv_at hl 0 rfl) ?_
    refine W.lcmp hx hb dL_law_1396 ?_
    refine lv_if_eq (tgt := 1402) hx hb dL_law_1397 (by decide) (fun _ => ?_) (fun c2 => absurd (lw_cmp (by rw [lw_z0]; exact hf2 h0)) c2)
    refine lv_goto (tgt := 1862) hx hb dL_law_1402 (by decide) ?_
    exact kk _ H locs ls hI3 hP hS (lv_sub hl [2, 3, 4, 5, 6, 7] rfl)
set_option maxHeartbeats 4000000 in
set_option maxRecDepth 100000 in
theorem lc_call (hst : l.stackTraces = false) (SA : lwA p s m args meth c A E b L xs) (hI : lwI E MA x mo oL oD N w) (hN : N < 512) (h1 : vp_in (i + 1) L) (h2 : vp_in (i + 2) L) (h3 : vp_in (i + 3) L) (h4 : vp_in (i + 4) L) (hP : wP E.1 A w H) (hS : va_S A s.heap H locs) (hl : lv_has ls 9 [(5, .int i), (0, .ref b), (1, .ref x), (2, .ref mo), (3, .ref oL), (4, .ref oD)]) (hc : cells + 20 ≤ room_1.cells) (hs9 : slots + 100 ≤ room_1.slots)
    (kk : ∀ (w2 : wW) (H2 : Heap) (locs2 : List Loc) (ls2 : Array Slot), lwI E MA x mo oL oD (N + 1) w2 → wP E.1 A w2 H2 → va_S A s.heap H2 locs2 → lv_has ls2 9 [(5, .int i), (0, .ref b), (1, .ref x), (2, .ref mo), (3, .ref oL), (4, .ref oD)] → W p l e room_1 s m args below meth c H2 locs2 (cells + 20) (slots + 100) Q (F0 m 1862 ls2 [])) : W p l e room_1 s m args below meth c H locs cells slots Q (F0 m 1405 ls []) := by
  obtain ⟨C0, hnc, hX, hbl, hbA⟩ := SA
  obtain ⟨F, AD, cd, fo, go, hI, hs, rfl, hm, ho, hd⟩ := hI
  have hx := C0.1
  have hb := C0.2.1
  have hts := C0.2.2.2.2.1
  have hn := hI.n
  refine lv_aload_n hx hb dL_law_1405 rfl (lv_at hl 2 rfl) ?_
  refine lv_aload_n hx hb dL_law_1406 rfl (lv_at hl 1 rfl) ?_
  refine lv_iload hx hb dL_law_1407 (lv_at hl 0 rfl) ?_
  refine lv_iconst (v := 1) hx hb dL_law_1409 (by decide) ?_
  refine lv_iadd hx hb dL_law_1410 ?_
  refine va_sld hx hb hX hbl hbA hS h1 dL_law_1411 ?_
  refine lv_aload_n hx hb dL_law_1412 rfl (lv_at hl 1 rfl) ?_
  refine lv_iload hx hb dL_law_1413 (lv_at hl 0 rfl) ?_
  refine lv_iconst (v := 2) hx hb dL_law_1415 (by decide) ?_
  refine lv_iadd hx hb dL_law_1416 ?_
  refine va_sld hx hb hX hbl hbA hS h2 dL_law_1417 ?_
  refine lv_aload_n hx hb dL_law_1418 rfl (lv_at hl 1 rfl) ?_
  refine lv_iload hx hb dL_law_1419 (lv_at hl 0 rfl) ?_
  refine lv_iconst (v := 3) hx hb dL_law_1421 (by decide) ?_
  refine lv_iadd hx hb dL_law_1422 ?_
  refine va_sld hx hb hX hbl hbA hS h3 dL_law_1423 ?_
  refine lv_aload_n hx hb dL_law_1424 rfl (lv_at hl 4 rfl) ?_
  refine wl_go (wl_runSN (As := [.ref (AD 5 0), .int (xs (i + 1).toNatClampNeg), .int (xs (i + 2).toNatClampNeg), .int (xs (i + 3).toNatClampNeg), .ref oL]) (rest := []) C0 hnc hP hS (k_L_call l hst E w H.size F AD N hI hs oL fo ho (Nat.lt_of_le_of_lt hI.1.2.2.2.1 hN) ((xs (i + 1).toNatClampNeg)) ((xs (i + 2).toNatClampNeg)) ((xs (i + 3).toNatClampNeg))) (vx_cwSW 5 hts gL_law_L_call rfl rfl rfl (by decide +kernel) ⟨(Nat.le_of_ble_eq_true rfl), (Nat.le_of_ble_eq_true rfl)⟩) rfl rfl hl.1 (Nat.le_of_ble_eq_true rfl) dL_law_1425 ⟨Nat.le_trans (by omega) hc, Nat.le_trans (by omega) hs9⟩) hS (wA_in hP hS C0.2.2.2.2.2.2.2.2 rfl) (fun X ce q9 w2 H locs hpx => hpx.elim) (fun v w2 H locs hq hP _ hS _ _ => ?_)
  obtain ⟨rfl, AD2, hs2, ha2, hk2, f2, ho2, hf2⟩ := hq
  refine W.eq (g2 := F0 m 1428 ls [.int (nI (s_call F ((xs (i + 1).toNatClampNeg)) ((xs (i + 2).toNatClampNeg)) ((xs (i + 3).toNatClampNeg))).1)]) rfl ?_
  refine lv_istore (lv' := [(6, .int (nI (s_call F ((xs (i + 1).toNatClampNeg)) ((xs (i + 2).toNatClampNeg)) ((xs (i + 3).toNatClampNeg))).1)), (5, .int i), (0, .ref b), (1, .ref (AD 5 0)), (2, .ref mo), (3, .ref oL), (4, .ref oD)]) hx hb dL_law_1428 hl (by decide) rfl (fun ls hl => ?_)
  refine lv_aload_n hx hb dL_law_1430 rfl (lv_at hl 4 rfl) ?_
  refine lv_aload_n hx hb dL_law_1431 rfl (lv_at hl 2 rfl) ?_
  refine lv_iload hx hb dL_law_1432 (lv_at hl 1 rfl) ?_
  refine lv_iconst (v := 1) hx hb dL_law_1434 (by decide) ?_
  refine lv_iadd hx hb dL_law_1435 ?_
  refine va_sld hx hb hX hbl hbA hS h1 dL_law_1436 ?_
  refine lv_aload_n hx hb dL_law_1437 rfl (lv_at hl 2 rfl) ?_
  refine lv_iload hx hb dL_law_1438 (lv_at hl 1 rfl) ?_
  refine lv_iconst (v := 2) hx hb dL_law_1440 (by decide) ?_
  refine lv_iadd hx hb dL_law_1441 ?_
  refine va_sld hx hb hX hbl hbA hS h2 dL_law_1442 ?_
  refine lv_aload_n hx hb dL_law_1443 rfl (lv_at hl 2 rfl) ?_
  refine lv_iload hx hb dL_law_1444 (lv_at hl 1 rfl) ?_
  refine lv_iconst (v := 3) hx hb dL_law_1446 (by decide) ?_
  refine lv_iadd hx hb dL_law_1447 ?_
  refine va_sld hx hb hX hbl hbA hS h3 dL_law_1448 ?_
  have hm2 := lw_mo hm ho hk2
  refine wl_go (wl_runV (As := [.int (xs (i + 1).toNatClampNeg), .int (xs (i + 2).toNatClampNeg), .int (xs (i + 3).toNatClampNeg)]) (rest := []) C0 hP hS (k_X7_call l hst E w2 H.size F MA mo cd N hI hm2 hN ((xs (i + 1).toNatClampNeg)) ((xs (i + 2).toNatClampNeg)) ((xs (i + 3).toNatClampNeg))) (cwV 3 hts gL_law_X7_call rfl rfl rfl (by decide +kernel) ⟨(Nat.le_of_ble_eq_true rfl), (Nat.le_of_ble_eq_true rfl)⟩) hm2.x rfl rfl rfl hl.1 (Nat.le_of_ble_eq_true rfl) dL_law_1449 ⟨Nat.le_trans (by omega) hc, Nat.le_trans (by omega) hs9⟩) hS (wA_in hP hS C0.2.2.2.2.2.2.2.2 rfl) (fun X ce q9 w3 H locs hpx => hpx.elim) (fun v w3 H locs hq hP _ hS _ _ => ?_)
  obtain ⟨rfl, hm3, hk3⟩ := hq
  refine W.eq (g2 := F0 m 1452 ls [.int ((s_call F ((xs (i + 1).toNatClampNeg)) ((xs (i + 2).toNatClampNeg)) ((xs (i + 3).toNatClampNeg))).2.1)]) rfl ?_
  refine lv_istore (lv' := [(7, .int ((s_call F ((xs (i + 1).toNatClampNeg)) ((xs (i + 2).toNatClampNeg)) ((xs (i + 3).toNatClampNeg))).2.1)), (6, .int (nI (s_call F ((xs (i + 1).toNatClampNeg)) ((xs (i + 2).toNatClampNeg)) ((xs (i + 3).toNatClampNeg))).1)), (5, .int i), (0, .ref b), (1, .ref (AD 5 0)), (2, .ref mo), (3, .ref oL), (4, .ref oD)]) hx hb dL_law_1452 hl (by decide) rfl (fun ls hl => ?_)
  refine lv_aload_n hx hb dL_law_1454 rfl (lv_at hl 5 rfl) ?_
  obtain ⟨hI3, ho3⟩ := lw_next (J_call hI hN ((xs (i + 1).toNatClampNeg)) ((xs (i + 2).toNatClampNeg)) ((xs (i + 3).toNatClampNeg))) hm ho hd hk2 hs2 ha2 ho2 hm3 hk3
  refine wl_go (wl_runV (As := []) (rest := []) C0 hP hS (k_X7_thrown l hst E w3 H.size (s_call F ((xs (i + 1).toNatClampNeg)) ((xs (i + 2).toNatClampNeg)) ((xs (i + 3).toNatClampNeg))).2.2 MA mo (nI (s_call F ((xs (i + 1).toNatClampNeg)) ((xs (i + 2).toNatClampNeg)) ((xs (i + 3).toNatClampNeg))).1) hm3) (cwV 0 hts gL_law_X7_thrown rfl rfl rfl (by decide +kernel) ⟨(Nat.le_of_ble_eq_true rfl), (Nat.le_of_ble_eq_true rfl)⟩) hm3.x rfl rfl rfl hl.1 (Nat.le_of_ble_eq_true rfl) dL_law_1455 ⟨Nat.le_trans (by omega) hc, Nat.le_trans (by omega) hs9⟩) hS (wA_in hP hS C0.2.2.2.2.2.2.2.2 rfl) (fun X ce q9 w4 H locs hpx => hpx.elim) (fun v w4 H locs hq hP _ hS _ _ => ?_)
  obtain ⟨rfl, hw9⟩ := hq
  rw [hw9] at hP
  refine W.eq (g2 := F0 m 1458 ls [.int (nI (s_call F ((xs (i + 1).toNatClampNeg)) ((xs (i + 2).toNatClampNeg)) ((xs (i + 3).toNatClampNeg))).1)]) rfl ?_
  refine lv_iload hx hb dL_law_1458 (lv_at hl 1 rfl) ?_
  refine lv_icmp_eq (tgt := 1465) hx hb dL_law_1460 (by decide) (fun _ => ?_) (fun c9 => absurd rfl c9)
  refine W.widen (k := cells + 20) (n := slots + 100) (by omega) (by omega) ?_
  refine lv_iload hx hb dL_law_1465 (lv_at hl 1 rfl) ?_
  refine lv_if_ne (tgt := 1482) hx hb dL_law_1467 (by decide) (fun _ => ?_) (fun c0 => ?_)
  · refine lv_goto (tgt := 1862) hx hb dL_law_1482 (by decide) ?_
    exact kk _ H locs ls hI3 hP hS (lv_sub hl [2, 3, 4, 5, 6, 7] rfl)
  · have h0 : (s_call F ((xs (i + 1).toNatClampNeg)) ((xs (i + 2).toNatClampNeg)) ((xs (i + 3).toNatClampNeg))).1 = 0 := (nI_e0 cb_call).mp c0
    refine lv_aload_n hx hb dL_law_1470 rfl (lv_at hl 6 rfl) ?_
    refine lv_iconst (v := 0) hx hb dL_law_1471 (by decide) ?_
    refine wl_lald C0 hP ho3 (show vp_in (nI 0) 1 from vp_in_nI (by omega) (by omega)) dL_law_1472 ?_
    refine lv_iload hx hb dL_law_1473 (lv_at hl 0 rfl) ?_
    refine lv_i2l (v := ((s_call F ((xs (i + 1).toNatClampNeg)) ((xs (i + 2).toNatClampNeg)) ((xs (i + 3).toNatClampNeg))).2.1).toInt64) hx hb dL_law_1475 rfl ?_
    refine W.lcmp hx hb dL_law_1476 ?_
    refine lv_if_eq (tgt := 1482) hx hb dL_law_1477 (by decide) (fun _ => ?_) (fun c2 => absurd (lw_cmp (by rw [lw_z0]; exact hf2 h0)) c2)
    refine lv_goto (tgt := 1862) hx hb dL_law_1482 (by decide) ?_
    exact kk _ H locs ls hI3 hP hS (lv_sub hl [2, 3, 4, 5, 6, 7] rfl)
set_option maxHeartbeats 4000000 in
set_option maxRecDepth 100000 in
theorem lc_pass (hst : l.stackTraces = false) (SA : lwA p s m args meth c A E b L xs) (hI : lwI E MA x mo oL oD N w) (hN : N < 512) (h1 : vp_in (i + 1) L) (h2 : vp_in (i + 2) L) (h3 : vp_in (i + 3) L) (h4 : vp_in (i + 4) L) (hP : wP E.1 A w H) (hS : va_S A s.heap H locs) (hl : lv_has ls 9 [(5, .int i), (0, .ref b), (1, .ref x), (2, .ref mo), (3, .ref oL), (4, .ref oD)]) (hc : cells + 20 ≤ room_1.cells) (hs9 : slots + 100 ≤ room_1.slots)
    (kk : ∀ (w2 : wW) (H2 : Heap) (locs2 : List Loc) (ls2 : Array Slot), lwI E MA x mo oL oD (N + 1) w2 → wP E.1 A w2 H2 → va_S A s.heap H2 locs2 → lv_has ls2 9 [(5, .int i), (0, .ref b), (1, .ref x), (2, .ref mo), (3, .ref oL), (4, .ref oD)] → W p l e room_1 s m args below meth c H2 locs2 (cells + 20) (slots + 100) Q (F0 m 1862 ls2 [])) : W p l e room_1 s m args below meth c H locs cells slots Q (F0 m 1485 ls []) := by
  obtain ⟨C0, hnc, hX, hbl, hbA⟩ := SA
  obtain ⟨F, AD, cd, fo, go, hI, hs, rfl, hm, ho, hd⟩ := hI
  have hx := C0.1
  have hb := C0.2.1
  have hts := C0.2.2.2.2.1
  have hn := hI.n
  refine lv_aload_n hx hb dL_law_1485 rfl (lv_at hl 2 rfl) ?_
  refine lv_aload_n hx hb dL_law_1486 rfl (lv_at hl 1 rfl) ?_
  refine lv_iload hx hb dL_law_1487 (lv_at hl 0 rfl) ?_
  refine lv_iconst (v := 1) hx hb dL_law_1489 (by decide) ?_
  refine lv_iadd hx hb dL_law_1490 ?_
  refine va_sld hx hb hX hbl hbA hS h1 dL_law_1491 ?_
  refine lv_aload_n hx hb dL_law_1492 rfl (lv_at hl 4 rfl) ?_
  refine wl_go (wl_runSN (As := [.ref (AD 5 0), .int (xs (i + 1).toNatClampNeg), .ref oL]) (rest := []) C0 hnc hP hS (k_L_pass l hst E w H.size F AD N hI hs oL fo ho ((xs (i + 1).toNatClampNeg))) (vx_cwSW 3 hts gL_law_L_pass rfl rfl rfl (by decide +kernel) ⟨(Nat.le_of_ble_eq_true rfl), (Nat.le_of_ble_eq_true rfl)⟩) rfl rfl hl.1 (Nat.le_of_ble_eq_true rfl) dL_law_1493 ⟨Nat.le_trans (by omega) hc, Nat.le_trans (by omega) hs9⟩) hS (wA_in hP hS C0.2.2.2.2.2.2.2.2 rfl) (fun X ce q9 w2 H locs hpx => hpx.elim) (fun v w2 H locs hq hP _ hS _ _ => ?_)
  obtain ⟨rfl, AD2, hs2, ha2, hk2, f2, ho2, hf2⟩ := hq
  refine W.eq (g2 := F0 m 1496 ls [.int (nI (s_pass F ((xs (i + 1).toNatClampNeg))).1)]) rfl ?_
  refine lv_istore (lv' := [(6, .int (nI (s_pass F ((xs (i + 1).toNatClampNeg))).1)), (5, .int i), (0, .ref b), (1, .ref (AD 5 0)), (2, .ref mo), (3, .ref oL), (4, .ref oD)]) hx hb dL_law_1496 hl (by decide) rfl (fun ls hl => ?_)
  refine lv_aload_n hx hb dL_law_1498 rfl (lv_at hl 4 rfl) ?_
  refine lv_aload_n hx hb dL_law_1499 rfl (lv_at hl 2 rfl) ?_
  refine lv_iload hx hb dL_law_1500 (lv_at hl 1 rfl) ?_
  refine lv_iconst (v := 1) hx hb dL_law_1502 (by decide) ?_
  refine lv_iadd hx hb dL_law_1503 ?_
  refine va_sld hx hb hX hbl hbA hS h1 dL_law_1504 ?_
  have hm2 := lw_mo hm ho hk2
  refine wl_go (wl_runV (As := [.int (xs (i + 1).toNatClampNeg)]) (rest := []) C0 hP hS (k_X7_pass l hst E w2 H.size F MA mo cd N hI hm2 ((xs (i + 1).toNatClampNeg))) (cwV 1 hts gL_law_X7_pass rfl rfl rfl (by decide +kernel) ⟨(Nat.le_of_ble_eq_true rfl), (Nat.le_of_ble_eq_true rfl)⟩) hm2.x rfl rfl rfl hl.1 (Nat.le_of_ble_eq_true rfl) dL_law_1505 ⟨Nat.le_trans (by omega) hc, Nat.le_trans (by omega) hs9⟩) hS (wA_in hP hS C0.2.2.2.2.2.2.2.2 rfl) (fun X ce q9 w3 H locs hpx => hpx.elim) (fun v w3 H locs hq hP _ hS _ _ => ?_)
  obtain ⟨rfl, hm3, hk3⟩ := hq
  refine W.eq (g2 := F0 m 1508 ls [.int ((s_pass F ((xs (i + 1).toNatClampNeg))).2.1)]) rfl ?_
  refine lv_istore (lv' := [(7, .int ((s_pass F ((xs (i + 1).toNatClampNeg))).2.1)), (6, .int (nI (s_pass F ((xs (i + 1).toNatClampNeg))).1)), (5, .int i), (0, .ref b), (1, .ref (AD 5 0)), (2, .ref mo), (3, .ref oL), (4, .ref oD)]) hx hb dL_law_1508 hl (by decide) rfl (fun ls hl => ?_)
  refine lv_aload_n hx hb dL_law_1510 rfl (lv_at hl 5 rfl) ?_
  obtain ⟨hI3, ho3⟩ := lw_next (J_pass hI hN ((xs (i + 1).toNatClampNeg))) hm ho hd hk2 hs2 ha2 ho2 hm3 hk3
  refine wl_go (wl_runV (As := []) (rest := []) C0 hP hS (k_X7_thrown l hst E w3 H.size (s_pass F ((xs (i + 1).toNatClampNeg))).2.2 MA mo (nI (s_pass F ((xs (i + 1).toNatClampNeg))).1) hm3) (cwV 0 hts gL_law_X7_thrown rfl rfl rfl (by decide +kernel) ⟨(Nat.le_of_ble_eq_true rfl), (Nat.le_of_ble_eq_true rfl)⟩) hm3.x rfl rfl rfl hl.1 (Nat.le_of_ble_eq_true rfl) dL_law_1511 ⟨Nat.le_trans (by omega) hc, Nat.le_trans (by omega) hs9⟩) hS (wA_in hP hS C0.2.2.2.2.2.2.2.2 rfl) (fun X ce q9 w4 H locs hpx => hpx.elim) (fun v w4 H locs hq hP _ hS _ _ => ?_)
  obtain ⟨rfl, hw9⟩ := hq
  rw [hw9] at hP
  refine W.eq (g2 := F0 m 1514 ls [.int (nI (s_pass F ((xs (i + 1).toNatClampNeg))).1)]) rfl ?_
  refine lv_iload hx hb dL_law_1514 (lv_at hl 1 rfl) ?_
  refine lv_icmp_eq (tgt := 1521) hx hb dL_law_1516 (by decide) (fun _ => ?_) (fun c9 => absurd rfl c9)
  refine W.widen (k := cells + 20) (n := slots + 100) (by omega) (by omega) ?_
  refine lv_iload hx hb dL_law_1521 (lv_at hl 1 rfl) ?_
  refine lv_if_ne (tgt := 1538) hx hb dL_law_1523 (by decide) (fun _ => ?_) (fun c0 => ?_)
  · refine lv_goto (tgt := 1862) hx hb dL_law_1538 (by decide) ?_
    exact kk _ H locs ls hI3 hP hS (lv_sub hl [2, 3, 4, 5, 6, 7] rfl)
  · have h0 : (s_pass F ((xs (i + 1).toNatClampNeg))).1 = 0 := (nI_e0 cb_pass).mp c0
    refine lv_aload_n hx hb dL_law_1526 rfl (lv_at hl 6 rfl) ?_
    refine lv_iconst (v := 0) hx hb dL_law_1527 (by decide) ?_
    refine wl_lald C0 hP ho3 (show vp_in (nI 0) 1 from vp_in_nI (by omega) (by omega)) dL_law_1528 ?_
    refine lv_iload hx hb dL_law_1529 (lv_at hl 0 rfl) ?_
    refine lv_i2l (v := ((s_pass F ((xs (i + 1).toNatClampNeg))).2.1).toInt64) hx hb dL_law_1531 rfl ?_
    refine W.lcmp hx hb dL_law_1532 ?_
    refine lv_if_eq (tgt := 1538) hx hb dL_law_1533 (by decide) (fun _ => ?_) (fun c2 => absurd (lw_cmp (by rw [lw_z0]; exact hf2 h0)) c2)
    refine lv_goto (tgt := 1862) hx hb dL_law_1538 (by decide) ?_
    exact kk _ H locs ls hI3 hP hS (lv_sub hl [2, 3, 4, 5, 6, 7] rfl)
set_option maxHeartbeats 4000000 in
set_option maxRecDepth 100000 in
theorem lc_calls (hst : l.stackTraces = false) (SA : lwA p s m args meth c A E b L xs) (hI : lwI E MA x mo oL oD N w) (hN : N < 512) (h1 : vp_in (i + 1) L) (h2 : vp_in (i + 2) L) (h3 : vp_in (i + 3) L) (h4 : vp_in (i + 4) L) (hP : wP E.1 A w H) (hS : va_S A s.heap H locs) (hl : lv_has ls 9 [(5, .int i), (0, .ref b), (1, .ref x), (2, .ref mo), (3, .ref oL), (4, .ref oD)]) (hc : cells + 20 ≤ room_1.cells) (hs9 : slots + 100 ≤ room_1.slots)
    (kk : ∀ (w2 : wW) (H2 : Heap) (locs2 : List Loc) (ls2 : Array Slot), lwI E MA x mo oL oD (N + 1) w2 → wP E.1 A w2 H2 → va_S A s.heap H2 locs2 → lv_has ls2 9 [(5, .int i), (0, .ref b), (1, .ref x), (2, .ref mo), (3, .ref oL), (4, .ref oD)] → W p l e room_1 s m args below meth c H2 locs2 (cells + 20) (slots + 100) Q (F0 m 1862 ls2 [])) : W p l e room_1 s m args below meth c H locs cells slots Q (F0 m 1541 ls []) := by
  obtain ⟨C0, hnc, hX, hbl, hbA⟩ := SA
  obtain ⟨F, AD, cd, fo, go, hI, hs, rfl, hm, ho, hd⟩ := hI
  have hx := C0.1
  have hb := C0.2.1
  have hts := C0.2.2.2.2.1
  have hn := hI.n
  refine lv_aload_n hx hb dL_law_1541 rfl (lv_at hl 2 rfl) ?_
  refine wl_go (wl_runV (As := []) (rest := []) C0 hP hS (k_X6_calls l hst E w H.size F AD N hI hs) (cwV 0 hts gL_law_X6_calls rfl rfl rfl (by decide +kernel) ⟨(Nat.le_of_ble_eq_true rfl), (Nat.le_of_ble_eq_true rfl)⟩) hs.x rfl rfl rfl hl.1 (Nat.le_of_ble_eq_true rfl) dL_law_1542 ⟨Nat.le_trans (by omega) hc, Nat.le_trans (by omega) hs9⟩) hS (wA_in hP hS C0.2.2.2.2.2.2.2.2 rfl) (fun X ce q9 w2 H locs hpx => hpx.elim) (fun v w2 H locs hq hP _ hS _ _ => ?_)
  obtain ⟨rfl, hw9⟩ := hq
  rw [hw9] at hP
  refine W.eq (g2 := F0 m 1545 ls [.int (nI (F 24 3))]) rfl ?_
  refine lv_aload_n hx hb dL_law_1545 rfl (lv_at hl 3 rfl) ?_
  refine wl_go (wl_runV (As := []) (rest := [.int (nI (F 24 3))]) C0 hP hS (k_X7_calls l hst E w H.size F MA mo cd N hI hm) (cwV 0 hts gL_law_X7_calls rfl rfl rfl (by decide +kernel) ⟨(Nat.le_of_ble_eq_true rfl), (Nat.le_of_ble_eq_true rfl)⟩) hm.x rfl rfl rfl hl.1 (Nat.le_of_ble_eq_true rfl) dL_law_1546 ⟨Nat.le_trans (by omega) hc, Nat.le_trans (by omega) hs9⟩) hS (wA_in hP hS C0.2.2.2.2.2.2.2.2 rfl) (fun X ce q9 w3 H locs hpx => hpx.elim) (fun v w3 H locs hq hP _ hS _ _ => ?_)
  obtain ⟨rfl, hm3, hk3⟩ := hq
  refine W.eq (g2 := F0 m 1549 ls [.int (nI (F 24 3)), .int (nI (F 24 3))]) rfl ?_
  refine lv_icmp_eq (tgt := 1862) hx hb dL_law_1549 (by decide) (fun _ => ?_) (fun c9 => absurd rfl c9)
  refine W.widen (k := cells + 20) (n := slots + 100) (by omega) (by omega) ?_
  exact kk _ H locs ls ⟨F, AD, _, fo, go, J_same hI hN, wSys_km hs hm hk3, rfl, hm3, lw_km hm ho hk3, lw_km hm hd hk3⟩ hP hS hl
end LC
