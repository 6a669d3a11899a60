section LC
variable {p : Program} {l : Launch} {e : Env} {s : State} {m : MethodId} {args : Array Value} {below : List Frame} {meth : Method} {c : Code} {H : Heap} {locs : List Loc} {cells slots : Nat} {Q : State → Prop}
variable {ls : Array Slot} {A : Nat → Prop} {E : wEn} {w : wW} {b L x mo oL oD N : Nat} {xs : Nat → Int32} {MA : Nat → Nat} {i : Int32}
set_option maxHeartbeats 4000000 in
set_option maxRecDepth 100000 in
theorem lc_setContract (hst : l.stackTraces = false) (SA : lwA p s m args meth c A E b L xs) (hI : lwI E MA x mo oL oD N w) (hN : N < 512) (h1 : vp_in (i + 1) L) (h2 : vp_in (i + 2) L) (h3 : vp_in (i + 3) L) (h4 : vp_in (i + 4) L) (hP : wP E.1 A w H) (hS : va_S A s.heap H locs) (hl : lv_has ls 9 [(5, .int i), (0, .ref b), (1, .ref x), (2, .ref mo), (3, .ref oL), (4, .ref oD)]) (hc : cells + 20 ≤ room_1.cells) (hs9 : slots + 100 ≤ room_1.slots)
    (kk : ∀ (w2 : wW) (H2 : Heap) (locs2 : List Loc) (ls2 : Array Slot), lwI E MA x mo oL oD (N + 1) w2 → wP E.1 A w2 H2 → va_S A s.heap H2 locs2 → lv_has ls2 9 [(5, .int i), (0, .ref b), (1, .ref x), (2, .ref mo), (3, .ref oL), (4, .ref oD)] → W p l e room_1 s m args below meth c H2 locs2 (cells + 20) (slots + 100) Q (F0 m 1862 ls2 [])) : W p l e room_1 s m args below meth c H locs cells slots Q (F0 m 372 ls []) := by
  obtain ⟨C0, hnc, hX, hbl, hbA⟩ := SA
  obtain ⟨F, AD, cd, fo, go, hI, hs, rfl, hm, ho, hd⟩ := hI
  have hx := C0.1
  have hb := C0.2.1
  have hts := C0.2.2.2.2.1
  have hn := hI.n
  refine lv_aload_n hx hb dL_law_372 rfl (lv_at hl 2 rfl) ?_
  refine lv_aload_n hx hb dL_law_373 rfl (lv_at hl 1 rfl) ?_
  refine lv_iload hx hb dL_law_374 (lv_at hl 0 rfl) ?_
  refine lv_iconst (v := 1) hx hb dL_law_376 (by decide) ?_
  refine lv_iadd hx hb dL_law_377 ?_
  refine va_sld hx hb hX hbl hbA hS h1 dL_law_378 ?_
  refine lv_aload_n hx hb dL_law_379 rfl (lv_at hl 1 rfl) ?_
  refine lv_iload hx hb dL_law_380 (lv_at hl 0 rfl) ?_
  refine lv_iconst (v := 2) hx hb dL_law_382 (by decide) ?_
  refine lv_iadd hx hb dL_law_383 ?_
  refine va_sld hx hb hX hbl hbA hS h2 dL_law_384 ?_
  refine lv_aload_n hx hb dL_law_385 rfl (lv_at hl 1 rfl) ?_
  refine lv_iload hx hb dL_law_386 (lv_at hl 0 rfl) ?_
  refine lv_iconst (v := 3) hx hb dL_law_388 (by decide) ?_
  refine lv_iadd hx hb dL_law_389 ?_
  refine va_sld hx hb hX hbl hbA hS h3 dL_law_390 ?_
  refine lv_aload_n hx hb dL_law_391 rfl (lv_at hl 4 rfl) ?_
  refine wl_go (wl_runSN (As := [.ref (AD 5 0), .int (xs (i + 1).toNatClampNeg), .int (xs (i + 2).toNatClampNeg), .int (xs (i + 3).toNatClampNeg), .ref oL]) (rest := []) C0 hnc hP hS (k_L_setContract l hst E w H.size F AD N hI hs oL fo ho ((xs (i + 1).toNatClampNeg)) ((xs (i + 2).toNatClampNeg)) ((xs (i + 3).toNatClampNeg))) (vx_cwSW 5 hts gL_law_L_setContract rfl rfl rfl (by decide +kernel) ⟨(Nat.le_of_ble_eq_true rfl), (Nat.le_of_ble_eq_true rfl)⟩) rfl rfl hl.1 (Nat.le_of_ble_eq_true rfl) dL_law_392 ⟨Nat.le_trans (by omega) hc, Nat.le_trans (by omega) hs9⟩) hS (wA_in hP hS C0.2.2.2.2.2.2.2.2 rfl) (fun X ce q9 w2 H locs hpx => hpx.elim) (fun v w2 H locs hq hP _ hS _ _ => ?_)
  obtain ⟨rfl, AD2, hs2, ha2, hk2, f2, ho2, hf2⟩ := hq
  refine W.eq (g2 := F0 m 395 ls [.int (nI (s_setContract F ((xs (i + 1).toNatClampNeg)) ((xs (i + 2).toNatClampNeg)) ((xs (i + 3).toNatClampNeg))).1)]) rfl ?_
  refine lv_istore (lv' := [(6, .int (nI (s_setContract F ((xs (i + 1).toNatClampNeg)) ((xs (i + 2).toNatClampNeg)) ((xs (i + 3).toNatClampNeg))).1)), (5, .int i), (0, .ref b), (1, .ref (AD 5 0)), (2, .ref mo), (3, .ref oL), (4, .ref oD)]) hx hb dL_law_395 hl (by decide) rfl (fun ls hl => ?_)
  refine lv_aload_n hx hb dL_law_397 rfl (lv_at hl 4 rfl) ?_
  refine lv_aload_n hx hb dL_law_398 rfl (lv_at hl 2 rfl) ?_
  refine lv_iload hx hb dL_law_399 (lv_at hl 1 rfl) ?_
  refine lv_iconst (v := 1) hx hb dL_law_401 (by decide) ?_
  refine lv_iadd hx hb dL_law_402 ?_
  refine va_sld hx hb hX hbl hbA hS h1 dL_law_403 ?_
  refine lv_aload_n hx hb dL_law_404 rfl (lv_at hl 2 rfl) ?_
  refine lv_iload hx hb dL_law_405 (lv_at hl 1 rfl) ?_
  refine lv_iconst (v := 2) hx hb dL_law_407 (by decide) ?_
  refine lv_iadd hx hb dL_law_408 ?_
  refine va_sld hx hb hX hbl hbA hS h2 dL_law_409 ?_
  refine lv_aload_n hx hb dL_law_410 rfl (lv_at hl 2 rfl) ?_
  refine lv_iload hx hb dL_law_411 (lv_at hl 1 rfl) ?_
  refine lv_iconst (v := 3) hx hb dL_law_413 (by decide) ?_
  refine lv_iadd hx hb dL_law_414 ?_
  refine va_sld hx hb hX hbl hbA hS h3 dL_law_415 ?_
  have hm2 := lw_mo hm ho hk2
  refine wl_go (wl_runV (As := [.int (xs (i + 1).toNatClampNeg), .int (xs (i + 2).toNatClampNeg), .int (xs (i + 3).toNatClampNeg)]) (rest := []) C0 hP hS (k_X7_setContract l hst E w2 H.size F MA mo cd N hI hm2 ((xs (i + 1).toNatClampNeg)) ((xs (i + 2).toNatClampNeg)) ((xs (i + 3).toNatClampNeg))) (cwV 3 hts gL_law_X7_setContract rfl rfl rfl (by decide +kernel) ⟨(Nat.le_of_ble_eq_true rfl), (Nat.le_of_ble_eq_true rfl)⟩) hm2.x rfl rfl rfl hl.1 (Nat.le_of_ble_eq_true rfl) dL_law_416 ⟨Nat.le_trans (by omega) hc, Nat.le_trans (by omega) hs9⟩) hS (wA_in hP hS C0.2.2.2.2.2.2.2.2 rfl) (fun X ce q9 w3 H locs hpx => hpx.elim) (fun v w3 H locs hq hP _ hS _ _ => ?_)
  obtain ⟨rfl, hm3, hk3⟩ := hq
  refine W.eq (g2 := F0 m 419 ls [.int ((s_setContract F ((xs (i + 1).toNatClampNeg)) ((xs (i + 2).toNatClampNeg)) ((xs (i + 3).toNatClampNeg))).2.1)]) rfl ?_
  refine lv_istore (lv' := [(7, .int ((s_setContract F ((xs (i + 1).toNatClampNeg)) ((xs (i + 2).toNatClampNeg)) ((xs (i + 3).toNatClampNeg))).2.1)), (6, .int (nI (s_setContract F ((xs (i + 1).toNatClampNeg)) ((xs (i + 2).toNatClampNeg)) ((xs (i + 3).toNatClampNeg))).1)), (5, .int i), (0, .ref b), (1, .ref (AD 5 0)), (2, .ref mo), (3, .ref oL), (4, .ref oD)]) hx hb dL_law_419 hl (by decide) rfl (fun ls hl => ?_)
  refine lv_aload_n hx hb dL_law_421 rfl (lv_at hl 5 rfl) ?_
  obtain ⟨hI3, ho3⟩ := lw_next (J_setContract hI hN ((xs (i + 1).toNatClampNeg)) ((xs (i + 2).toNatClampNeg)) ((xs (i + 3).toNatClampNeg))) hm ho hd hk2 hs2 ha2 ho2 hm3 hk3
  refine wl_go (wl_runV (As := []) (rest := []) C0 hP hS (k_X7_thrown l hst E w3 H.size (s_setContract F ((xs (i + 1).toNatClampNeg)) ((xs (i + 2).toNatClampNeg)) ((xs (i + 3).toNatClampNeg))).2.2 MA mo (nI (s_setContract F ((xs (i + 1).toNatClampNeg)) ((xs (i + 2).toNatClampNeg)) ((xs (i + 3).toNatClampNeg))).1) hm3) (cwV 0 hts gL_law_X7_thrown rfl rfl rfl (by decide +kernel) ⟨(Nat.le_of_ble_eq_true rfl), (Nat.le_of_ble_eq_true rfl)⟩) hm3.x rfl rfl rfl hl.1 (Nat.le_of_ble_eq_true rfl) dL_law_422 ⟨Nat.le_trans (by omega) hc, Nat.le_trans (by omega) hs9⟩) hS (wA_in hP hS C0.2.2.2.2.2.2.2.2 rfl) (fun X ce q9 w4 H locs hpx => hpx.elim) (fun v w4 H locs hq hP _ hS _ _ => ?_)
  obtain ⟨rfl, hw9⟩ := hq
  rw [hw9] at hP
  refine W.eq (g2 := F0 m 425 ls [.int (nI (s_setContract F ((xs (i + 1).toNatClampNeg)) ((xs (i + 2).toNatClampNeg)) ((xs (i + 3).toNatClampNeg))).1)]) rfl ?_
  refine lv_iload hx hb dL_law_425 (lv_at hl 1 rfl) ?_
  refine lv_icmp_eq (tgt := 432) hx hb dL_law_427 (by decide) (fun _ => ?_) (fun c9 => absurd rfl c9)
  refine W.widen (k := cells + 20) (n := slots + 100) (by omega) (by omega) ?_
  refine lv_iload hx hb dL_law_432 (lv_at hl 1 rfl) ?_
  refine lv_if_ne (tgt := 449) hx hb dL_law_434 (by decide) (fun _ => ?_) (fun c0 => ?_)
  · refine lv_goto (tgt := 1862) hx hb dL_law_449 (by decide) ?_
    exact kk _ H locs ls hI3 hP hS (lv_sub hl [2, 3, 4, 5, 6, 7] rfl)
  · have h0 : (s_setContract F ((xs (i + 1).toNatClampNeg)) ((xs (i + 2).toNatClampNeg)) ((xs (i + 3).toNatClampNeg))).1 = 0 := (nI_e0 cb_setContract).mp c0
    refine lv_aload_n hx hb dL_law_437 rfl (lv_at hl 6 rfl) ?_
    refine lv_iconst (v := 0) hx hb dL_law_438 (by decide) ?_
    refine wl_lald C0 hP ho3 (show vp_in (nI 0) 1 from vp_in_nI (by omega) (by omega)) dL_law_439 ?_
    refine lv_iload hx hb dL_law_440 (lv_at hl 0 rfl) ?_
    refine lv_i2l (v := ((s_setContract F ((xs (i + 1).toNatClampNeg)) ((xs (i + 2).toNatClampNeg)) ((xs (i + 3).toNatClampNeg))).2.1).toInt64) hx hb dL_law_442 rfl ?_
    refine W.lcmp hx hb dL_law_443 ?_
    refine lv_if_eq (tgt := 449) hx hb dL_law_444 (by decide) (fun _ => ?_) (fun c2 => absurd (lw_cmp (by rw [lw_z0]; exact hf2 h0)) c2)
    refine lv_goto (tgt := 1862) hx hb dL_law_449 (by decide) ?_
    exact kk _ H locs ls hI3 hP hS (lv_sub hl [2, 3, 4, 5, 6, 7] rfl)
set_option maxHeartbeats 4000000 in
set_option maxRecDepth 100000 in
theorem lc_setAnswer (hst : l.stackTraces = false) (SA : lwA p s m args meth c A E b L xs) (hI : lwI E MA x mo oL oD N w) (hN : N < 512) (h1 : vp_in (i + 1) L) (h2 : vp_in (i + 2) L) (h3 : vp_in (i + 3) L) (h4 : vp_in (i + 4) L) (hP : wP E.1 A w H) (hS : va_S A s.heap H locs) (hl : lv_has ls 9 [(5, .int i), (0, .ref b), (1, .ref x), (2, .ref mo), (3, .ref oL), (4, .ref oD)]) (hc : cells + 20 ≤ room_1.cells) (hs9 : slots + 100 ≤ room_1.slots)
    (kk : ∀ (w2 : wW) (H2 : Heap) (locs2 : List Loc) (ls2 : Array Slot), lwI E MA x mo oL oD (N + 1) w2 → wP E.1 A w2 H2 → va_S A s.heap H2 locs2 → lv_has ls2 9 [(5, .int i), (0, .ref b), (1, .ref x), (2, .ref mo), (3, .ref oL), (4, .ref oD)] → W p l e room_1 s m args below meth c H2 locs2 (cells + 20) (slots + 100) Q (F0 m 1862 ls2 [])) : W p l e room_1 s m args below meth c H locs cells slots Q (F0 m 452 ls []) := by
  obtain ⟨C0, hnc, hX, hbl, hbA⟩ := SA
  obtain ⟨F, AD, cd, fo, go, hI, hs, rfl, hm, ho, hd⟩ := hI
  have hx := C0.1
  have hb := C0.2.1
  have hts := C0.2.2.2.2.1
  have hn := hI.n
  refine lv_aload_n hx hb dL_law_452 rfl (lv_at hl 2 rfl) ?_
  refine lv_aload_n hx hb dL_law_453 rfl (lv_at hl 1 rfl) ?_
  refine lv_iload hx hb dL_law_454 (lv_at hl 0 rfl) ?_
  refine lv_iconst (v := 1) hx hb dL_law_456 (by decide) ?_
  refine lv_iadd hx hb dL_law_457 ?_
  refine va_sld hx hb hX hbl hbA hS h1 dL_law_458 ?_
  refine lv_aload_n hx hb dL_law_459 rfl (lv_at hl 1 rfl) ?_
  refine lv_iload hx hb dL_law_460 (lv_at hl 0 rfl) ?_
  refine lv_iconst (v := 2) hx hb dL_law_462 (by decide) ?_
  refine lv_iadd hx hb dL_law_463 ?_
  refine va_sld hx hb hX hbl hbA hS h2 dL_law_464 ?_
  refine lv_aload_n hx hb dL_law_465 rfl (lv_at hl 4 rfl) ?_
  refine wl_go (wl_runSN (As := [.ref (AD 5 0), .int (xs (i + 1).toNatClampNeg), .int (xs (i + 2).toNatClampNeg), .ref oL]) (rest := []) C0 hnc hP hS (k_L_setAnswer l hst E w H.size F AD N hI hs oL fo ho ((xs (i + 1).toNatClampNeg)) ((xs (i + 2).toNatClampNeg))) (vx_cwSW 4 hts gL_law_L_setAnswer rfl rfl rfl (by decide +kernel) ⟨(Nat.le_of_ble_eq_true rfl), (Nat.le_of_ble_eq_true rfl)⟩) rfl rfl hl.1 (Nat.le_of_ble_eq_true rfl) dL_law_466 ⟨Nat.le_trans (by omega) hc, Nat.le_trans (by omega) hs9⟩) hS (wA_in hP hS C0.2.2.2.2.2.2.2.2 rfl) (fun X ce q9 w2 H locs hpx => hpx.elim) (fun v w2 H locs hq hP _ hS _ _ => ?_)
  obtain ⟨rfl, AD2, hs2, ha2, hk2, f2, ho2, hf2⟩ := hq
  refine W.eq (g2 := F0 m 469 ls [.int (nI (s_setAnswer F ((xs (i + 1).toNatClampNeg)) ((xs (i + 2).toNatClampNeg))).1)]) rfl ?_
  refine lv_istore (lv' := [(6, .int (nI (s_setAnswer F ((xs (i + 1).toNatClampNeg)) ((xs (i + 2).toNatClampNeg))).1)), (5, .int i), (0, .ref b), (1, .ref (AD 5 0)), (2, .ref mo), (3, .ref oL), (4, .ref oD)]) hx hb dL_law_469 hl (by decide) rfl (fun ls hl => ?_)
  refine lv_aload_n hx hb dL_law_471 rfl (lv_at hl 4 rfl) ?_
  refine lv_aload_n hx hb dL_law_472 rfl (lv_at hl 2 rfl) ?_
  refine lv_iload hx hb dL_law_473 (lv_at hl 1 rfl) ?_
  refine lv_iconst (v := 1) hx hb dL_law_475 (by decide) ?_
  refine lv_iadd hx hb dL_law_476 ?_
  refine va_sld hx hb hX hbl hbA hS h1 dL_law_477 ?_
  refine lv_aload_n hx hb dL_law_478 rfl (lv_at hl 2 rfl) ?_
  refine lv_iload hx hb dL_law_479 (lv_at hl 1 rfl) ?_
  refine lv_iconst (v := 2) hx hb dL_law_481 (by decide) ?_
  refine lv_iadd hx hb dL_law_482 ?_
  refine va_sld hx hb hX hbl hbA hS h2 dL_law_483 ?_
  have hm2 := lw_mo hm ho hk2
  refine wl_go (wl_runV (As := [.int (xs (i + 1).toNatClampNeg), .int (xs (i + 2).toNatClampNeg)]) (rest := []) C0 hP hS (k_X7_setAnswer l hst E w2 H.size F MA mo cd N hI hm2 ((xs (i + 1).toNatClampNeg)) ((xs (i + 2).toNatClampNeg))) (cwV 2 hts gL_law_X7_setAnswer rfl rfl rfl (by decide +kernel) ⟨(Nat.le_of_ble_eq_true rfl), (Nat.le_of_ble_eq_true rfl)⟩) hm2.x rfl rfl rfl hl.1 (Nat.le_of_ble_eq_true rfl) dL_law_484 ⟨Nat.le_trans (by omega) hc, Nat.le_trans (by omega) hs9⟩) hS (wA_in hP hS C0.2.2.2.2.2.2.2.2 rfl) (fun X ce q9 w3 H locs hpx => hpx.elim) (fun v w3 H locs hq hP _ hS _ _ => ?_)
  obtain ⟨rfl, hm3, hk3⟩ := hq
  refine W.eq (g2 := F0 m 487 ls [.int ((s_setAnswer F ((xs (i + 1).toNatClampNeg)) ((xs (i + 2).toNatClampNeg))).2.1)]) rfl ?_
  refine lv_istore (lv' := [(7, .int ((s_setAnswer F ((xs (i + 1).toNatClampNeg)) ((xs (i + 2).toNatClampNeg))).2.1)), (6, .int (nI (s_setAnswer F ((xs (i + 1).toNatClampNeg)) ((xs (i + 2).toNatClampNeg))).1)), (5, .int i), (0, .ref b), (1, .ref (AD 5 0)), (2, .ref mo), (3, .ref oL), (4, .ref oD)]) hx hb dL_law_487 hl (by decide) rfl (fun ls hl => ?_)
  refine lv_aload_n hx hb dL_law_489 rfl (lv_at hl 5 rfl) ?_
  obtain ⟨hI3, ho3⟩ := lw_next (J_setAnswer hI hN ((xs (i + 1).toNatClampNeg)) ((xs (i + 2).toNatClampNeg))) hm ho hd hk2 hs2 ha2 ho2 hm3 hk3
  refine wl_go (wl_runV (As := []) (rest := []) C0 hP hS (k_X7_thrown l hst E w3 H.size (s_setAnswer F ((xs (i + 1).toNatClampNeg)) ((xs (i + 2).toNatClampNeg))).2.2 MA mo (nI (s_setAnswer F ((xs (i + 1).toNatClampNeg)) ((xs (i + 2).toNatClampNeg))).1) hm3) (cwV 0 hts gL_law_X7_thrown rfl rfl rfl (by decide +kernel) ⟨(Nat.le_of_ble_eq_true rfl), (Nat.le_of_ble_eq_true rfl)⟩) hm3.x rfl rfl rfl hl.1 (Nat.le_of_ble_eq_true rfl) dL_law_490 ⟨Nat.le_trans (by omega) hc, Nat.le_trans (by omega) hs9⟩) hS (wA_in hP hS C0.2.2.2.2.2.2.2.2 rfl) (fun X ce q9 w4 H locs hpx => hpx.elim) (fun v w4 H locs hq hP _ hS _ _ => ?_)
  obtain ⟨rfl, hw9⟩ := hq
  rw [hw9] at hP
  refine W.eq (g2 := F0 m 493 ls [.int (nI (s_setAnswer F ((xs (i + 1).toNatClampNeg)) ((xs (i + 2).toNatClampNeg))).1)]) rfl ?_
  refine lv_iload hx hb dL_law_493 (lv_at hl 1 rfl) ?_
  refine lv_icmp_eq (tgt := 500) hx hb dL_law_495 (by decide) (fun _ => ?_) (fun c9 => absurd rfl c9)
  refine W.widen (k := cells + 20) (n := slots + 100) (by omega) (by omega) ?_
  refine lv_iload hx hb dL_law_500 (lv_at hl 1 rfl) ?_
  refine lv_if_ne (tgt := 517) hx hb dL_law_502 (by decide) (fun _ => ?_) (fun c0 => ?_)
  · refine lv_goto (tgt := 1862) hx hb dL_law_517 (by decide) ?_
    exact kk _ H locs ls hI3 hP hS (lv_sub hl [2, 3, 4, 5, 6, 7] rfl)
  · have h0 : (s_setAnswer F ((xs (i + 1).toNatClampNeg)) ((xs (i + 2).toNatClampNeg))).1 = 0 := (nI_e0 cb_setAnswer).mp c0
    refine lv_aload_n hx hb dL_law_505 rfl (lv_at hl 6 rfl) ?_
    refine lv_iconst (v := 0) hx hb dL_law_506 (by decide) ?_
    refine wl_lald C0 hP ho3 (show vp_in (nI 0) 1 from vp_in_nI (by omega) (by omega)) dL_law_507 ?_
    refine lv_iload hx hb dL_law_508 (lv_at hl 0 rfl) ?_
    refine lv_i2l (v := ((s_setAnswer F ((xs (i + 1).toNatClampNeg)) ((xs (i + 2).toNatClampNeg))).2.1).toInt64) hx hb dL_law_510 rfl ?_
    refine W.lcmp hx hb dL_law_511 ?_
    refine lv_if_eq (tgt := 517) hx hb dL_law_512 (by decide) (fun _ => ?_) (fun c2 => absurd (lw_cmp (by rw [lw_z0]; exact hf2 h0)) c2)
    refine lv_goto (tgt := 1862) hx hb dL_law_517 (by decide) ?_
    exact kk _ H locs ls hI3 hP hS (lv_sub hl [2, 3, 4, 5, 6, 7] rfl)
set_option maxHeartbeats 4000000 in
set_option maxRecDepth 100000 in
theorem lc_broken (hst : l.stackTraces = false) (SA : lwA p s m args meth c A E b L xs) (hI : lwI E MA x mo oL oD N w) (hN : N < 512) (h1 : vp_in (i + 1) L) (h2 : vp_in (i + 2) L) (h3 : vp_in (i + 3) L) (h4 : vp_in (i + 4) L) (hP : wP E.1 A w H) (hS : va_S A s.heap H locs) (hl : lv_has ls 9 [(5, .int i), (0, .ref b), (1, .ref x), (2, .ref mo), (3, .ref oL), (4, .ref oD)]) (hc : cells + 20 ≤ room_1.cells) (hs9 : slots + 100 ≤ room_1.slots)
    (kk : ∀ (w2 : wW) (H2 : Heap) (locs2 : List Loc) (ls2 : Array Slot), lwI E MA x mo oL oD (N + 1) w2 → wP E.1 A w2 H2 → va_S A s.heap H2 locs2 → lv_has ls2 9 [(5, .int i), (0, .ref b), (1, .ref x), (2, .ref mo), (3, .ref oL), (4, .ref oD)] → W p l e room_1 s m args below meth c H2 locs2 (cells + 20) (slots + 100) Q (F0 m 1862 ls2 [])) : W p l e room_1 s m args below meth c H locs cells slots Q (F0 m 520 ls []) := by
  obtain ⟨C0, hnc, hX, hbl, hbA⟩ := SA
  obtain ⟨F, AD, cd, fo, go, hI, hs, rfl, hm, ho, hd⟩ := hI
  have hx := C0.1
  have hb := C0.2.1
  have hts := C0.2.2.2.2.1
  have hn := hI.n
  refine lv_aload_n hx hb dL_law_520 rfl (lv_at hl 2 rfl) ?_
  refine lv_aload_n hx hb dL_law_521 rfl (lv_at hl 1 rfl) ?_
  refine lv_iload hx hb dL_law_522 (lv_at hl 0 rfl) ?_
  refine lv_iconst (v := 1) hx hb dL_law_524 (by decide) ?_
  refine lv_iadd hx hb dL_law_525 ?_
  refine va_sld hx hb hX hbl hbA hS h1 dL_law_526 ?_
  refine lv_aload_n hx hb dL_law_527 rfl (lv_at hl 4 rfl) ?_
  refine wl_go (wl_runSN (As := [.ref (AD 5 0), .int (xs (i + 1).toNatClampNeg), .ref oL]) (rest := []) C0 hnc hP hS (k_L_broken l hst E w H.size F AD N hI hs oL fo ho ((xs (i + 1).toNatClampNeg))) (vx_cwSW 3 hts gL_law_L_broken rfl rfl rfl (by decide +kernel) ⟨(Nat.le_of_ble_eq_true rfl), (Nat.le_of_ble_eq_true rfl)⟩) rfl rfl hl.1 (Nat.le_of_ble_eq_true rfl) dL_law_528 ⟨Nat.le_trans (by omega) hc, Nat.le_trans (by omega) hs9⟩) hS (wA_in hP hS C0.2.2.2.2.2.2.2.2 rfl) (fun X ce q9 w2 H locs hpx => hpx.elim) (fun v w2 H locs hq hP _ hS _ _ => ?_)
  obtain ⟨rfl, AD2, hs2, ha2, hk2, f2, ho2, hf2⟩ := hq
  refine W.eq (g2 := F0 m 531 ls [.int (nI (s_broken F ((xs (i + 1).toNatClampNeg))).1)]) rfl ?_
  refine lv_istore (lv' := [(6, .int (nI (s_broken F ((xs (i + 1).toNatClampNeg))).1)), (5, .int i), (0, .ref b), (1, .ref (AD 5 0)), (2, .ref mo), (3, .ref oL), (4, .ref oD)]) hx hb dL_law_531 hl (by decide) rfl (fun ls hl => ?_)
  refine lv_aload_n hx hb dL_law_533 rfl (lv_at hl 4 rfl) ?_
  refine lv_aload_n hx hb dL_law_534 rfl (lv_at hl 2 rfl) ?_
  refine lv_iload hx hb dL_law_535 (lv_at hl 1 rfl) ?_
  refine lv_iconst (v := 1) hx hb dL_law_537 (by decide) ?_
  refine lv_iadd hx hb dL_law_538 ?_
  refine va_sld hx hb hX hbl hbA hS h1 dL_law_539 ?_
  have hm2 := lw_mo hm ho hk2
  refine wl_go (wl_runV (As := [.int (xs (i + 1).toNatClampNeg)]) (rest := []) C0 hP hS (k_X7_broken l hst E w2 H.size F MA mo cd N hI hm2 ((xs (i + 1).toNatClampNeg))) (cwV 1 hts gL_law_X7_broken rfl rfl rfl (by decide +kernel) ⟨(Nat.le_of_ble_eq_true rfl), (Nat.le_of_ble_eq_true rfl)⟩) hm2.x rfl rfl rfl hl.1 (Nat.le_of_ble_eq_true rfl) dL_law_540 ⟨Nat.le_trans (by omega) hc, Nat.le_trans (by omega) hs9⟩) hS (wA_in hP hS C0.2.2.2.2.2.2.2.2 rfl) (fun X ce q9 w3 H locs hpx => hpx.elim) (fun v w3 H locs hq hP _ hS _ _ => ?_)
  obtain ⟨rfl, hm3, hk3⟩ := hq
  refine W.eq (g2 := F0 m 543 ls [.int ((s_broken F ((xs (i + 1).toNatClampNeg))).2.1)]) rfl ?_
  refine lv_istore (lv' := [(7, .int ((s_broken F ((xs (i + 1).toNatClampNeg))).2.1)), (6, .int (nI (s_broken F ((xs (i + 1).toNatClampNeg))).1)), (5, .int i), (0, .ref b), (1, .ref (AD 5 0)), (2, .ref mo), (3, .ref oL), (4, .ref oD)]) hx hb dL_law_543 hl (by decide) rfl (fun ls hl => ?_)
  refine lv_aload_n hx hb dL_law_545 rfl (lv_at hl 5 rfl) ?_
  obtain ⟨hI3, ho3⟩ := lw_next (J_broken hI hN ((xs (i + 1).toNatClampNeg))) hm ho hd hk2 hs2 ha2 ho2 hm3 hk3
  refine wl_go (wl_runV (As := []) (rest := []) C0 hP hS (k_X7_thrown l hst E w3 H.size (s_broken F ((xs (i + 1).toNatClampNeg))).2.2 MA mo (nI (s_broken F ((xs (i + 1).toNatClampNeg))).1) hm3) (cwV 0 hts gL_law_X7_thrown rfl rfl rfl (by decide +kernel) ⟨(Nat.le_of_ble_eq_true rfl), (Nat.le_of_ble_eq_true rfl)⟩) hm3.x rfl rfl rfl hl.1 (Nat.le_of_ble_eq_true rfl) dL_law_546 ⟨Nat.le_trans (by omega) hc, Nat.le_trans (by omega) hs9⟩) hS (wA_in hP hS C0.2.2.2.2.2.2.2.2 rfl) (fun X ce q9 w4 H locs hpx => hpx.elim) (fun v w4 H locs hq hP _ hS _ _ => ?_)
  obtain ⟨rfl, hw9⟩ := hq
  rw [hw9] at hP
  refine W.eq (g2 := F0 m 549 ls [.int (nI (s_broken F ((xs (i + 1).toNatClampNeg))).1)]) rfl ?_
  refine lv_iload hx hb dL_law_549 (lv_at hl 1 rfl) ?_
  refine lv_icmp_eq (tgt := 556) hx hb dL_law_551 (by decide) (fun _ => ?_) (fun c9 => absurd rfl c9)
  refine W.widen (k := cells + 20) (n := slots + 100) (by omega) (by omega) ?_
  refine lv_iload hx hb dL_law_556 (lv_at hl 1 rfl) ?_
  refine lv_if_ne (tgt := 573) hx hb dL_law_558 (by decide) (fun _ => ?_) (fun c0 => ?_)
  · refine lv_goto (tgt := 1862) hx hb dL_law_573 (by decide) ?_
    exact kk _ H locs ls hI3 hP hS (lv_sub hl [2, 3, 4, 5, 6, 7] rfl)
  · have h0 : (s_broken F ((xs (i + 1).toNatClampNeg))).1 = 0 := (nI_e0 cb_broken).mp c0
    refine lv_aload_n hx hb dL_law_561 rfl (lv_at hl 6 rfl) ?_
    refine lv_iconst (v := 0) hx hb dL_law_562 (by decide) ?_
    refine wl_lald C0 hP ho3 (show vp_in (nI 0) 1 from vp_in_nI (by omega) (by omega)) dL_law_563 ?_
    refine lv_iload hx hb dL_law_564 (lv_at hl 0 rfl) ?_
    refine lv_i2l (v := ((s_broken F ((xs (i + 1).toNatClampNeg))).2.1).toInt64) hx hb dL_law_566 rfl ?_
    refine W.lcmp hx hb dL_law_567 ?_
    refine lv_if_eq (tgt := 573) hx hb dL_law_568 (by decide) (fun _ => ?_) (fun c2 => absurd (lw_cmp (by rw [lw_z0]; exact hf2 h0)) c2)
    refine lv_goto (tgt := 1862) hx hb dL_law_573 (by decide) ?_
    exact kk _ H locs ls hI3 hP hS (lv_sub hl [2, 3, 4, 5, 6, 7] rfl)
set_option maxHeartbeats 4000000 in
set_option maxRecDepth 100000 in
theorem lc_begin (hst : l.stackTraces = false) (SA : lwA p s m args meth c A E b L xs) (hI : lwI E MA x mo oL oD N w) (hN : N < 512) (h1 : vp_in (i + 1) L) (h2 : vp_in (i + 2) L) (h3 : vp_in (i + 3) L) (h4 : vp_in (i + 4) L) (hP : wP E.1 A w H) (hS : va_S A s.heap H locs) (hl : lv_has ls 9 [(5, .int i), (0, .ref b), (1, .ref x), (2, .ref mo), (3, .ref oL), (4, .ref oD)]) (hc : cells + 20 ≤ room_1.cells) (hs9 : slots + 100 ≤ room_1.slots)
    (kk : ∀ (w2 : wW) (H2 : Heap) (locs2 : List Loc) (ls2 : Array Slot), lwI E MA x mo oL oD (N + 1) w2 → wP E.1 A w2 H2 → va_S A s.heap H2 locs2 → lv_has ls2 9 [(5, .int i), (0, .ref b), (1, .ref x), (2, .ref mo), (3, .ref oL), (4, .ref oD)] → W p l e room_1 s m args below meth c H2 locs2 (cells + 20) (slots + 100) Q (F0 m 1862 ls2 [])) : W p l e room_1 s m args below meth c H locs cells slots Q (F0 m 576 ls []) := by
  obtain ⟨C0, hnc, hX, hbl, hbA⟩ := SA
  obtain ⟨F, AD, cd, fo, go, hI, hs, rfl, hm, ho, hd⟩ := hI
  have hx := C0.1
  have hb := C0.2.1
  have hts := C0.2.2.2.2.1
  have hn := hI.n
  refine lv_aload_n hx hb dL_law_576 rfl (lv_at hl 2 rfl) ?_
  refine lv_aload_n hx hb dL_law_577 rfl (lv_at hl 1 rfl) ?_
  refine lv_iload hx hb dL_law_578 (lv_at hl 0 rfl) ?_
  refine lv_iconst (v := 1) hx hb dL_law_580 (by decide) ?_
  refine lv_iadd hx hb dL_law_581 ?_
  refine va_sld hx hb hX hbl hbA hS h1 dL_law_582 ?_
  refine lv_aload_n hx hb dL_law_583 rfl (lv_at hl 1 rfl) ?_
  refine lv_iload hx hb dL_law_584 (lv_at hl 0 rfl) ?_
  refine lv_iconst (v := 2) hx hb dL_law_586 (by decide) ?_
  refine lv_iadd hx hb dL_law_587 ?_
  refine va_sld hx hb hX hbl hbA hS h2 dL_law_588 ?_
  refine lv_aload_n hx hb dL_law_589 rfl (lv_at hl 1 rfl) ?_
  refine lv_iload hx hb dL_law_590 (lv_at hl 0 rfl) ?_
  refine lv_iconst (v := 3) hx hb dL_law_592 (by decide) ?_
  refine lv_iadd hx hb dL_law_593 ?_
  refine va_sld hx hb hX hbl hbA hS h3 dL_law_594 ?_
  refine lv_aload_n hx hb dL_law_595 rfl (lv_at hl 1 rfl) ?_
  refine lv_iload hx hb dL_law_596 (lv_at hl 0 rfl) ?_
  refine lv_iconst (v := 4) hx hb dL_law_598 (by decide) ?_
  refine lv_iadd hx hb dL_law_599 ?_
  refine va_sld hx hb hX hbl hbA hS h4 dL_law_600 ?_
  refine lv_aload_n hx hb dL_law_601 rfl (lv_at hl 4 rfl) ?_
  refine wl_go (wl_runSN (As := [.ref (AD 5 0), .int (xs (i + 1).toNatClampNeg), .int (xs (i + 2).toNatClampNeg), .int (xs (i + 3).toNatClampNeg), .int (xs (i + 4).toNatClampNeg), .ref oL]) (rest := []) C0 hnc hP hS (k_L_begin l hst E w H.size F AD N hI hs oL fo ho ((xs (i + 1).toNatClampNeg)) ((xs (i + 2).toNatClampNeg)) ((xs (i + 3).toNatClampNeg)) ((xs (i + 4).toNatClampNeg))) (vx_cwSW 6 hts gL_law_L_begin rfl rfl rfl (by decide +kernel) ⟨(Nat.le_of_ble_eq_true rfl), (Nat.le_of_ble_eq_true rfl)⟩) rfl rfl hl.1 (Nat.le_of_ble_eq_true rfl) dL_law_602 ⟨Nat.le_trans (by omega) hc, Nat.le_trans (by omega) hs9⟩) hS (wA_in hP hS C0.2.2.2.2.2.2.2.2 rfl) (fun X ce q9 w2 H locs hpx => hpx.elim) (fun v w2 H locs hq hP _ hS _ _ => ?_)
  obtain ⟨rfl, AD2, hs2, ha2, hk2, f2, ho2, hf2⟩ := hq
  refine W.eq (g2 := F0 m 605 ls [.int (nI (s_begin F ((xs (i + 1).toNatClampNeg)) ((xs (i + 2).toNatClampNeg)) ((xs (i + 3).toNatClampNeg)) ((xs (i + 4).toNatClampNeg))).1)]) rfl ?_
  refine lv_istore (lv' := [(6, .int (nI (s_begin F ((xs (i + 1).toNatClampNeg)) ((xs (i + 2).toNatClampNeg)) ((xs (i + 3).toNatClampNeg)) ((xs (i + 4).toNatClampNeg))).1)), (5, .int i), (0, .ref b), (1, .ref (AD 5 0)), (2, .ref mo), (3, .ref oL), (4, .ref oD)]) hx hb dL_law_605 hl (by decide) rfl (fun ls hl => ?_)
  refine lv_aload_n hx hb dL_law_607 rfl (lv_at hl 4 rfl) ?_
  refine lv_aload_n hx hb dL_law_608 rfl (lv_at hl 2 rfl) ?_
  refine lv_iload hx hb dL_law_609 (lv_at hl 1 rfl) ?_
  refine lv_iconst (v := 1) hx hb dL_law_611 (by decide) ?_
  refine lv_iadd hx hb dL_law_612 ?_
  refine va_sld hx hb hX hbl hbA hS h1 dL_law_613 ?_
  refine lv_aload_n hx hb dL_law_614 rfl (lv_at hl 2 rfl) ?_
  refine lv_iload hx hb dL_law_615 (lv_at hl 1 rfl) ?_
  refine lv_iconst (v := 2) hx hb dL_law_617 (by decide) ?_
  refine lv_iadd hx hb dL_law_618 ?_
  refine va_sld hx hb hX hbl hbA hS h2 dL_law_619 ?_
  refine lv_aload_n hx hb dL_law_620 rfl (lv_at hl 2 rfl) ?_
  refine lv_iload hx hb dL_law_621 (lv_at hl 1 rfl) ?_
  refine lv_iconst (v := 3) hx hb dL_law_623 (by decide) ?_
  refine lv_iadd hx hb dL_law_624 ?_
  refine va_sld hx hb hX hbl hbA hS h3 dL_law_625 ?_
  refine lv_aload_n hx hb dL_law_626 rfl (lv_at hl 2 rfl) ?_
  refine lv_iload hx hb dL_law_627 (lv_at hl 1 rfl) ?_
  refine lv_iconst (v := 4) hx hb dL_law_629 (by decide) ?_
  refine lv_iadd hx hb dL_law_630 ?_
  refine va_sld hx hb hX hbl hbA hS h4 dL_law_631 ?_
  have hm2 := lw_mo hm ho hk2
  refine wl_go (wl_runV (As := [.int (xs (i + 1).toNatClampNeg), .int (xs (i + 2).toNatClampNeg), .int (xs (i + 3).toNatClampNeg), .int (xs (i + 4).toNatClampNeg)]) (rest := []) C0 hP hS (k_X7_begin l hst E w2 H.size F MA mo cd N hI hm2 ((xs (i + 1).toNatClampNeg)) ((xs (i + 2).toNatClampNeg)) ((xs (i + 3).toNatClampNeg)) ((xs (i + 4).toNatClampNeg))) (cwV 4 hts gL_law_X7_begin rfl rfl rfl (by decide +kernel) ⟨(Nat.le_of_ble_eq_true rfl), (Nat.le_of_ble_eq_true rfl)⟩) hm2.x rfl rfl rfl hl.1 (Nat.le_of_ble_eq_true rfl) dL_law_632 ⟨Nat.le_trans (by omega) hc, Nat.le_trans (by omega) hs9⟩) hS (wA_in hP hS C0.2.2.2.2.2.2.2.2 rfl) (fun X ce q9 w3 H locs hpx => hpx.elim) (fun v w3 H locs hq hP _ hS _ _ => ?_)
  obtain ⟨rfl, hm3, hk3⟩ := hq
  refine W.eq (g2 := F0 m 635 ls [.int ((s_begin F ((xs (i + 1).toNatClampNeg)) ((xs (i + 2).toNatClampNeg)) ((xs (i + 3).toNatClampNeg)) ((xs (i + 4).toNatClampNeg))).2.1)]) rfl ?_
  refine lv_istore (lv' := [(7, .int ((s_begin F ((xs (i + 1).toNatClampNeg)) ((xs (i + 2).toNatClampNeg)) ((xs (i + 3).toNatClampNeg)) ((xs (i + 4).toNatClampNeg))).2.1)), (6, .int (nI (s_begin F ((xs (i + 1).toNatClampNeg)) ((xs (i + 2).toNatClampNeg)) ((xs (i + 3).toNatClampNeg)) ((xs (i + 4).toNatClampNeg))).1)), (5, .int i), (0, .ref b), (1, .ref (AD 5 0)), (2, .ref mo), (3, .ref oL), (4, .ref oD)]) hx hb dL_law_635 hl (by decide) rfl (fun ls hl => ?_)
  refine lv_aload_n hx hb dL_law_637 rfl (lv_at hl 5 rfl) ?_
  obtain ⟨hI3, ho3⟩ := lw_next (J_begin hI hN ((xs (i + 1).toNatClampNeg)) ((xs (i + 2).toNatClampNeg)) ((xs (i + 3).toNatClampNeg)) ((xs (i + 4).toNatClampNeg))) hm ho hd hk2 hs2 ha2 ho2 hm3 hk3
  refine wl_go (wl_runV (As := []) (rest := []) C0 hP hS (k_X7_thrown l hst E w3 H.size (s_begin F ((xs (i + 1).toNatClampNeg)) ((xs (i + 2).toNatClampNeg)) ((xs (i + 3).toNatClampNeg)) ((xs (i + 4).toNatClampNeg))).2.2 MA mo (nI (s_begin F ((xs (i + 1).toNatClampNeg)) ((xs (i + 2).toNatClampNeg)) ((xs (i + 3).toNatClampNeg)) ((xs (i + 4).toNatClampNeg))).1) hm3) (cwV 0 hts gL_law_X7_thrown rfl rfl rfl (by decide +kernel) ⟨(Nat.le_of_ble_eq_true rfl), (Nat.le_of_ble_eq_true rfl)⟩) hm3.x rfl rfl rfl hl.1 (Nat.le_of_ble_eq_true rfl) dL_law_638 ⟨Nat.le_trans (by omega) hc, Nat.le_trans (by omega) hs9⟩) hS (wA_in hP hS C0.2.2.2.2.2.2.2.2 rfl) (fun X ce q9 w4 H locs hpx => hpx.elim) (fun v w4 H locs hq hP _ hS _ _ => ?_)
  obtain ⟨rfl, hw9⟩ := hq
  rw [hw9] at hP
  refine W.eq (g2 := F0 m 641 ls [.int (nI (s_begin F ((xs (i + 1).toNatClampNeg)) ((xs (i + 2).toNatClampNeg)) ((xs (i + 3).toNatClampNeg)) ((xs (i + 4).toNatClampNeg))).1)]) rfl ?_
  refine lv_iload hx hb dL_law_641 (lv_at hl 1 rfl) ?_
  refine lv_icmp_eq (tgt := 648) hx hb dL_law_643 (by decide) (fun _ => ?_) (fun c9 => absurd rfl c9)
  refine W.widen (k := cells + 20) (n := slots + 100) (by omega) (by omega) ?_
  refine lv_iload hx hb dL_law_648 (lv_at hl 1 rfl) ?_
  refine lv_if_ne (tgt := 665) hx hb dL_law_650 (by decide) (fun _ => ?_) (fun c0 => ?_)
  · refine lv_goto (tgt := 1862) hx hb dL_law_665 (by decide) ?_
    exact kk _ H locs ls hI3 hP hS (lv_sub hl [2, 3, 4, 5, 6, 7] rfl)
  · have h0 : (s_begin F ((xs (i + 1).toNatClampNeg)) ((xs (i + 2).toNatClampNeg)) ((xs (i + 3).toNatClampNeg)) ((xs (i + 4).toNatClampNeg))).1 = 0 := (nI_e0 cb_begin).mp c0
    refine lv_aload_n hx hb dL_law_653 rfl (lv_at hl 6 rfl) ?_
    refine lv_iconst (v := 0) hx hb dL_law_654 (by decide) ?_
    refine wl_lald C0 hP ho3 (show vp_in (nI 0) 1 from vp_in_nI (by omega) (by omega)) dL_law_655 ?_
    refine lv_iload hx hb dL_law_656 (lv_at hl 0 rfl) ?_
    refine lv_i2l (v := ((s_begin F ((xs (i + 1).toNatClampNeg)) ((xs (i + 2).toNatClampNeg)) ((xs (i + 3).toNatClampNeg)) ((xs (i + 4).toNatClampNeg))).2.1).toInt64) hx hb dL_law_658 rfl ?_
    refine W.lcmp hx hb dL_law_659 ?_
    refine lv_if_eq (tgt := 665) hx hb dL_law_660 (by decide) (fun _ => ?_) (fun c2 => absurd (lw_cmp (by rw [lw_z0]; exact hf2 h0)) c2)
    refine lv_goto (tgt := 1862) hx hb dL_law_665 (by decide) ?_
    exact kk _ H locs ls hI3 hP hS (lv_sub hl [2, 3, 4, 5, 6, 7] rfl)
end LC
