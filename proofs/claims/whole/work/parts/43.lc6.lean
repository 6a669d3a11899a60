section LC
variable {p : Program} {l : Launch} {e : Env} {s : State} {m : MethodId} {args : Array Value} {below : List Frame} {meth : Method} {c : Code} {H : Heap} {locs : List Loc} {cells slots : Nat} {Q : State → Prop}
variable {ls : Array Slot} {A : Nat → Prop} {E : wEn} {w : wW} {b L x mo oL oD N : Nat} {xs : Nat → Int32} {MA : Nat → Nat} {i : Int32}
theorem lw_mean {F : FF} {N : Nat} (hI : wInv F N) (hz : n_took F ≠ 0) : vf_n64 (v_mean F) := by
  have hn := hI.n
  have h1 : n_took F ≤ F 24 3 := ct_le _ _
  have h2 : t_took F ≤ F 24 3 * 5 := sm_le (fun k hk => by
    have h := (hI.en hk).2.2.1
    split <;> omega)
  exact fp_ddiv (by omega) (by omega) hz
set_option maxHeartbeats 4000000 in
set_option maxRecDepth 100000 in
theorem lc_count (hst : l.stackTraces = false) (SA : lwA p s m args meth c A E b L xs) (hI : lwI E MA x mo oL oD N w) (hN : N < 512) (h1 : vp_in (i + 1) L) (h2 : vp_in (i + 2) L) (h3 : vp_in (i + 3) L) (h4 : vp_in (i + 4) L) (hP : wP E.1 A w H) (hS : va_S A s.heap H locs) (hl : lv_has ls 9 [(5, .int i), (0, .ref b), (1, .ref x), (2, .ref mo), (3, .ref oL), (4, .ref oD)]) (hc : cells + 20 ≤ room_1.cells) (hs9 : slots + 100 ≤ room_1.slots)
    (kk : ∀ (w2 : wW) (H2 : Heap) (locs2 : List Loc) (ls2 : Array Slot), lwI E MA x mo oL oD (N + 1) w2 → wP E.1 A w2 H2 → va_S A s.heap H2 locs2 → lv_has ls2 9 [(5, .int i), (0, .ref b), (1, .ref x), (2, .ref mo), (3, .ref oL), (4, .ref oD)] → W p l e room_1 s m args below meth c H2 locs2 (cells + 20) (slots + 100) Q (F0 m 1862 ls2 [])) : W p l e room_1 s m args below meth c H locs cells slots Q (F0 m 1554 ls []) := by
  obtain ⟨C0, hnc, hX, hbl, hbA⟩ := SA
  obtain ⟨F, AD, cd, fo, go, hI, hs, rfl, hm, ho, hd⟩ := hI
  have hx := C0.1
  have hb := C0.2.1
  have hts := C0.2.2.2.2.1
  have hn := hI.n
  refine lv_aload_n hx hb dL_law_1554 rfl (lv_at hl 2 rfl) ?_
  refine lv_aload_n hx hb dL_law_1555 rfl (lv_at hl 1 rfl) ?_
  refine lv_iload hx hb dL_law_1556 (lv_at hl 0 rfl) ?_
  refine lv_iconst (v := 1) hx hb dL_law_1558 (by decide) ?_
  refine lv_iadd hx hb dL_law_1559 ?_
  refine va_sld hx hb hX hbl hbA hS h1 dL_law_1560 ?_
  refine lv_aload_n hx hb dL_law_1561 rfl (lv_at hl 1 rfl) ?_
  refine lv_iload hx hb dL_law_1562 (lv_at hl 0 rfl) ?_
  refine lv_iconst (v := 2) hx hb dL_law_1564 (by decide) ?_
  refine lv_iadd hx hb dL_law_1565 ?_
  refine va_sld hx hb hX hbl hbA hS h2 dL_law_1566 ?_
  refine lv_i2c (v := ((xs (i + 2).toNatClampNeg).toUInt32 % 65536).toInt32) hx hb dL_law_1567 rfl ?_
  refine lv_aload_n hx hb dL_law_1568 rfl (lv_at hl 4 rfl) ?_
  refine wl_go (wl_runSN (As := [.ref (AD 5 0), .int (xs (i + 1).toNatClampNeg), .int ((xs (i + 2).toNatClampNeg).toUInt32 % 65536).toInt32, .ref oL]) (rest := []) C0 hnc hP hS (k_L_count l hst E w H.size F AD N hI hs oL fo ho ((xs (i + 1).toNatClampNeg)) (((xs (i + 2).toNatClampNeg).toUInt32 % 65536).toInt32)) (vx_cwSW 4 hts gL_law_L_count rfl rfl rfl (by decide +kernel) ⟨(Nat.le_of_ble_eq_true rfl), (Nat.le_of_ble_eq_true rfl)⟩) rfl rfl hl.1 (Nat.le_of_ble_eq_true rfl) dL_law_1569 ⟨Nat.le_trans (by omega) hc, Nat.le_trans (by omega) hs9⟩) hS (wA_in hP hS C0.2.2.2.2.2.2.2.2 rfl) (fun X ce q9 w2 H locs hpx => hpx.elim) (fun v w2 H locs hq hP _ hS _ _ => ?_)
  obtain ⟨rfl, AD2, hs2, ha2, hk2, f2, ho2, hf2⟩ := hq
  refine W.eq (g2 := F0 m 1572 ls [.int (nI (s_count F ((xs (i + 1).toNatClampNeg)) (((xs (i + 2).toNatClampNeg).toUInt32 % 65536).toInt32)).1)]) rfl ?_
  refine lv_istore (lv' := [(6, .int (nI (s_count F ((xs (i + 1).toNatClampNeg)) (((xs (i + 2).toNatClampNeg).toUInt32 % 65536).toInt32)).1)), (5, .int i), (0, .ref b), (1, .ref (AD 5 0)), (2, .ref mo), (3, .ref oL), (4, .ref oD)]) hx hb dL_law_1572 hl (by decide) rfl (fun ls hl => ?_)
  refine lv_aload_n hx hb dL_law_1574 rfl (lv_at hl 4 rfl) ?_
  refine lv_aload_n hx hb dL_law_1575 rfl (lv_at hl 2 rfl) ?_
  refine lv_iload hx hb dL_law_1576 (lv_at hl 1 rfl) ?_
  refine lv_iconst (v := 1) hx hb dL_law_1578 (by decide) ?_
  refine lv_iadd hx hb dL_law_1579 ?_
  refine va_sld hx hb hX hbl hbA hS h1 dL_law_1580 ?_
  refine lv_aload_n hx hb dL_law_1581 rfl (lv_at hl 2 rfl) ?_
  refine lv_iload hx hb dL_law_1582 (lv_at hl 1 rfl) ?_
  refine lv_iconst (v := 2) hx hb dL_law_1584 (by decide) ?_
  refine lv_iadd hx hb dL_law_1585 ?_
  refine va_sld hx hb hX hbl hbA hS h2 dL_law_1586 ?_
  refine lv_i2c (v := ((xs (i + 2).toNatClampNeg).toUInt32 % 65536).toInt32) hx hb dL_law_1587 rfl ?_
  have hm2 := lw_mo hm ho hk2
  refine wl_go (wl_runV (As := [.int (xs (i + 1).toNatClampNeg), .int ((xs (i + 2).toNatClampNeg).toUInt32 % 65536).toInt32]) (rest := []) C0 hP hS (k_X7_count l hst E w2 H.size F MA mo cd N hI hm2 ((xs (i + 1).toNatClampNeg)) (((xs (i + 2).toNatClampNeg).toUInt32 % 65536).toInt32)) (cwV 2 hts gL_law_X7_count rfl rfl rfl (by decide +kernel) ⟨(Nat.le_of_ble_eq_true rfl), (Nat.le_of_ble_eq_true rfl)⟩) hm2.x rfl rfl rfl hl.1 (Nat.le_of_ble_eq_true rfl) dL_law_1588 ⟨Nat.le_trans (by omega) hc, Nat.le_trans (by omega) hs9⟩) hS (wA_in hP hS C0.2.2.2.2.2.2.2.2 rfl) (fun X ce q9 w3 H locs hpx => hpx.elim) (fun v w3 H locs hq hP _ hS _ _ => ?_)
  obtain ⟨rfl, hm3, hk3⟩ := hq
  refine W.eq (g2 := F0 m 1591 ls [.int ((s_count F ((xs (i + 1).toNatClampNeg)) (((xs (i + 2).toNatClampNeg).toUInt32 % 65536).toInt32)).2.1)]) rfl ?_
  refine lv_istore (lv' := [(7, .int ((s_count F ((xs (i + 1).toNatClampNeg)) (((xs (i + 2).toNatClampNeg).toUInt32 % 65536).toInt32)).2.1)), (6, .int (nI (s_count F ((xs (i + 1).toNatClampNeg)) (((xs (i + 2).toNatClampNeg).toUInt32 % 65536).toInt32)).1)), (5, .int i), (0, .ref b), (1, .ref (AD 5 0)), (2, .ref mo), (3, .ref oL), (4, .ref oD)]) hx hb dL_law_1591 hl (by decide) rfl (fun ls hl => ?_)
  refine lv_aload_n hx hb dL_law_1593 rfl (lv_at hl 5 rfl) ?_
  obtain ⟨hI3, ho3⟩ := lw_next (J_count hI hN ((xs (i + 1).toNatClampNeg)) (((xs (i + 2).toNatClampNeg).toUInt32 % 65536).toInt32)) hm ho hd hk2 hs2 ha2 ho2 hm3 hk3
  refine wl_go (wl_runV (As := []) (rest := []) C0 hP hS (k_X7_thrown l hst E w3 H.size (s_count F ((xs (i + 1).toNatClampNeg)) (((xs (i + 2).toNatClampNeg).toUInt32 % 65536).toInt32)).2.2 MA mo (nI (s_count F ((xs (i + 1).toNatClampNeg)) (((xs (i + 2).toNatClampNeg).toUInt32 % 65536).toInt32)).1) hm3) (cwV 0 hts gL_law_X7_thrown rfl rfl rfl (by decide +kernel) ⟨(Nat.le_of_ble_eq_true rfl), (Nat.le_of_ble_eq_true rfl)⟩) hm3.x rfl rfl rfl hl.1 (Nat.le_of_ble_eq_true rfl) dL_law_1594 ⟨Nat.le_trans (by omega) hc, Nat.le_trans (by omega) hs9⟩) hS (wA_in hP hS C0.2.2.2.2.2.2.2.2 rfl) (fun X ce q9 w4 H locs hpx => hpx.elim) (fun v w4 H locs hq hP _ hS _ _ => ?_)
  obtain ⟨rfl, hw9⟩ := hq
  rw [hw9] at hP
  refine W.eq (g2 := F0 m 1597 ls [.int (nI (s_count F ((xs (i + 1).toNatClampNeg)) (((xs (i + 2).toNatClampNeg).toUInt32 % 65536).toInt32)).1)]) rfl ?_
  refine lv_iload hx hb dL_law_1597 (lv_at hl 1 rfl) ?_
  refine lv_icmp_eq (tgt := 1604) hx hb dL_law_1599 (by decide) (fun _ => ?_) (fun c9 => absurd rfl c9)
  refine W.widen (k := cells + 20) (n := slots + 100) (by omega) (by omega) ?_
  refine lv_iload hx hb dL_law_1604 (lv_at hl 1 rfl) ?_
  refine lv_if_ne (tgt := 1621) hx hb dL_law_1606 (by decide) (fun _ => ?_) (fun c0 => ?_)
  · refine lv_goto (tgt := 1862) hx hb dL_law_1621 (by decide) ?_
    exact kk _ H locs ls hI3 hP hS (lv_sub hl [2, 3, 4, 5, 6, 7] rfl)
  · have h0 : (s_count F ((xs (i + 1).toNatClampNeg)) (((xs (i + 2).toNatClampNeg).toUInt32 % 65536).toInt32)).1 = 0 := (nI_e0 cb_count).mp c0
    refine lv_aload_n hx hb dL_law_1609 rfl (lv_at hl 6 rfl) ?_
    refine lv_iconst (v := 0) hx hb dL_law_1610 (by decide) ?_
    refine wl_lald C0 hP ho3 (show vp_in (nI 0) 1 from vp_in_nI (by omega) (by omega)) dL_law_1611 ?_
    refine lv_iload hx hb dL_law_1612 (lv_at hl 0 rfl) ?_
    refine lv_i2l (v := ((s_count F ((xs (i + 1).toNatClampNeg)) (((xs (i + 2).toNatClampNeg).toUInt32 % 65536).toInt32)).2.1).toInt64) hx hb dL_law_1614 rfl ?_
    refine W.lcmp hx hb dL_law_1615 ?_
    refine lv_if_eq (tgt := 1621) hx hb dL_law_1616 (by decide) (fun _ => ?_) (fun c2 => absurd (lw_cmp (by rw [lw_z0]; exact hf2 h0)) c2)
    refine lv_goto (tgt := 1862) hx hb dL_law_1621 (by decide) ?_
    exact kk _ H locs ls hI3 hP hS (lv_sub hl [2, 3, 4, 5, 6, 7] rfl)
set_option maxHeartbeats 4000000 in
set_option maxRecDepth 100000 in
theorem lc_isUndone (hst : l.stackTraces = false) (SA : lwA p s m args meth c A E b L xs) (hI : lwI E MA x mo oL oD N w) (hN : N < 512) (h1 : vp_in (i + 1) L) (h2 : vp_in (i + 2) L) (h3 : vp_in (i + 3) L) (h4 : vp_in (i + 4) L) (hP : wP E.1 A w H) (hS : va_S A s.heap H locs) (hl : lv_has ls 9 [(5, .int i), (0, .ref b), (1, .ref x), (2, .ref mo), (3, .ref oL), (4, .ref oD)]) (hc : cells + 20 ≤ room_1.cells) (hs9 : slots + 100 ≤ room_1.slots)
    (kk : ∀ (w2 : wW) (H2 : Heap) (locs2 : List Loc) (ls2 : Array Slot), lwI E MA x mo oL oD (N + 1) w2 → wP E.1 A w2 H2 → va_S A s.heap H2 locs2 → lv_has ls2 9 [(5, .int i), (0, .ref b), (1, .ref x), (2, .ref mo), (3, .ref oL), (4, .ref oD)] → W p l e room_1 s m args below meth c H2 locs2 (cells + 20) (slots + 100) Q (F0 m 1862 ls2 [])) : W p l e room_1 s m args below meth c H locs cells slots Q (F0 m 1624 ls []) := by
  obtain ⟨C0, hnc, hX, hbl, hbA⟩ := SA
  obtain ⟨F, AD, cd, fo, go, hI, hs, rfl, hm, ho, hd⟩ := hI
  have hx := C0.1
  have hb := C0.2.1
  have hts := C0.2.2.2.2.1
  have hn := hI.n
  refine lv_aload_n hx hb dL_law_1624 rfl (lv_at hl 2 rfl) ?_
  refine lv_aload_n hx hb dL_law_1625 rfl (lv_at hl 1 rfl) ?_
  refine lv_iload hx hb dL_law_1626 (lv_at hl 0 rfl) ?_
  refine lv_iconst (v := 1) hx hb dL_law_1628 (by decide) ?_
  refine lv_iadd hx hb dL_law_1629 ?_
  refine va_sld hx hb hX hbl hbA hS h1 dL_law_1630 ?_
  refine lv_aload_n hx hb dL_law_1631 rfl (lv_at hl 4 rfl) ?_
  refine wl_go (wl_runSN (As := [.ref (AD 5 0), .int (xs (i + 1).toNatClampNeg), .ref oL]) (rest := []) C0 hnc hP hS (k_L_isUndone l hst E w H.size F AD N hI hs oL fo ho ((xs (i + 1).toNatClampNeg))) (vx_cwSW 3 hts gL_law_L_isUndone rfl rfl rfl (by decide +kernel) ⟨(Nat.le_of_ble_eq_true rfl), (Nat.le_of_ble_eq_true rfl)⟩) rfl rfl hl.1 (Nat.le_of_ble_eq_true rfl) dL_law_1632 ⟨Nat.le_trans (by omega) hc, Nat.le_trans (by omega) hs9⟩) hS (wA_in hP hS C0.2.2.2.2.2.2.2.2 rfl) (fun X ce q9 w2 H locs hpx => hpx.elim) (fun v w2 H locs hq hP _ hS _ _ => ?_)
  obtain ⟨rfl, AD2, hs2, ha2, hk2, f2, ho2, hf2⟩ := hq
  refine W.eq (g2 := F0 m 1635 ls [.int (nI (s_isUndone F ((xs (i + 1).toNatClampNeg))).1)]) rfl ?_
  refine lv_istore (lv' := [(6, .int (nI (s_isUndone F ((xs (i + 1).toNatClampNeg))).1)), (5, .int i), (0, .ref b), (1, .ref (AD 5 0)), (2, .ref mo), (3, .ref oL), (4, .ref oD)]) hx hb dL_law_1635 hl (by decide) rfl (fun ls hl => ?_)
  refine lv_aload_n hx hb dL_law_1637 rfl (lv_at hl 4 rfl) ?_
  refine lv_aload_n hx hb dL_law_1638 rfl (lv_at hl 2 rfl) ?_
  refine lv_iload hx hb dL_law_1639 (lv_at hl 1 rfl) ?_
  refine lv_iconst (v := 1) hx hb dL_law_1641 (by decide) ?_
  refine lv_iadd hx hb dL_law_1642 ?_
  refine va_sld hx hb hX hbl hbA hS h1 dL_law_1643 ?_
  have hm2 := lw_mo hm ho hk2
  refine wl_go (wl_runV (As := [.int (xs (i + 1).toNatClampNeg)]) (rest := []) C0 hP hS (k_X7_isUndone l hst E w2 H.size F MA mo cd N hI hm2 ((xs (i + 1).toNatClampNeg))) (cwV 1 hts gL_law_X7_isUndone rfl rfl rfl (by decide +kernel) ⟨(Nat.le_of_ble_eq_true rfl), (Nat.le_of_ble_eq_true rfl)⟩) hm2.x rfl rfl rfl hl.1 (Nat.le_of_ble_eq_true rfl) dL_law_1644 ⟨Nat.le_trans (by omega) hc, Nat.le_trans (by omega) hs9⟩) hS (wA_in hP hS C0.2.2.2.2.2.2.2.2 rfl) (fun X ce q9 w3 H locs hpx => hpx.elim) (fun v w3 H locs hq hP _ hS _ _ => ?_)
  obtain ⟨rfl, hm3, hk3⟩ := hq
  refine W.eq (g2 := F0 m 1647 ls [.int ((s_isUndone F ((xs (i + 1).toNatClampNeg))).2.1)]) rfl ?_
  refine lv_istore (lv' := [(7, .int ((s_isUndone F ((xs (i + 1).toNatClampNeg))).2.1)), (6, .int (nI (s_isUndone F ((xs (i + 1).toNatClampNeg))).1)), (5, .int i), (0, .ref b), (1, .ref (AD 5 0)), (2, .ref mo), (3, .ref oL), (4, .ref oD)]) hx hb dL_law_1647 hl (by decide) rfl (fun ls hl => ?_)
  refine lv_aload_n hx hb dL_law_1649 rfl (lv_at hl 5 rfl) ?_
  obtain ⟨hI3, ho3⟩ := lw_next (J_isUndone hI hN ((xs (i + 1).toNatClampNeg))) hm ho hd hk2 hs2 ha2 ho2 hm3 hk3
  refine wl_go (wl_runV (As := []) (rest := []) C0 hP hS (k_X7_thrown l hst E w3 H.size (s_isUndone F ((xs (i + 1).toNatClampNeg))).2.2 MA mo (nI (s_isUndone F ((xs (i + 1).toNatClampNeg))).1) hm3) (cwV 0 hts gL_law_X7_thrown rfl rfl rfl (by decide +kernel) ⟨(Nat.le_of_ble_eq_true rfl), (Nat.le_of_ble_eq_true rfl)⟩) hm3.x rfl rfl rfl hl.1 (Nat.le_of_ble_eq_true rfl) dL_law_1650 ⟨Nat.le_trans (by omega) hc, Nat.le_trans (by omega) hs9⟩) hS (wA_in hP hS C0.2.2.2.2.2.2.2.2 rfl) (fun X ce q9 w4 H locs hpx => hpx.elim) (fun v w4 H locs hq hP _ hS _ _ => ?_)
  obtain ⟨rfl, hw9⟩ := hq
  rw [hw9] at hP
  refine W.eq (g2 := F0 m 1653 ls [.int (nI (s_isUndone F ((xs (i + 1).toNatClampNeg))).1)]) rfl ?_
  refine lv_iload hx hb dL_law_1653 (lv_at hl 1 rfl) ?_
  refine lv_icmp_eq (tgt := 1660) hx hb dL_law_1655 (by decide) (fun _ => ?_) (fun c9 => absurd rfl c9)
  refine W.widen (k := cells + 20) (n := slots + 100) (by omega) (by omega) ?_
  refine lv_iload hx hb dL_law_1660 (lv_at hl 1 rfl) ?_
  refine lv_if_ne (tgt := 1684) hx hb dL_law_1662 (by decide) (fun _ => ?_) (fun c0 => ?_)
  · refine lv_goto (tgt := 1862) hx hb dL_law_1684 (by decide) ?_
    exact kk _ H locs ls hI3 hP hS (lv_sub hl [2, 3, 4, 5, 6, 7] rfl)
  · have h0 : (s_isUndone F ((xs (i + 1).toNatClampNeg))).1 = 0 := (nI_e0 cb_isUndone).mp c0
    refine lv_aload_n hx hb dL_law_1665 rfl (lv_at hl 6 rfl) ?_
    refine lv_iconst (v := 0) hx hb dL_law_1666 (by decide) ?_
    refine wl_lald C0 hP ho3 (show vp_in (nI 0) 1 from vp_in_nI (by omega) (by omega)) dL_law_1667 ?_
    refine lv_iload hx hb dL_law_1668 (lv_at hl 0 rfl) ?_
    refine lv_if_eq (tgt := 1677) hx hb dL_law_1670 (by decide) (fun c1 => ?_) (fun c1 => ?_)
    · refine lv_lconst (v := 0) hx hb dL_law_1677 rfl ?_
      refine W.lcmp hx hb dL_law_1678 ?_
      refine lv_if_eq (tgt := 1684) hx hb dL_law_1679 (by decide) (fun _ => ?_) (fun c2 => absurd (lw_cmp (by rw [lw_z0, hf2 h0]; rw [c1]; rfl)) c2)
      refine lv_goto (tgt := 1862) hx hb dL_law_1684 (by decide) ?_
      exact kk _ H locs ls hI3 hP hS (lv_sub hl [2, 3, 4, 5, 6, 7] rfl)
    · refine lv_lconst (v := 1) hx hb dL_law_1673 rfl ?_
      refine lv_goto (tgt := 1678) hx hb dL_law_1674 (by decide) ?_
      refine W.lcmp hx hb dL_law_1678 ?_
      refine lv_if_eq (tgt := 1684) hx hb dL_law_1679 (by decide) (fun _ => ?_) (fun c2 => absurd (lw_cmp (by rw [lw_z0, hf2 h0]; rw [(bo_isUndone (F := F)).resolve_left c1]; rfl)) c2)
      refine lv_goto (tgt := 1862) hx hb dL_law_1684 (by decide) ?_
      exact kk _ H locs ls hI3 hP hS (lv_sub hl [2, 3, 4, 5, 6, 7] rfl)
set_option maxHeartbeats 4000000 in
set_option maxRecDepth 100000 in
theorem lc_greatest (hst : l.stackTraces = false) (SA : lwA p s m args meth c A E b L xs) (hI : lwI E MA x mo oL oD N w) (hN : N < 512) (h1 : vp_in (i + 1) L) (h2 : vp_in (i + 2) L) (h3 : vp_in (i + 3) L) (h4 : vp_in (i + 4) L) (hP : wP E.1 A w H) (hS : va_S A s.heap H locs) (hl : lv_has ls 9 [(5, .int i), (0, .ref b), (1, .ref x), (2, .ref mo), (3, .ref oL), (4, .ref oD)]) (hc : cells + 20 ≤ room_1.cells) (hs9 : slots + 100 ≤ room_1.slots)
    (kk : ∀ (w2 : wW) (H2 : Heap) (locs2 : List Loc) (ls2 : Array Slot), lwI E MA x mo oL oD (N + 1) w2 → wP E.1 A w2 H2 → va_S A s.heap H2 locs2 → lv_has ls2 9 [(5, .int i), (0, .ref b), (1, .ref x), (2, .ref mo), (3, .ref oL), (4, .ref oD)] → W p l e room_1 s m args below meth c H2 locs2 (cells + 20) (slots + 100) Q (F0 m 1862 ls2 [])) : W p l e room_1 s m args below meth c H locs cells slots Q (F0 m 1687 ls []) := by
  obtain ⟨C0, hnc, hX, hbl, hbA⟩ := SA
  obtain ⟨F, AD, cd, fo, go, hI, hs, rfl, hm, ho, hd⟩ := hI
  have hx := C0.1
  have hb := C0.2.1
  have hts := C0.2.2.2.2.1
  have hn := hI.n
  refine lv_aload_n hx hb dL_law_1687 rfl (lv_at hl 2 rfl) ?_
  refine lv_aload_n hx hb dL_law_1688 rfl (lv_at hl 4 rfl) ?_
  refine wl_go (wl_runSN (As := [.ref (AD 5 0), .ref oL]) (rest := []) C0 hnc hP hS (k_L_greatest l hst E w H.size F AD N hI hs oL fo ho) (vx_cwSW 2 hts gL_law_L_greatest rfl rfl rfl (by decide +kernel) ⟨(Nat.le_of_ble_eq_true rfl), (Nat.le_of_ble_eq_true rfl)⟩) rfl rfl hl.1 (Nat.le_of_ble_eq_true rfl) dL_law_1689 ⟨Nat.le_trans (by omega) hc, Nat.le_trans (by omega) hs9⟩) hS (wA_in hP hS C0.2.2.2.2.2.2.2.2 rfl) (fun X ce q9 w2 H locs hpx => hpx.elim) (fun v w2 H locs hq hP _ hS _ _ => ?_)
  obtain ⟨rfl, AD2, hs2, ha2, hk2, f2, ho2, hf2⟩ := hq
  refine W.eq (g2 := F0 m 1692 ls [.int (nI (s_greatest F).1)]) rfl ?_
  refine lv_istore (lv' := [(6, .int (nI (s_greatest F).1)), (5, .int i), (0, .ref b), (1, .ref (AD 5 0)), (2, .ref mo), (3, .ref oL), (4, .ref oD)]) hx hb dL_law_1692 hl (by decide) rfl (fun ls hl => ?_)
  refine lv_aload_n hx hb dL_law_1694 rfl (lv_at hl 4 rfl) ?_
  have hm2 := lw_mo hm ho hk2
  refine wl_go (wl_runV (As := []) (rest := []) C0 hP hS (k_X7_greatest l hst E w2 H.size F MA mo cd N hI hm2) (cwV 0 hts gL_law_X7_greatest rfl rfl rfl (by decide +kernel) ⟨(Nat.le_of_ble_eq_true rfl), (Nat.le_of_ble_eq_true rfl)⟩) hm2.x rfl rfl rfl hl.1 (Nat.le_of_ble_eq_true rfl) dL_law_1695 ⟨Nat.le_trans (by omega) hc, Nat.le_trans (by omega) hs9⟩) hS (wA_in hP hS C0.2.2.2.2.2.2.2.2 rfl) (fun X ce q9 w3 H locs hpx => hpx.elim) (fun v w3 H locs hq hP _ hS _ _ => ?_)
  obtain ⟨rfl, hm3, hk3⟩ := hq
  refine W.eq (g2 := F0 m 1698 ls [.int ((s_greatest F).2.1)]) rfl ?_
  refine lv_istore (lv' := [(7, .int ((s_greatest F).2.1)), (6, .int (nI (s_greatest F).1)), (5, .int i), (0, .ref b), (1, .ref (AD 5 0)), (2, .ref mo), (3, .ref oL), (4, .ref oD)]) hx hb dL_law_1698 hl (by decide) rfl (fun ls hl => ?_)
  refine lv_aload_n hx hb dL_law_1700 rfl (lv_at hl 5 rfl) ?_
  obtain ⟨hI3, ho3⟩ := lw_next (J_greatest hI hN) hm ho hd hk2 hs2 ha2 ho2 hm3 hk3
  refine wl_go (wl_runV (As := []) (rest := []) C0 hP hS (k_X7_thrown l hst E w3 H.size (s_greatest F).2.2 MA mo (nI (s_greatest F).1) hm3) (cwV 0 hts gL_law_X7_thrown rfl rfl rfl (by decide +kernel) ⟨(Nat.le_of_ble_eq_true rfl), (Nat.le_of_ble_eq_true rfl)⟩) hm3.x rfl rfl rfl hl.1 (Nat.le_of_ble_eq_true rfl) dL_law_1701 ⟨Nat.le_trans (by omega) hc, Nat.le_trans (by omega) hs9⟩) hS (wA_in hP hS C0.2.2.2.2.2.2.2.2 rfl) (fun X ce q9 w4 H locs hpx => hpx.elim) (fun v w4 H locs hq hP _ hS _ _ => ?_)
  obtain ⟨rfl, hw9⟩ := hq
  rw [hw9] at hP
  refine W.eq (g2 := F0 m 1704 ls [.int (nI (s_greatest F).1)]) rfl ?_
  refine lv_iload hx hb dL_law_1704 (lv_at hl 1 rfl) ?_
  refine lv_icmp_eq (tgt := 1711) hx hb dL_law_1706 (by decide) (fun _ => ?_) (fun c9 => absurd rfl c9)
  refine W.widen (k := cells + 20) (n := slots + 100) (by omega) (by omega) ?_
  refine lv_iload hx hb dL_law_1711 (lv_at hl 1 rfl) ?_
  refine lv_if_ne (tgt := 1728) hx hb dL_law_1713 (by decide) (fun _ => ?_) (fun c0 => ?_)
  · refine lv_goto (tgt := 1862) hx hb dL_law_1728 (by decide) ?_
    exact kk _ H locs ls hI3 hP hS (lv_sub hl [2, 3, 4, 5, 6, 7] rfl)
  · have h0 : (s_greatest F).1 = 0 := (nI_e0 cb_greatest).mp c0
    refine lv_aload_n hx hb dL_law_1716 rfl (lv_at hl 6 rfl) ?_
    refine lv_iconst (v := 0) hx hb dL_law_1717 (by decide) ?_
    refine wl_lald C0 hP ho3 (show vp_in (nI 0) 1 from vp_in_nI (by omega) (by omega)) dL_law_1718 ?_
    refine lv_iload hx hb dL_law_1719 (lv_at hl 0 rfl) ?_
    refine lv_i2l (v := ((s_greatest F).2.1).toInt64) hx hb dL_law_1721 rfl ?_
    refine W.lcmp hx hb dL_law_1722 ?_
    refine lv_if_eq (tgt := 1728) hx hb dL_law_1723 (by decide) (fun _ => ?_) (fun c2 => absurd (lw_cmp (by rw [lw_z0]; exact hf2 h0)) c2)
    refine lv_goto (tgt := 1862) hx hb dL_law_1728 (by decide) ?_
    exact kk _ H locs ls hI3 hP hS (lv_sub hl [2, 3, 4, 5, 6, 7] rfl)
set_option maxHeartbeats 4000000 in
set_option maxRecDepth 100000 in
theorem lc_canaryShare (hst : l.stackTraces = false) (SA : lwA p s m args meth c A E b L xs) (hI : lwI E MA x mo oL oD N w) (hN : N < 512) (h1 : vp_in (i + 1) L) (h2 : vp_in (i + 2) L) (h3 : vp_in (i + 3) L) (h4 : vp_in (i + 4) L) (hP : wP E.1 A w H) (hS : va_S A s.heap H locs) (hl : lv_has ls 9 [(5, .int i), (0, .ref b), (1, .ref x), (2, .ref mo), (3, .ref oL), (4, .ref oD)]) (hc : cells + 20 ≤ room_1.cells) (hs9 : slots + 100 ≤ room_1.slots)
    (kk : ∀ (w2 : wW) (H2 : Heap) (locs2 : List Loc) (ls2 : Array Slot), lwI E MA x mo oL oD (N + 1) w2 → wP E.1 A w2 H2 → va_S A s.heap H2 locs2 → lv_has ls2 9 [(5, .int i), (0, .ref b), (1, .ref x), (2, .ref mo), (3, .ref oL), (4, .ref oD)] → W p l e room_1 s m args below meth c H2 locs2 (cells + 20) (slots + 100) Q (F0 m 1862 ls2 [])) : W p l e room_1 s m args below meth c H locs cells slots Q (F0 m 1731 ls []) := by
  obtain ⟨C0, hnc, hX, hbl, hbA⟩ := SA
  obtain ⟨F, AD, cd, fo, go, hI, hs, rfl, hm, ho, hd⟩ := hI
  have hx := C0.1
  have hb := C0.2.1
  have hts := C0.2.2.2.2.1
  have hn := hI.n
  refine lv_aload_n hx hb dL_law_1731 rfl (lv_at hl 2 rfl) ?_
  refine lv_aload hx hb dL_law_1732 (lv_at hl 5 rfl) ?_
  refine wl_go (wl_runSN (As := [.ref (AD 5 0), .ref oD]) (rest := []) C0 hnc hP hS (k_L_canaryShare l hst E w H.size F AD N hI hs oD go hd) (vx_cwSW 2 hts gL_law_L_canaryShare rfl rfl rfl (by decide +kernel) ⟨(Nat.le_of_ble_eq_true rfl), (Nat.le_of_ble_eq_true rfl)⟩) rfl rfl hl.1 (Nat.le_of_ble_eq_true rfl) dL_law_1734 ⟨Nat.le_trans (by omega) hc, Nat.le_trans (by omega) hs9⟩) hS (wA_in hP hS C0.2.2.2.2.2.2.2.2 rfl) (fun X ce q9 w2 H locs hpx => hpx.elim) (fun v w2 H locs hq hP _ hS _ _ => ?_)
  obtain ⟨hv9, hs2, hk2, g2, hd2, hg2⟩ := hq
  have hm2 := lw_mo hm hd hk2
  have e9 : ∃ k9 : Nat, v = some (.int (nI k9)) ∧ ((F 24 3 = 0 ∧ k9 = 1) ∨ (F 24 3 ≠ 0 ∧ k9 = 0)) := by
    rcases hv9 with ⟨h8, h7⟩ | ⟨h8, h7⟩
    · exact ⟨1, h7, Or.inl ⟨h8, rfl⟩⟩
    · exact ⟨0, h7, Or.inr ⟨h8, rfl⟩⟩
  obtain ⟨k9, rfl, hk9⟩ := e9
  refine W.eq (g2 := F0 m 1737 ls [.int (nI k9)]) rfl ?_
  refine lv_istore (lv' := [(6, .int (nI k9)), (5, .int i), (0, .ref b), (1, .ref (AD 5 0)), (2, .ref mo), (3, .ref oL), (4, .ref oD)]) hx hb dL_law_1737 hl (by decide) rfl (fun ls hl => ?_)
  refine lv_aload_n hx hb dL_law_1739 rfl (lv_at hl 4 rfl) ?_
  refine wl_go (wl_runV (As := []) (rest := []) C0 hP hS (k_X7_canaryShare l hst E w2 H.size F MA mo cd N hI hm2) (cwV 0 hts gL_law_X7_canaryShare rfl rfl rfl (by decide +kernel) ⟨(Nat.le_of_ble_eq_true rfl), (Nat.le_of_ble_eq_true rfl)⟩) hm2.x rfl rfl rfl hl.1 (Nat.le_of_ble_eq_true rfl) dL_law_1740 ⟨Nat.le_trans (by omega) hc, Nat.le_trans (by omega) hs9⟩) hS (wA_in hP hS C0.2.2.2.2.2.2.2.2 rfl) (fun X ce q9 w3 H locs hpx => hpx.elim) (fun v w3 H locs hq hP _ hS _ _ => ?_)
  have e8 : ∃ r9 : UInt32, v = some (.float r9) ∧ wMod E F MA mo (nI k9) w3 ∧ wKm mo MA w2 w3 ∧ (F 24 3 ≠ 0 → r9 = v_share F) := by
    rcases hq with ⟨h6, h7, h8, h9⟩ | ⟨h6, h7, h8, h9⟩
    · rcases hk9 with ⟨_, rfl⟩ | ⟨h5, _⟩
      · exact ⟨_, h7, h8, h9, fun q => absurd h6 q⟩
      · exact absurd h6 h5
    · rcases hk9 with ⟨h5, _⟩ | ⟨_, rfl⟩
      · exact absurd h5 h6
      · exact ⟨_, h7, h8, h9, fun _ => rfl⟩
  obtain ⟨r9, rfl, hm3, hk3, hr9⟩ := e8
  refine W.eq (g2 := F0 m 1743 ls [.float r9]) rfl ?_
  refine lv_fstore (lv' := [(7, .float r9), (6, .int (nI k9)), (5, .int i), (0, .ref b), (1, .ref (AD 5 0)), (2, .ref mo), (3, .ref oL), (4, .ref oD)]) hx hb dL_law_1743 hl (by decide) rfl (fun ls hl => ?_)
  refine lv_aload_n hx hb dL_law_1745 rfl (lv_at hl 5 rfl) ?_
  obtain ⟨hI3, hd3⟩ := lw_nextD (J_same hI hN) hm ho hd hk2 hs2 rfl hd2 hm3 hk3
  refine wl_go (wl_runV (As := []) (rest := []) C0 hP hS (k_X7_thrown l hst E w3 H.size F MA mo (nI k9) hm3) (cwV 0 hts gL_law_X7_thrown rfl rfl rfl (by decide +kernel) ⟨(Nat.le_of_ble_eq_true rfl), (Nat.le_of_ble_eq_true rfl)⟩) hm3.x rfl rfl rfl hl.1 (Nat.le_of_ble_eq_true rfl) dL_law_1746 ⟨Nat.le_trans (by omega) hc, Nat.le_trans (by omega) hs9⟩) hS (wA_in hP hS C0.2.2.2.2.2.2.2.2 rfl) (fun X ce q9 w4 H locs hpx => hpx.elim) (fun v w4 H locs hq hP _ hS _ _ => ?_)
  obtain ⟨rfl, hw9⟩ := hq
  rw [hw9] at hP
  refine W.eq (g2 := F0 m 1749 ls [.int (nI k9)]) rfl ?_
  refine lv_iload hx hb dL_law_1749 (lv_at hl 1 rfl) ?_
  refine lv_icmp_eq (tgt := 1756) hx hb dL_law_1751 (by decide) (fun _ => ?_) (fun c9 => absurd rfl c9)
  refine W.widen (k := cells + 20) (n := slots + 100) (by omega) (by omega) ?_
  refine lv_iload hx hb dL_law_1756 (lv_at hl 1 rfl) ?_
  refine lv_if_ne (tgt := 1794) hx hb dL_law_1758 (by decide) (fun _ => ?_) (fun c0 => ?_)
  · refine lv_goto (tgt := 1862) hx hb dL_law_1794 (by decide) ?_
    exact kk _ H locs ls hI3 hP hS (lv_sub hl [2, 3, 4, 5, 6, 7] rfl)
  · have h0 : k9 = 0 := (nI_e0 (by omega)).mp c0
    have hz : F 24 3 ≠ 0 := by
      rcases hk9 with ⟨_, h8⟩ | ⟨h8, _⟩
      · rw [h0] at h8
        cases h8
      · exact h8
    have hrr := hr9 hz
    subst hrr
    have hc8 : n_can F ≤ F 24 3 := ct_le _ _
    have hnn : vf_n64 (FP.f2d (v_share F)) := fp_f2d (fp_fdiv (by omega) (by omega) hz)
    refine lv_aload hx hb dL_law_1761 (lv_at hl 7 rfl) ?_
    refine lv_iconst (v := 0) hx hb dL_law_1763 (by decide) ?_
    refine wl_dald C0 hP hd3 (show vp_in (nI 0) 1 from vp_in_nI (by omega) (by omega)) dL_law_1764 ?_
    refine lv_fload hx hb dL_law_1765 (lv_at hl 0 rfl) ?_
    refine lv_f2d hx hb dL_law_1767 hnn ?_
    refine lv_dcmp hx hb dL_law_1768 ?_
    refine lv_if_eq (tgt := 1794) hx hb dL_law_1769 (by decide) (fun _ => ?_) (fun c2 => absurd (by rw [lw_z0, hg2 hz]; exact fp_eq hnn) c2)
    refine lv_goto (tgt := 1862) hx hb dL_law_1794 (by decide) ?_
    exact kk _ H locs ls hI3 hP hS (lv_sub hl [2, 3, 4, 5, 6, 7] rfl)
set_option maxHeartbeats 4000000 in
set_option maxRecDepth 100000 in
theorem lc_meanCost (hst : l.stackTraces = false) (SA : lwA p s m args meth c A E b L xs) (hI : lwI E MA x mo oL oD N w) (hN : N < 512) (h1 : vp_in (i + 1) L) (h2 : vp_in (i + 2) L) (h3 : vp_in (i + 3) L) (h4 : vp_in (i + 4) L) (hP : wP E.1 A w H) (hS : va_S A s.heap H locs) (hl : lv_has ls 9 [(5, .int i), (0, .ref b), (1, .ref x), (2, .ref mo), (3, .ref oL), (4, .ref oD)]) (hc : cells + 20 ≤ room_1.cells) (hs9 : slots + 100 ≤ room_1.slots)
    (kk : ∀ (w2 : wW) (H2 : Heap) (locs2 : List Loc) (ls2 : Array Slot), lwI E MA x mo oL oD (N + 1) w2 → wP E.1 A w2 H2 → va_S A s.heap H2 locs2 → lv_has ls2 9 [(5, .int i), (0, .ref b), (1, .ref x), (2, .ref mo), (3, .ref oL), (4, .ref oD)] → W p l e room_1 s m args below meth c H2 locs2 (cells + 20) (slots + 100) Q (F0 m 1862 ls2 [])) : W p l e room_1 s m args below meth c H locs cells slots Q (F0 m 1797 ls []) := by
  obtain ⟨C0, hnc, hX, hbl, hbA⟩ := SA
  obtain ⟨F, AD, cd, fo, go, hI, hs, rfl, hm, ho, hd⟩ := hI
  have hx := C0.1
  have hb := C0.2.1
  have hts := C0.2.2.2.2.1
  have hn := hI.n
  refine lv_aload_n hx hb dL_law_1797 rfl (lv_at hl 2 rfl) ?_
  refine lv_aload hx hb dL_law_1798 (lv_at hl 5 rfl) ?_
  refine wl_go (wl_runSN (As := [.ref (AD 5 0), .ref oD]) (rest := []) C0 hnc hP hS (k_L_meanCost l hst E w H.size F AD N hI hs oD go hd) (vx_cwSW 2 hts gL_law_L_meanCost rfl rfl rfl (by decide +kernel) ⟨(Nat.le_of_ble_eq_true rfl), (Nat.le_of_ble_eq_true rfl)⟩) rfl rfl hl.1 (Nat.le_of_ble_eq_true rfl) dL_law_1800 ⟨Nat.le_trans (by omega) hc, Nat.le_trans (by omega) hs9⟩) hS (wA_in hP hS C0.2.2.2.2.2.2.2.2 rfl) (fun X ce q9 w2 H locs hpx => hpx.elim) (fun v w2 H locs hq hP _ hS _ _ => ?_)
  obtain ⟨hv9, hs2, hk2, g2, hd2, hg2⟩ := hq
  have hm2 := lw_mo hm hd hk2
  have e9 : ∃ k9 : Nat, v = some (.int (nI k9)) ∧ ((n_took F = 0 ∧ k9 = 1) ∨ (n_took F ≠ 0 ∧ k9 = 0)) := by
    rcases hv9 with ⟨h8, h7⟩ | ⟨h8, h7⟩
    · exact ⟨1, h7, Or.inl ⟨h8, rfl⟩⟩
    · exact ⟨0, h7, Or.inr ⟨h8, rfl⟩⟩
  obtain ⟨k9, rfl, hk9⟩ := e9
  refine W.eq (g2 := F0 m 1803 ls [.int (nI k9)]) rfl ?_
  refine lv_istore (lv' := [(6, .int (nI k9)), (5, .int i), (0, .ref b), (1, .ref (AD 5 0)), (2, .ref mo), (3, .ref oL), (4, .ref oD)]) hx hb dL_law_1803 hl (by decide) rfl (fun ls hl => ?_)
  refine lv_aload_n hx hb dL_law_1805 rfl (lv_at hl 4 rfl) ?_
  refine wl_go (wl_runV (As := []) (rest := []) C0 hP hS (k_X7_meanCost l hst E w2 H.size F MA mo cd N hI hm2) (cwV 0 hts gL_law_X7_meanCost rfl rfl rfl (by decide +kernel) ⟨(Nat.le_of_ble_eq_true rfl), (Nat.le_of_ble_eq_true rfl)⟩) hm2.x rfl rfl rfl hl.1 (Nat.le_of_ble_eq_true rfl) dL_law_1806 ⟨Nat.le_trans (by omega) hc, Nat.le_trans (by omega) hs9⟩) hS (wA_in hP hS C0.2.2.2.2.2.2.2.2 rfl) (fun X ce q9 w3 H locs hpx => hpx.elim) (fun v w3 H locs hq hP _ hS _ _ => ?_)
  have e8 : ∃ r9 : UInt64, v = some (.double r9) ∧ wMod E F MA mo (nI k9) w3 ∧ wKm mo MA w2 w3 ∧ (n_took F ≠ 0 → r9 = v_mean F) := by
    rcases hq with ⟨h6, h7, h8, h9⟩ | ⟨h6, h7, h8, h9⟩
    · rcases hk9 with ⟨_, rfl⟩ | ⟨h5, _⟩
      · exact ⟨_, h7, h8, h9, fun q => absurd h6 q⟩
      · exact absurd h6 h5
    · rcases hk9 with ⟨h5, _⟩ | ⟨_, rfl⟩
      · exact absurd h5 h6
      · exact ⟨_, h7, h8, h9, fun _ => rfl⟩
  obtain ⟨r9, rfl, hm3, hk3, hr9⟩ := e8
  refine W.eq (g2 := F0 m 1809 ls [.double r9]) rfl ?_
  refine lv_dstore (lv' := [(7, .double r9), (6, .int (nI k9)), (5, .int i), (0, .ref b), (1, .ref (AD 5 0)), (2, .ref mo), (3, .ref oL), (4, .ref oD)]) hx hb dL_law_1809 hl (by decide) rfl (fun ls hl => ?_)
  refine lv_aload_n hx hb dL_law_1811 rfl (lv_at hl 5 rfl) ?_
  obtain ⟨hI3, hd3⟩ := lw_nextD (J_same hI hN) hm ho hd hk2 hs2 rfl hd2 hm3 hk3
  refine wl_go (wl_runV (As := []) (rest := []) C0 hP hS (k_X7_thrown l hst E w3 H.size F MA mo (nI k9) hm3) (cwV 0 hts gL_law_X7_thrown rfl rfl rfl (by decide +kernel) ⟨(Nat.le_of_ble_eq_true rfl), (Nat.le_of_ble_eq_true rfl)⟩) hm3.x rfl rfl rfl hl.1 (Nat.le_of_ble_eq_true rfl) dL_law_1812 ⟨Nat.le_trans (by omega) hc, Nat.le_trans (by omega) hs9⟩) hS (wA_in hP hS C0.2.2.2.2.2.2.2.2 rfl) (fun X ce q9 w4 H locs hpx => hpx.elim) (fun v w4 H locs hq hP _ hS _ _ => ?_)
  obtain ⟨rfl, hw9⟩ := hq
  rw [hw9] at hP
  refine W.eq (g2 := F0 m 1815 ls [.int (nI k9)]) rfl ?_
  refine lv_iload hx hb dL_law_1815 (lv_at hl 1 rfl) ?_
  refine lv_icmp_eq (tgt := 1822) hx hb dL_law_1817 (by decide) (fun _ => ?_) (fun c9 => absurd rfl c9)
  refine W.widen (k := cells + 20) (n := slots + 100) (by omega) (by omega) ?_
  refine lv_iload hx hb dL_law_1822 (lv_at hl 1 rfl) ?_
  refine lv_if_ne (tgt := 1859) hx hb dL_law_1824 (by decide) (fun _ => ?_) (fun c0 => ?_)
  · refine lv_goto (tgt := 1862) hx hb dL_law_1859 (by decide) ?_
    exact kk _ H locs ls hI3 hP hS (lv_sub hl [2, 3, 4, 5, 6, 7] rfl)
  · have h0 : k9 = 0 := (nI_e0 (by omega)).mp c0
    have hz : n_took F ≠ 0 := by
      rcases hk9 with ⟨_, h8⟩ | ⟨h8, _⟩
      · rw [h0] at h8
        cases h8
      · exact h8
    have hrr := hr9 hz
    subst hrr
    have hnn : vf_n64 (v_mean F) := lw_mean hI hz
    refine lv_aload hx hb dL_law_1827 (lv_at hl 7 rfl) ?_
    refine lv_iconst (v := 0) hx hb dL_law_1829 (by decide) ?_
    refine wl_dald C0 hP hd3 (show vp_in (nI 0) 1 from vp_in_nI (by omega) (by omega)) dL_law_1830 ?_
    refine lv_dload hx hb dL_law_1831 (lv_at hl 0 rfl) ?_
    refine lv_dcmp hx hb dL_law_1833 ?_
    refine lv_if_eq (tgt := 1859) hx hb dL_law_1834 (by decide) (fun _ => ?_) (fun c2 => absurd (by rw [lw_z0, hg2 hz]; exact fp_eq hnn) c2)
    refine lv_goto (tgt := 1862) hx hb dL_law_1859 (by decide) ?_
    exact kk _ H locs ls hI3 hP hS (lv_sub hl [2, 3, 4, 5, 6, 7] rfl)
end LC
