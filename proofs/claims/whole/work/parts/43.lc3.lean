section LC
variable {p : Program} {l : Launch} {e : Env} {s : State} {m : MethodId} {args : Array Value} {below : List Frame} {meth : Method} {c : Code} {H : Heap} {locs : List Loc} {cells slots : Nat} {Q : State → Prop}
variable {ls : Array Slot} {A : Nat → Prop} {E : wEn} {w : wW} {b L x mo oL oD N : Nat} {xs : Nat → Int32} {MA : Nat → Nat} {i : Int32}
set_option maxHeartbeats 4000000 in
set_option maxRecDepth 100000 in
theorem lc_setShare (hst : l.stackTraces = false) (SA : lwA p s m args meth c A E b L xs) (hI : lwI E MA x mo oL oD N w) (hN : N < 512) (h1 : vp_in (i + 1) L) (h2 : vp_in (i + 2) L) (h3 : vp_in (i + 3) L) (h4 : vp_in (i + 4) L) (hP : wP E.1 A w H) (hS : va_S A s.heap H locs) (hl : lv_has ls 9 [(5, .int i), (0, .ref b), (1, .ref x), (2, .ref mo), (3, .ref oL), (4, .ref oD)]) (hc : cells + 20 ≤ room_1.cells) (hs9 : slots + 100 ≤ room_1.slots)
    (kk : ∀ (w2 : wW) (H2 : Heap) (locs2 : List Loc) (ls2 : Array Slot), lwI E MA x mo oL oD (N + 1) w2 → wP E.1 A w2 H2 → va_S A s.heap H2 locs2 → lv_has ls2 9 [(5, .int i), (0, .ref b), (1, .ref x), (2, .ref mo), (3, .ref oL), (4, .ref oD)] → W p l e room_1 s m args below meth c H2 locs2 (cells + 20) (slots + 100) Q (F0 m 1862 ls2 [])) : W p l e room_1 s m args below meth c H locs cells slots Q (F0 m 668 ls []) := by
  obtain ⟨C0, hnc, hX, hbl, hbA⟩ := SA
  obtain ⟨F, AD, cd, fo, go, hI, hs, rfl, hm, ho, hd⟩ := hI
  have hx := C0.1
  have hb := C0.2.1
  have hts := C0.2.2.2.2.1
  have hn := hI.n
  refine lv_aload_n hx hb dL_law_668 rfl (lv_at hl 2 rfl) ?_
  refine lv_aload_n hx hb dL_law_669 rfl (lv_at hl 1 rfl) ?_
  refine lv_iload hx hb dL_law_670 (lv_at hl 0 rfl) ?_
  refine lv_iconst (v := 1) hx hb dL_law_672 (by decide) ?_
  refine lv_iadd hx hb dL_law_673 ?_
  refine va_sld hx hb hX hbl hbA hS h1 dL_law_674 ?_
  refine lv_aload_n hx hb dL_law_675 rfl (lv_at hl 1 rfl) ?_
  refine lv_iload hx hb dL_law_676 (lv_at hl 0 rfl) ?_
  refine lv_iconst (v := 2) hx hb dL_law_678 (by decide) ?_
  refine lv_iadd hx hb dL_law_679 ?_
  refine va_sld hx hb hX hbl hbA hS h2 dL_law_680 ?_
  refine lv_aload_n hx hb dL_law_681 rfl (lv_at hl 4 rfl) ?_
  refine wl_go (wl_runSN (As := [.ref (AD 5 0), .int (xs (i + 1).toNatClampNeg), .int (xs (i + 2).toNatClampNeg), .ref oL]) (rest := []) C0 hnc hP hS (k_L_setShare l hst E w H.size F AD N hI hs oL fo ho ((xs (i + 1).toNatClampNeg)) ((xs (i + 2).toNatClampNeg))) (vx_cwSW 4 hts gL_law_L_setShare rfl rfl rfl (by decide +kernel) ⟨(Nat.le_of_ble_eq_true rfl), (Nat.le_of_ble_eq_true rfl)⟩) rfl rfl hl.1 (Nat.le_of_ble_eq_true rfl) dL_law_682 ⟨Nat.le_trans (by omega) hc, Nat.le_trans (by omega) hs9⟩) hS (wA_in hP hS C0.2.2.2.2.2.2.2.2 rfl) (fun X ce q9 w2 H locs hpx => hpx.elim) (fun v w2 H locs hq hP _ hS _ _ => ?_)
  obtain ⟨rfl, AD2, hs2, ha2, hk2, f2, ho2, hf2⟩ := hq
  refine W.eq (g2 := F0 m 685 ls [.int (nI (s_setShare F ((xs (i + 1).toNatClampNeg)) ((xs (i + 2).toNatClampNeg))).1)]) rfl ?_
  refine lv_istore (lv' := [(6, .int (nI (s_setShare F ((xs (i + 1).toNatClampNeg)) ((xs (i + 2).toNatClampNeg))).1)), (5, .int i), (0, .ref b), (1, .ref (AD 5 0)), (2, .ref mo), (3, .ref oL), (4, .ref oD)]) hx hb dL_law_685 hl (by decide) rfl (fun ls hl => ?_)
  refine lv_aload_n hx hb dL_law_687 rfl (lv_at hl 4 rfl) ?_
  refine lv_aload_n hx hb dL_law_688 rfl (lv_at hl 2 rfl) ?_
  refine lv_iload hx hb dL_law_689 (lv_at hl 1 rfl) ?_
  refine lv_iconst (v := 1) hx hb dL_law_691 (by decide) ?_
  refine lv_iadd hx hb dL_law_692 ?_
  refine va_sld hx hb hX hbl hbA hS h1 dL_law_693 ?_
  refine lv_aload_n hx hb dL_law_694 rfl (lv_at hl 2 rfl) ?_
  refine lv_iload hx hb dL_law_695 (lv_at hl 1 rfl) ?_
  refine lv_iconst (v := 2) hx hb dL_law_697 (by decide) ?_
  refine lv_iadd hx hb dL_law_698 ?_
  refine va_sld hx hb hX hbl hbA hS h2 dL_law_699 ?_
  have hm2 := lw_mo hm ho hk2
  refine wl_go (wl_runV (As := [.int (xs (i + 1).toNatClampNeg), .int (xs (i + 2).toNatClampNeg)]) (rest := []) C0 hP hS (k_X7_setShare l hst E w2 H.size F MA mo cd N hI hm2 ((xs (i + 1).toNatClampNeg)) ((xs (i + 2).toNatClampNeg))) (cwV 2 hts gL_law_X7_setShare rfl rfl rfl (by decide +kernel) ⟨(Nat.le_of_ble_eq_true rfl), (Nat.le_of_ble_eq_true rfl)⟩) hm2.x rfl rfl rfl hl.1 (Nat.le_of_ble_eq_true rfl) dL_law_700 ⟨Nat.le_trans (by omega) hc, Nat.le_trans (by omega) hs9⟩) hS (wA_in hP hS C0.2.2.2.2.2.2.2.2 rfl) (fun X ce q9 w3 H locs hpx => hpx.elim) (fun v w3 H locs hq hP _ hS _ _ => ?_)
  obtain ⟨rfl, hm3, hk3⟩ := hq
  refine W.eq (g2 := F0 m 703 ls [.int ((s_setShare F ((xs (i + 1).toNatClampNeg)) ((xs (i + 2).toNatClampNeg))).2.1)]) rfl ?_
  refine lv_istore (lv' := [(7, .int ((s_setShare F ((xs (i + 1).toNatClampNeg)) ((xs (i + 2).toNatClampNeg))).2.1)), (6, .int (nI (s_setShare F ((xs (i + 1).toNatClampNeg)) ((xs (i + 2).toNatClampNeg))).1)), (5, .int i), (0, .ref b), (1, .ref (AD 5 0)), (2, .ref mo), (3, .ref oL), (4, .ref oD)]) hx hb dL_law_703 hl (by decide) rfl (fun ls hl => ?_)
  refine lv_aload_n hx hb dL_law_705 rfl (lv_at hl 5 rfl) ?_
  obtain ⟨hI3, ho3⟩ := lw_next (J_setShare hI hN ((xs (i + 1).toNatClampNeg)) ((xs (i + 2).toNatClampNeg))) hm ho hd hk2 hs2 ha2 ho2 hm3 hk3
  refine wl_go (wl_runV (As := []) (rest := []) C0 hP hS (k_X7_thrown l hst E w3 H.size (s_setShare F ((xs (i + 1).toNatClampNeg)) ((xs (i + 2).toNatClampNeg))).2.2 MA mo (nI (s_setShare F ((xs (i + 1).toNatClampNeg)) ((xs (i + 2).toNatClampNeg))).1) hm3) (cwV 0 hts gL_law_X7_thrown rfl rfl rfl (by decide +kernel) ⟨(Nat.le_of_ble_eq_true rfl), (Nat.le_of_ble_eq_true rfl)⟩) hm3.x rfl rfl rfl hl.1 (Nat.le_of_ble_eq_true rfl) dL_law_706 ⟨Nat.le_trans (by omega) hc, Nat.le_trans (by omega) hs9⟩) hS (wA_in hP hS C0.2.2.2.2.2.2.2.2 rfl) (fun X ce q9 w4 H locs hpx => hpx.elim) (fun v w4 H locs hq hP _ hS _ _ => ?_)
  obtain ⟨rfl, hw9⟩ := hq
  rw [hw9] at hP
  refine W.eq (g2 := F0 m 709 ls [.int (nI (s_setShare F ((xs (i + 1).toNatClampNeg)) ((xs (i + 2).toNatClampNeg))).1)]) rfl ?_
  refine lv_iload hx hb dL_law_709 (lv_at hl 1 rfl) ?_
  refine lv_icmp_eq (tgt := 716) hx hb dL_law_711 (by decide) (fun _ => ?_) (fun c9 => absurd rfl c9)
  refine W.widen (k := cells + 20) (n := slots + 100) (by omega) (by omega) ?_
  refine lv_iload hx hb dL_law_716 (lv_at hl 1 rfl) ?_
  refine lv_if_ne (tgt := 733) hx hb dL_law_718 (by decide) (fun _ => ?_) (fun c0 => ?_)
  · refine lv_goto (tgt := 1862) hx hb dL_law_733 (by decide) ?_
    exact kk _ H locs ls hI3 hP hS (lv_sub hl [2, 3, 4, 5, 6, 7] rfl)
  · have h0 : (s_setShare F ((xs (i + 1).toNatClampNeg)) ((xs (i + 2).toNatClampNeg))).1 = 0 := (nI_e0 cb_setShare).mp c0
    refine lv_aload_n hx hb dL_law_721 rfl (lv_at hl 6 rfl) ?_
    refine lv_iconst (v := 0) hx hb dL_law_722 (by decide) ?_
    refine wl_lald C0 hP ho3 (show vp_in (nI 0) 1 from vp_in_nI (by omega) (by omega)) dL_law_723 ?_
    refine lv_iload hx hb dL_law_724 (lv_at hl 0 rfl) ?_
    refine lv_i2l (v := ((s_setShare F ((xs (i + 1).toNatClampNeg)) ((xs (i + 2).toNatClampNeg))).2.1).toInt64) hx hb dL_law_726 rfl ?_
    refine W.lcmp hx hb dL_law_727 ?_
    refine lv_if_eq (tgt := 733) hx hb dL_law_728 (by decide) (fun _ => ?_) (fun c2 => absurd (lw_cmp (by rw [lw_z0]; exact hf2 h0)) c2)
    refine lv_goto (tgt := 1862) hx hb dL_law_733 (by decide) ?_
    exact kk _ H locs ls hI3 hP hS (lv_sub hl [2, 3, 4, 5, 6, 7] rfl)
set_option maxHeartbeats 4000000 in
set_option maxRecDepth 100000 in
theorem lc_promote (hst : l.stackTraces = false) (SA : lwA p s m args meth c A E b L xs) (hI : lwI E MA x mo oL oD N w) (hN : N < 512) (h1 : vp_in (i + 1) L) (h2 : vp_in (i + 2) L) (h3 : vp_in (i + 3) L) (h4 : vp_in (i + 4) L) (hP : wP E.1 A w H) (hS : va_S A s.heap H locs) (hl : lv_has ls 9 [(5, .int i), (0, .ref b), (1, .ref x), (2, .ref mo), (3, .ref oL), (4, .ref oD)]) (hc : cells + 20 ≤ room_1.cells) (hs9 : slots + 100 ≤ room_1.slots)
    (kk : ∀ (w2 : wW) (H2 : Heap) (locs2 : List Loc) (ls2 : Array Slot), lwI E MA x mo oL oD (N + 1) w2 → wP E.1 A w2 H2 → va_S A s.heap H2 locs2 → lv_has ls2 9 [(5, .int i), (0, .ref b), (1, .ref x), (2, .ref mo), (3, .ref oL), (4, .ref oD)] → W p l e room_1 s m args below meth c H2 locs2 (cells + 20) (slots + 100) Q (F0 m 1862 ls2 [])) : W p l e room_1 s m args below meth c H locs cells slots Q (F0 m 736 ls []) := by
  obtain ⟨C0, hnc, hX, hbl, hbA⟩ := SA
  obtain ⟨F, AD, cd, fo, go, hI, hs, rfl, hm, ho, hd⟩ := hI
  have hx := C0.1
  have hb := C0.2.1
  have hts := C0.2.2.2.2.1
  have hn := hI.n
  refine lv_aload_n hx hb dL_law_736 rfl (lv_at hl 2 rfl) ?_
  refine lv_aload_n hx hb dL_law_737 rfl (lv_at hl 1 rfl) ?_
  refine lv_iload hx hb dL_law_738 (lv_at hl 0 rfl) ?_
  refine lv_iconst (v := 1) hx hb dL_law_740 (by decide) ?_
  refine lv_iadd hx hb dL_law_741 ?_
  refine va_sld hx hb hX hbl hbA hS h1 dL_law_742 ?_
  refine lv_aload_n hx hb dL_law_743 rfl (lv_at hl 4 rfl) ?_
  refine wl_go (wl_runSN (As := [.ref (AD 5 0), .int (xs (i + 1).toNatClampNeg), .ref oL]) (rest := []) C0 hnc hP hS (k_L_promote l hst E w H.size F AD N hI hs oL fo ho ((xs (i + 1).toNatClampNeg))) (vx_cwSW 3 hts gL_law_L_promote rfl rfl rfl (by decide +kernel) ⟨(Nat.le_of_ble_eq_true rfl), (Nat.le_of_ble_eq_true rfl)⟩) rfl rfl hl.1 (Nat.le_of_ble_eq_true rfl) dL_law_744 ⟨Nat.le_trans (by omega) hc, Nat.le_trans (by omega) hs9⟩) hS (wA_in hP hS C0.2.2.2.2.2.2.2.2 rfl) (fun X ce q9 w2 H locs hpx => hpx.elim) (fun v w2 H locs hq hP _ hS _ _ => ?_)
  obtain ⟨rfl, AD2, hs2, ha2, hk2, f2, ho2, hf2⟩ := hq
  refine W.eq (g2 := F0 m 747 ls [.int (nI (s_promote F ((xs (i + 1).toNatClampNeg))).1)]) rfl ?_
  refine lv_istore (lv' := [(6, .int (nI (s_promote F ((xs (i + 1).toNatClampNeg))).1)), (5, .int i), (0, .ref b), (1, .ref (AD 5 0)), (2, .ref mo), (3, .ref oL), (4, .ref oD)]) hx hb dL_law_747 hl (by decide) rfl (fun ls hl => ?_)
  refine lv_aload_n hx hb dL_law_749 rfl (lv_at hl 4 rfl) ?_
  refine lv_aload_n hx hb dL_law_750 rfl (lv_at hl 2 rfl) ?_
  refine lv_iload hx hb dL_law_751 (lv_at hl 1 rfl) ?_
  refine lv_iconst (v := 1) hx hb dL_law_753 (by decide) ?_
  refine lv_iadd hx hb dL_law_754 ?_
  refine va_sld hx hb hX hbl hbA hS h1 dL_law_755 ?_
  have hm2 := lw_mo hm ho hk2
  refine wl_go (wl_runV (As := [.int (xs (i + 1).toNatClampNeg)]) (rest := []) C0 hP hS (k_X7_promote l hst E w2 H.size F MA mo cd N hI hm2 ((xs (i + 1).toNatClampNeg))) (cwV 1 hts gL_law_X7_promote rfl rfl rfl (by decide +kernel) ⟨(Nat.le_of_ble_eq_true rfl), (Nat.le_of_ble_eq_true rfl)⟩) hm2.x rfl rfl rfl hl.1 (Nat.le_of_ble_eq_true rfl) dL_law_756 ⟨Nat.le_trans (by omega) hc, Nat.le_trans (by omega) hs9⟩) hS (wA_in hP hS C0.2.2.2.2.2.2.2.2 rfl) (fun X ce q9 w3 H locs hpx => hpx.elim) (fun v w3 H locs hq hP _ hS _ _ => ?_)
  obtain ⟨rfl, hm3, hk3⟩ := hq
  refine W.eq (g2 := F0 m 759 ls [.int ((s_promote F ((xs (i + 1).toNatClampNeg))).2.1)]) rfl ?_
  refine lv_istore (lv' := [(7, .int ((s_promote F ((xs (i + 1).toNatClampNeg))).2.1)), (6, .int (nI (s_promote F ((xs (i + 1).toNatClampNeg))).1)), (5, .int i), (0, .ref b), (1, .ref (AD 5 0)), (2, .ref mo), (3, .ref oL), (4, .ref oD)]) hx hb dL_law_759 hl (by decide) rfl (fun ls hl => ?_)
  refine lv_aload_n hx hb dL_law_761 rfl (lv_at hl 5 rfl) ?_
  obtain ⟨hI3, ho3⟩ := lw_next (J_promote hI hN ((xs (i + 1).toNatClampNeg))) hm ho hd hk2 hs2 ha2 ho2 hm3 hk3
  refine wl_go (wl_runV (As := []) (rest := []) C0 hP hS (k_X7_thrown l hst E w3 H.size (s_promote F ((xs (i + 1).toNatClampNeg))).2.2 MA mo (nI (s_promote F ((xs (i + 1).toNatClampNeg))).1) hm3) (cwV 0 hts gL_law_X7_thrown rfl rfl rfl (by decide +kernel) ⟨(Nat.le_of_ble_eq_true rfl), (Nat.le_of_ble_eq_true rfl)⟩) hm3.x rfl rfl rfl hl.1 (Nat.le_of_ble_eq_true rfl) dL_law_762 ⟨Nat.le_trans (by omega) hc, Nat.le_trans (by omega) hs9⟩) hS (wA_in hP hS C0.2.2.2.2.2.2.2.2 rfl) (fun X ce q9 w4 H locs hpx => hpx.elim) (fun v w4 H locs hq hP _ hS _ _ => ?_)
  obtain ⟨rfl, hw9⟩ := hq
  rw [hw9] at hP
  refine W.eq (g2 := F0 m 765 ls [.int (nI (s_promote F ((xs (i + 1).toNatClampNeg))).1)]) rfl ?_
  refine lv_iload hx hb dL_law_765 (lv_at hl 1 rfl) ?_
  refine lv_icmp_eq (tgt := 772) hx hb dL_law_767 (by decide) (fun _ => ?_) (fun c9 => absurd rfl c9)
  refine W.widen (k := cells + 20) (n := slots + 100) (by omega) (by omega) ?_
  refine lv_iload hx hb dL_law_772 (lv_at hl 1 rfl) ?_
  refine lv_if_ne (tgt := 789) hx hb dL_law_774 (by decide) (fun _ => ?_) (fun c0 => ?_)
  · refine lv_goto (tgt := 1862) hx hb dL_law_789 (by decide) ?_
    exact kk _ H locs ls hI3 hP hS (lv_sub hl [2, 3, 4, 5, 6, 7] rfl)
  · have h0 : (s_promote F ((xs (i + 1).toNatClampNeg))).1 = 0 := (nI_e0 cb_promote).mp c0
    refine lv_aload_n hx hb dL_law_777 rfl (lv_at hl 6 rfl) ?_
    refine lv_iconst (v := 0) hx hb dL_law_778 (by decide) ?_
    refine wl_lald C0 hP ho3 (show vp_in (nI 0) 1 from vp_in_nI (by omega) (by omega)) dL_law_779 ?_
    refine lv_iload hx hb dL_law_780 (lv_at hl 0 rfl) ?_
    refine lv_i2l (v := ((s_promote F ((xs (i + 1).toNatClampNeg))).2.1).toInt64) hx hb dL_law_782 rfl ?_
    refine W.lcmp hx hb dL_law_783 ?_
    refine lv_if_eq (tgt := 789) hx hb dL_law_784 (by decide) (fun _ => ?_) (fun c2 => absurd (lw_cmp (by rw [lw_z0]; exact hf2 h0)) c2)
    refine lv_goto (tgt := 1862) hx hb dL_law_789 (by decide) ?_
    exact kk _ H locs ls hI3 hP hS (lv_sub hl [2, 3, 4, 5, 6, 7] rfl)
set_option maxHeartbeats 4000000 in
set_option maxRecDepth 100000 in
theorem lc_takeBack (hst : l.stackTraces = false) (SA : lwA p s m args meth c A E b L xs) (hI : lwI E MA x mo oL oD N w) (hN : N < 512) (h1 : vp_in (i + 1) L) (h2 : vp_in (i + 2) L) (h3 : vp_in (i + 3) L) (h4 : vp_in (i + 4) L) (hP : wP E.1 A w H) (hS : va_S A s.heap H locs) (hl : lv_has ls 9 [(5, .int i), (0, .ref b), (1, .ref x), (2, .ref mo), (3, .ref oL), (4, .ref oD)]) (hc : cells + 20 ≤ room_1.cells) (hs9 : slots + 100 ≤ room_1.slots)
    (kk : ∀ (w2 : wW) (H2 : Heap) (locs2 : List Loc) (ls2 : Array Slot), lwI E MA x mo oL oD (N + 1) w2 → wP E.1 A w2 H2 → va_S A s.heap H2 locs2 → lv_has ls2 9 [(5, .int i), (0, .ref b), (1, .ref x), (2, .ref mo), (3, .ref oL), (4, .ref oD)] → W p l e room_1 s m args below meth c H2 locs2 (cells + 20) (slots + 100) Q (F0 m 1862 ls2 [])) : W p l e room_1 s m args below meth c H locs cells slots Q (F0 m 792 ls []) := by
  obtain ⟨C0, hnc, hX, hbl, hbA⟩ := SA
  obtain ⟨F, AD, cd, fo, go, hI, hs, rfl, hm, ho, hd⟩ := hI
  have hx := C0.1
  have hb := C0.2.1
  have hts := C0.2.2.2.2.1
  have hn := hI.n
  refine lv_aload_n hx hb dL_law_792 rfl (lv_at hl 2 rfl) ?_
  refine lv_aload_n hx hb dL_law_793 rfl (lv_at hl 1 rfl) ?_
  refine lv_iload hx hb dL_law_794 (lv_at hl 0 rfl) ?_
  refine lv_iconst (v := 1) hx hb dL_law_796 (by decide) ?_
  refine lv_iadd hx hb dL_law_797 ?_
  refine va_sld hx hb hX hbl hbA hS h1 dL_law_798 ?_
  refine lv_aload_n hx hb dL_law_799 rfl (lv_at hl 4 rfl) ?_
  refine wl_go (wl_runSN (As := [.ref (AD 5 0), .int (xs (i + 1).toNatClampNeg), .ref oL]) (rest := []) C0 hnc hP hS (k_L_takeBack l hst E w H.size F AD N hI hs oL fo ho ((xs (i + 1).toNatClampNeg))) (vx_cwSW 3 hts gL_law_L_takeBack rfl rfl rfl (by decide +kernel) ⟨(Nat.le_of_ble_eq_true rfl), (Nat.le_of_ble_eq_true rfl)⟩) rfl rfl hl.1 (Nat.le_of_ble_eq_true rfl) dL_law_800 ⟨Nat.le_trans (by omega) hc, Nat.le_trans (by omega) hs9⟩) hS (wA_in hP hS C0.2.2.2.2.2.2.2.2 rfl) (fun X ce q9 w2 H locs hpx => hpx.elim) (fun v w2 H locs hq hP _ hS _ _ => ?_)
  obtain ⟨rfl, AD2, hs2, ha2, hk2, f2, ho2, hf2⟩ := hq
  refine W.eq (g2 := F0 m 803 ls [.int (nI (s_takeBack F ((xs (i + 1).toNatClampNeg))).1)]) rfl ?_
  refine lv_istore (lv' := [(6, .int (nI (s_takeBack F ((xs (i + 1).toNatClampNeg))).1)), (5, .int i), (0, .ref b), (1, .ref (AD 5 0)), (2, .ref mo), (3, .ref oL), (4, .ref oD)]) hx hb dL_law_803 hl (by decide) rfl (fun ls hl => ?_)
  refine lv_aload_n hx hb dL_law_805 rfl (lv_at hl 4 rfl) ?_
  refine lv_aload_n hx hb dL_law_806 rfl (lv_at hl 2 rfl) ?_
  refine lv_iload hx hb dL_law_807 (lv_at hl 1 rfl) ?_
  refine lv_iconst (v := 1) hx hb dL_law_809 (by decide) ?_
  refine lv_iadd hx hb dL_law_810 ?_
  refine va_sld hx hb hX hbl hbA hS h1 dL_law_811 ?_
  have hm2 := lw_mo hm ho hk2
  refine wl_go (wl_runV (As := [.int (xs (i + 1).toNatClampNeg)]) (rest := []) C0 hP hS (k_X7_takeBack l hst E w2 H.size F MA mo cd N hI hm2 ((xs (i + 1).toNatClampNeg))) (cwV 1 hts gL_law_X7_takeBack rfl rfl rfl (by decide +kernel) ⟨(Nat.le_of_ble_eq_true rfl), (Nat.le_of_ble_eq_true rfl)⟩) hm2.x rfl rfl rfl hl.1 (Nat.le_of_ble_eq_true rfl) dL_law_812 ⟨Nat.le_trans (by omega) hc, Nat.le_trans (by omega) hs9⟩) hS (wA_in hP hS C0.2.2.2.2.2.2.2.2 rfl) (fun X ce q9 w3 H locs hpx => hpx.elim) (fun v w3 H locs hq hP _ hS _ _ => ?_)
  obtain ⟨rfl, hm3, hk3⟩ := hq
  refine W.eq (g2 := F0 m 815 ls [.int ((s_takeBack F ((xs (i + 1).toNatClampNeg))).2.1)]) rfl ?_
  refine lv_istore (lv' := [(7, .int ((s_takeBack F ((xs (i + 1).toNatClampNeg))).2.1)), (6, .int (nI (s_takeBack F ((xs (i + 1).toNatClampNeg))).1)), (5, .int i), (0, .ref b), (1, .ref (AD 5 0)), (2, .ref mo), (3, .ref oL), (4, .ref oD)]) hx hb dL_law_815 hl (by decide) rfl (fun ls hl => ?_)
  refine lv_aload_n hx hb dL_law_817 rfl (lv_at hl 5 rfl) ?_
  obtain ⟨hI3, ho3⟩ := lw_next (J_takeBack hI hN ((xs (i + 1).toNatClampNeg))) hm ho hd hk2 hs2 ha2 ho2 hm3 hk3
  refine wl_go (wl_runV (As := []) (rest := []) C0 hP hS (k_X7_thrown l hst E w3 H.size (s_takeBack F ((xs (i + 1).toNatClampNeg))).2.2 MA mo (nI (s_takeBack F ((xs (i + 1).toNatClampNeg))).1) hm3) (cwV 0 hts gL_law_X7_thrown rfl rfl rfl (by decide +kernel) ⟨(Nat.le_of_ble_eq_true rfl), (Nat.le_of_ble_eq_true rfl)⟩) hm3.x rfl rfl rfl hl.1 (Nat.le_of_ble_eq_true rfl) dL_law_818 ⟨Nat.le_trans (by omega) hc, Nat.le_trans (by omega) hs9⟩) hS (wA_in hP hS C0.2.2.2.2.2.2.2.2 rfl) (fun X ce q9 w4 H locs hpx => hpx.elim) (fun v w4 H locs hq hP _ hS _ _ => ?_)
  obtain ⟨rfl, hw9⟩ := hq
  rw [hw9] at hP
  refine W.eq (g2 := F0 m 821 ls [.int (nI (s_takeBack F ((xs (i + 1).toNatClampNeg))).1)]) rfl ?_
  refine lv_iload hx hb dL_law_821 (lv_at hl 1 rfl) ?_
  refine lv_icmp_eq (tgt := 828) hx hb dL_law_823 (by decide) (fun _ => ?_) (fun c9 => absurd rfl c9)
  refine W.widen (k := cells + 20) (n := slots + 100) (by omega) (by omega) ?_
  refine lv_iload hx hb dL_law_828 (lv_at hl 1 rfl) ?_
  refine lv_if_ne (tgt := 845) hx hb dL_law_830 (by decide) (fun _ => ?_) (fun c0 => ?_)
  · refine lv_goto (tgt := 1862) hx hb dL_law_845 (by decide) ?_
    exact kk _ H locs ls hI3 hP hS (lv_sub hl [2, 3, 4, 5, 6, 7] rfl)
  · have h0 : (s_takeBack F ((xs (i + 1).toNatClampNeg))).1 = 0 := (nI_e0 cb_takeBack).mp c0
    refine lv_aload_n hx hb dL_law_833 rfl (lv_at hl 6 rfl) ?_
    refine lv_iconst (v := 0) hx hb dL_law_834 (by decide) ?_
    refine wl_lald C0 hP ho3 (show vp_in (nI 0) 1 from vp_in_nI (by omega) (by omega)) dL_law_835 ?_
    refine lv_iload hx hb dL_law_836 (lv_at hl 0 rfl) ?_
    refine lv_i2l (v := ((s_takeBack F ((xs (i + 1).toNatClampNeg))).2.1).toInt64) hx hb dL_law_838 rfl ?_
    refine W.lcmp hx hb dL_law_839 ?_
    refine lv_if_eq (tgt := 845) hx hb dL_law_840 (by decide) (fun _ => ?_) (fun c2 => absurd (lw_cmp (by rw [lw_z0]; exact hf2 h0)) c2)
    refine lv_goto (tgt := 1862) hx hb dL_law_845 (by decide) ?_
    exact kk _ H locs ls hI3 hP hS (lv_sub hl [2, 3, 4, 5, 6, 7] rfl)
set_option maxHeartbeats 4000000 in
set_option maxRecDepth 100000 in
theorem lc_hasCanary (hst : l.stackTraces = false) (SA : lwA p s m args meth c A E b L xs) (hI : lwI E MA x mo oL oD N w) (hN : N < 512) (h1 : vp_in (i + 1) L) (h2 : vp_in (i + 2) L) (h3 : vp_in (i + 3) L) (h4 : vp_in (i + 4) L) (hP : wP E.1 A w H) (hS : va_S A s.heap H locs) (hl : lv_has ls 9 [(5, .int i), (0, .ref b), (1, .ref x), (2, .ref mo), (3, .ref oL), (4, .ref oD)]) (hc : cells + 20 ≤ room_1.cells) (hs9 : slots + 100 ≤ room_1.slots)
    (kk : ∀ (w2 : wW) (H2 : Heap) (locs2 : List Loc) (ls2 : Array Slot), lwI E MA x mo oL oD (N + 1) w2 → wP E.1 A w2 H2 → va_S A s.heap H2 locs2 → lv_has ls2 9 [(5, .int i), (0, .ref b), (1, .ref x), (2, .ref mo), (3, .ref oL), (4, .ref oD)] → W p l e room_1 s m args below meth c H2 locs2 (cells + 20) (slots + 100) Q (F0 m 1862 ls2 [])) : W p l e room_1 s m args below meth c H locs cells slots Q (F0 m 848 ls []) := by
  obtain ⟨C0, hnc, hX, hbl, hbA⟩ := SA
  obtain ⟨F, AD, cd, fo, go, hI, hs, rfl, hm, ho, hd⟩ := hI
  have hx := C0.1
  have hb := C0.2.1
  have hts := C0.2.2.2.2.1
  have hn := hI.n
  refine lv_aload_n hx hb dL_law_848 rfl (lv_at hl 2 rfl) ?_
  refine lv_aload_n hx hb dL_law_849 rfl (lv_at hl 1 rfl) ?_
  refine lv_iload hx hb dL_law_850 (lv_at hl 0 rfl) ?_
  refine lv_iconst (v := 1) hx hb dL_law_852 (by decide) ?_
  refine lv_iadd hx hb dL_law_853 ?_
  refine va_sld hx hb hX hbl hbA hS h1 dL_law_854 ?_
  refine lv_aload_n hx hb dL_law_855 rfl (lv_at hl 4 rfl) ?_
  refine wl_go (wl_runSN (As := [.ref (AD 5 0), .int (xs (i + 1).toNatClampNeg), .ref oL]) (rest := []) C0 hnc hP hS (k_L_hasCanary l hst E w H.size F AD N hI hs oL fo ho ((xs (i + 1).toNatClampNeg))) (vx_cwSW 3 hts gL_law_L_hasCanary rfl rfl rfl (by decide +kernel) ⟨(Nat.le_of_ble_eq_true rfl), (Nat.le_of_ble_eq_true rfl)⟩) rfl rfl hl.1 (Nat.le_of_ble_eq_true rfl) dL_law_856 ⟨Nat.le_trans (by omega) hc, Nat.le_trans (by omega) hs9⟩) hS (wA_in hP hS C0.2.2.2.2.2.2.2.2 rfl) (fun X ce q9 w2 H locs hpx => hpx.elim) (fun v w2 H locs hq hP _ hS _ _ => ?_)
  obtain ⟨rfl, AD2, hs2, ha2, hk2, f2, ho2, hf2⟩ := hq
  refine W.eq (g2 := F0 m 859 ls [.int (nI (s_hasCanary F ((xs (i + 1).toNatClampNeg))).1)]) rfl ?_
  refine lv_istore (lv' := [(6, .int (nI (s_hasCanary F ((xs (i + 1).toNatClampNeg))).1)), (5, .int i), (0, .ref b), (1, .ref (AD 5 0)), (2, .ref mo), (3, .ref oL), (4, .ref oD)]) hx hb dL_law_859 hl (by decide) rfl (fun ls hl => ?_)
  refine lv_aload_n hx hb dL_law_861 rfl (lv_at hl 4 rfl) ?_
  refine lv_aload_n hx hb dL_law_862 rfl (lv_at hl 2 rfl) ?_
  refine lv_iload hx hb dL_law_863 (lv_at hl 1 rfl) ?_
  refine lv_iconst (v := 1) hx hb dL_law_865 (by decide) ?_
  refine lv_iadd hx hb dL_law_866 ?_
  refine va_sld hx hb hX hbl hbA hS h1 dL_law_867 ?_
  have hm2 := lw_mo hm ho hk2
  refine wl_go (wl_runV (As := [.int (xs (i + 1).toNatClampNeg)]) (rest := []) C0 hP hS (k_X7_hasCanary l hst E w2 H.size F MA mo cd N hI hm2 ((xs (i + 1).toNatClampNeg))) (cwV 1 hts gL_law_X7_hasCanary rfl rfl rfl (by decide +kernel) ⟨(Nat.le_of_ble_eq_true rfl), (Nat.le_of_ble_eq_true rfl)⟩) hm2.x rfl rfl rfl hl.1 (Nat.le_of_ble_eq_true rfl) dL_law_868 ⟨Nat.le_trans (by omega) hc, Nat.le_trans (by omega) hs9⟩) hS (wA_in hP hS C0.2.2.2.2.2.2.2.2 rfl) (fun X ce q9 w3 H locs hpx => hpx.elim) (fun v w3 H locs hq hP _ hS _ _ => ?_)
  obtain ⟨rfl, hm3, hk3⟩ := hq
  refine W.eq (g2 := F0 m 871 ls [.int ((s_hasCanary F ((xs (i + 1).toNatClampNeg))).2.1)]) rfl ?_
  refine lv_istore (lv' := [(7, .int ((s_hasCanary F ((xs (i + 1).toNatClampNeg))).2.1)), (6, .int (nI (s_hasCanary F ((xs (i + 1).toNatClampNeg))).1)), (5, .int i), (0, .ref b), (1, .ref (AD 5 0)), (2, .ref mo), (3, .ref oL), (4, .ref oD)]) hx hb dL_law_871 hl (by decide) rfl (fun ls hl => ?_)
  refine lv_aload_n hx hb dL_law_873 rfl (lv_at hl 5 rfl) ?_
  obtain ⟨hI3, ho3⟩ := lw_next (J_hasCanary hI hN ((xs (i + 1).toNatClampNeg))) hm ho hd hk2 hs2 ha2 ho2 hm3 hk3
  refine wl_go (wl_runV (As := []) (rest := []) C0 hP hS (k_X7_thrown l hst E w3 H.size (s_hasCanary F ((xs (i + 1).toNatClampNeg))).2.2 MA mo (nI (s_hasCanary F ((xs (i + 1).toNatClampNeg))).1) hm3) (cwV 0 hts gL_law_X7_thrown rfl rfl rfl (by decide +kernel) ⟨(Nat.le_of_ble_eq_true rfl), (Nat.le_of_ble_eq_true rfl)⟩) hm3.x rfl rfl rfl hl.1 (Nat.le_of_ble_eq_true rfl) dL_law_874 ⟨Nat.le_trans (by omega) hc, Nat.le_trans (by omega) hs9⟩) hS (wA_in hP hS C0.2.2.2.2.2.2.2.2 rfl) (fun X ce q9 w4 H locs hpx => hpx.elim) (fun v w4 H locs hq hP _ hS _ _ => ?_)
  obtain ⟨rfl, hw9⟩ := hq
  rw [hw9] at hP
  refine W.eq (g2 := F0 m 877 ls [.int (nI (s_hasCanary F ((xs (i + 1).toNatClampNeg))).1)]) rfl ?_
  refine lv_iload hx hb dL_law_877 (lv_at hl 1 rfl) ?_
  refine lv_icmp_eq (tgt := 884) hx hb dL_law_879 (by decide) (fun _ => ?_) (fun c9 => absurd rfl c9)
  refine W.widen (k := cells + 20) (n := slots + 100) (by omega) (by omega) ?_
  refine lv_iload hx hb dL_law_884 (lv_at hl 1 rfl) ?_
  refine lv_if_ne (tgt := 908) hx hb dL_law_886 (by decide) (fun _ => ?_) (fun c0 => ?_)
  · refine lv_goto (tgt := 1862) hx hb dL_law_908 (by decide) ?_
    exact kk _ H locs ls hI3 hP hS (lv_sub hl [2, 3, 4, 5, 6, 7] rfl)
  · have h0 : (s_hasCanary F ((xs (i + 1).toNatClampNeg))).1 = 0 := (nI_e0 cb_hasCanary).mp c0
    refine lv_aload_n hx hb dL_law_889 rfl (lv_at hl 6 rfl) ?_
    refine lv_iconst (v := 0) hx hb dL_law_890 (by decide) ?_
    refine wl_lald C0 hP ho3 (show vp_in (nI 0) 1 from vp_in_nI (by omega) (by omega)) dL_law_891 ?_
    refine lv_iload hx hb dL_law_892 (lv_at hl 0 rfl) ?_
    refine lv_if_eq (tgt := 901) hx hb dL_law_894 (by decide) (fun c1 => ?_) (fun c1 => ?_)
    · refine lv_lconst (v := 0) hx hb dL_law_901 rfl ?_
      refine W.lcmp hx hb dL_law_902 ?_
      refine lv_if_eq (tgt := 908) hx hb dL_law_903 (by decide) (fun _ => ?_) (fun c2 => absurd (lw_cmp (by rw [lw_z0, hf2 h0]; rw [c1]; rfl)) c2)
      refine lv_goto (tgt := 1862) hx hb dL_law_908 (by decide) ?_
      exact kk _ H locs ls hI3 hP hS (lv_sub hl [2, 3, 4, 5, 6, 7] rfl)
    · refine lv_lconst (v := 1) hx hb dL_law_897 rfl ?_
      refine lv_goto (tgt := 902) hx hb dL_law_898 (by decide) ?_
      refine W.lcmp hx hb dL_law_902 ?_
      refine lv_if_eq (tgt := 908) hx hb dL_law_903 (by decide) (fun _ => ?_) (fun c2 => absurd (lw_cmp (by rw [lw_z0, hf2 h0]; rw [(bo_hasCanary (F := F)).resolve_left c1]; rfl)) c2)
      refine lv_goto (tgt := 1862) hx hb dL_law_908 (by decide) ?_
      exact kk _ H locs ls hI3 hP hS (lv_sub hl [2, 3, 4, 5, 6, 7] rfl)
set_option maxHeartbeats 4000000 in
set_option maxRecDepth 100000 in
theorem lc_faults (hst : l.stackTraces = false) (SA : lwA p s m args meth c A E b L xs) (hI : lwI E MA x mo oL oD N w) (hN : N < 512) (h1 : vp_in (i + 1) L) (h2 : vp_in (i + 2) L) (h3 : vp_in (i + 3) L) (h4 : vp_in (i + 4) L) (hP : wP E.1 A w H) (hS : va_S A s.heap H locs) (hl : lv_has ls 9 [(5, .int i), (0, .ref b), (1, .ref x), (2, .ref mo), (3, .ref oL), (4, .ref oD)]) (hc : cells + 20 ≤ room_1.cells) (hs9 : slots + 100 ≤ room_1.slots)
    (kk : ∀ (w2 : wW) (H2 : Heap) (locs2 : List Loc) (ls2 : Array Slot), lwI E MA x mo oL oD (N + 1) w2 → wP E.1 A w2 H2 → va_S A s.heap H2 locs2 → lv_has ls2 9 [(5, .int i), (0, .ref b), (1, .ref x), (2, .ref mo), (3, .ref oL), (4, .ref oD)] → W p l e room_1 s m args below meth c H2 locs2 (cells + 20) (slots + 100) Q (F0 m 1862 ls2 [])) : W p l e room_1 s m args below meth c H locs cells slots Q (F0 m 911 ls []) := by
  obtain ⟨C0, hnc, hX, hbl, hbA⟩ := SA
  obtain ⟨F, AD, cd, fo, go, hI, hs, rfl, hm, ho, hd⟩ := hI
  have hx := C0.1
  have hb := C0.2.1
  have hts := C0.2.2.2.2.1
  have hn := hI.n
  refine lv_aload_n hx hb dL_law_911 rfl (lv_at hl 2 rfl) ?_
  refine lv_aload_n hx hb dL_law_912 rfl (lv_at hl 1 rfl) ?_
  refine lv_iload hx hb dL_law_913 (lv_at hl 0 rfl) ?_
  refine lv_iconst (v := 1) hx hb dL_law_915 (by decide) ?_
  refine lv_iadd hx hb dL_law_916 ?_
  refine va_sld hx hb hX hbl hbA hS h1 dL_law_917 ?_
  refine lv_aload_n hx hb dL_law_918 rfl (lv_at hl 4 rfl) ?_
  refine wl_go (wl_runSN (As := [.ref (AD 5 0), .int (xs (i + 1).toNatClampNeg), .ref oL]) (rest := []) C0 hnc hP hS (k_L_faults l hst E w H.size F AD N hI hs oL fo ho ((xs (i + 1).toNatClampNeg))) (vx_cwSW 3 hts gL_law_L_faults rfl rfl rfl (by decide +kernel) ⟨(Nat.le_of_ble_eq_true rfl), (Nat.le_of_ble_eq_true rfl)⟩) rfl rfl hl.1 (Nat.le_of_ble_eq_true rfl) dL_law_919 ⟨Nat.le_trans (by omega) hc, Nat.le_trans (by omega) hs9⟩) hS (wA_in hP hS C0.2.2.2.2.2.2.2.2 rfl) (fun X ce q9 w2 H locs hpx => hpx.elim) (fun v w2 H locs hq hP _ hS _ _ => ?_)
  obtain ⟨rfl, AD2, hs2, ha2, hk2, f2, ho2, hf2⟩ := hq
  refine W.eq (g2 := F0 m 922 ls [.int (nI (s_faults F ((xs (i + 1).toNatClampNeg))).1)]) rfl ?_
  refine lv_istore (lv' := [(6, .int (nI (s_faults F ((xs (i + 1).toNatClampNeg))).1)), (5, .int i), (0, .ref b), (1, .ref (AD 5 0)), (2, .ref mo), (3, .ref oL), (4, .ref oD)]) hx hb dL_law_922 hl (by decide) rfl (fun ls hl => ?_)
  refine lv_aload_n hx hb dL_law_924 rfl (lv_at hl 4 rfl) ?_
  refine lv_aload_n hx hb dL_law_925 rfl (lv_at hl 2 rfl) ?_
  refine lv_iload hx hb dL_law_926 (lv_at hl 1 rfl) ?_
  refine lv_iconst (v := 1) hx hb dL_law_928 (by decide) ?_
  refine lv_iadd hx hb dL_law_929 ?_
  refine va_sld hx hb hX hbl hbA hS h1 dL_law_930 ?_
  have hm2 := lw_mo hm ho hk2
  refine wl_go (wl_runV (As := [.int (xs (i + 1).toNatClampNeg)]) (rest := []) C0 hP hS (k_X7_faults l hst E w2 H.size F MA mo cd N hI hm2 ((xs (i + 1).toNatClampNeg))) (cwV 1 hts gL_law_X7_faults rfl rfl rfl (by decide +kernel) ⟨(Nat.le_of_ble_eq_true rfl), (Nat.le_of_ble_eq_true rfl)⟩) hm2.x rfl rfl rfl hl.1 (Nat.le_of_ble_eq_true rfl) dL_law_931 ⟨Nat.le_trans (by omega) hc, Nat.le_trans (by omega) hs9⟩) hS (wA_in hP hS C0.2.2.2.2.2.2.2.2 rfl) (fun X ce q9 w3 H locs hpx => hpx.elim) (fun v w3 H locs hq hP _ hS _ _ => ?_)
  obtain ⟨rfl, hm3, hk3⟩ := hq
  refine W.eq (g2 := F0 m 934 ls [.int ((s_faults F ((xs (i + 1).toNatClampNeg))).2.1)]) rfl ?_
  refine lv_istore (lv' := [(7, .int ((s_faults F ((xs (i + 1).toNatClampNeg))).2.1)), (6, .int (nI (s_faults F ((xs (i + 1).toNatClampNeg))).1)), (5, .int i), (0, .ref b), (1, .ref (AD 5 0)), (2, .ref mo), (3, .ref oL), (4, .ref oD)]) hx hb dL_law_934 hl (by decide) rfl (fun ls hl => ?_)
  refine lv_aload_n hx hb dL_law_936 rfl (lv_at hl 5 rfl) ?_
  obtain ⟨hI3, ho3⟩ := lw_next (J_faults hI hN ((xs (i + 1).toNatClampNeg))) hm ho hd hk2 hs2 ha2 ho2 hm3 hk3
  refine wl_go (wl_runV (As := []) (rest := []) C0 hP hS (k_X7_thrown l hst E w3 H.size (s_faults F ((xs (i + 1).toNatClampNeg))).2.2 MA mo (nI (s_faults F ((xs (i + 1).toNatClampNeg))).1) hm3) (cwV 0 hts gL_law_X7_thrown rfl rfl rfl (by decide +kernel) ⟨(Nat.le_of_ble_eq_true rfl), (Nat.le_of_ble_eq_true rfl)⟩) hm3.x rfl rfl rfl hl.1 (Nat.le_of_ble_eq_true rfl) dL_law_937 ⟨Nat.le_trans (by omega) hc, Nat.le_trans (by omega) hs9⟩) hS (wA_in hP hS C0.2.2.2.2.2.2.2.2 rfl) (fun X ce q9 w4 H locs hpx => hpx.elim) (fun v w4 H locs hq hP _ hS _ _ => ?_)
  obtain ⟨rfl, hw9⟩ := hq
  rw [hw9] at hP
  refine W.eq (g2 := F0 m 940 ls [.int (nI (s_faults F ((xs (i + 1).toNatClampNeg))).1)]) rfl ?_
  refine lv_iload hx hb dL_law_940 (lv_at hl 1 rfl) ?_
  refine lv_icmp_eq (tgt := 947) hx hb dL_law_942 (by decide) (fun _ => ?_) (fun c9 => absurd rfl c9)
  refine W.widen (k := cells + 20) (n := slots + 100) (by omega) (by omega) ?_
  refine lv_iload hx hb dL_law_947 (lv_at hl 1 rfl) ?_
  refine lv_if_ne (tgt := 964) hx hb dL_law_949 (by decide) (fun _ => ?_) (fun c0 => ?_)
  · refine lv_goto (tgt := 1862) hx hb dL_law_964 (by decide) ?_
    exact kk _ H locs ls hI3 hP hS (lv_sub hl [2, 3, 4, 5, 6, 7] rfl)
  · have h0 : (s_faults F ((xs (i + 1).toNatClampNeg))).1 = 0 := (nI_e0 cb_faults).mp c0
    refine lv_aload_n hx hb dL_law_952 rfl (lv_at hl 6 rfl) ?_
    refine lv_iconst (v := 0) hx hb dL_law_953 (by decide) ?_
    refine wl_lald C0 hP ho3 (show vp_in (nI 0) 1 from vp_in_nI (by omega) (by omega)) dL_law_954 ?_
    refine lv_iload hx hb dL_law_955 (lv_at hl 0 rfl) ?_
    refine lv_i2l (v := ((s_faults F ((xs (i + 1).toNatClampNeg))).2.1).toInt64) hx hb dL_law_957 rfl ?_
    refine W.lcmp hx hb dL_law_958 ?_
    refine lv_if_eq (tgt := 964) hx hb dL_law_959 (by decide) (fun _ => ?_) (fun c2 => absurd (lw_cmp (by rw [lw_z0]; exact hf2 h0)) c2)
    refine lv_goto (tgt := 1862) hx hb dL_law_964 (by decide) ?_
    exact kk _ H locs ls hI3 hP hS (lv_sub hl [2, 3, 4, 5, 6, 7] rfl)
end LC
