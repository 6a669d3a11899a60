section LC
variable {p : Program} {l : Launch} {e : Env} {s : State} {m : MethodId} {args : Array Value} {below : List Frame} {meth : Method} {c : Code} {H : Heap} {locs : List Loc} {cells slots : Nat} {Q : State → Prop}
variable {ls : Array Slot} {A : Nat → Prop} {E : wEn} {w : wW} {b L x mo oL oD N : Nat} {xs : Nat → Int32} {MA : Nat → Nat} {i : Int32}
set_option maxHeartbeats 4000000 in
set_option maxRecDepth 100000 in
theorem lc_addPlan (hst : l.stackTraces = false) (SA : lwA p s m args meth c A E b L xs) (hI : lwI E MA x mo oL oD N w) (hN : N < 512) (h1 : vp_in (i + 1) L) (h2 : vp_in (i + 2) L) (h3 : vp_in (i + 3) L) (h4 : vp_in (i + 4) L) (hP : wP E.1 A w H) (hS : va_S A s.heap H locs) (hl : lv_has ls 9 [(5, .int i), (0, .ref b), (1, .ref x), (2, .ref mo), (3, .ref oL), (4, .ref oD)]) (hc : cells + 20 ≤ room_1.cells) (hs9 : slots + 100 ≤ room_1.slots)
    (kk : ∀ (w2 : wW) (H2 : Heap) (locs2 : List Loc) (ls2 : Array Slot), lwI E MA x mo oL oD (N + 1) w2 → wP E.1 A w2 H2 → va_S A s.heap H2 locs2 → lv_has ls2 9 [(5, .int i), (0, .ref b), (1, .ref x), (2, .ref mo), (3, .ref oL), (4, .ref oD)] → W p l e room_1 s m args below meth c H2 locs2 (cells + 20) (slots + 100) Q (F0 m 1862 ls2 [])) : W p l e room_1 s m args below meth c H locs cells slots Q (F0 m 967 ls []) := by
  obtain ⟨C0, hnc, hX, hbl, hbA⟩ := SA
  obtain ⟨F, AD, cd, fo, go, hI, hs, rfl, hm, ho, hd⟩ := hI
  have hx := C0.1
  have hb := C0.2.1
  have hts := C0.2.2.2.2.1
  have hn := hI.n
  refine lv_aload_n hx hb dL_law_967 rfl (lv_at hl 2 rfl) ?_
  refine lv_aload_n hx hb dL_law_968 rfl (lv_at hl 1 rfl) ?_
  refine lv_iload hx hb dL_law_969 (lv_at hl 0 rfl) ?_
  refine lv_iconst (v := 1) hx hb dL_law_971 (by decide) ?_
  refine lv_iadd hx hb dL_law_972 ?_
  refine va_sld hx hb hX hbl hbA hS h1 dL_law_973 ?_
  refine lv_aload_n hx hb dL_law_974 rfl (lv_at hl 1 rfl) ?_
  refine lv_iload hx hb dL_law_975 (lv_at hl 0 rfl) ?_
  refine lv_iconst (v := 2) hx hb dL_law_977 (by decide) ?_
  refine lv_iadd hx hb dL_law_978 ?_
  refine va_sld hx hb hX hbl hbA hS h2 dL_law_979 ?_
  refine lv_aload_n hx hb dL_law_980 rfl (lv_at hl 1 rfl) ?_
  refine lv_iload hx hb dL_law_981 (lv_at hl 0 rfl) ?_
  refine lv_iconst (v := 3) hx hb dL_law_983 (by decide) ?_
  refine lv_iadd hx hb dL_law_984 ?_
  refine va_sld hx hb hX hbl hbA hS h3 dL_law_985 ?_
  refine lv_aload_n hx hb dL_law_986 rfl (lv_at hl 4 rfl) ?_
  refine wl_go (wl_runSN (As := [.ref (AD 5 0), .int (xs (i + 1).toNatClampNeg), .int (xs (i + 2).toNatClampNeg), .int (xs (i + 3).toNatClampNeg), .ref oL]) (rest := []) C0 hnc hP hS (k_L_addPlan l hst E w H.size F AD N hI hs oL fo ho ((xs (i + 1).toNatClampNeg)) ((xs (i + 2).toNatClampNeg)) ((xs (i + 3).toNatClampNeg))) (vx_cwSW 5 hts gL_law_L_addPlan rfl rfl rfl (by decide +kernel) ⟨(Nat.le_of_ble_eq_true rfl), (Nat.le_of_ble_eq_true rfl)⟩) rfl rfl hl.1 (Nat.le_of_ble_eq_true rfl) dL_law_987 ⟨Nat.le_trans (by omega) hc, Nat.le_trans (by omega) hs9⟩) hS (wA_in hP hS C0.2.2.2.2.2.2.2.2 rfl) (fun X ce q9 w2 H locs hpx => hpx.elim) (fun v w2 H locs hq hP _ hS _ _ => ?_)
  obtain ⟨rfl, AD2, hs2, ha2, hk2, f2, ho2, hf2⟩ := hq
  refine W.eq (g2 := F0 m 990 ls [.int (nI (s_addPlan F ((xs (i + 1).toNatClampNeg)) ((xs (i + 2).toNatClampNeg)) ((xs (i + 3).toNatClampNeg))).1)]) rfl ?_
  refine lv_istore (lv' := [(6, .int (nI (s_addPlan F ((xs (i + 1).toNatClampNeg)) ((xs (i + 2).toNatClampNeg)) ((xs (i + 3).toNatClampNeg))).1)), (5, .int i), (0, .ref b), (1, .ref (AD 5 0)), (2, .ref mo), (3, .ref oL), (4, .ref oD)]) hx hb dL_law_990 hl (by decide) rfl (fun ls hl => ?_)
  refine lv_aload_n hx hb dL_law_992 rfl (lv_at hl 4 rfl) ?_
  refine lv_aload_n hx hb dL_law_993 rfl (lv_at hl 2 rfl) ?_
  refine lv_iload hx hb dL_law_994 (lv_at hl 1 rfl) ?_
  refine lv_iconst (v := 1) hx hb dL_law_996 (by decide) ?_
  refine lv_iadd hx hb dL_law_997 ?_
  refine va_sld hx hb hX hbl hbA hS h1 dL_law_998 ?_
  refine lv_aload_n hx hb dL_law_999 rfl (lv_at hl 2 rfl) ?_
  refine lv_iload hx hb dL_law_1000 (lv_at hl 1 rfl) ?_
  refine lv_iconst (v := 2) hx hb dL_law_1002 (by decide) ?_
  refine lv_iadd hx hb dL_law_1003 ?_
  refine va_sld hx hb hX hbl hbA hS h2 dL_law_1004 ?_
  refine lv_aload_n hx hb dL_law_1005 rfl (lv_at hl 2 rfl) ?_
  refine lv_iload hx hb dL_law_1006 (lv_at hl 1 rfl) ?_
  refine lv_iconst (v := 3) hx hb dL_law_1008 (by decide) ?_
  refine lv_iadd hx hb dL_law_1009 ?_
  refine va_sld hx hb hX hbl hbA hS h3 dL_law_1010 ?_
  have hm2 := lw_mo hm ho hk2
  refine wl_go (wl_runV (As := [.int (xs (i + 1).toNatClampNeg), .int (xs (i + 2).toNatClampNeg), .int (xs (i + 3).toNatClampNeg)]) (rest := []) C0 hP hS (k_X7_addPlan l hst E w2 H.size F MA mo cd N hI hm2 ((xs (i + 1).toNatClampNeg)) ((xs (i + 2).toNatClampNeg)) ((xs (i + 3).toNatClampNeg))) (cwV 3 hts gL_law_X7_addPlan rfl rfl rfl (by decide +kernel) ⟨(Nat.le_of_ble_eq_true rfl), (Nat.le_of_ble_eq_true rfl)⟩) hm2.x rfl rfl rfl hl.1 (Nat.le_of_ble_eq_true rfl) dL_law_1011 ⟨Nat.le_trans (by omega) hc, Nat.le_trans (by omega) hs9⟩) hS (wA_in hP hS C0.2.2.2.2.2.2.2.2 rfl) (fun X ce q9 w3 H locs hpx => hpx.elim) (fun v w3 H locs hq hP _ hS _ _ => ?_)
  obtain ⟨rfl, hm3, hk3⟩ := hq
  refine W.eq (g2 := F0 m 1014 ls [.int ((s_addPlan F ((xs (i + 1).toNatClampNeg)) ((xs (i + 2).toNatClampNeg)) ((xs (i + 3).toNatClampNeg))).2.1)]) rfl ?_
  refine lv_istore (lv' := [(7, .int ((s_addPlan F ((xs (i + 1).toNatClampNeg)) ((xs (i + 2).toNatClampNeg)) ((xs (i + 3).toNatClampNeg))).2.1)), (6, .int (nI (s_addPlan F ((xs (i + 1).toNatClampNeg)) ((xs (i + 2).toNatClampNeg)) ((xs (i + 3).toNatClampNeg))).1)), (5, .int i), (0, .ref b), (1, .ref (AD 5 0)), (2, .ref mo), (3, .ref oL), (4, .ref oD)]) hx hb dL_law_1014 hl (by decide) rfl (fun ls hl => ?_)
  refine lv_aload_n hx hb dL_law_1016 rfl (lv_at hl 5 rfl) ?_
  obtain ⟨hI3, ho3⟩ := lw_next (J_addPlan hI hN ((xs (i + 1).toNatClampNeg)) ((xs (i + 2).toNatClampNeg)) ((xs (i + 3).toNatClampNeg))) hm ho hd hk2 hs2 ha2 ho2 hm3 hk3
  refine wl_go (wl_runV (As := []) (rest := []) C0 hP hS (k_X7_thrown l hst E w3 H.size (s_addPlan F ((xs (i + 1).toNatClampNeg)) ((xs (i + 2).toNatClampNeg)) ((xs (i + 3).toNatClampNeg))).2.2 MA mo (nI (s_addPlan F ((xs (i + 1).toNatClampNeg)) ((xs (i + 2).toNatClampNeg)) ((xs (i + 3).toNatClampNeg))).1) hm3) (cwV 0 hts gL_law_X7_thrown rfl rfl rfl (by decide +kernel) ⟨(Nat.le_of_ble_eq_true rfl), (Nat.le_of_ble_eq_true rfl)⟩) hm3.x rfl rfl rfl hl.1 (Nat.le_of_ble_eq_true rfl) dL_law_1017 ⟨Nat.le_trans (by omega) hc, Nat.le_trans (by omega) hs9⟩) hS (wA_in hP hS C0.2.2.2.2.2.2.2.2 rfl) (fun X ce q9 w4 H locs hpx => hpx.elim) (fun v w4 H locs hq hP _ hS _ _ => ?_)
  obtain ⟨rfl, hw9⟩ := hq
  rw [hw9] at hP
  refine W.eq (g2 := F0 m 1020 ls [.int (nI (s_addPlan F ((xs (i + 1).toNatClampNeg)) ((xs (i + 2).toNatClampNeg)) ((xs (i + 3).toNatClampNeg))).1)]) rfl ?_
  refine lv_iload hx hb dL_law_1020 (lv_at hl 1 rfl) ?_
  refine lv_icmp_eq (tgt := 1027) hx hb dL_law_1022 (by decide) (fun _ => ?_) (fun c9 => absurd rfl c9)
  refine W.widen (k := cells + 20) (n := slots + 100) (by omega) (by omega) ?_
  refine lv_iload hx hb dL_law_1027 (lv_at hl 1 rfl) ?_
  refine lv_if_ne (tgt := 1044) hx hb dL_law_1029 (by decide) (fun _ => ?_) (fun c0 => ?_)
  · refine lv_goto (tgt := 1862) hx hb dL_law_1044 (by decide) ?_
    exact kk _ H locs ls hI3 hP hS (lv_sub hl [2, 3, 4, 5, 6, 7] rfl)
  · have h0 : (s_addPlan F ((xs (i + 1).toNatClampNeg)) ((xs (i + 2).toNatClampNeg)) ((xs (i + 3).toNatClampNeg))).1 = 0 := (nI_e0 cb_addPlan).mp c0
    refine lv_aload_n hx hb dL_law_1032 rfl (lv_at hl 6 rfl) ?_
    refine lv_iconst (v := 0) hx hb dL_law_1033 (by decide) ?_
    refine wl_lald C0 hP ho3 (show vp_in (nI 0) 1 from vp_in_nI (by omega) (by omega)) dL_law_1034 ?_
    refine lv_iload hx hb dL_law_1035 (lv_at hl 0 rfl) ?_
    refine lv_i2l (v := ((s_addPlan F ((xs (i + 1).toNatClampNeg)) ((xs (i + 2).toNatClampNeg)) ((xs (i + 3).toNatClampNeg))).2.1).toInt64) hx hb dL_law_1037 rfl ?_
    refine W.lcmp hx hb dL_law_1038 ?_
    refine lv_if_eq (tgt := 1044) hx hb dL_law_1039 (by decide) (fun _ => ?_) (fun c2 => absurd (lw_cmp (by rw [lw_z0]; exact hf2 h0)) c2)
    refine lv_goto (tgt := 1862) hx hb dL_law_1044 (by decide) ?_
    exact kk _ H locs ls hI3 hP hS (lv_sub hl [2, 3, 4, 5, 6, 7] rfl)
set_option maxHeartbeats 4000000 in
set_option maxRecDepth 100000 in
theorem lc_addCaller (hst : l.stackTraces = false) (SA : lwA p s m args meth c A E b L xs) (hI : lwI E MA x mo oL oD N w) (hN : N < 512) (h1 : vp_in (i + 1) L) (h2 : vp_in (i + 2) L) (h3 : vp_in (i + 3) L) (h4 : vp_in (i + 4) L) (hP : wP E.1 A w H) (hS : va_S A s.heap H locs) (hl : lv_has ls 9 [(5, .int i), (0, .ref b), (1, .ref x), (2, .ref mo), (3, .ref oL), (4, .ref oD)]) (hc : cells + 20 ≤ room_1.cells) (hs9 : slots + 100 ≤ room_1.slots)
    (kk : ∀ (w2 : wW) (H2 : Heap) (locs2 : List Loc) (ls2 : Array Slot), lwI E MA x mo oL oD (N + 1) w2 → wP E.1 A w2 H2 → va_S A s.heap H2 locs2 → lv_has ls2 9 [(5, .int i), (0, .ref b), (1, .ref x), (2, .ref mo), (3, .ref oL), (4, .ref oD)] → W p l e room_1 s m args below meth c H2 locs2 (cells + 20) (slots + 100) Q (F0 m 1862 ls2 [])) : W p l e room_1 s m args below meth c H locs cells slots Q (F0 m 1047 ls []) := by
  obtain ⟨C0, hnc, hX, hbl, hbA⟩ := SA
  obtain ⟨F, AD, cd, fo, go, hI, hs, rfl, hm, ho, hd⟩ := hI
  have hx := C0.1
  have hb := C0.2.1
  have hts := C0.2.2.2.2.1
  have hn := hI.n
  refine lv_aload_n hx hb dL_law_1047 rfl (lv_at hl 2 rfl) ?_
  refine lv_aload_n hx hb dL_law_1048 rfl (lv_at hl 1 rfl) ?_
  refine lv_iload hx hb dL_law_1049 (lv_at hl 0 rfl) ?_
  refine lv_iconst (v := 1) hx hb dL_law_1051 (by decide) ?_
  refine lv_iadd hx hb dL_law_1052 ?_
  refine va_sld hx hb hX hbl hbA hS h1 dL_law_1053 ?_
  refine lv_aload_n hx hb dL_law_1054 rfl (lv_at hl 4 rfl) ?_
  refine wl_go (wl_runSN (As := [.ref (AD 5 0), .int (xs (i + 1).toNatClampNeg), .ref oL]) (rest := []) C0 hnc hP hS (k_L_addCaller l hst E w H.size F AD N hI hs oL fo ho ((xs (i + 1).toNatClampNeg))) (vx_cwSW 3 hts gL_law_L_addCaller rfl rfl rfl (by decide +kernel) ⟨(Nat.le_of_ble_eq_true rfl), (Nat.le_of_ble_eq_true rfl)⟩) rfl rfl hl.1 (Nat.le_of_ble_eq_true rfl) dL_law_1055 ⟨Nat.le_trans (by omega) hc, Nat.le_trans (by omega) hs9⟩) hS (wA_in hP hS C0.2.2.2.2.2.2.2.2 rfl) (fun X ce q9 w2 H locs hpx => hpx.elim) (fun v w2 H locs hq hP _ hS _ _ => ?_)
  obtain ⟨rfl, AD2, hs2, ha2, hk2, f2, ho2, hf2⟩ := hq
  refine W.eq (g2 := F0 m 1058 ls [.int (nI (s_addCaller F ((xs (i + 1).toNatClampNeg))).1)]) rfl ?_
  refine lv_istore (lv' := [(6, .int (nI (s_addCaller F ((xs (i + 1).toNatClampNeg))).1)), (5, .int i), (0, .ref b), (1, .ref (AD 5 0)), (2, .ref mo), (3, .ref oL), (4, .ref oD)]) hx hb dL_law_1058 hl (by decide) rfl (fun ls hl => ?_)
  refine lv_aload_n hx hb dL_law_1060 rfl (lv_at hl 4 rfl) ?_
  refine lv_aload_n hx hb dL_law_1061 rfl (lv_at hl 2 rfl) ?_
  refine lv_iload hx hb dL_law_1062 (lv_at hl 1 rfl) ?_
  refine lv_iconst (v := 1) hx hb dL_law_1064 (by decide) ?_
  refine lv_iadd hx hb dL_law_1065 ?_
  refine va_sld hx hb hX hbl hbA hS h1 dL_law_1066 ?_
  have hm2 := lw_mo hm ho hk2
  refine wl_go (wl_runV (As := [.int (xs (i + 1).toNatClampNeg)]) (rest := []) C0 hP hS (k_X7_addCaller l hst E w2 H.size F MA mo cd N hI hm2 ((xs (i + 1).toNatClampNeg))) (cwV 1 hts gL_law_X7_addCaller rfl rfl rfl (by decide +kernel) ⟨(Nat.le_of_ble_eq_true rfl), (Nat.le_of_ble_eq_true rfl)⟩) hm2.x rfl rfl rfl hl.1 (Nat.le_of_ble_eq_true rfl) dL_law_1067 ⟨Nat.le_trans (by omega) hc, Nat.le_trans (by omega) hs9⟩) hS (wA_in hP hS C0.2.2.2.2.2.2.2.2 rfl) (fun X ce q9 w3 H locs hpx => hpx.elim) (fun v w3 H locs hq hP _ hS _ _ => ?_)
  obtain ⟨rfl, hm3, hk3⟩ := hq
  refine W.eq (g2 := F0 m 1070 ls [.int ((s_addCaller F ((xs (i + 1).toNatClampNeg))).2.1)]) rfl ?_
  refine lv_istore (lv' := [(7, .int ((s_addCaller F ((xs (i + 1).toNatClampNeg))).2.1)), (6, .int (nI (s_addCaller F ((xs (i + 1).toNatClampNeg))).1)), (5, .int i), (0, .ref b), (1, .ref (AD 5 0)), (2, .ref mo), (3, .ref oL), (4, .ref oD)]) hx hb dL_law_1070 hl (by decide) rfl (fun ls hl => ?_)
  refine lv_aload_n hx hb dL_law_1072 rfl (lv_at hl 5 rfl) ?_
  obtain ⟨hI3, ho3⟩ := lw_next (J_addCaller hI hN ((xs (i + 1).toNatClampNeg))) hm ho hd hk2 hs2 ha2 ho2 hm3 hk3
  refine wl_go (wl_runV (As := []) (rest := []) C0 hP hS (k_X7_thrown l hst E w3 H.size (s_addCaller F ((xs (i + 1).toNatClampNeg))).2.2 MA mo (nI (s_addCaller F ((xs (i + 1).toNatClampNeg))).1) hm3) (cwV 0 hts gL_law_X7_thrown rfl rfl rfl (by decide +kernel) ⟨(Nat.le_of_ble_eq_true rfl), (Nat.le_of_ble_eq_true rfl)⟩) hm3.x rfl rfl rfl hl.1 (Nat.le_of_ble_eq_true rfl) dL_law_1073 ⟨Nat.le_trans (by omega) hc, Nat.le_trans (by omega) hs9⟩) hS (wA_in hP hS C0.2.2.2.2.2.2.2.2 rfl) (fun X ce q9 w4 H locs hpx => hpx.elim) (fun v w4 H locs hq hP _ hS _ _ => ?_)
  obtain ⟨rfl, hw9⟩ := hq
  rw [hw9] at hP
  refine W.eq (g2 := F0 m 1076 ls [.int (nI (s_addCaller F ((xs (i + 1).toNatClampNeg))).1)]) rfl ?_
  refine lv_iload hx hb dL_law_1076 (lv_at hl 1 rfl) ?_
  refine lv_icmp_eq (tgt := 1083) hx hb dL_law_1078 (by decide) (fun _ => ?_) (fun c9 => absurd rfl c9)
  refine W.widen (k := cells + 20) (n := slots + 100) (by omega) (by omega) ?_
  refine lv_iload hx hb dL_law_1083 (lv_at hl 1 rfl) ?_
  refine lv_if_ne (tgt := 1100) hx hb dL_law_1085 (by decide) (fun _ => ?_) (fun c0 => ?_)
  · refine lv_goto (tgt := 1862) hx hb dL_law_1100 (by decide) ?_
    exact kk _ H locs ls hI3 hP hS (lv_sub hl [2, 3, 4, 5, 6, 7] rfl)
  · have h0 : (s_addCaller F ((xs (i + 1).toNatClampNeg))).1 = 0 := (nI_e0 cb_addCaller).mp c0
    refine lv_aload_n hx hb dL_law_1088 rfl (lv_at hl 6 rfl) ?_
    refine lv_iconst (v := 0) hx hb dL_law_1089 (by decide) ?_
    refine wl_lald C0 hP ho3 (show vp_in (nI 0) 1 from vp_in_nI (by omega) (by omega)) dL_law_1090 ?_
    refine lv_iload hx hb dL_law_1091 (lv_at hl 0 rfl) ?_
    refine lv_i2l (v := ((s_addCaller F ((xs (i + 1).toNatClampNeg))).2.1).toInt64) hx hb dL_law_1093 rfl ?_
    refine W.lcmp hx hb dL_law_1094 ?_
    refine lv_if_eq (tgt := 1100) hx hb dL_law_1095 (by decide) (fun _ => ?_) (fun c2 => absurd (lw_cmp (by rw [lw_z0]; exact hf2 h0)) c2)
    refine lv_goto (tgt := 1862) hx hb dL_law_1100 (by decide) ?_
    exact kk _ H locs ls hI3 hP hS (lv_sub hl [2, 3, 4, 5, 6, 7] rfl)
set_option maxHeartbeats 4000000 in
set_option maxRecDepth 100000 in
theorem lc_setPlan (hst : l.stackTraces = false) (SA : lwA p s m args meth c A E b L xs) (hI : lwI E MA x mo oL oD N w) (hN : N < 512) (h1 : vp_in (i + 1) L) (h2 : vp_in (i + 2) L) (h3 : vp_in (i + 3) L) (h4 : vp_in (i + 4) L) (hP : wP E.1 A w H) (hS : va_S A s.heap H locs) (hl : lv_has ls 9 [(5, .int i), (0, .ref b), (1, .ref x), (2, .ref mo), (3, .ref oL), (4, .ref oD)]) (hc : cells + 20 ≤ room_1.cells) (hs9 : slots + 100 ≤ room_1.slots)
    (kk : ∀ (w2 : wW) (H2 : Heap) (locs2 : List Loc) (ls2 : Array Slot), lwI E MA x mo oL oD (N + 1) w2 → wP E.1 A w2 H2 → va_S A s.heap H2 locs2 → lv_has ls2 9 [(5, .int i), (0, .ref b), (1, .ref x), (2, .ref mo), (3, .ref oL), (4, .ref oD)] → W p l e room_1 s m args below meth c H2 locs2 (cells + 20) (slots + 100) Q (F0 m 1862 ls2 [])) : W p l e room_1 s m args below meth c H locs cells slots Q (F0 m 1103 ls []) := by
  obtain ⟨C0, hnc, hX, hbl, hbA⟩ := SA
  obtain ⟨F, AD, cd, fo, go, hI, hs, rfl, hm, ho, hd⟩ := hI
  have hx := C0.1
  have hb := C0.2.1
  have hts := C0.2.2.2.2.1
  have hn := hI.n
  refine lv_aload_n hx hb dL_law_1103 rfl (lv_at hl 2 rfl) ?_
  refine lv_aload_n hx hb dL_law_1104 rfl (lv_at hl 1 rfl) ?_
  refine lv_iload hx hb dL_law_1105 (lv_at hl 0 rfl) ?_
  refine lv_iconst (v := 1) hx hb dL_law_1107 (by decide) ?_
  refine lv_iadd hx hb dL_law_1108 ?_
  refine va_sld hx hb hX hbl hbA hS h1 dL_law_1109 ?_
  refine lv_aload_n hx hb dL_law_1110 rfl (lv_at hl 1 rfl) ?_
  refine lv_iload hx hb dL_law_1111 (lv_at hl 0 rfl) ?_
  refine lv_iconst (v := 2) hx hb dL_law_1113 (by decide) ?_
  refine lv_iadd hx hb dL_law_1114 ?_
  refine va_sld hx hb hX hbl hbA hS h2 dL_law_1115 ?_
  refine lv_aload_n hx hb dL_law_1116 rfl (lv_at hl 4 rfl) ?_
  refine wl_go (wl_runSN (As := [.ref (AD 5 0), .int (xs (i + 1).toNatClampNeg), .int (xs (i + 2).toNatClampNeg), .ref oL]) (rest := []) C0 hnc hP hS (k_L_setPlan l hst E w H.size F AD N hI hs oL fo ho ((xs (i + 1).toNatClampNeg)) ((xs (i + 2).toNatClampNeg))) (vx_cwSW 4 hts gL_law_L_setPlan rfl rfl rfl (by decide +kernel) ⟨(Nat.le_of_ble_eq_true rfl), (Nat.le_of_ble_eq_true rfl)⟩) rfl rfl hl.1 (Nat.le_of_ble_eq_true rfl) dL_law_1117 ⟨Nat.le_trans (by omega) hc, Nat.le_trans (by omega) hs9⟩) hS (wA_in hP hS C0.2.2.2.2.2.2.2.2 rfl) (fun X ce q9 w2 H locs hpx => hpx.elim) (fun v w2 H locs hq hP _ hS _ _ => ?_)
  obtain ⟨rfl, AD2, hs2, ha2, hk2, f2, ho2, hf2⟩ := hq
  refine W.eq (g2 := F0 m 1120 ls [.int (nI (s_setPlan F ((xs (i + 1).toNatClampNeg)) ((xs (i + 2).toNatClampNeg))).1)]) rfl ?_
  refine lv_istore (lv' := [(6, .int (nI (s_setPlan F ((xs (i + 1).toNatClampNeg)) ((xs (i + 2).toNatClampNeg))).1)), (5, .int i), (0, .ref b), (1, .ref (AD 5 0)), (2, .ref mo), (3, .ref oL), (4, .ref oD)]) hx hb dL_law_1120 hl (by decide) rfl (fun ls hl => ?_)
  refine lv_aload_n hx hb dL_law_1122 rfl (lv_at hl 4 rfl) ?_
  refine lv_aload_n hx hb dL_law_1123 rfl (lv_at hl 2 rfl) ?_
  refine lv_iload hx hb dL_law_1124 (lv_at hl 1 rfl) ?_
  refine lv_iconst (v := 1) hx hb dL_law_1126 (by decide) ?_
  refine lv_iadd hx hb dL_law_1127 ?_
  refine va_sld hx hb hX hbl hbA hS h1 dL_law_1128 ?_
  refine lv_aload_n hx hb dL_law_1129 rfl (lv_at hl 2 rfl) ?_
  refine lv_iload hx hb dL_law_1130 (lv_at hl 1 rfl) ?_
  refine lv_iconst (v := 2) hx hb dL_law_1132 (by decide) ?_
  refine lv_iadd hx hb dL_law_1133 ?_
  refine va_sld hx hb hX hbl hbA hS h2 dL_law_1134 ?_
  have hm2 := lw_mo hm ho hk2
  refine wl_go (wl_runV (As := [.int (xs (i + 1).toNatClampNeg), .int (xs (i + 2).toNatClampNeg)]) (rest := []) C0 hP hS (k_X7_setPlan l hst E w2 H.size F MA mo cd N hI hm2 ((xs (i + 1).toNatClampNeg)) ((xs (i + 2).toNatClampNeg))) (cwV 2 hts gL_law_X7_setPlan rfl rfl rfl (by decide +kernel) ⟨(Nat.le_of_ble_eq_true rfl), (Nat.le_of_ble_eq_true rfl)⟩) hm2.x rfl rfl rfl hl.1 (Nat.le_of_ble_eq_true rfl) dL_law_1135 ⟨Nat.le_trans (by omega) hc, Nat.le_trans (by omega) hs9⟩) hS (wA_in hP hS C0.2.2.2.2.2.2.2.2 rfl) (fun X ce q9 w3 H locs hpx => hpx.elim) (fun v w3 H locs hq hP _ hS _ _ => ?_)
  obtain ⟨rfl, hm3, hk3⟩ := hq
  refine W.eq (g2 := F0 m 1138 ls [.int ((s_setPlan F ((xs (i + 1).toNatClampNeg)) ((xs (i + 2).toNatClampNeg))).2.1)]) rfl ?_
  refine lv_istore (lv' := [(7, .int ((s_setPlan F ((xs (i + 1).toNatClampNeg)) ((xs (i + 2).toNatClampNeg))).2.1)), (6, .int (nI (s_setPlan F ((xs (i + 1).toNatClampNeg)) ((xs (i + 2).toNatClampNeg))).1)), (5, .int i), (0, .ref b), (1, .ref (AD 5 0)), (2, .ref mo), (3, .ref oL), (4, .ref oD)]) hx hb dL_law_1138 hl (by decide) rfl (fun ls hl => ?_)
  refine lv_aload_n hx hb dL_law_1140 rfl (lv_at hl 5 rfl) ?_
  obtain ⟨hI3, ho3⟩ := lw_next (J_setPlan hI hN ((xs (i + 1).toNatClampNeg)) ((xs (i + 2).toNatClampNeg))) hm ho hd hk2 hs2 ha2 ho2 hm3 hk3
  refine wl_go (wl_runV (As := []) (rest := []) C0 hP hS (k_X7_thrown l hst E w3 H.size (s_setPlan F ((xs (i + 1).toNatClampNeg)) ((xs (i + 2).toNatClampNeg))).2.2 MA mo (nI (s_setPlan F ((xs (i + 1).toNatClampNeg)) ((xs (i + 2).toNatClampNeg))).1) hm3) (cwV 0 hts gL_law_X7_thrown rfl rfl rfl (by decide +kernel) ⟨(Nat.le_of_ble_eq_true rfl), (Nat.le_of_ble_eq_true rfl)⟩) hm3.x rfl rfl rfl hl.1 (Nat.le_of_ble_eq_true rfl) dL_law_1141 ⟨Nat.le_trans (by omega) hc, Nat.le_trans (by omega) hs9⟩) hS (wA_in hP hS C0.2.2.2.2.2.2.2.2 rfl) (fun X ce q9 w4 H locs hpx => hpx.elim) (fun v w4 H locs hq hP _ hS _ _ => ?_)
  obtain ⟨rfl, hw9⟩ := hq
  rw [hw9] at hP
  refine W.eq (g2 := F0 m 1144 ls [.int (nI (s_setPlan F ((xs (i + 1).toNatClampNeg)) ((xs (i + 2).toNatClampNeg))).1)]) rfl ?_
  refine lv_iload hx hb dL_law_1144 (lv_at hl 1 rfl) ?_
  refine lv_icmp_eq (tgt := 1151) hx hb dL_law_1146 (by decide) (fun _ => ?_) (fun c9 => absurd rfl c9)
  refine W.widen (k := cells + 20) (n := slots + 100) (by omega) (by omega) ?_
  refine lv_iload hx hb dL_law_1151 (lv_at hl 1 rfl) ?_
  refine lv_if_ne (tgt := 1168) hx hb dL_law_1153 (by decide) (fun _ => ?_) (fun c0 => ?_)
  · refine lv_goto (tgt := 1862) hx hb dL_law_1168 (by decide) ?_
    exact kk _ H locs ls hI3 hP hS (lv_sub hl [2, 3, 4, 5, 6, 7] rfl)
  · have h0 : (s_setPlan F ((xs (i + 1).toNatClampNeg)) ((xs (i + 2).toNatClampNeg))).1 = 0 := (nI_e0 cb_setPlan).mp c0
    refine lv_aload_n hx hb dL_law_1156 rfl (lv_at hl 6 rfl) ?_
    refine lv_iconst (v := 0) hx hb dL_law_1157 (by decide) ?_
    refine wl_lald C0 hP ho3 (show vp_in (nI 0) 1 from vp_in_nI (by omega) (by omega)) dL_law_1158 ?_
    refine lv_iload hx hb dL_law_1159 (lv_at hl 0 rfl) ?_
    refine lv_i2l (v := ((s_setPlan F ((xs (i + 1).toNatClampNeg)) ((xs (i + 2).toNatClampNeg))).2.1).toInt64) hx hb dL_law_1161 rfl ?_
    refine W.lcmp hx hb dL_law_1162 ?_
    refine lv_if_eq (tgt := 1168) hx hb dL_law_1163 (by decide) (fun _ => ?_) (fun c2 => absurd (lw_cmp (by rw [lw_z0]; exact hf2 h0)) c2)
    refine lv_goto (tgt := 1862) hx hb dL_law_1168 (by decide) ?_
    exact kk _ H locs ls hI3 hP hS (lv_sub hl [2, 3, 4, 5, 6, 7] rfl)
set_option maxHeartbeats 4000000 in
set_option maxRecDepth 100000 in
theorem lc_tokens (hst : l.stackTraces = false) (SA : lwA p s m args meth c A E b L xs) (hI : lwI E MA x mo oL oD N w) (hN : N < 512) (h1 : vp_in (i + 1) L) (h2 : vp_in (i + 2) L) (h3 : vp_in (i + 3) L) (h4 : vp_in (i + 4) L) (hP : wP E.1 A w H) (hS : va_S A s.heap H locs) (hl : lv_has ls 9 [(5, .int i), (0, .ref b), (1, .ref x), (2, .ref mo), (3, .ref oL), (4, .ref oD)]) (hc : cells + 20 ≤ room_1.cells) (hs9 : slots + 100 ≤ room_1.slots)
    (kk : ∀ (w2 : wW) (H2 : Heap) (locs2 : List Loc) (ls2 : Array Slot), lwI E MA x mo oL oD (N + 1) w2 → wP E.1 A w2 H2 → va_S A s.heap H2 locs2 → lv_has ls2 9 [(5, .int i), (0, .ref b), (1, .ref x), (2, .ref mo), (3, .ref oL), (4, .ref oD)] → W p l e room_1 s m args below meth c H2 locs2 (cells + 20) (slots + 100) Q (F0 m 1862 ls2 [])) : W p l e room_1 s m args below meth c H locs cells slots Q (F0 m 1171 ls []) := by
  obtain ⟨C0, hnc, hX, hbl, hbA⟩ := SA
  obtain ⟨F, AD, cd, fo, go, hI, hs, rfl, hm, ho, hd⟩ := hI
  have hx := C0.1
  have hb := C0.2.1
  have hts := C0.2.2.2.2.1
  have hn := hI.n
  refine lv_aload_n hx hb dL_law_1171 rfl (lv_at hl 2 rfl) ?_
  refine lv_aload_n hx hb dL_law_1172 rfl (lv_at hl 1 rfl) ?_
  refine lv_iload hx hb dL_law_1173 (lv_at hl 0 rfl) ?_
  refine lv_iconst (v := 1) hx hb dL_law_1175 (by decide) ?_
  refine lv_iadd hx hb dL_law_1176 ?_
  refine va_sld hx hb hX hbl hbA hS h1 dL_law_1177 ?_
  refine lv_aload_n hx hb dL_law_1178 rfl (lv_at hl 4 rfl) ?_
  refine wl_go (wl_runSN (As := [.ref (AD 5 0), .int (xs (i + 1).toNatClampNeg), .ref oL]) (rest := []) C0 hnc hP hS (k_L_tokens l hst E w H.size F AD N hI hs oL fo ho ((xs (i + 1).toNatClampNeg))) (vx_cwSW 3 hts gL_law_L_tokens rfl rfl rfl (by decide +kernel) ⟨(Nat.le_of_ble_eq_true rfl), (Nat.le_of_ble_eq_true rfl)⟩) rfl rfl hl.1 (Nat.le_of_ble_eq_true rfl) dL_law_1179 ⟨Nat.le_trans (by omega) hc, Nat.le_trans (by omega) hs9⟩) hS (wA_in hP hS C0.2.2.2.2.2.2.2.2 rfl) (fun X ce q9 w2 H locs hpx => hpx.elim) (fun v w2 H locs hq hP _ hS _ _ => ?_)
  obtain ⟨rfl, AD2, hs2, ha2, hk2, f2, ho2, hf2⟩ := hq
  refine W.eq (g2 := F0 m 1182 ls [.int (nI (s_tokens F ((xs (i + 1).toNatClampNeg))).1)]) rfl ?_
  refine lv_istore (lv' := [(6, .int (nI (s_tokens F ((xs (i + 1).toNatClampNeg))).1)), (5, .int i), (0, .ref b), (1, .ref (AD 5 0)), (2, .ref mo), (3, .ref oL), (4, .ref oD)]) hx hb dL_law_1182 hl (by decide) rfl (fun ls hl => ?_)
  refine lv_aload_n hx hb dL_law_1184 rfl (lv_at hl 4 rfl) ?_
  refine lv_aload_n hx hb dL_law_1185 rfl (lv_at hl 2 rfl) ?_
  refine lv_iload hx hb dL_law_1186 (lv_at hl 1 rfl) ?_
  refine lv_iconst (v := 1) hx hb dL_law_1188 (by decide) ?_
  refine lv_iadd hx hb dL_law_1189 ?_
  refine va_sld hx hb hX hbl hbA hS h1 dL_law_1190 ?_
  have hm2 := lw_mo hm ho hk2
  refine wl_go (wl_runV (As := [.int (xs (i + 1).toNatClampNeg)]) (rest := []) C0 hP hS (k_X7_tokens l hst E w2 H.size F MA mo cd N hI hm2 ((xs (i + 1).toNatClampNeg))) (cwV 1 hts gL_law_X7_tokens rfl rfl rfl (by decide +kernel) ⟨(Nat.le_of_ble_eq_true rfl), (Nat.le_of_ble_eq_true rfl)⟩) hm2.x rfl rfl rfl hl.1 (Nat.le_of_ble_eq_true rfl) dL_law_1191 ⟨Nat.le_trans (by omega) hc, Nat.le_trans (by omega) hs9⟩) hS (wA_in hP hS C0.2.2.2.2.2.2.2.2 rfl) (fun X ce q9 w3 H locs hpx => hpx.elim) (fun v w3 H locs hq hP _ hS _ _ => ?_)
  obtain ⟨rfl, hm3, hk3⟩ := hq
  refine W.eq (g2 := F0 m 1194 ls [.int ((s_tokens F ((xs (i + 1).toNatClampNeg))).2.1)]) rfl ?_
  refine lv_istore (lv' := [(7, .int ((s_tokens F ((xs (i + 1).toNatClampNeg))).2.1)), (6, .int (nI (s_tokens F ((xs (i + 1).toNatClampNeg))).1)), (5, .int i), (0, .ref b), (1, .ref (AD 5 0)), (2, .ref mo), (3, .ref oL), (4, .ref oD)]) hx hb dL_law_1194 hl (by decide) rfl (fun ls hl => ?_)
  refine lv_aload_n hx hb dL_law_1196 rfl (lv_at hl 5 rfl) ?_
  obtain ⟨hI3, ho3⟩ := lw_next (J_tokens hI hN ((xs (i + 1).toNatClampNeg))) hm ho hd hk2 hs2 ha2 ho2 hm3 hk3
  refine wl_go (wl_runV (As := []) (rest := []) C0 hP hS (k_X7_thrown l hst E w3 H.size (s_tokens F ((xs (i + 1).toNatClampNeg))).2.2 MA mo (nI (s_tokens F ((xs (i + 1).toNatClampNeg))).1) hm3) (cwV 0 hts gL_law_X7_thrown rfl rfl rfl (by decide +kernel) ⟨(Nat.le_of_ble_eq_true rfl), (Nat.le_of_ble_eq_true rfl)⟩) hm3.x rfl rfl rfl hl.1 (Nat.le_of_ble_eq_true rfl) dL_law_1197 ⟨Nat.le_trans (by omega) hc, Nat.le_trans (by omega) hs9⟩) hS (wA_in hP hS C0.2.2.2.2.2.2.2.2 rfl) (fun X ce q9 w4 H locs hpx => hpx.elim) (fun v w4 H locs hq hP _ hS _ _ => ?_)
  obtain ⟨rfl, hw9⟩ := hq
  rw [hw9] at hP
  refine W.eq (g2 := F0 m 1200 ls [.int (nI (s_tokens F ((xs (i + 1).toNatClampNeg))).1)]) rfl ?_
  refine lv_iload hx hb dL_law_1200 (lv_at hl 1 rfl) ?_
  refine lv_icmp_eq (tgt := 1207) hx hb dL_law_1202 (by decide) (fun _ => ?_) (fun c9 => absurd rfl c9)
  refine W.widen (k := cells + 20) (n := slots + 100) (by omega) (by omega) ?_
  refine lv_iload hx hb dL_law_1207 (lv_at hl 1 rfl) ?_
  refine lv_if_ne (tgt := 1224) hx hb dL_law_1209 (by decide) (fun _ => ?_) (fun c0 => ?_)
  · refine lv_goto (tgt := 1862) hx hb dL_law_1224 (by decide) ?_
    exact kk _ H locs ls hI3 hP hS (lv_sub hl [2, 3, 4, 5, 6, 7] rfl)
  · have h0 : (s_tokens F ((xs (i + 1).toNatClampNeg))).1 = 0 := (nI_e0 cb_tokens).mp c0
    refine lv_aload_n hx hb dL_law_1212 rfl (lv_at hl 6 rfl) ?_
    refine lv_iconst (v := 0) hx hb dL_law_1213 (by decide) ?_
    refine wl_lald C0 hP ho3 (show vp_in (nI 0) 1 from vp_in_nI (by omega) (by omega)) dL_law_1214 ?_
    refine lv_iload hx hb dL_law_1215 (lv_at hl 0 rfl) ?_
    refine lv_i2l (v := ((s_tokens F ((xs (i + 1).toNatClampNeg))).2.1).toInt64) hx hb dL_law_1217 rfl ?_
    refine W.lcmp hx hb dL_law_1218 ?_
    refine lv_if_eq (tgt := 1224) hx hb dL_law_1219 (by decide) (fun _ => ?_) (fun c2 => absurd (lw_cmp (by rw [lw_z0]; exact hf2 h0)) c2)
    refine lv_goto (tgt := 1862) hx hb dL_law_1224 (by decide) ?_
    exact kk _ H locs ls hI3 hP hS (lv_sub hl [2, 3, 4, 5, 6, 7] rfl)
set_option maxHeartbeats 4000000 in
set_option maxRecDepth 100000 in
theorem lc_ticksUntil (hst : l.stackTraces = false) (SA : lwA p s m args meth c A E b L xs) (hI : lwI E MA x mo oL oD N w) (hN : N < 512) (h1 : vp_in (i + 1) L) (h2 : vp_in (i + 2) L) (h3 : vp_in (i + 3) L) (h4 : vp_in (i + 4) L) (hP : wP E.1 A w H) (hS : va_S A s.heap H locs) (hl : lv_has ls 9 [(5, .int i), (0, .ref b), (1, .ref x), (2, .ref mo), (3, .ref oL), (4, .ref oD)]) (hc : cells + 20 ≤ room_1.cells) (hs9 : slots + 100 ≤ room_1.slots)
    (kk : ∀ (w2 : wW) (H2 : Heap) (locs2 : List Loc) (ls2 : Array Slot), lwI E MA x mo oL oD (N + 1) w2 → wP E.1 A w2 H2 → va_S A s.heap H2 locs2 → lv_has ls2 9 [(5, .int i), (0, .ref b), (1, .ref x), (2, .ref mo), (3, .ref oL), (4, .ref oD)] → W p l e room_1 s m args below meth c H2 locs2 (cells + 20) (slots + 100) Q (F0 m 1862 ls2 [])) : W p l e room_1 s m args below meth c H locs cells slots Q (F0 m 1227 ls []) := by
  obtain ⟨C0, hnc, hX, hbl, hbA⟩ := SA
  obtain ⟨F, AD, cd, fo, go, hI, hs, rfl, hm, ho, hd⟩ := hI
  have hx := C0.1
  have hb := C0.2.1
  have hts := C0.2.2.2.2.1
  have hn := hI.n
  refine lv_aload_n hx hb dL_law_1227 rfl (lv_at hl 2 rfl) ?_
  refine lv_aload_n hx hb dL_law_1228 rfl (lv_at hl 1 rfl) ?_
  refine lv_iload hx hb dL_law_1229 (lv_at hl 0 rfl) ?_
  refine lv_iconst (v := 1) hx hb dL_law_1231 (by decide) ?_
  refine lv_iadd hx hb dL_law_1232 ?_
  refine va_sld hx hb hX hbl hbA hS h1 dL_law_1233 ?_
  refine lv_aload_n hx hb dL_law_1234 rfl (lv_at hl 1 rfl) ?_
  refine lv_iload hx hb dL_law_1235 (lv_at hl 0 rfl) ?_
  refine lv_iconst (v := 2) hx hb dL_law_1237 (by decide) ?_
  refine lv_iadd hx hb dL_law_1238 ?_
  refine va_sld hx hb hX hbl hbA hS h2 dL_law_1239 ?_
  refine lv_aload_n hx hb dL_law_1240 rfl (lv_at hl 4 rfl) ?_
  refine wl_go (wl_runSN (As := [.ref (AD 5 0), .int (xs (i + 1).toNatClampNeg), .int (xs (i + 2).toNatClampNeg), .ref oL]) (rest := []) C0 hnc hP hS (k_L_ticksUntil l hst E w H.size F AD N hI hs oL fo ho ((xs (i + 1).toNatClampNeg)) ((xs (i + 2).toNatClampNeg))) (vx_cwSW 4 hts gL_law_L_ticksUntil rfl rfl rfl (by decide +kernel) ⟨(Nat.le_of_ble_eq_true rfl), (Nat.le_of_ble_eq_true rfl)⟩) rfl rfl hl.1 (Nat.le_of_ble_eq_true rfl) dL_law_1241 ⟨Nat.le_trans (by omega) hc, Nat.le_trans (by omega) hs9⟩) hS (wA_in hP hS C0.2.2.2.2.2.2.2.2 rfl) (fun X ce q9 w2 H locs hpx => hpx.elim) (fun v w2 H locs hq hP _ hS _ _ => ?_)
  obtain ⟨rfl, AD2, hs2, ha2, hk2, f2, ho2, hf2⟩ := hq
  refine W.eq (g2 := F0 m 1244 ls [.int (nI (s_ticksUntil F ((xs (i + 1).toNatClampNeg)) ((xs (i + 2).toNatClampNeg))).1)]) rfl ?_
  refine lv_istore (lv' := [(6, .int (nI (s_ticksUntil F ((xs (i + 1).toNatClampNeg)) ((xs (i + 2).toNatClampNeg))).1)), (5, .int i), (0, .ref b), (1, .ref (AD 5 0)), (2, .ref mo), (3, .ref oL), (4, .ref oD)]) hx hb dL_law_1244 hl (by decide) rfl (fun ls hl => ?_)
  refine lv_aload_n hx hb dL_law_1246 rfl (lv_at hl 4 rfl) ?_
  refine lv_aload_n hx hb dL_law_1247 rfl (lv_at hl 2 rfl) ?_
  refine lv_iload hx hb dL_law_1248 (lv_at hl 1 rfl) ?_
  refine lv_iconst (v := 1) hx hb dL_law_1250 (by decide) ?_
  refine lv_iadd hx hb dL_law_1251 ?_
  refine va_sld hx hb hX hbl hbA hS h1 dL_law_1252 ?_
  refine lv_aload_n hx hb dL_law_1253 rfl (lv_at hl 2 rfl) ?_
  refine lv_iload hx hb dL_law_1254 (lv_at hl 1 rfl) ?_
  refine lv_iconst (v := 2) hx hb dL_law_1256 (by decide) ?_
  refine lv_iadd hx hb dL_law_1257 ?_
  refine va_sld hx hb hX hbl hbA hS h2 dL_law_1258 ?_
  have hm2 := lw_mo hm ho hk2
  refine wl_go (wl_runV (As := [.int (xs (i + 1).toNatClampNeg), .int (xs (i + 2).toNatClampNeg)]) (rest := []) C0 hP hS (k_X7_ticksUntil l hst E w2 H.size F MA mo cd N hI hm2 ((xs (i + 1).toNatClampNeg)) ((xs (i + 2).toNatClampNeg))) (cwV 2 hts gL_law_X7_ticksUntil rfl rfl rfl (by decide +kernel) ⟨(Nat.le_of_ble_eq_true rfl), (Nat.le_of_ble_eq_true rfl)⟩) hm2.x rfl rfl rfl hl.1 (Nat.le_of_ble_eq_true rfl) dL_law_1259 ⟨Nat.le_trans (by omega) hc, Nat.le_trans (by omega) hs9⟩) hS (wA_in hP hS C0.2.2.2.2.2.2.2.2 rfl) (fun X ce q9 w3 H locs hpx => hpx.elim) (fun v w3 H locs hq hP _ hS _ _ => ?_)
  obtain ⟨rfl, hm3, hk3⟩ := hq
  refine W.eq (g2 := F0 m 1262 ls [.int ((s_ticksUntil F ((xs (i + 1).toNatClampNeg)) ((xs (i + 2).toNatClampNeg))).2.1)]) rfl ?_
  refine lv_istore (lv' := [(7, .int ((s_ticksUntil F ((xs (i + 1).toNatClampNeg)) ((xs (i + 2).toNatClampNeg))).2.1)), (6, .int (nI (s_ticksUntil F ((xs (i + 1).toNatClampNeg)) ((xs (i + 2).toNatClampNeg))).1)), (5, .int i), (0, .ref b), (1, .ref (AD 5 0)), (2, .ref mo), (3, .ref oL), (4, .ref oD)]) hx hb dL_law_1262 hl (by decide) rfl (fun ls hl => ?_)
  refine lv_aload_n hx hb dL_law_1264 rfl (lv_at hl 5 rfl) ?_
  obtain ⟨hI3, ho3⟩ := lw_next (J_ticksUntil hI hN ((xs (i + 1).toNatClampNeg)) ((xs (i + 2).toNatClampNeg))) hm ho hd hk2 hs2 ha2 ho2 hm3 hk3
  refine wl_go (wl_runV (As := []) (rest := []) C0 hP hS (k_X7_thrown l hst E w3 H.size (s_ticksUntil F ((xs (i + 1).toNatClampNeg)) ((xs (i + 2).toNatClampNeg))).2.2 MA mo (nI (s_ticksUntil F ((xs (i + 1).toNatClampNeg)) ((xs (i + 2).toNatClampNeg))).1) hm3) (cwV 0 hts gL_law_X7_thrown rfl rfl rfl (by decide +kernel) ⟨(Nat.le_of_ble_eq_true rfl), (Nat.le_of_ble_eq_true rfl)⟩) hm3.x rfl rfl rfl hl.1 (Nat.le_of_ble_eq_true rfl) dL_law_1265 ⟨Nat.le_trans (by omega) hc, Nat.le_trans (by omega) hs9⟩) hS (wA_in hP hS C0.2.2.2.2.2.2.2.2 rfl) (fun X ce q9 w4 H locs hpx => hpx.elim) (fun v w4 H locs hq hP _ hS _ _ => ?_)
  obtain ⟨rfl, hw9⟩ := hq
  rw [hw9] at hP
  refine W.eq (g2 := F0 m 1268 ls [.int (nI (s_ticksUntil F ((xs (i + 1).toNatClampNeg)) ((xs (i + 2).toNatClampNeg))).1)]) rfl ?_
  refine lv_iload hx hb dL_law_1268 (lv_at hl 1 rfl) ?_
  refine lv_icmp_eq (tgt := 1275) hx hb dL_law_1270 (by decide) (fun _ => ?_) (fun c9 => absurd rfl c9)
  refine W.widen (k := cells + 20) (n := slots + 100) (by omega) (by omega) ?_
  refine lv_iload hx hb dL_law_1275 (lv_at hl 1 rfl) ?_
  refine lv_if_ne (tgt := 1292) hx hb dL_law_1277 (by decide) (fun _ => ?_) (fun c0 => ?_)
  · refine lv_goto (tgt := 1862) hx hb dL_law_1292 (by decide) ?_
    exact kk _ H locs ls hI3 hP hS (lv_sub hl [2, 3, 4, 5, 6, 7] rfl)
  · have h0 : (s_ticksUntil F ((xs (i + 1).toNatClampNeg)) ((xs (i + 2).toNatClampNeg))).1 = 0 := (nI_e0 cb_ticksUntil).mp c0
    refine lv_aload_n hx hb dL_law_1280 rfl (lv_at hl 6 rfl) ?_
    refine lv_iconst (v := 0) hx hb dL_law_1281 (by decide) ?_
    refine wl_lald C0 hP ho3 (show vp_in (nI 0) 1 from vp_in_nI (by omega) (by omega)) dL_law_1282 ?_
    refine lv_iload hx hb dL_law_1283 (lv_at hl 0 rfl) ?_
    refine lv_i2l (v := ((s_ticksUntil F ((xs (i + 1).toNatClampNeg)) ((xs (i + 2).toNatClampNeg))).2.1).toInt64) hx hb dL_law_1285 rfl ?_
    refine W.lcmp hx hb dL_law_1286 ?_
    refine lv_if_eq (tgt := 1292) hx hb dL_law_1287 (by decide) (fun _ => ?_) (fun c2 => absurd (lw_cmp (by rw [lw_z0]; exact hf2 h0)) c2)
    refine lv_goto (tgt := 1862) hx hb dL_law_1292 (by decide) ?_
    exact kk _ H locs ls hI3 hP hS (lv_sub hl [2, 3, 4, 5, 6, 7] rfl)
end LC
