set_option maxHeartbeats 4000000 in
set_option maxRecDepth 100000 in
theorem k_X7_route (l : Launch) (hst : l.stackTraces = false) (E : wEn) (w : wW) (sz : Nat) (F : FF) (MA : Nat → Nat) (mo : Nat) (cd : Int32) (N : Nat) (hI : wInv F N) (hm : wMod E F MA mo cd w) (p1 : Int32) : wM l yX7_route wsX7_route 2 0 0 E w sz [.ref mo, .int p1] (fun v w2 => v = some (.int (s_route F p1).2.1) ∧ wMod E (s_route F p1).2.2 MA mo (nI (s_route F p1).1) w2 ∧ wKm mo MA w w2) (fun _ _ => False) := by
  refine wm_start (own := RX7) (cc := cX7_route) (maxL := 3) (ret := (some .int)) rfl (by decide) rfl (Nat.le_of_ble_eq_true rfl) ?_
  intro p e s m args below meth c ls C0 hr hin ht hP hS hl
  have hx := C0.1
  have hb := C0.2.1
  have hts := C0.2.2.2.2.1
  have hown := C0.2.2.2.1
  have hl : lv_has ls 3 [(0, .ref mo), (1, .int p1)] := hl
  have hf_79 : (Cond.fieldLink RX7 79 "CallGatewayModel" "code" "I").before args s = true := hts _ (by decide +kernel)
  have hi_RX7 : ∀ w ∈ u_ws RX7 TX7 27, w ∈ wsX7_route := fun _ h => List.mem_cons_of_mem _ (List.mem_append_left _ (List.mem_append_right _ h))
  have hn := hI.n
  have hn9 := hI.n
  refine lv_aload_n hx hb dX7_route_0 rfl (lv_at hl 0 rfl) ?_
  refine lv_iconst (v := 0) hx hb dX7_route_1 (by decide) ?_
  refine wl_put (T := TX7) (ty0 := tyX7) (fs2 := [.int 0, .int (nI (F 24 0)), .ref (MA 0), .ref (MA 1), .ref (MA 2), .ref (MA 3), .ref (MA 4), .ref (MA 5), .ref (MA 6), .ref (MA 7), .ref (MA 8), .ref (MA 9), .int (nI (F 24 1)), .ref (MA 10), .ref (MA 11), .ref (MA 12), .int (nI (F 24 2)), .ref (MA 13), .ref (MA 14), .ref (MA 15), .int (nI (F 24 3)), .ref (MA 16), .ref (MA 17), .ref (MA 18), .ref (MA 19), .ref (MA 20), .ref (MA 21)]) C0 hP hS (show w mo = some (.inr (7, [.int cd, .int (nI (F 24 0)), .ref (MA 0), .ref (MA 1), .ref (MA 2), .ref (MA 3), .ref (MA 4), .ref (MA 5), .ref (MA 6), .ref (MA 7), .ref (MA 8), .ref (MA 9), .int (nI (F 24 1)), .ref (MA 10), .ref (MA 11), .ref (MA 12), .int (nI (F 24 2)), .ref (MA 13), .ref (MA 14), .ref (MA 15), .int (nI (F 24 3)), .ref (MA 16), .ref (MA 17), .ref (MA 18), .ref (MA 19), .ref (MA 20), .ref (MA 21)])) from hm.x) hi_RX7 tyX7_ok nmX7 rfl 0 (by decide) hf_79 rfl rfl rfl rfl (Nat.le_of_ble_eq_true rfl) rfl dX7_route_2 (fun H locs hP hS => ?_)
  obtain ⟨w_2_0, hw9, hm_2_0, hk_2_0⟩ : ∃ wz : wW, wz = wU w mo (.inr (7, [.int 0, .int (nI (F 24 0)), .ref (MA 0), .ref (MA 1), .ref (MA 2), .ref (MA 3), .ref (MA 4), .ref (MA 5), .ref (MA 6), .ref (MA 7), .ref (MA 8), .ref (MA 9), .int (nI (F 24 1)), .ref (MA 10), .ref (MA 11), .ref (MA 12), .int (nI (F 24 2)), .ref (MA 13), .ref (MA 14), .ref (MA 15), .int (nI (F 24 3)), .ref (MA 16), .ref (MA 17), .ref (MA 18), .ref (MA 19), .ref (MA 20), .ref (MA 21)])) ∧ wMod E F MA mo (nI 0) wz ∧ wKm mo MA w wz := ⟨_, rfl, M_o (F := F) (G := F) (cd2 := nI 0) hm (fun a b h => rfl), wKm.rf.tr wKm.o⟩
  rw [← hw9] at hP
  refine lv_iload_n hx hb dX7_route_5 rfl (lv_at hl 1 rfl) ?_
  refine wl_on C0 ht hP hS (wl_runS (As := [.int p1]) (rest := []) C0 hP hS (k_X7_isPath l hst E w_2_0 H.size p1) (va_cwS 1 hts gX7_route_X7_isPath rfl rfl rfl (by decide +kernel) ⟨(Nat.le_of_ble_eq_true rfl), (Nat.le_of_ble_eq_true rfl)⟩) rfl rfl hl.1 (Nat.le_of_ble_eq_true rfl) dX7_route_6 ⟨(Nat.le_of_ble_eq_true rfl), (Nat.le_of_ble_eq_true rfl)⟩) (Nat.le_of_ble_eq_true rfl) (Nat.le_of_ble_eq_true rfl) (fun _ _ h => h.elim) (fun v_6 w_6 H locs hq hP hS => ?_)
  obtain ⟨rfl, hw9⟩ := hq
  rw [hw9] at hP
  refine W.eq (g2 := F0 m 9 ls [.int (bI (pathB p1))]) rfl ?_
  refine lv_if_ne (tgt := 18) hx hb dX7_route_9 (by decide) (fun c_9 => ?_) (fun c_9 => ?_)
  · have q9 : pathB p1 = true := bI_n.mp c_9
    have hpt := path_tn q9
    have hl : lv_has ls 3 [(0, .ref mo), (1, .int (nI (tn p1)))] := by
      rw [hpt.1]
      exact hl
    refine lv_aload_n hx hb dX7_route_18 rfl (lv_at hl 0 rfl) ?_
    refine lv_iload_n hx hb dX7_route_19 rfl (lv_at hl 1 rfl) ?_
    refine wl_on C0 ht hP hS (wl_runV (As := [.int (nI (tn p1))]) (rest := []) C0 hP hS (k_X7_goes l hst E w_2_0 H.size F MA mo (nI 0) N hI hm_2_0 (tn p1) hpt.2) (cwV 1 hts gX7_route_X7_goes rfl rfl rfl (by decide +kernel) ⟨(Nat.le_of_ble_eq_true rfl), (Nat.le_of_ble_eq_true rfl)⟩) (show w_2_0 mo = some (.inr (7, [.int (nI 0), .int (nI (F 24 0)), .ref (MA 0), .ref (MA 1), .ref (MA 2), .ref (MA 3), .ref (MA 4), .ref (MA 5), .ref (MA 6), .ref (MA 7), .ref (MA 8), .ref (MA 9), .int (nI (F 24 1)), .ref (MA 10), .ref (MA 11), .ref (MA 12), .int (nI (F 24 2)), .ref (MA 13), .ref (MA 14), .ref (MA 15), .int (nI (F 24 3)), .ref (MA 16), .ref (MA 17), .ref (MA 18), .ref (MA 19), .ref (MA 20), .ref (MA 21)])) from hm_2_0.x) rfl rfl rfl hl.1 (Nat.le_of_ble_eq_true rfl) dX7_route_20 ⟨(Nat.le_of_ble_eq_true rfl), (Nat.le_of_ble_eq_true rfl)⟩) (Nat.le_of_ble_eq_true rfl) (Nat.le_of_ble_eq_true rfl) (fun _ _ h => h.elim) (fun v_20 w_20 H locs hq hP hS => ?_)
    obtain ⟨rfl, hw9⟩ := hq
    rw [hw9] at hP
    refine W.eq (g2 := F0 m 23 ls [.int (xI F (gN F 4 (tn p1)))]) rfl ?_
    by_cases h_23 : gN F 4 (tn p1) < F 24 0
    · refine W.eq (g2 := F0 m 23 ls [.int (nI (gN F 4 (tn p1)))]) (by rw [xI_in h_23]) ?_
      refine lv_istore_n (lv' := [(2, .int (nI (gN F 4 (tn p1)))), (0, .ref mo), (1, .int (nI (tn p1)))]) hx hb dX7_route_23 rfl hl (by decide) rfl (fun ls hl => ?_)
      refine lv_iload_n hx hb dX7_route_24 rfl (lv_at hl 0 rfl) ?_
      refine lv_iconst (v := -1) hx hb dX7_route_25 (by decide) ?_
      refine lv_icmp_ne (tgt := 37) hx hb dX7_route_26 (by decide) (fun c_26 => ?_) (fun c_26 => ?_)
      · refine lv_iload_n hx hb dX7_route_37 rfl (lv_at hl 0 rfl) ?_
        have hev : s_route F p1 = (0, nI (gN F 4 (tn p1)), F) := by simp [s_route, q9, h_23]
        exact wl_iret C0 hr rfl hP hS dX7_route_38 (Nat.le_of_ble_eq_true rfl) (Nat.le_of_ble_eq_true rfl) (⟨by rw [hev], by rw [hev]; exact hm_2_0, hk_2_0⟩)
      · exact absurd c_26 (nI_m1 (by omega))
    · refine W.eq (g2 := F0 m 23 ls [.int (-1)]) (by rw [xI_no h_23]) ?_
      refine lv_istore_n (lv' := [(2, .int (-1)), (0, .ref mo), (1, .int (nI (tn p1)))]) hx hb dX7_route_23 rfl hl (by decide) rfl (fun ls hl => ?_)
      refine lv_iload_n hx hb dX7_route_24 rfl (lv_at hl 0 rfl) ?_
      refine lv_iconst (v := -1) hx hb dX7_route_25 (by decide) ?_
      refine lv_icmp_ne (tgt := 37) hx hb dX7_route_26 (by decide) (fun c_26 => ?_) (fun c_26 => ?_)
      · exact absurd rfl c_26
      · refine lv_aload_n hx hb dX7_route_29 rfl (lv_at hl 1 rfl) ?_
        refine lv_iconst (v := 2) hx hb dX7_route_30 (by decide) ?_
        refine wl_on C0 ht hP hS (wl_runV (As := [.int 2]) (rest := []) C0 hP hS (k_X7_fails l hst E w_2_0 H.size F MA mo (nI 0) 2 hm_2_0) (cwV 1 hts gX7_route_X7_fails rfl rfl rfl (by decide +kernel) ⟨(Nat.le_of_ble_eq_true rfl), (Nat.le_of_ble_eq_true rfl)⟩) (show w_2_0 mo = some (.inr (7, [.int (nI 0), .int (nI (F 24 0)), .ref (MA 0), .ref (MA 1), .ref (MA 2), .ref (MA 3), .ref (MA 4), .ref (MA 5), .ref (MA 6), .ref (MA 7), .ref (MA 8), .ref (MA 9), .int (nI (F 24 1)), .ref (MA 10), .ref (MA 11), .ref (MA 12), .int (nI (F 24 2)), .ref (MA 13), .ref (MA 14), .ref (MA 15), .int (nI (F 24 3)), .ref (MA 16), .ref (MA 17), .ref (MA 18), .ref (MA 19), .ref (MA 20), .ref (MA 21)])) from hm_2_0.x) rfl rfl rfl hl.1 (Nat.le_of_ble_eq_true rfl) dX7_route_31 ⟨(Nat.le_of_ble_eq_true rfl), (Nat.le_of_ble_eq_true rfl)⟩) (Nat.le_of_ble_eq_true rfl) (Nat.le_of_ble_eq_true rfl) (fun _ _ h => h.elim) (fun v_31 w_31 H locs hq hP hS => ?_)
        obtain ⟨rfl, hm_31_1, hk2_31_1⟩ := hq
        have hk_31_1 := hk_2_0.tr hk2_31_1
        refine W.eq (g2 := F0 m 34 ls [.int 0]) rfl ?_
        refine lv_goto (tgt := 38) hx hb dX7_route_34 (by decide) ?_
        have hev : s_route F p1 = (2, 0, F) := by simp [s_route, q9, h_23]
        exact wl_iret C0 hr rfl hP hS dX7_route_38 (Nat.le_of_ble_eq_true rfl) (Nat.le_of_ble_eq_true rfl) (⟨by rw [hev], by rw [hev]; exact hm_31_1, hk_31_1⟩)
  · have q9 : pathB p1 = false := bI_0.mp c_9
    refine lv_aload_n hx hb dX7_route_12 rfl (lv_at hl 0 rfl) ?_
    refine lv_iconst (v := 1) hx hb dX7_route_13 (by decide) ?_
    refine wl_on C0 ht hP hS (wl_runV (As := [.int 1]) (rest := []) C0 hP hS (k_X7_fails l hst E w_2_0 H.size F MA mo (nI 0) 1 hm_2_0) (cwV 1 hts gX7_route_X7_fails rfl rfl rfl (by decide +kernel) ⟨(Nat.le_of_ble_eq_true rfl), (Nat.le_of_ble_eq_true rfl)⟩) (show w_2_0 mo = some (.inr (7, [.int (nI 0), .int (nI (F 24 0)), .ref (MA 0), .ref (MA 1), .ref (MA 2), .ref (MA 3), .ref (MA 4), .ref (MA 5), .ref (MA 6), .ref (MA 7), .ref (MA 8), .ref (MA 9), .int (nI (F 24 1)), .ref (MA 10), .ref (MA 11), .ref (MA 12), .int (nI (F 24 2)), .ref (MA 13), .ref (MA 14), .ref (MA 15), .int (nI (F 24 3)), .ref (MA 16), .ref (MA 17), .ref (MA 18), .ref (MA 19), .ref (MA 20), .ref (MA 21)])) from hm_2_0.x) rfl rfl rfl hl.1 (Nat.le_of_ble_eq_true rfl) dX7_route_14 ⟨(Nat.le_of_ble_eq_true rfl), (Nat.le_of_ble_eq_true rfl)⟩) (Nat.le_of_ble_eq_true rfl) (Nat.le_of_ble_eq_true rfl) (fun _ _ h => h.elim) (fun v_14 w_14 H locs hq hP hS => ?_)
    obtain ⟨rfl, hm_14_2, hk2_14_2⟩ := hq
    have hk_14_2 := hk_2_0.tr hk2_14_2
    refine W.eq (g2 := F0 m 17 ls [.int 0]) rfl ?_
    have hev : s_route F p1 = (1, 0, F) := by simp [s_route, q9]
    exact wl_iret C0 hr rfl hP hS dX7_route_17 (Nat.le_of_ble_eq_true rfl) (Nat.le_of_ble_eq_true rfl) (⟨by rw [hev], by rw [hev]; exact hm_14_2, hk_14_2⟩)

set_option maxHeartbeats 4000000 in
set_option maxRecDepth 100000 in
theorem k_X7_routeByComparing (l : Launch) (hst : l.stackTraces = false) (E : wEn) (w : wW) (sz : Nat) (F : FF) (MA : Nat → Nat) (mo : Nat) (cd : Int32) (N : Nat) (hI : wInv F N) (hm : wMod E F MA mo cd w) (p1 : Int32) : wM l yX7_routeByComparing wsX7_routeByComparing 3 0 0 E w sz [.ref mo, .int p1] (fun v w2 => v = some (.int (s_route F p1).2.1) ∧ wMod E (s_route F p1).2.2 MA mo (nI (s_route F p1).1) w2 ∧ wKm mo MA w w2) (fun _ _ => False) := by
  refine wm_start (own := RX7) (cc := cX7_routeByComparing) (maxL := 2) (ret := (some .int)) rfl (by decide) rfl (Nat.le_of_ble_eq_true rfl) ?_
  intro p e s m args below meth c ls C0 hr hin ht hP hS hl
  have hx := C0.1
  have hb := C0.2.1
  have hts := C0.2.2.2.2.1
  have hown := C0.2.2.2.1
  have hl : lv_has ls 2 [(0, .ref mo), (1, .int p1)] := hl
  have hn := hI.n
  have hn9 := hI.n
  refine lv_aload_n hx hb dX7_routeByComparing_0 rfl (lv_at hl 0 rfl) ?_
  refine lv_iload_n hx hb dX7_routeByComparing_1 rfl (lv_at hl 1 rfl) ?_
  refine wl_on C0 ht hP hS (wl_runV (As := [.int p1]) (rest := []) C0 hP hS (k_X7_route l hst E w s.heap.size F MA mo cd N hI hm p1) (cwV 1 hts gX7_routeByComparing_X7_route rfl rfl rfl (by decide +kernel) ⟨(Nat.le_of_ble_eq_true rfl), (Nat.le_of_ble_eq_true rfl)⟩) (show w mo = some (.inr (7, [.int cd, .int (nI (F 24 0)), .ref (MA 0), .ref (MA 1), .ref (MA 2), .ref (MA 3), .ref (MA 4), .ref (MA 5), .ref (MA 6), .ref (MA 7), .ref (MA 8), .ref (MA 9), .int (nI (F 24 1)), .ref (MA 10), .ref (MA 11), .ref (MA 12), .int (nI (F 24 2)), .ref (MA 13), .ref (MA 14), .ref (MA 15), .int (nI (F 24 3)), .ref (MA 16), .ref (MA 17), .ref (MA 18), .ref (MA 19), .ref (MA 20), .ref (MA 21)])) from hm.x) rfl rfl rfl hl.1 (Nat.le_of_ble_eq_true rfl) dX7_routeByComparing_2 ⟨(Nat.le_of_ble_eq_true rfl), (Nat.le_of_ble_eq_true rfl)⟩) (Nat.le_of_ble_eq_true rfl) (Nat.le_of_ble_eq_true rfl) (fun _ _ h => h.elim) (fun v_2 w_2 H locs hq hP hS => ?_)
  obtain ⟨rfl, hm9, hk9⟩ := hq
  refine W.eq (g2 := F0 m 5 ls [.int ((s_route F p1).2.1)]) rfl ?_
  exact wl_iret C0 hr rfl hP hS dX7_routeByComparing_5 (Nat.le_of_ble_eq_true rfl) (Nat.le_of_ble_eq_true rfl) (⟨rfl, hm9, hk9⟩)

set_option maxHeartbeats 4000000 in
set_option maxRecDepth 100000 in
theorem k_X7_addRoute (l : Launch) (hst : l.stackTraces = false) (E : wEn) (w : wW) (sz : Nat) (F : FF) (MA : Nat → Nat) (mo : Nat) (cd : Int32) (N : Nat) (hI : wInv F N) (hm : wMod E F MA mo cd w) (p1 c1 l1 g1 : Int32) : wM l yX7_addRoute wsX7_addRoute 2 0 0 E w sz [.ref mo, .int p1, .int c1, .int l1, .int g1] (fun v w2 => v = some (.int (s_addRoute F p1 c1 l1 g1).2.1) ∧ wMod E (s_addRoute F p1 c1 l1 g1).2.2 MA mo (nI (s_addRoute F p1 c1 l1 g1).1) w2 ∧ wKm mo MA w w2) (fun _ _ => False) := by
  refine wm_start (own := RX7) (cc := cX7_addRoute) (maxL := 5) (ret := (some .int)) rfl (by decide) rfl (Nat.le_of_ble_eq_true rfl) ?_
  intro p e s m args below meth c ls C0 hr hin ht hP hS hl
  have hx := C0.1
  have hb := C0.2.1
  have hts := C0.2.2.2.2.1
  have hown := C0.2.2.2.1
  have hl : lv_has ls 5 [(0, .ref mo), (1, .int p1), (2, .int c1), (3, .int l1), (4, .int g1)] := hl
  have hf_79 : (Cond.fieldLink RX7 79 "CallGatewayModel" "code" "I").before args s = true := hts _ (by decide +kernel)
  have hf_83 : (Cond.fieldLink RX7 83 "CallGatewayModel" "routes" "I").before args s = true := hts _ (by decide +kernel)
  have hf_7 : (Cond.fieldLink RX7 7 "CallGatewayModel" "paths" "[I").before args s = true := hts _ (by decide +kernel)
  have hf_13 : (Cond.fieldLink RX7 13 "CallGatewayModel" "costs" "[I").before args s = true := hts _ (by decide +kernel)
  have hf_16 : (Cond.fieldLink RX7 16 "CallGatewayModel" "leasts" "[I").before args s = true := hts _ (by decide +kernel)
  have hf_19 : (Cond.fieldLink RX7 19 "CallGatewayModel" "greatests" "[I").before args s = true := hts _ (by decide +kernel)
  have hi_RX7 : ∀ w ∈ u_ws RX7 TX7 27, w ∈ wsX7_addRoute := fun _ h => List.mem_cons_of_mem _ (List.mem_append_left _ (List.mem_append_right _ h))
  have hn := hI.n
  have hn9 := hI.n
  refine lv_aload_n hx hb dX7_addRoute_0 rfl (lv_at hl 0 rfl) ?_
  refine lv_iconst (v := 0) hx hb dX7_addRoute_1 (by decide) ?_
  refine wl_put (T := TX7) (ty0 := tyX7) (fs2 := [.int 0, .int (nI (F 24 0)), .ref (MA 0), .ref (MA 1), .ref (MA 2), .ref (MA 3), .ref (MA 4), .ref (MA 5), .ref (MA 6), .ref (MA 7), .ref (MA 8), .ref (MA 9), .int (nI (F 24 1)), .ref (MA 10), .ref (MA 11), .ref (MA 12), .int (nI (F 24 2)), .ref (MA 13), .ref (MA 14), .ref (MA 15), .int (nI (F 24 3)), .ref (MA 16), .ref (MA 17), .ref (MA 18), .ref (MA 19), .ref (MA 20), .ref (MA 21)]) C0 hP hS (show w mo = some (.inr (7, [.int cd, .int (nI (F 24 0)), .ref (MA 0), .ref (MA 1), .ref (MA 2), .ref (MA 3), .ref (MA 4), .ref (MA 5), .ref (MA 6), .ref (MA 7), .ref (MA 8), .ref (MA 9), .int (nI (F 24 1)), .ref (MA 10), .ref (MA 11), .ref (MA 12), .int (nI (F 24 2)), .ref (MA 13), .ref (MA 14), .ref (MA 15), .int (nI (F 24 3)), .ref (MA 16), .ref (MA 17), .ref (MA 18), .ref (MA 19), .ref (MA 20), .ref (MA 21)])) from hm.x) hi_RX7 tyX7_ok nmX7 rfl 0 (by decide) hf_79 rfl rfl rfl rfl (Nat.le_of_ble_eq_true rfl) rfl dX7_addRoute_2 (fun H locs hP hS => ?_)
  obtain ⟨w_2_0, hw9, hm_2_0, hk_2_0⟩ : ∃ wz : wW, wz = wU w mo (.inr (7, [.int 0, .int (nI (F 24 0)), .ref (MA 0), .ref (MA 1), .ref (MA 2), .ref (MA 3), .ref (MA 4), .ref (MA 5), .ref (MA 6), .ref (MA 7), .ref (MA 8), .ref (MA 9), .int (nI (F 24 1)), .ref (MA 10), .ref (MA 11), .ref (MA 12), .int (nI (F 24 2)), .ref (MA 13), .ref (MA 14), .ref (MA 15), .int (nI (F 24 3)), .ref (MA 16), .ref (MA 17), .ref (MA 18), .ref (MA 19), .ref (MA 20), .ref (MA 21)])) ∧ wMod E F MA mo (nI 0) wz ∧ wKm mo MA w wz := ⟨_, rfl, M_o (F := F) (G := F) (cd2 := nI 0) hm (fun a b h => rfl), wKm.rf.tr wKm.o⟩
  rw [← hw9] at hP
  refine lv_iload_n hx hb dX7_addRoute_5 rfl (lv_at hl 1 rfl) ?_
  refine wl_on C0 ht hP hS (wl_runS (As := [.int p1]) (rest := []) C0 hP hS (k_X7_isPath l hst E w_2_0 H.size p1) (va_cwS 1 hts gX7_addRoute_X7_isPath rfl rfl rfl (by decide +kernel) ⟨(Nat.le_of_ble_eq_true rfl), (Nat.le_of_ble_eq_true rfl)⟩) rfl rfl hl.1 (Nat.le_of_ble_eq_true rfl) dX7_addRoute_6 ⟨(Nat.le_of_ble_eq_true rfl), (Nat.le_of_ble_eq_true rfl)⟩) (Nat.le_of_ble_eq_true rfl) (Nat.le_of_ble_eq_true rfl) (fun _ _ h => h.elim) (fun v_6 w_6 H locs hq hP hS => ?_)
  obtain ⟨rfl, hw9⟩ := hq
  rw [hw9] at hP
  refine W.eq (g2 := F0 m 9 ls [.int (bI (pathB p1))]) rfl ?_
  refine lv_if_eq (tgt := 39) hx hb dX7_addRoute_9 (by decide) (fun c_9 => ?_) (fun c_9 => ?_)
  · have q9 : pathB p1 = false := bI_0.mp c_9
    refine lv_aload_n hx hb dX7_addRoute_39 rfl (lv_at hl 0 rfl) ?_
    refine lv_iconst (v := 1) hx hb dX7_addRoute_40 (by decide) ?_
    refine wl_on C0 ht hP hS (wl_runV (As := [.int 1]) (rest := []) C0 hP hS (k_X7_fails l hst E w_2_0 H.size F MA mo (nI 0) 1 hm_2_0) (cwV 1 hts gX7_addRoute_X7_fails rfl rfl rfl (by decide +kernel) ⟨(Nat.le_of_ble_eq_true rfl), (Nat.le_of_ble_eq_true rfl)⟩) (show w_2_0 mo = some (.inr (7, [.int (nI 0), .int (nI (F 24 0)), .ref (MA 0), .ref (MA 1), .ref (MA 2), .ref (MA 3), .ref (MA 4), .ref (MA 5), .ref (MA 6), .ref (MA 7), .ref (MA 8), .ref (MA 9), .int (nI (F 24 1)), .ref (MA 10), .ref (MA 11), .ref (MA 12), .int (nI (F 24 2)), .ref (MA 13), .ref (MA 14), .ref (MA 15), .int (nI (F 24 3)), .ref (MA 16), .ref (MA 17), .ref (MA 18), .ref (MA 19), .ref (MA 20), .ref (MA 21)])) from hm_2_0.x) rfl rfl rfl hl.1 (Nat.le_of_ble_eq_true rfl) dX7_addRoute_41 ⟨(Nat.le_of_ble_eq_true rfl), (Nat.le_of_ble_eq_true rfl)⟩) (Nat.le_of_ble_eq_true rfl) (Nat.le_of_ble_eq_true rfl) (fun _ _ h => h.elim) (fun v_41 w_41 H locs hq hP hS => ?_)
    obtain ⟨rfl, hm_41_1, hk2_41_1⟩ := hq
    have hk_41_1 := hk_2_0.tr hk2_41_1
    refine W.eq (g2 := F0 m 44 ls [.int 0]) rfl ?_
    have hev : s_addRoute F p1 c1 l1 g1 = (1, 0, F) := by simp [s_addRoute, q9]
    exact wl_iret C0 hr rfl hP hS dX7_addRoute_44 (Nat.le_of_ble_eq_true rfl) (Nat.le_of_ble_eq_true rfl) (⟨by rw [hev], by rw [hev]; exact hm_41_1, hk_41_1⟩)
  · have q9 : pathB p1 = true := bI_n.mp c_9
    have hpt := path_tn q9
    have hl : lv_has ls 5 [(0, .ref mo), (1, .int (nI (tn p1))), (2, .int c1), (3, .int l1), (4, .int g1)] := by
      rw [hpt.1]
      exact hl
    refine lv_iload_n hx hb dX7_addRoute_12 rfl (lv_at hl 2 rfl) ?_
    refine lv_iconst (v := 1) hx hb dX7_addRoute_13 (by decide) ?_
    refine lv_iconst (v := 5) hx hb dX7_addRoute_14 (by decide) ?_
    refine wl_on C0 ht hP hS (wl_runS (As := [.int c1, .int 1, .int 5]) (rest := []) C0 hP hS (k_X7_in l hst E w_2_0 H.size c1 1 5) (va_cwS 3 hts gX7_addRoute_X7_in rfl rfl rfl (by decide +kernel) ⟨(Nat.le_of_ble_eq_true rfl), (Nat.le_of_ble_eq_true rfl)⟩) rfl rfl hl.1 (Nat.le_of_ble_eq_true rfl) dX7_addRoute_15 ⟨(Nat.le_of_ble_eq_true rfl), (Nat.le_of_ble_eq_true rfl)⟩) (Nat.le_of_ble_eq_true rfl) (Nat.le_of_ble_eq_true rfl) (fun _ _ h => h.elim) (fun v_15 w_15 H locs hq hP hS => ?_)
    obtain ⟨rfl, hw9⟩ := hq
    rw [hw9] at hP
    refine W.eq (g2 := F0 m 18 ls [.int (bI (wi c1 1 5))]) rfl ?_
    refine lv_if_eq (tgt := 39) hx hb dX7_addRoute_18 (by decide) (fun c_18 => ?_) (fun c_18 => ?_)
    · have q18 : wi c1 1 5 = false := bI_0.mp c_18
      refine lv_aload_n hx hb dX7_addRoute_39 rfl (lv_at hl 0 rfl) ?_
      refine lv_iconst (v := 1) hx hb dX7_addRoute_40 (by decide) ?_
      refine wl_on C0 ht hP hS (wl_runV (As := [.int 1]) (rest := []) C0 hP hS (k_X7_fails l hst E w_2_0 H.size F MA mo (nI 0) 1 hm_2_0) (cwV 1 hts gX7_addRoute_X7_fails rfl rfl rfl (by decide +kernel) ⟨(Nat.le_of_ble_eq_true rfl), (Nat.le_of_ble_eq_true rfl)⟩) (show w_2_0 mo = some (.inr (7, [.int (nI 0), .int (nI (F 24 0)), .ref (MA 0), .ref (MA 1), .ref (MA 2), .ref (MA 3), .ref (MA 4), .ref (MA 5), .ref (MA 6), .ref (MA 7), .ref (MA 8), .ref (MA 9), .int (nI (F 24 1)), .ref (MA 10), .ref (MA 11), .ref (MA 12), .int (nI (F 24 2)), .ref (MA 13), .ref (MA 14), .ref (MA 15), .int (nI (F 24 3)), .ref (MA 16), .ref (MA 17), .ref (MA 18), .ref (MA 19), .ref (MA 20), .ref (MA 21)])) from hm_2_0.x) rfl rfl rfl hl.1 (Nat.le_of_ble_eq_true rfl) dX7_addRoute_41 ⟨(Nat.le_of_ble_eq_true rfl), (Nat.le_of_ble_eq_true rfl)⟩) (Nat.le_of_ble_eq_true rfl) (Nat.le_of_ble_eq_true rfl) (fun _ _ h => h.elim) (fun v_41 w_41 H locs hq hP hS => ?_)
      obtain ⟨rfl, hm_41_2, hk2_41_2⟩ := hq
      have hk_41_2 := hk_2_0.tr hk2_41_2
      refine W.eq (g2 := F0 m 44 ls [.int 0]) rfl ?_
      have hev : s_addRoute F p1 c1 l1 g1 = (1, 0, F) := by simp [s_addRoute, q9, q18]
      exact wl_iret C0 hr rfl hP hS dX7_addRoute_44 (Nat.le_of_ble_eq_true rfl) (Nat.le_of_ble_eq_true rfl) (⟨by rw [hev], by rw [hev]; exact hm_41_2, hk_41_2⟩)
    · have q18 : wi c1 1 5 = true := bI_n.mp c_18
      have hct := wi_tn (lo := 1) (hi := 5) q18 (by omega) (by omega)
      have hl : lv_has ls 5 [(0, .ref mo), (1, .int (nI (tn p1))), (2, .int (nI (tn c1))), (3, .int l1), (4, .int g1)] := by
        rw [hct.1]
        exact hl
      refine lv_iload_n hx hb dX7_addRoute_21 rfl (lv_at hl 3 rfl) ?_
      refine lv_iload hx hb dX7_addRoute_22 (lv_at hl 4 rfl) ?_
      refine wl_on C0 ht hP hS (wl_runS (As := [.int l1, .int g1]) (rest := []) C0 hP hS (k_X7_isContract l hst E w_2_0 H.size l1 g1) (va_cwS 2 hts gX7_addRoute_X7_isContract rfl rfl rfl (by decide +kernel) ⟨(Nat.le_of_ble_eq_true rfl), (Nat.le_of_ble_eq_true rfl)⟩) rfl rfl hl.1 (Nat.le_of_ble_eq_true rfl) dX7_addRoute_24 ⟨(Nat.le_of_ble_eq_true rfl), (Nat.le_of_ble_eq_true rfl)⟩) (Nat.le_of_ble_eq_true rfl) (Nat.le_of_ble_eq_true rfl) (fun _ _ h => h.elim) (fun v_24 w_24 H locs hq hP hS => ?_)
      obtain ⟨rfl, hw9⟩ := hq
      rw [hw9] at hP
      refine W.eq (g2 := F0 m 27 ls [.int (bI (ctr l1 g1))]) rfl ?_
      refine lv_if_eq (tgt := 39) hx hb dX7_addRoute_27 (by decide) (fun c_27 => ?_) (fun c_27 => ?_)
      · have q27 : ctr l1 g1 = false := bI_0.mp c_27
        refine lv_aload_n hx hb dX7_addRoute_39 rfl (lv_at hl 0 rfl) ?_
        refine lv_iconst (v := 1) hx hb dX7_addRoute_40 (by decide) ?_
        refine wl_on C0 ht hP hS (wl_runV (As := [.int 1]) (rest := []) C0 hP hS (k_X7_fails l hst E w_2_0 H.size F MA mo (nI 0) 1 hm_2_0) (cwV 1 hts gX7_addRoute_X7_fails rfl rfl rfl (by decide +kernel) ⟨(Nat.le_of_ble_eq_true rfl), (Nat.le_of_ble_eq_true rfl)⟩) (show w_2_0 mo = some (.inr (7, [.int (nI 0), .int (nI (F 24 0)), .ref (MA 0), .ref (MA 1), .ref (MA 2), .ref (MA 3), .ref (MA 4), .ref (MA 5), .ref (MA 6), .ref (MA 7), .ref (MA 8), .ref (MA 9), .int (nI (F 24 1)), .ref (MA 10), .ref (MA 11), .ref (MA 12), .int (nI (F 24 2)), .ref (MA 13), .ref (MA 14), .ref (MA 15), .int (nI (F 24 3)), .ref (MA 16), .ref (MA 17), .ref (MA 18), .ref (MA 19), .ref (MA 20), .ref (MA 21)])) from hm_2_0.x) rfl rfl rfl hl.1 (Nat.le_of_ble_eq_true rfl) dX7_addRoute_41 ⟨(Nat.le_of_ble_eq_true rfl), (Nat.le_of_ble_eq_true rfl)⟩) (Nat.le_of_ble_eq_true rfl) (Nat.le_of_ble_eq_true rfl) (fun _ _ h => h.elim) (fun v_41 w_41 H locs hq hP hS => ?_)
        obtain ⟨rfl, hm_41_3, hk2_41_3⟩ := hq
        have hk_41_3 := hk_2_0.tr hk2_41_3
        refine W.eq (g2 := F0 m 44 ls [.int 0]) rfl ?_
        have hev : s_addRoute F p1 c1 l1 g1 = (1, 0, F) := by simp [s_addRoute, q9, q18, q27]
        exact wl_iret C0 hr rfl hP hS dX7_addRoute_44 (Nat.le_of_ble_eq_true rfl) (Nat.le_of_ble_eq_true rfl) (⟨by rw [hev], by rw [hev]; exact hm_41_3, hk_41_3⟩)
      · have q27 : ctr l1 g1 = true := bI_n.mp c_27
        have hgt := ctr_tn q27
        have hl : lv_has ls 5 [(0, .ref mo), (1, .int (nI (tn p1))), (2, .int (nI (tn c1))), (3, .int (nI (tn l1))), (4, .int g1)] := by
          rw [hgt.1]
          exact hl
        have hl : lv_has ls 5 [(0, .ref mo), (1, .int (nI (tn p1))), (2, .int (nI (tn c1))), (3, .int (nI (tn l1))), (4, .int (nI (tn g1)))] := by
          rw [hgt.2.1]
          exact hl
        refine lv_aload_n hx hb dX7_addRoute_30 rfl (lv_at hl 0 rfl) ?_
        refine lv_iload_n hx hb dX7_addRoute_31 rfl (lv_at hl 1 rfl) ?_
        refine wl_on C0 ht hP hS (wl_runV (As := [.int (nI (tn p1))]) (rest := []) C0 hP hS (k_X7_withPath l hst E w_2_0 H.size F MA mo (nI 0) N hI hm_2_0 (tn p1) hpt.2) (cwV 1 hts gX7_addRoute_X7_withPath rfl rfl rfl (by decide +kernel) ⟨(Nat.le_of_ble_eq_true rfl), (Nat.le_of_ble_eq_true rfl)⟩) (show w_2_0 mo = some (.inr (7, [.int (nI 0), .int (nI (F 24 0)), .ref (MA 0), .ref (MA 1), .ref (MA 2), .ref (MA 3), .ref (MA 4), .ref (MA 5), .ref (MA 6), .ref (MA 7), .ref (MA 8), .ref (MA 9), .int (nI (F 24 1)), .ref (MA 10), .ref (MA 11), .ref (MA 12), .int (nI (F 24 2)), .ref (MA 13), .ref (MA 14), .ref (MA 15), .int (nI (F 24 3)), .ref (MA 16), .ref (MA 17), .ref (MA 18), .ref (MA 19), .ref (MA 20), .ref (MA 21)])) from hm_2_0.x) rfl rfl rfl hl.1 (Nat.le_of_ble_eq_true rfl) dX7_addRoute_32 ⟨(Nat.le_of_ble_eq_true rfl), (Nat.le_of_ble_eq_true rfl)⟩) (Nat.le_of_ble_eq_true rfl) (Nat.le_of_ble_eq_true rfl) (fun _ _ h => h.elim) (fun v_32 w_32 H locs hq hP hS => ?_)
        obtain ⟨rfl, hw9⟩ := hq
        rw [hw9] at hP
        refine W.eq (g2 := F0 m 35 ls [.int (xI F (wpt F (tn p1)))]) rfl ?_
        by_cases h_35 : wpt F (tn p1) < F 24 0
        · refine W.eq (g2 := F0 m 35 ls [.int (nI (wpt F (tn p1)))]) (by rw [xI_in h_35]) ?_
          refine lv_iconst (v := -1) hx hb dX7_addRoute_35 (by decide) ?_
          refine lv_icmp_eq (tgt := 45) hx hb dX7_addRoute_36 (by decide) (fun c_36 => ?_) (fun c_36 => ?_)
          · exact absurd c_36 (nI_m1 (by omega))
          · refine lv_aload_n hx hb dX7_addRoute_39 rfl (lv_at hl 0 rfl) ?_
            refine lv_iconst (v := 1) hx hb dX7_addRoute_40 (by decide) ?_
            refine wl_on C0 ht hP hS (wl_runV (As := [.int 1]) (rest := []) C0 hP hS (k_X7_fails l hst E w_2_0 H.size F MA mo (nI 0) 1 hm_2_0) (cwV 1 hts gX7_addRoute_X7_fails rfl rfl rfl (by decide +kernel) ⟨(Nat.le_of_ble_eq_true rfl), (Nat.le_of_ble_eq_true rfl)⟩) (show w_2_0 mo = some (.inr (7, [.int (nI 0), .int (nI (F 24 0)), .ref (MA 0), .ref (MA 1), .ref (MA 2), .ref (MA 3), .ref (MA 4), .ref (MA 5), .ref (MA 6), .ref (MA 7), .ref (MA 8), .ref (MA 9), .int (nI (F 24 1)), .ref (MA 10), .ref (MA 11), .ref (MA 12), .int (nI (F 24 2)), .ref (MA 13), .ref (MA 14), .ref (MA 15), .int (nI (F 24 3)), .ref (MA 16), .ref (MA 17), .ref (MA 18), .ref (MA 19), .ref (MA 20), .ref (MA 21)])) from hm_2_0.x) rfl rfl rfl hl.1 (Nat.le_of_ble_eq_true rfl) dX7_addRoute_41 ⟨(Nat.le_of_ble_eq_true rfl), (Nat.le_of_ble_eq_true rfl)⟩) (Nat.le_of_ble_eq_true rfl) (Nat.le_of_ble_eq_true rfl) (fun _ _ h => h.elim) (fun v_41 w_41 H locs hq hP hS => ?_)
            obtain ⟨rfl, hm_41_4, hk2_41_4⟩ := hq
            have hk_41_4 := hk_2_0.tr hk2_41_4
            refine W.eq (g2 := F0 m 44 ls [.int 0]) rfl ?_
            have hev : s_addRoute F p1 c1 l1 g1 = (1, 0, F) := by simp [s_addRoute, q9, q18, q27, h_35]
            exact wl_iret C0 hr rfl hP hS dX7_addRoute_44 (Nat.le_of_ble_eq_true rfl) (Nat.le_of_ble_eq_true rfl) (⟨by rw [hev], by rw [hev]; exact hm_41_4, hk_41_4⟩)
        · refine W.eq (g2 := F0 m 35 ls [.int (-1)]) (by rw [xI_no h_35]) ?_
          refine lv_iconst (v := -1) hx hb dX7_addRoute_35 (by decide) ?_
          refine lv_icmp_eq (tgt := 45) hx hb dX7_addRoute_36 (by decide) (fun c_36 => ?_) (fun c_36 => ?_)
          · refine lv_aload_n hx hb dX7_addRoute_45 rfl (lv_at hl 0 rfl) ?_
            refine wl_get (T := TX7) C0 hP (show w_2_0 mo = some (.inr (7, [.int (nI 0), .int (nI (F 24 0)), .ref (MA 0), .ref (MA 1), .ref (MA 2), .ref (MA 3), .ref (MA 4), .ref (MA 5), .ref (MA 6), .ref (MA 7), .ref (MA 8), .ref (MA 9), .int (nI (F 24 1)), .ref (MA 10), .ref (MA 11), .ref (MA 12), .int (nI (F 24 2)), .ref (MA 13), .ref (MA 14), .ref (MA 15), .int (nI (F 24 3)), .ref (MA 16), .ref (MA 17), .ref (MA 18), .ref (MA 19), .ref (MA 20), .ref (MA 21)])) from hm_2_0.x) hi_RX7 rfl 1 (by decide) hf_83 rfl dX7_addRoute_46 ?_
            refine lv_bipush (v := 8) hx hb dX7_addRoute_49 (by decide) ?_
            refine lv_icmp_ne (tgt := 60) hx hb dX7_addRoute_51 (by decide) (fun c_51 => ?_) (fun c_51 => ?_)
            · have q51 : ¬ F 24 0 = 8 := fun q => c_51 ((nI_eq (b := 8) (by omega) (by omega)).mpr q)
              refine lv_aload_n hx hb dX7_addRoute_60 rfl (lv_at hl 0 rfl) ?_
              refine wl_get (T := TX7) C0 hP (show w_2_0 mo = some (.inr (7, [.int (nI 0), .int (nI (F 24 0)), .ref (MA 0), .ref (MA 1), .ref (MA 2), .ref (MA 3), .ref (MA 4), .ref (MA 5), .ref (MA 6), .ref (MA 7), .ref (MA 8), .ref (MA 9), .int (nI (F 24 1)), .ref (MA 10), .ref (MA 11), .ref (MA 12), .int (nI (F 24 2)), .ref (MA 13), .ref (MA 14), .ref (MA 15), .int (nI (F 24 3)), .ref (MA 16), .ref (MA 17), .ref (MA 18), .ref (MA 19), .ref (MA 20), .ref (MA 21)])) from hm_2_0.x) hi_RX7 rfl 2 (by decide) hf_7 rfl dX7_addRoute_61 ?_
              refine lv_aload_n hx hb dX7_addRoute_64 rfl (lv_at hl 0 rfl) ?_
              refine wl_get (T := TX7) C0 hP (show w_2_0 mo = some (.inr (7, [.int (nI 0), .int (nI (F 24 0)), .ref (MA 0), .ref (MA 1), .ref (MA 2), .ref (MA 3), .ref (MA 4), .ref (MA 5), .ref (MA 6), .ref (MA 7), .ref (MA 8), .ref (MA 9), .int (nI (F 24 1)), .ref (MA 10), .ref (MA 11), .ref (MA 12), .int (nI (F 24 2)), .ref (MA 13), .ref (MA 14), .ref (MA 15), .int (nI (F 24 3)), .ref (MA 16), .ref (MA 17), .ref (MA 18), .ref (MA 19), .ref (MA 20), .ref (MA 21)])) from hm_2_0.x) hi_RX7 rfl 1 (by decide) hf_83 rfl dX7_addRoute_65 ?_
              refine lv_iload_n hx hb dX7_addRoute_68 rfl (lv_at hl 1 rfl) ?_
              refine wl_iast C0 hP hS (show w_2_0 (MA 0) = some (.inl (E.2.1 0, 8, .inl (fun i => nI (F 0 i)))) from hm_2_0.i 0 (by decide) rfl rfl rfl) (vp_in_nI (by omega) (by omega)) dX7_addRoute_69 (fun H locs hP hS => ?_)
              obtain ⟨w_69_5, hw9, hm_69_5, hk_69_5⟩ : ∃ wz : wW, wz = wU w_2_0 (MA 0) (.inl (E.2.1 0, 8, .inl (upd (fun i => nI (F 0 i)) (nI (F 24 0)).toNatClampNeg (nI (tn p1))))) ∧ wMod E (fU F 0 (F 24 0) (tn p1)) MA mo (nI 0) wz ∧ wKm mo MA w wz := ⟨_, rfl, M_s (F := F) hm_2_0 0 (F 24 0) (tn p1) (by decide) (by rw [show (nI (F 24 0)).toNatClampNeg = (F 24 0) from nI_clamp (by omega), upd_nI]; rfl), hk_2_0.tr (wKm.s (by decide))⟩
              rw [← hw9] at hP
              refine lv_aload_n hx hb dX7_addRoute_70 rfl (lv_at hl 0 rfl) ?_
              refine wl_get (T := TX7) C0 hP (show w_69_5 mo = some (.inr (7, [.int (nI 0), .int (nI (F 24 0)), .ref (MA 0), .ref (MA 1), .ref (MA 2), .ref (MA 3), .ref (MA 4), .ref (MA 5), .ref (MA 6), .ref (MA 7), .ref (MA 8), .ref (MA 9), .int (nI (F 24 1)), .ref (MA 10), .ref (MA 11), .ref (MA 12), .int (nI (F 24 2)), .ref (MA 13), .ref (MA 14), .ref (MA 15), .int (nI (F 24 3)), .ref (MA 16), .ref (MA 17), .ref (MA 18), .ref (MA 19), .ref (MA 20), .ref (MA 21)])) from hm_69_5.x) hi_RX7 rfl 3 (by decide) hf_13 rfl dX7_addRoute_71 ?_
              refine lv_aload_n hx hb dX7_addRoute_74 rfl (lv_at hl 0 rfl) ?_
              refine wl_get (T := TX7) C0 hP (show w_69_5 mo = some (.inr (7, [.int (nI 0), .int (nI (F 24 0)), .ref (MA 0), .ref (MA 1), .ref (MA 2), .ref (MA 3), .ref (MA 4), .ref (MA 5), .ref (MA 6), .ref (MA 7), .ref (MA 8), .ref (MA 9), .int (nI (F 24 1)), .ref (MA 10), .ref (MA 11), .ref (MA 12), .int (nI (F 24 2)), .ref (MA 13), .ref (MA 14), .ref (MA 15), .int (nI (F 24 3)), .ref (MA 16), .ref (MA 17), .ref (MA 18), .ref (MA 19), .ref (MA 20), .ref (MA 21)])) from hm_69_5.x) hi_RX7 rfl 1 (by decide) hf_83 rfl dX7_addRoute_75 ?_
              refine lv_iload_n hx hb dX7_addRoute_78 rfl (lv_at hl 2 rfl) ?_
              refine wl_iast C0 hP hS (show w_69_5 (MA 1) = some (.inl (E.2.1 0, 8, .inl (fun i => nI (F 1 i)))) from hm_69_5.i 1 (by decide) rfl rfl rfl) (vp_in_nI (by omega) (by omega)) dX7_addRoute_79 (fun H locs hP hS => ?_)
              obtain ⟨w_79_6, hw9, hm_79_6, hk_79_6⟩ : ∃ wz : wW, wz = wU w_69_5 (MA 1) (.inl (E.2.1 0, 8, .inl (upd (fun i => nI (F 1 i)) (nI (F 24 0)).toNatClampNeg (nI (tn c1))))) ∧ wMod E (fU (fU F 0 (F 24 0) (tn p1)) 1 (F 24 0) (tn c1)) MA mo (nI 0) wz ∧ wKm mo MA w wz := ⟨_, rfl, M_s (F := fU F 0 (F 24 0) (tn p1)) hm_69_5 1 (F 24 0) (tn c1) (by decide) (by rw [show (nI (F 24 0)).toNatClampNeg = (F 24 0) from nI_clamp (by omega), upd_nI]; rfl), hk_69_5.tr (wKm.s (by decide))⟩
              rw [← hw9] at hP
              refine lv_aload_n hx hb dX7_addRoute_80 rfl (lv_at hl 0 rfl) ?_
              refine wl_get (T := TX7) C0 hP (show w_79_6 mo = some (.inr (7, [.int (nI 0), .int (nI (F 24 0)), .ref (MA 0), .ref (MA 1), .ref (MA 2), .ref (MA 3), .ref (MA 4), .ref (MA 5), .ref (MA 6), .ref (MA 7), .ref (MA 8), .ref (MA 9), .int (nI (F 24 1)), .ref (MA 10), .ref (MA 11), .ref (MA 12), .int (nI (F 24 2)), .ref (MA 13), .ref (MA 14), .ref (MA 15), .int (nI (F 24 3)), .ref (MA 16), .ref (MA 17), .ref (MA 18), .ref (MA 19), .ref (MA 20), .ref (MA 21)])) from hm_79_6.x) hi_RX7 rfl 4 (by decide) hf_16 rfl dX7_addRoute_81 ?_
              refine lv_aload_n hx hb dX7_addRoute_84 rfl (lv_at hl 0 rfl) ?_
              refine wl_get (T := TX7) C0 hP (show w_79_6 mo = some (.inr (7, [.int (nI 0), .int (nI (F 24 0)), .ref (MA 0), .ref (MA 1), .ref (MA 2), .ref (MA 3), .ref (MA 4), .ref (MA 5), .ref (MA 6), .ref (MA 7), .ref (MA 8), .ref (MA 9), .int (nI (F 24 1)), .ref (MA 10), .ref (MA 11), .ref (MA 12), .int (nI (F 24 2)), .ref (MA 13), .ref (MA 14), .ref (MA 15), .int (nI (F 24 3)), .ref (MA 16), .ref (MA 17), .ref (MA 18), .ref (MA 19), .ref (MA 20), .ref (MA 21)])) from hm_79_6.x) hi_RX7 rfl 1 (by decide) hf_83 rfl dX7_addRoute_85 ?_
              refine lv_iload_n hx hb dX7_addRoute_88 rfl (lv_at hl 3 rfl) ?_
              refine wl_iast C0 hP hS (show w_79_6 (MA 2) = some (.inl (E.2.1 0, 8, .inl (fun i => nI (F 2 i)))) from hm_79_6.i 2 (by decide) rfl rfl rfl) (vp_in_nI (by omega) (by omega)) dX7_addRoute_89 (fun H locs hP hS => ?_)
              obtain ⟨w_89_7, hw9, hm_89_7, hk_89_7⟩ : ∃ wz : wW, wz = wU w_79_6 (MA 2) (.inl (E.2.1 0, 8, .inl (upd (fun i => nI (F 2 i)) (nI (F 24 0)).toNatClampNeg (nI (tn l1))))) ∧ wMod E (fU (fU (fU F 0 (F 24 0) (tn p1)) 1 (F 24 0) (tn c1)) 2 (F 24 0) (tn l1)) MA mo (nI 0) wz ∧ wKm mo MA w wz := ⟨_, rfl, M_s (F := fU (fU F 0 (F 24 0) (tn p1)) 1 (F 24 0) (tn c1)) hm_79_6 2 (F 24 0) (tn l1) (by decide) (by rw [show (nI (F 24 0)).toNatClampNeg = (F 24 0) from nI_clamp (by omega), upd_nI]; rfl), hk_79_6.tr (wKm.s (by decide))⟩
              rw [← hw9] at hP
              refine lv_aload_n hx hb dX7_addRoute_90 rfl (lv_at hl 0 rfl) ?_
              refine wl_get (T := TX7) C0 hP (show w_89_7 mo = some (.inr (7, [.int (nI 0), .int (nI (F 24 0)), .ref (MA 0), .ref (MA 1), .ref (MA 2), .ref (MA 3), .ref (MA 4), .ref (MA 5), .ref (MA 6), .ref (MA 7), .ref (MA 8), .ref (MA 9), .int (nI (F 24 1)), .ref (MA 10), .ref (MA 11), .ref (MA 12), .int (nI (F 24 2)), .ref (MA 13), .ref (MA 14), .ref (MA 15), .int (nI (F 24 3)), .ref (MA 16), .ref (MA 17), .ref (MA 18), .ref (MA 19), .ref (MA 20), .ref (MA 21)])) from hm_89_7.x) hi_RX7 rfl 5 (by decide) hf_19 rfl dX7_addRoute_91 ?_
              refine lv_aload_n hx hb dX7_addRoute_94 rfl (lv_at hl 0 rfl) ?_
              refine wl_get (T := TX7) C0 hP (show w_89_7 mo = some (.inr (7, [.int (nI 0), .int (nI (F 24 0)), .ref (MA 0), .ref (MA 1), .ref (MA 2), .ref (MA 3), .ref (MA 4), .ref (MA 5), .ref (MA 6), .ref (MA 7), .ref (MA 8), .ref (MA 9), .int (nI (F 24 1)), .ref (MA 10), .ref (MA 11), .ref (MA 12), .int (nI (F 24 2)), .ref (MA 13), .ref (MA 14), .ref (MA 15), .int (nI (F 24 3)), .ref (MA 16), .ref (MA 17), .ref (MA 18), .ref (MA 19), .ref (MA 20), .ref (MA 21)])) from hm_89_7.x) hi_RX7 rfl 1 (by decide) hf_83 rfl dX7_addRoute_95 ?_
              refine lv_iload hx hb dX7_addRoute_98 (lv_at hl 4 rfl) ?_
              refine wl_iast C0 hP hS (show w_89_7 (MA 3) = some (.inl (E.2.1 0, 8, .inl (fun i => nI (F 3 i)))) from hm_89_7.i 3 (by decide) rfl rfl rfl) (vp_in_nI (by omega) (by omega)) dX7_addRoute_100 (fun H locs hP hS => ?_)
              obtain ⟨w_100_8, hw9, hm_100_8, hk_100_8⟩ : ∃ wz : wW, wz = wU w_89_7 (MA 3) (.inl (E.2.1 0, 8, .inl (upd (fun i => nI (F 3 i)) (nI (F 24 0)).toNatClampNeg (nI (tn g1))))) ∧ wMod E (fU (fU (fU (fU F 0 (F 24 0) (tn p1)) 1 (F 24 0) (tn c1)) 2 (F 24 0) (tn l1)) 3 (F 24 0) (tn g1)) MA mo (nI 0) wz ∧ wKm mo MA w wz := ⟨_, rfl, M_s (F := fU (fU (fU F 0 (F 24 0) (tn p1)) 1 (F 24 0) (tn c1)) 2 (F 24 0) (tn l1)) hm_89_7 3 (F 24 0) (tn g1) (by decide) (by rw [show (nI (F 24 0)).toNatClampNeg = (F 24 0) from nI_clamp (by omega), upd_nI]; rfl), hk_89_7.tr (wKm.s (by decide))⟩
              rw [← hw9] at hP
              refine lv_aload_n hx hb dX7_addRoute_101 rfl (lv_at hl 0 rfl) ?_
              refine lv_dup hx hb dX7_addRoute_102 rfl ?_
              refine wl_get (T := TX7) C0 hP (show w_100_8 mo = some (.inr (7, [.int (nI 0), .int (nI (F 24 0)), .ref (MA 0), .ref (MA 1), .ref (MA 2), .ref (MA 3), .ref (MA 4), .ref (MA 5), .ref (MA 6), .ref (MA 7), .ref (MA 8), .ref (MA 9), .int (nI (F 24 1)), .ref (MA 10), .ref (MA 11), .ref (MA 12), .int (nI (F 24 2)), .ref (MA 13), .ref (MA 14), .ref (MA 15), .int (nI (F 24 3)), .ref (MA 16), .ref (MA 17), .ref (MA 18), .ref (MA 19), .ref (MA 20), .ref (MA 21)])) from hm_100_8.x) hi_RX7 rfl 1 (by decide) hf_83 rfl dX7_addRoute_103 ?_
              refine lv_iconst (v := 1) hx hb dX7_addRoute_106 (by decide) ?_
              refine lv_iadd hx hb dX7_addRoute_107 ?_
              rw [show ((nI (F 24 0)) + 1) = (nI (F 24 0 + 1)) from nI_1 _]
              refine wl_put (T := TX7) (ty0 := tyX7) (fs2 := [.int (nI 0), .int (nI (F 24 0 + 1)), .ref (MA 0), .ref (MA 1), .ref (MA 2), .ref (MA 3), .ref (MA 4), .ref (MA 5), .ref (MA 6), .ref (MA 7), .ref (MA 8), .ref (MA 9), .int (nI (F 24 1)), .ref (MA 10), .ref (MA 11), .ref (MA 12), .int (nI (F 24 2)), .ref (MA 13), .ref (MA 14), .ref (MA 15), .int (nI (F 24 3)), .ref (MA 16), .ref (MA 17), .ref (MA 18), .ref (MA 19), .ref (MA 20), .ref (MA 21)]) C0 hP hS (show w_100_8 mo = some (.inr (7, [.int (nI 0), .int (nI (F 24 0)), .ref (MA 0), .ref (MA 1), .ref (MA 2), .ref (MA 3), .ref (MA 4), .ref (MA 5), .ref (MA 6), .ref (MA 7), .ref (MA 8), .ref (MA 9), .int (nI (F 24 1)), .ref (MA 10), .ref (MA 11), .ref (MA 12), .int (nI (F 24 2)), .ref (MA 13), .ref (MA 14), .ref (MA 15), .int (nI (F 24 3)), .ref (MA 16), .ref (MA 17), .ref (MA 18), .ref (MA 19), .ref (MA 20), .ref (MA 21)])) from hm_100_8.x) hi_RX7 tyX7_ok nmX7 rfl 1 (by decide) hf_83 rfl rfl rfl rfl (Nat.le_of_ble_eq_true rfl) rfl dX7_addRoute_108 (fun H locs hP hS => ?_)
              obtain ⟨w_108_9, hw9, hm_108_9, hk_108_9⟩ : ∃ wz : wW, wz = wU w_100_8 mo (.inr (7, [.int (nI 0), .int (nI (F 24 0 + 1)), .ref (MA 0), .ref (MA 1), .ref (MA 2), .ref (MA 3), .ref (MA 4), .ref (MA 5), .ref (MA 6), .ref (MA 7), .ref (MA 8), .ref (MA 9), .int (nI (F 24 1)), .ref (MA 10), .ref (MA 11), .ref (MA 12), .int (nI (F 24 2)), .ref (MA 13), .ref (MA 14), .ref (MA 15), .int (nI (F 24 3)), .ref (MA 16), .ref (MA 17), .ref (MA 18), .ref (MA 19), .ref (MA 20), .ref (MA 21)])) ∧ wMod E (fU (fU (fU (fU (fU F 0 (F 24 0) (tn p1)) 1 (F 24 0) (tn c1)) 2 (F 24 0) (tn l1)) 3 (F 24 0) (tn g1)) 24 0 (F 24 0 + 1)) MA mo (nI 0) wz ∧ wKm mo MA w wz := ⟨_, rfl, M_o (F := fU (fU (fU (fU F 0 (F 24 0) (tn p1)) 1 (F 24 0) (tn c1)) 2 (F 24 0) (tn l1)) 3 (F 24 0) (tn g1)) (G := fU (fU (fU (fU (fU F 0 (F 24 0) (tn p1)) 1 (F 24 0) (tn c1)) 2 (F 24 0) (tn l1)) 3 (F 24 0) (tn g1)) 24 0 (F 24 0 + 1)) (cd2 := nI 0) hm_100_8 (fun a b h => fU_k (by omega)), hk_100_8.tr wKm.o⟩
              rw [← hw9] at hP
              refine lv_aload_n hx hb dX7_addRoute_111 rfl (lv_at hl 0 rfl) ?_
              refine wl_get (T := TX7) C0 hP (show w_108_9 mo = some (.inr (7, [.int (nI 0), .int (nI ((F 24 0 + 1))), .ref (MA 0), .ref (MA 1), .ref (MA 2), .ref (MA 3), .ref (MA 4), .ref (MA 5), .ref (MA 6), .ref (MA 7), .ref (MA 8), .ref (MA 9), .int (nI (F 24 1)), .ref (MA 10), .ref (MA 11), .ref (MA 12), .int (nI (F 24 2)), .ref (MA 13), .ref (MA 14), .ref (MA 15), .int (nI (F 24 3)), .ref (MA 16), .ref (MA 17), .ref (MA 18), .ref (MA 19), .ref (MA 20), .ref (MA 21)])) from hm_108_9.x) hi_RX7 rfl 1 (by decide) hf_83 rfl dX7_addRoute_112 ?_
              refine lv_iconst (v := 1) hx hb dX7_addRoute_115 (by decide) ?_
              refine lv_isub hx hb dX7_addRoute_116 ?_
              rw [show ((nI ((F 24 0 + 1))) - 1) = (nI (F 24 0)) from nI_pred _]
              have hev : s_addRoute F p1 c1 l1 g1 = (0, nI (F 24 0), f_addRoute F (tn p1) (tn c1) (tn l1) (tn g1)) := by simp [s_addRoute, q9, q18, q27, h_35, q51]
              exact wl_iret C0 hr rfl hP hS dX7_addRoute_117 (Nat.le_of_ble_eq_true rfl) (Nat.le_of_ble_eq_true rfl) (⟨by rw [hev], by rw [hev]; exact M_ext hm_108_9 (fun a b h => by first | (simp only [f_addRoute, fU]; done) | (simp only [f_addRoute, fU]; (repeat' split) <;> first | rfl | omega)) (by simp [f_addRoute, fU]) (by simp [f_addRoute, fU]) (by simp [f_addRoute, fU]) (by simp [f_addRoute, fU]), hk_108_9⟩)
            · have q51 : F 24 0 = 8 := (nI_eq (b := 8) (by omega) (by omega)).mp c_51
              refine lv_aload_n hx hb dX7_addRoute_54 rfl (lv_at hl 0 rfl) ?_
              refine lv_iconst (v := 2) hx hb dX7_addRoute_55 (by decide) ?_
              refine wl_on C0 ht hP hS (wl_runV (As := [.int 2]) (rest := []) C0 hP hS (k_X7_fails l hst E w_2_0 H.size F MA mo (nI 0) 2 hm_2_0) (cwV 1 hts gX7_addRoute_X7_fails rfl rfl rfl (by decide +kernel) ⟨(Nat.le_of_ble_eq_true rfl), (Nat.le_of_ble_eq_true rfl)⟩) (show w_2_0 mo = some (.inr (7, [.int (nI 0), .int (nI (F 24 0)), .ref (MA 0), .ref (MA 1), .ref (MA 2), .ref (MA 3), .ref (MA 4), .ref (MA 5), .ref (MA 6), .ref (MA 7), .ref (MA 8), .ref (MA 9), .int (nI (F 24 1)), .ref (MA 10), .ref (MA 11), .ref (MA 12), .int (nI (F 24 2)), .ref (MA 13), .ref (MA 14), .ref (MA 15), .int (nI (F 24 3)), .ref (MA 16), .ref (MA 17), .ref (MA 18), .ref (MA 19), .ref (MA 20), .ref (MA 21)])) from hm_2_0.x) rfl rfl rfl hl.1 (Nat.le_of_ble_eq_true rfl) dX7_addRoute_56 ⟨(Nat.le_of_ble_eq_true rfl), (Nat.le_of_ble_eq_true rfl)⟩) (Nat.le_of_ble_eq_true rfl) (Nat.le_of_ble_eq_true rfl) (fun _ _ h => h.elim) (fun v_56 w_56 H locs hq hP hS => ?_)
              obtain ⟨rfl, hm_56_10, hk2_56_10⟩ := hq
              have hk_56_10 := hk_2_0.tr hk2_56_10
              refine W.eq (g2 := F0 m 59 ls [.int 0]) rfl ?_
              have hev : s_addRoute F p1 c1 l1 g1 = (2, 0, F) := by simp [s_addRoute, q9, q18, q27, show ¬ wpt F (tn p1) < 8 by omega, q51]
              exact wl_iret C0 hr rfl hP hS dX7_addRoute_59 (Nat.le_of_ble_eq_true rfl) (Nat.le_of_ble_eq_true rfl) (⟨by rw [hev], by rw [hev]; exact hm_56_10, hk_56_10⟩)
          · exact absurd rfl c_36

set_option maxHeartbeats 4000000 in
set_option maxRecDepth 100000 in
theorem k_X7_setContract (l : Launch) (hst : l.stackTraces = false) (E : wEn) (w : wW) (sz : Nat) (F : FF) (MA : Nat → Nat) (mo : Nat) (cd : Int32) (N : Nat) (hI : wInv F N) (hm : wMod E F MA mo cd w) (r1 l1 g1 : Int32) : wM l yX7_setContract wsX7_setContract 2 0 0 E w sz [.ref mo, .int r1, .int l1, .int g1] (fun v w2 => v = some (.int (s_setContract F r1 l1 g1).2.1) ∧ wMod E (s_setContract F r1 l1 g1).2.2 MA mo (nI (s_setContract F r1 l1 g1).1) w2 ∧ wKm mo MA w w2) (fun _ _ => False) := by
  refine wm_start (own := RX7) (cc := cX7_setContract) (maxL := 5) (ret := (some .int)) rfl (by decide) rfl (Nat.le_of_ble_eq_true rfl) ?_
  intro p e s m args below meth c ls C0 hr hin ht hP hS hl
  have hx := C0.1
  have hb := C0.2.1
  have hts := C0.2.2.2.2.1
  have hown := C0.2.2.2.1
  have hl : lv_has ls 5 [(0, .ref mo), (1, .int r1), (2, .int l1), (3, .int g1)] := hl
  have hf_79 : (Cond.fieldLink RX7 79 "CallGatewayModel" "code" "I").before args s = true := hts _ (by decide +kernel)
  have hf_16 : (Cond.fieldLink RX7 16 "CallGatewayModel" "leasts" "[I").before args s = true := hts _ (by decide +kernel)
  have hf_19 : (Cond.fieldLink RX7 19 "CallGatewayModel" "greatests" "[I").before args s = true := hts _ (by decide +kernel)
  have hi_RX7 : ∀ w ∈ u_ws RX7 TX7 27, w ∈ wsX7_setContract := fun _ h => List.mem_cons_of_mem _ (List.mem_append_left _ (List.mem_append_right _ h))
  have hn := hI.n
  have hn9 := hI.n
  refine lv_aload_n hx hb dX7_setContract_0 rfl (lv_at hl 0 rfl) ?_
  refine lv_iconst (v := 0) hx hb dX7_setContract_1 (by decide) ?_
  refine wl_put (T := TX7) (ty0 := tyX7) (fs2 := [.int 0, .int (nI (F 24 0)), .ref (MA 0), .ref (MA 1), .ref (MA 2), .ref (MA 3), .ref (MA 4), .ref (MA 5), .ref (MA 6), .ref (MA 7), .ref (MA 8), .ref (MA 9), .int (nI (F 24 1)), .ref (MA 10), .ref (MA 11), .ref (MA 12), .int (nI (F 24 2)), .ref (MA 13), .ref (MA 14), .ref (MA 15), .int (nI (F 24 3)), .ref (MA 16), .ref (MA 17), .ref (MA 18), .ref (MA 19), .ref (MA 20), .ref (MA 21)]) C0 hP hS (show w mo = some (.inr (7, [.int cd, .int (nI (F 24 0)), .ref (MA 0), .ref (MA 1), .ref (MA 2), .ref (MA 3), .ref (MA 4), .ref (MA 5), .ref (MA 6), .ref (MA 7), .ref (MA 8), .ref (MA 9), .int (nI (F 24 1)), .ref (MA 10), .ref (MA 11), .ref (MA 12), .int (nI (F 24 2)), .ref (MA 13), .ref (MA 14), .ref (MA 15), .int (nI (F 24 3)), .ref (MA 16), .ref (MA 17), .ref (MA 18), .ref (MA 19), .ref (MA 20), .ref (MA 21)])) from hm.x) hi_RX7 tyX7_ok nmX7 rfl 0 (by decide) hf_79 rfl rfl rfl rfl (Nat.le_of_ble_eq_true rfl) rfl dX7_setContract_2 (fun H locs hP hS => ?_)
  obtain ⟨w_2_0, hw9, hm_2_0, hk_2_0⟩ : ∃ wz : wW, wz = wU w mo (.inr (7, [.int 0, .int (nI (F 24 0)), .ref (MA 0), .ref (MA 1), .ref (MA 2), .ref (MA 3), .ref (MA 4), .ref (MA 5), .ref (MA 6), .ref (MA 7), .ref (MA 8), .ref (MA 9), .int (nI (F 24 1)), .ref (MA 10), .ref (MA 11), .ref (MA 12), .int (nI (F 24 2)), .ref (MA 13), .ref (MA 14), .ref (MA 15), .int (nI (F 24 3)), .ref (MA 16), .ref (MA 17), .ref (MA 18), .ref (MA 19), .ref (MA 20), .ref (MA 21)])) ∧ wMod E F MA mo (nI 0) wz ∧ wKm mo MA w wz := ⟨_, rfl, M_o (F := F) (G := F) (cd2 := nI 0) hm (fun a b h => rfl), wKm.rf.tr wKm.o⟩
  rw [← hw9] at hP
  refine lv_aload_n hx hb dX7_setContract_5 rfl (lv_at hl 0 rfl) ?_
  refine lv_iload_n hx hb dX7_setContract_6 rfl (lv_at hl 1 rfl) ?_
  refine wl_on C0 ht hP hS (wl_runV (As := [.int r1]) (rest := []) C0 hP hS (k_X7_isRoute l hst E w_2_0 H.size F MA mo (nI 0) N hI hm_2_0 r1) (cwV 1 hts gX7_setContract_X7_isRoute rfl rfl rfl (by decide +kernel) ⟨(Nat.le_of_ble_eq_true rfl), (Nat.le_of_ble_eq_true rfl)⟩) (show w_2_0 mo = some (.inr (7, [.int (nI 0), .int (nI (F 24 0)), .ref (MA 0), .ref (MA 1), .ref (MA 2), .ref (MA 3), .ref (MA 4), .ref (MA 5), .ref (MA 6), .ref (MA 7), .ref (MA 8), .ref (MA 9), .int (nI (F 24 1)), .ref (MA 10), .ref (MA 11), .ref (MA 12), .int (nI (F 24 2)), .ref (MA 13), .ref (MA 14), .ref (MA 15), .int (nI (F 24 3)), .ref (MA 16), .ref (MA 17), .ref (MA 18), .ref (MA 19), .ref (MA 20), .ref (MA 21)])) from hm_2_0.x) rfl rfl rfl hl.1 (Nat.le_of_ble_eq_true rfl) dX7_setContract_7 ⟨(Nat.le_of_ble_eq_true rfl), (Nat.le_of_ble_eq_true rfl)⟩) (Nat.le_of_ble_eq_true rfl) (Nat.le_of_ble_eq_true rfl) (fun _ _ h => h.elim) (fun v_7 w_7 H locs hq hP hS => ?_)
  obtain ⟨rfl, hw9⟩ := hq
  rw [hw9] at hP
  refine W.eq (g2 := F0 m 10 ls [.int (bI (vpb r1 (F 24 0)))]) rfl ?_
  refine lv_if_ne (tgt := 19) hx hb dX7_setContract_10 (by decide) (fun c_10 => ?_) (fun c_10 => ?_)
  · have q10 : vpb r1 (F 24 0) = true := bI_n.mp c_10
    have hr9 := vpb_tn q10
    have hrt := vpb_nt q10
    have h8 := hI.ro hr9
    have hl : lv_has ls 5 [(0, .ref mo), (1, .int (nI (tn r1))), (2, .int l1), (3, .int g1)] := by
      rw [hrt]
      exact hl
    refine lv_iload_n hx hb dX7_setContract_19 rfl (lv_at hl 2 rfl) ?_
    refine lv_iload_n hx hb dX7_setContract_20 rfl (lv_at hl 3 rfl) ?_
    refine wl_on C0 ht hP hS (wl_runS (As := [.int l1, .int g1]) (rest := []) C0 hP hS (k_X7_isContract l hst E w_2_0 H.size l1 g1) (va_cwS 2 hts gX7_setContract_X7_isContract rfl rfl rfl (by decide +kernel) ⟨(Nat.le_of_ble_eq_true rfl), (Nat.le_of_ble_eq_true rfl)⟩) rfl rfl hl.1 (Nat.le_of_ble_eq_true rfl) dX7_setContract_21 ⟨(Nat.le_of_ble_eq_true rfl), (Nat.le_of_ble_eq_true rfl)⟩) (Nat.le_of_ble_eq_true rfl) (Nat.le_of_ble_eq_true rfl) (fun _ _ h => h.elim) (fun v_21 w_21 H locs hq hP hS => ?_)
    obtain ⟨rfl, hw9⟩ := hq
    rw [hw9] at hP
    refine W.eq (g2 := F0 m 24 ls [.int (bI (ctr l1 g1))]) rfl ?_
    refine lv_if_ne (tgt := 33) hx hb dX7_setContract_24 (by decide) (fun c_24 => ?_) (fun c_24 => ?_)
    · have q24 : ctr l1 g1 = true := bI_n.mp c_24
      have hgt := ctr_tn q24
      have hl : lv_has ls 5 [(0, .ref mo), (1, .int (nI (tn r1))), (2, .int (nI (tn l1))), (3, .int g1)] := by
        rw [hgt.1]
        exact hl
      have hl : lv_has ls 5 [(0, .ref mo), (1, .int (nI (tn r1))), (2, .int (nI (tn l1))), (3, .int (nI (tn g1)))] := by
        rw [hgt.2.1]
        exact hl
      refine lv_aload_n hx hb dX7_setContract_33 rfl (lv_at hl 0 rfl) ?_
      refine wl_get (T := TX7) C0 hP (show w_2_0 mo = some (.inr (7, [.int (nI 0), .int (nI (F 24 0)), .ref (MA 0), .ref (MA 1), .ref (MA 2), .ref (MA 3), .ref (MA 4), .ref (MA 5), .ref (MA 6), .ref (MA 7), .ref (MA 8), .ref (MA 9), .int (nI (F 24 1)), .ref (MA 10), .ref (MA 11), .ref (MA 12), .int (nI (F 24 2)), .ref (MA 13), .ref (MA 14), .ref (MA 15), .int (nI (F 24 3)), .ref (MA 16), .ref (MA 17), .ref (MA 18), .ref (MA 19), .ref (MA 20), .ref (MA 21)])) from hm_2_0.x) hi_RX7 rfl 4 (by decide) hf_16 rfl dX7_setContract_34 ?_
      refine lv_iload_n hx hb dX7_setContract_37 rfl (lv_at hl 1 rfl) ?_
      refine wl_iald C0 hP (show w_2_0 (MA 2) = some (.inl (E.2.1 0, 8, .inl (fun i => nI (F 2 i)))) from hm_2_0.i 2 (by decide) rfl rfl rfl) (vp_in_nI (by omega) (by omega)) dX7_setContract_38 ?_
      refine W.eq (g2 := F0 m 39 ls [.int (nI (F 2 (tn r1)))]) (by rw [show (nI (tn r1)).toNatClampNeg = (tn r1) from nI_clamp (by omega)]) ?_
      refine lv_istore (lv' := [(4, .int (nI (F 2 (tn r1)))), (0, .ref mo), (1, .int (nI (tn r1))), (2, .int (nI (tn l1))), (3, .int (nI (tn g1)))]) hx hb dX7_setContract_39 hl (by decide) rfl (fun ls hl => ?_)
      refine lv_aload_n hx hb dX7_setContract_41 rfl (lv_at hl 1 rfl) ?_
      refine wl_get (T := TX7) C0 hP (show w_2_0 mo = some (.inr (7, [.int (nI 0), .int (nI (F 24 0)), .ref (MA 0), .ref (MA 1), .ref (MA 2), .ref (MA 3), .ref (MA 4), .ref (MA 5), .ref (MA 6), .ref (MA 7), .ref (MA 8), .ref (MA 9), .int (nI (F 24 1)), .ref (MA 10), .ref (MA 11), .ref (MA 12), .int (nI (F 24 2)), .ref (MA 13), .ref (MA 14), .ref (MA 15), .int (nI (F 24 3)), .ref (MA 16), .ref (MA 17), .ref (MA 18), .ref (MA 19), .ref (MA 20), .ref (MA 21)])) from hm_2_0.x) hi_RX7 rfl 4 (by decide) hf_16 rfl dX7_setContract_42 ?_
      refine lv_iload_n hx hb dX7_setContract_45 rfl (lv_at hl 2 rfl) ?_
      refine lv_iload_n hx hb dX7_setContract_46 rfl (lv_at hl 3 rfl) ?_
      refine wl_iast C0 hP hS (show w_2_0 (MA 2) = some (.inl (E.2.1 0, 8, .inl (fun i => nI (F 2 i)))) from hm_2_0.i 2 (by decide) rfl rfl rfl) (vp_in_nI (by omega) (by omega)) dX7_setContract_47 (fun H locs hP hS => ?_)
      obtain ⟨w_47_1, hw9, hm_47_1, hk_47_1⟩ : ∃ wz : wW, wz = wU w_2_0 (MA 2) (.inl (E.2.1 0, 8, .inl (upd (fun i => nI (F 2 i)) (nI (tn r1)).toNatClampNeg (nI (tn l1))))) ∧ wMod E (fU F 2 (tn r1) (tn l1)) MA mo (nI 0) wz ∧ wKm mo MA w wz := ⟨_, rfl, M_s (F := F) hm_2_0 2 (tn r1) (tn l1) (by decide) (by rw [show (nI (tn r1)).toNatClampNeg = (tn r1) from nI_clamp (by omega), upd_nI]; rfl), hk_2_0.tr (wKm.s (by decide))⟩
      rw [← hw9] at hP
      refine lv_aload_n hx hb dX7_setContract_48 rfl (lv_at hl 1 rfl) ?_
      refine wl_get (T := TX7) C0 hP (show w_47_1 mo = some (.inr (7, [.int (nI 0), .int (nI (F 24 0)), .ref (MA 0), .ref (MA 1), .ref (MA 2), .ref (MA 3), .ref (MA 4), .ref (MA 5), .ref (MA 6), .ref (MA 7), .ref (MA 8), .ref (MA 9), .int (nI (F 24 1)), .ref (MA 10), .ref (MA 11), .ref (MA 12), .int (nI (F 24 2)), .ref (MA 13), .ref (MA 14), .ref (MA 15), .int (nI (F 24 3)), .ref (MA 16), .ref (MA 17), .ref (MA 18), .ref (MA 19), .ref (MA 20), .ref (MA 21)])) from hm_47_1.x) hi_RX7 rfl 5 (by decide) hf_19 rfl dX7_setContract_49 ?_
      refine lv_iload_n hx hb dX7_setContract_52 rfl (lv_at hl 2 rfl) ?_
      refine lv_iload_n hx hb dX7_setContract_53 rfl (lv_at hl 4 rfl) ?_
      refine wl_iast C0 hP hS (show w_47_1 (MA 3) = some (.inl (E.2.1 0, 8, .inl (fun i => nI (F 3 i)))) from hm_47_1.i 3 (by decide) rfl rfl rfl) (vp_in_nI (by omega) (by omega)) dX7_setContract_54 (fun H locs hP hS => ?_)
      obtain ⟨w_54_2, hw9, hm_54_2, hk_54_2⟩ : ∃ wz : wW, wz = wU w_47_1 (MA 3) (.inl (E.2.1 0, 8, .inl (upd (fun i => nI (F 3 i)) (nI (tn r1)).toNatClampNeg (nI (tn g1))))) ∧ wMod E (fU (fU F 2 (tn r1) (tn l1)) 3 (tn r1) (tn g1)) MA mo (nI 0) wz ∧ wKm mo MA w wz := ⟨_, rfl, M_s (F := fU F 2 (tn r1) (tn l1)) hm_47_1 3 (tn r1) (tn g1) (by decide) (by rw [show (nI (tn r1)).toNatClampNeg = (tn r1) from nI_clamp (by omega), upd_nI]; rfl), hk_47_1.tr (wKm.s (by decide))⟩
      rw [← hw9] at hP
      refine lv_iload hx hb dX7_setContract_55 (lv_at hl 0 rfl) ?_
      have hev : s_setContract F r1 l1 g1 = (0, nI (F 2 (tn r1)), fU (fU F 2 (tn r1) (tn l1)) 3 (tn r1) (tn g1)) := by simp [s_setContract, q10, q24]
      exact wl_iret C0 hr rfl hP hS dX7_setContract_57 (Nat.le_of_ble_eq_true rfl) (Nat.le_of_ble_eq_true rfl) (⟨by rw [hev], by rw [hev]; exact hm_54_2, hk_54_2⟩)
    · have q24 : ctr l1 g1 = false := bI_0.mp c_24
      refine lv_aload_n hx hb dX7_setContract_27 rfl (lv_at hl 0 rfl) ?_
      refine lv_iconst (v := 2) hx hb dX7_setContract_28 (by decide) ?_
      refine wl_on C0 ht hP hS (wl_runV (As := [.int 2]) (rest := []) C0 hP hS (k_X7_fails l hst E w_2_0 H.size F MA mo (nI 0) 2 hm_2_0) (cwV 1 hts gX7_setContract_X7_fails rfl rfl rfl (by decide +kernel) ⟨(Nat.le_of_ble_eq_true rfl), (Nat.le_of_ble_eq_true rfl)⟩) (show w_2_0 mo = some (.inr (7, [.int (nI 0), .int (nI (F 24 0)), .ref (MA 0), .ref (MA 1), .ref (MA 2), .ref (MA 3), .ref (MA 4), .ref (MA 5), .ref (MA 6), .ref (MA 7), .ref (MA 8), .ref (MA 9), .int (nI (F 24 1)), .ref (MA 10), .ref (MA 11), .ref (MA 12), .int (nI (F 24 2)), .ref (MA 13), .ref (MA 14), .ref (MA 15), .int (nI (F 24 3)), .ref (MA 16), .ref (MA 17), .ref (MA 18), .ref (MA 19), .ref (MA 20), .ref (MA 21)])) from hm_2_0.x) rfl rfl rfl hl.1 (Nat.le_of_ble_eq_true rfl) dX7_setContract_29 ⟨(Nat.le_of_ble_eq_true rfl), (Nat.le_of_ble_eq_true rfl)⟩) (Nat.le_of_ble_eq_true rfl) (Nat.le_of_ble_eq_true rfl) (fun _ _ h => h.elim) (fun v_29 w_29 H locs hq hP hS => ?_)
      obtain ⟨rfl, hm_29_3, hk2_29_3⟩ := hq
      have hk_29_3 := hk_2_0.tr hk2_29_3
      refine W.eq (g2 := F0 m 32 ls [.int 0]) rfl ?_
      have hev : s_setContract F r1 l1 g1 = (2, 0, F) := by simp [s_setContract, q10, q24]
      exact wl_iret C0 hr rfl hP hS dX7_setContract_32 (Nat.le_of_ble_eq_true rfl) (Nat.le_of_ble_eq_true rfl) (⟨by rw [hev], by rw [hev]; exact hm_29_3, hk_29_3⟩)
  · have q10 : vpb r1 (F 24 0) = false := bI_0.mp c_10
    refine lv_aload_n hx hb dX7_setContract_13 rfl (lv_at hl 0 rfl) ?_
    refine lv_iconst (v := 1) hx hb dX7_setContract_14 (by decide) ?_
    refine wl_on C0 ht hP hS (wl_runV (As := [.int 1]) (rest := []) C0 hP hS (k_X7_fails l hst E w_2_0 H.size F MA mo (nI 0) 1 hm_2_0) (cwV 1 hts gX7_setContract_X7_fails rfl rfl rfl (by decide +kernel) ⟨(Nat.le_of_ble_eq_true rfl), (Nat.le_of_ble_eq_true rfl)⟩) (show w_2_0 mo = some (.inr (7, [.int (nI 0), .int (nI (F 24 0)), .ref (MA 0), .ref (MA 1), .ref (MA 2), .ref (MA 3), .ref (MA 4), .ref (MA 5), .ref (MA 6), .ref (MA 7), .ref (MA 8), .ref (MA 9), .int (nI (F 24 1)), .ref (MA 10), .ref (MA 11), .ref (MA 12), .int (nI (F 24 2)), .ref (MA 13), .ref (MA 14), .ref (MA 15), .int (nI (F 24 3)), .ref (MA 16), .ref (MA 17), .ref (MA 18), .ref (MA 19), .ref (MA 20), .ref (MA 21)])) from hm_2_0.x) rfl rfl rfl hl.1 (Nat.le_of_ble_eq_true rfl) dX7_setContract_15 ⟨(Nat.le_of_ble_eq_true rfl), (Nat.le_of_ble_eq_true rfl)⟩) (Nat.le_of_ble_eq_true rfl) (Nat.le_of_ble_eq_true rfl) (fun _ _ h => h.elim) (fun v_15 w_15 H locs hq hP hS => ?_)
    obtain ⟨rfl, hm_15_4, hk2_15_4⟩ := hq
    have hk_15_4 := hk_2_0.tr hk2_15_4
    refine W.eq (g2 := F0 m 18 ls [.int 0]) rfl ?_
    have hev : s_setContract F r1 l1 g1 = (1, 0, F) := by simp [s_setContract, q10]
    exact wl_iret C0 hr rfl hP hS dX7_setContract_18 (Nat.le_of_ble_eq_true rfl) (Nat.le_of_ble_eq_true rfl) (⟨by rw [hev], by rw [hev]; exact hm_15_4, hk_15_4⟩)

set_option maxHeartbeats 4000000 in
set_option maxRecDepth 100000 in
theorem k_X7_setAnswer (l : Launch) (hst : l.stackTraces = false) (E : wEn) (w : wW) (sz : Nat) (F : FF) (MA : Nat → Nat) (mo : Nat) (cd : Int32) (N : Nat) (hI : wInv F N) (hm : wMod E F MA mo cd w) (r1 a1 : Int32) : wM l yX7_setAnswer wsX7_setAnswer 2 0 0 E w sz [.ref mo, .int r1, .int a1] (fun v w2 => v = some (.int (s_setAnswer F r1 a1).2.1) ∧ wMod E (s_setAnswer F r1 a1).2.2 MA mo (nI (s_setAnswer F r1 a1).1) w2 ∧ wKm mo MA w w2) (fun _ _ => False) := by
  refine wm_start (own := RX7) (cc := cX7_setAnswer) (maxL := 4) (ret := (some .int)) rfl (by decide) rfl (Nat.le_of_ble_eq_true rfl) ?_
  intro p e s m args below meth c ls C0 hr hin ht hP hS hl
  have hx := C0.1
  have hb := C0.2.1
  have hts := C0.2.2.2.2.1
  have hown := C0.2.2.2.1
  have hl : lv_has ls 4 [(0, .ref mo), (1, .int r1), (2, .int a1)] := hl
  have hf_79 : (Cond.fieldLink RX7 79 "CallGatewayModel" "code" "I").before args s = true := hts _ (by decide +kernel)
  have hf_22 : (Cond.fieldLink RX7 22 "CallGatewayModel" "answers" "[I").before args s = true := hts _ (by decide +kernel)
  have hi_RX7 : ∀ w ∈ u_ws RX7 TX7 27, w ∈ wsX7_setAnswer := fun _ h => List.mem_cons_of_mem _ (List.mem_append_left _ (List.mem_append_right _ h))
  have hn := hI.n
  have hn9 := hI.n
  refine lv_aload_n hx hb dX7_setAnswer_0 rfl (lv_at hl 0 rfl) ?_
  refine lv_iconst (v := 0) hx hb dX7_setAnswer_1 (by decide) ?_
  refine wl_put (T := TX7) (ty0 := tyX7) (fs2 := [.int 0, .int (nI (F 24 0)), .ref (MA 0), .ref (MA 1), .ref (MA 2), .ref (MA 3), .ref (MA 4), .ref (MA 5), .ref (MA 6), .ref (MA 7), .ref (MA 8), .ref (MA 9), .int (nI (F 24 1)), .ref (MA 10), .ref (MA 11), .ref (MA 12), .int (nI (F 24 2)), .ref (MA 13), .ref (MA 14), .ref (MA 15), .int (nI (F 24 3)), .ref (MA 16), .ref (MA 17), .ref (MA 18), .ref (MA 19), .ref (MA 20), .ref (MA 21)]) C0 hP hS (show w mo = some (.inr (7, [.int cd, .int (nI (F 24 0)), .ref (MA 0), .ref (MA 1), .ref (MA 2), .ref (MA 3), .ref (MA 4), .ref (MA 5), .ref (MA 6), .ref (MA 7), .ref (MA 8), .ref (MA 9), .int (nI (F 24 1)), .ref (MA 10), .ref (MA 11), .ref (MA 12), .int (nI (F 24 2)), .ref (MA 13), .ref (MA 14), .ref (MA 15), .int (nI (F 24 3)), .ref (MA 16), .ref (MA 17), .ref (MA 18), .ref (MA 19), .ref (MA 20), .ref (MA 21)])) from hm.x) hi_RX7 tyX7_ok nmX7 rfl 0 (by decide) hf_79 rfl rfl rfl rfl (Nat.le_of_ble_eq_true rfl) rfl dX7_setAnswer_2 (fun H locs hP hS => ?_)
  obtain ⟨w_2_0, hw9, hm_2_0, hk_2_0⟩ : ∃ wz : wW, wz = wU w mo (.inr (7, [.int 0, .int (nI (F 24 0)), .ref (MA 0), .ref (MA 1), .ref (MA 2), .ref (MA 3), .ref (MA 4), .ref (MA 5), .ref (MA 6), .ref (MA 7), .ref (MA 8), .ref (MA 9), .int (nI (F 24 1)), .ref (MA 10), .ref (MA 11), .ref (MA 12), .int (nI (F 24 2)), .ref (MA 13), .ref (MA 14), .ref (MA 15), .int (nI (F 24 3)), .ref (MA 16), .ref (MA 17), .ref (MA 18), .ref (MA 19), .ref (MA 20), .ref (MA 21)])) ∧ wMod E F MA mo (nI 0) wz ∧ wKm mo MA w wz := ⟨_, rfl, M_o (F := F) (G := F) (cd2 := nI 0) hm (fun a b h => rfl), wKm.rf.tr wKm.o⟩
  rw [← hw9] at hP
  refine lv_aload_n hx hb dX7_setAnswer_5 rfl (lv_at hl 0 rfl) ?_
  refine lv_iload_n hx hb dX7_setAnswer_6 rfl (lv_at hl 1 rfl) ?_
  refine wl_on C0 ht hP hS (wl_runV (As := [.int r1]) (rest := []) C0 hP hS (k_X7_isRoute l hst E w_2_0 H.size F MA mo (nI 0) N hI hm_2_0 r1) (cwV 1 hts gX7_setAnswer_X7_isRoute rfl rfl rfl (by decide +kernel) ⟨(Nat.le_of_ble_eq_true rfl), (Nat.le_of_ble_eq_true rfl)⟩) (show w_2_0 mo = some (.inr (7, [.int (nI 0), .int (nI (F 24 0)), .ref (MA 0), .ref (MA 1), .ref (MA 2), .ref (MA 3), .ref (MA 4), .ref (MA 5), .ref (MA 6), .ref (MA 7), .ref (MA 8), .ref (MA 9), .int (nI (F 24 1)), .ref (MA 10), .ref (MA 11), .ref (MA 12), .int (nI (F 24 2)), .ref (MA 13), .ref (MA 14), .ref (MA 15), .int (nI (F 24 3)), .ref (MA 16), .ref (MA 17), .ref (MA 18), .ref (MA 19), .ref (MA 20), .ref (MA 21)])) from hm_2_0.x) rfl rfl rfl hl.1 (Nat.le_of_ble_eq_true rfl) dX7_setAnswer_7 ⟨(Nat.le_of_ble_eq_true rfl), (Nat.le_of_ble_eq_true rfl)⟩) (Nat.le_of_ble_eq_true rfl) (Nat.le_of_ble_eq_true rfl) (fun _ _ h => h.elim) (fun v_7 w_7 H locs hq hP hS => ?_)
  obtain ⟨rfl, hw9⟩ := hq
  rw [hw9] at hP
  refine W.eq (g2 := F0 m 10 ls [.int (bI (vpb r1 (F 24 0)))]) rfl ?_
  refine lv_if_ne (tgt := 19) hx hb dX7_setAnswer_10 (by decide) (fun c_10 => ?_) (fun c_10 => ?_)
  · have q10 : vpb r1 (F 24 0) = true := bI_n.mp c_10
    have hr9 := vpb_tn q10
    have hrt := vpb_nt q10
    have h8 := hI.ro hr9
    have hl : lv_has ls 4 [(0, .ref mo), (1, .int (nI (tn r1))), (2, .int a1)] := by
      rw [hrt]
      exact hl
    refine lv_iload_n hx hb dX7_setAnswer_19 rfl (lv_at hl 2 rfl) ?_
    refine lv_iconst (v := 0) hx hb dX7_setAnswer_20 (by decide) ?_
    refine lv_sipush (v := 999) hx hb dX7_setAnswer_21 (by decide) ?_
    refine wl_on C0 ht hP hS (wl_runS (As := [.int a1, .int 0, .int 999]) (rest := []) C0 hP hS (k_X7_in l hst E w_2_0 H.size a1 0 999) (va_cwS 3 hts gX7_setAnswer_X7_in rfl rfl rfl (by decide +kernel) ⟨(Nat.le_of_ble_eq_true rfl), (Nat.le_of_ble_eq_true rfl)⟩) rfl rfl hl.1 (Nat.le_of_ble_eq_true rfl) dX7_setAnswer_24 ⟨(Nat.le_of_ble_eq_true rfl), (Nat.le_of_ble_eq_true rfl)⟩) (Nat.le_of_ble_eq_true rfl) (Nat.le_of_ble_eq_true rfl) (fun _ _ h => h.elim) (fun v_24 w_24 H locs hq hP hS => ?_)
    obtain ⟨rfl, hw9⟩ := hq
    rw [hw9] at hP
    refine W.eq (g2 := F0 m 27 ls [.int (bI (wi a1 0 999))]) rfl ?_
    refine lv_if_ne (tgt := 36) hx hb dX7_setAnswer_27 (by decide) (fun c_27 => ?_) (fun c_27 => ?_)
    · have q27 : wi a1 0 999 = true := bI_n.mp c_27
      have hat := wi_tn (lo := 0) (hi := 999) q27 (by omega) (by omega)
      have hl : lv_has ls 4 [(0, .ref mo), (1, .int (nI (tn r1))), (2, .int (nI (tn a1)))] := by
        rw [hat.1]
        exact hl
      refine lv_aload_n hx hb dX7_setAnswer_36 rfl (lv_at hl 0 rfl) ?_
      refine wl_get (T := TX7) C0 hP (show w_2_0 mo = some (.inr (7, [.int (nI 0), .int (nI (F 24 0)), .ref (MA 0), .ref (MA 1), .ref (MA 2), .ref (MA 3), .ref (MA 4), .ref (MA 5), .ref (MA 6), .ref (MA 7), .ref (MA 8), .ref (MA 9), .int (nI (F 24 1)), .ref (MA 10), .ref (MA 11), .ref (MA 12), .int (nI (F 24 2)), .ref (MA 13), .ref (MA 14), .ref (MA 15), .int (nI (F 24 3)), .ref (MA 16), .ref (MA 17), .ref (MA 18), .ref (MA 19), .ref (MA 20), .ref (MA 21)])) from hm_2_0.x) hi_RX7 rfl 6 (by decide) hf_22 rfl dX7_setAnswer_37 ?_
      refine lv_iload_n hx hb dX7_setAnswer_40 rfl (lv_at hl 1 rfl) ?_
      refine wl_iald C0 hP (show w_2_0 (MA 4) = some (.inl (E.2.1 0, 8, .inl (fun i => nI (F 4 i)))) from hm_2_0.i 4 (by decide) rfl rfl rfl) (vp_in_nI (by omega) (by omega)) dX7_setAnswer_41 ?_
      refine W.eq (g2 := F0 m 42 ls [.int (nI (F 4 (tn r1)))]) (by rw [show (nI (tn r1)).toNatClampNeg = (tn r1) from nI_clamp (by omega)]) ?_
      refine lv_istore_n (lv' := [(3, .int (nI (F 4 (tn r1)))), (0, .ref mo), (1, .int (nI (tn r1))), (2, .int (nI (tn a1)))]) hx hb dX7_setAnswer_42 rfl hl (by decide) rfl (fun ls hl => ?_)
      refine lv_aload_n hx hb dX7_setAnswer_43 rfl (lv_at hl 1 rfl) ?_
      refine wl_get (T := TX7) C0 hP (show w_2_0 mo = some (.inr (7, [.int (nI 0), .int (nI (F 24 0)), .ref (MA 0), .ref (MA 1), .ref (MA 2), .ref (MA 3), .ref (MA 4), .ref (MA 5), .ref (MA 6), .ref (MA 7), .ref (MA 8), .ref (MA 9), .int (nI (F 24 1)), .ref (MA 10), .ref (MA 11), .ref (MA 12), .int (nI (F 24 2)), .ref (MA 13), .ref (MA 14), .ref (MA 15), .int (nI (F 24 3)), .ref (MA 16), .ref (MA 17), .ref (MA 18), .ref (MA 19), .ref (MA 20), .ref (MA 21)])) from hm_2_0.x) hi_RX7 rfl 6 (by decide) hf_22 rfl dX7_setAnswer_44 ?_
      refine lv_iload_n hx hb dX7_setAnswer_47 rfl (lv_at hl 2 rfl) ?_
      refine lv_iload_n hx hb dX7_setAnswer_48 rfl (lv_at hl 3 rfl) ?_
      refine wl_iast C0 hP hS (show w_2_0 (MA 4) = some (.inl (E.2.1 0, 8, .inl (fun i => nI (F 4 i)))) from hm_2_0.i 4 (by decide) rfl rfl rfl) (vp_in_nI (by omega) (by omega)) dX7_setAnswer_49 (fun H locs hP hS => ?_)
      obtain ⟨w_49_1, hw9, hm_49_1, hk_49_1⟩ : ∃ wz : wW, wz = wU w_2_0 (MA 4) (.inl (E.2.1 0, 8, .inl (upd (fun i => nI (F 4 i)) (nI (tn r1)).toNatClampNeg (nI (tn a1))))) ∧ wMod E (fU F 4 (tn r1) (tn a1)) MA mo (nI 0) wz ∧ wKm mo MA w wz := ⟨_, rfl, M_s (F := F) hm_2_0 4 (tn r1) (tn a1) (by decide) (by rw [show (nI (tn r1)).toNatClampNeg = (tn r1) from nI_clamp (by omega), upd_nI]; rfl), hk_2_0.tr (wKm.s (by decide))⟩
      rw [← hw9] at hP
      refine lv_iload_n hx hb dX7_setAnswer_50 rfl (lv_at hl 0 rfl) ?_
      have hev : s_setAnswer F r1 a1 = (0, nI (F 4 (tn r1)), fU F 4 (tn r1) (tn a1)) := by simp [s_setAnswer, q10, q27]
      exact wl_iret C0 hr rfl hP hS dX7_setAnswer_51 (Nat.le_of_ble_eq_true rfl) (Nat.le_of_ble_eq_true rfl) (⟨by rw [hev], by rw [hev]; exact hm_49_1, hk_49_1⟩)
    · have q27 : wi a1 0 999 = false := bI_0.mp c_27
      refine lv_aload_n hx hb dX7_setAnswer_30 rfl (lv_at hl 0 rfl) ?_
      refine lv_iconst (v := 2) hx hb dX7_setAnswer_31 (by decide) ?_
      refine wl_on C0 ht hP hS (wl_runV (As := [.int 2]) (rest := []) C0 hP hS (k_X7_fails l hst E w_2_0 H.size F MA mo (nI 0) 2 hm_2_0) (cwV 1 hts gX7_setAnswer_X7_fails rfl rfl rfl (by decide +kernel) ⟨(Nat.le_of_ble_eq_true rfl), (Nat.le_of_ble_eq_true rfl)⟩) (show w_2_0 mo = some (.inr (7, [.int (nI 0), .int (nI (F 24 0)), .ref (MA 0), .ref (MA 1), .ref (MA 2), .ref (MA 3), .ref (MA 4), .ref (MA 5), .ref (MA 6), .ref (MA 7), .ref (MA 8), .ref (MA 9), .int (nI (F 24 1)), .ref (MA 10), .ref (MA 11), .ref (MA 12), .int (nI (F 24 2)), .ref (MA 13), .ref (MA 14), .ref (MA 15), .int (nI (F 24 3)), .ref (MA 16), .ref (MA 17), .ref (MA 18), .ref (MA 19), .ref (MA 20), .ref (MA 21)])) from hm_2_0.x) rfl rfl rfl hl.1 (Nat.le_of_ble_eq_true rfl) dX7_setAnswer_32 ⟨(Nat.le_of_ble_eq_true rfl), (Nat.le_of_ble_eq_true rfl)⟩) (Nat.le_of_ble_eq_true rfl) (Nat.le_of_ble_eq_true rfl) (fun _ _ h => h.elim) (fun v_32 w_32 H locs hq hP hS => ?_)
      obtain ⟨rfl, hm_32_2, hk2_32_2⟩ := hq
      have hk_32_2 := hk_2_0.tr hk2_32_2
      refine W.eq (g2 := F0 m 35 ls [.int 0]) rfl ?_
      have hev : s_setAnswer F r1 a1 = (2, 0, F) := by simp [s_setAnswer, q10, q27]
      exact wl_iret C0 hr rfl hP hS dX7_setAnswer_35 (Nat.le_of_ble_eq_true rfl) (Nat.le_of_ble_eq_true rfl) (⟨by rw [hev], by rw [hev]; exact hm_32_2, hk_32_2⟩)
  · have q10 : vpb r1 (F 24 0) = false := bI_0.mp c_10
    refine lv_aload_n hx hb dX7_setAnswer_13 rfl (lv_at hl 0 rfl) ?_
    refine lv_iconst (v := 1) hx hb dX7_setAnswer_14 (by decide) ?_
    refine wl_on C0 ht hP hS (wl_runV (As := [.int 1]) (rest := []) C0 hP hS (k_X7_fails l hst E w_2_0 H.size F MA mo (nI 0) 1 hm_2_0) (cwV 1 hts gX7_setAnswer_X7_fails rfl rfl rfl (by decide +kernel) ⟨(Nat.le_of_ble_eq_true rfl), (Nat.le_of_ble_eq_true rfl)⟩) (show w_2_0 mo = some (.inr (7, [.int (nI 0), .int (nI (F 24 0)), .ref (MA 0), .ref (MA 1), .ref (MA 2), .ref (MA 3), .ref (MA 4), .ref (MA 5), .ref (MA 6), .ref (MA 7), .ref (MA 8), .ref (MA 9), .int (nI (F 24 1)), .ref (MA 10), .ref (MA 11), .ref (MA 12), .int (nI (F 24 2)), .ref (MA 13), .ref (MA 14), .ref (MA 15), .int (nI (F 24 3)), .ref (MA 16), .ref (MA 17), .ref (MA 18), .ref (MA 19), .ref (MA 20), .ref (MA 21)])) from hm_2_0.x) rfl rfl rfl hl.1 (Nat.le_of_ble_eq_true rfl) dX7_setAnswer_15 ⟨(Nat.le_of_ble_eq_true rfl), (Nat.le_of_ble_eq_true rfl)⟩) (Nat.le_of_ble_eq_true rfl) (Nat.le_of_ble_eq_true rfl) (fun _ _ h => h.elim) (fun v_15 w_15 H locs hq hP hS => ?_)
    obtain ⟨rfl, hm_15_3, hk2_15_3⟩ := hq
    have hk_15_3 := hk_2_0.tr hk2_15_3
    refine W.eq (g2 := F0 m 18 ls [.int 0]) rfl ?_
    have hev : s_setAnswer F r1 a1 = (1, 0, F) := by simp [s_setAnswer, q10]
    exact wl_iret C0 hr rfl hP hS dX7_setAnswer_18 (Nat.le_of_ble_eq_true rfl) (Nat.le_of_ble_eq_true rfl) (⟨by rw [hev], by rw [hev]; exact hm_15_3, hk_15_3⟩)

set_option maxHeartbeats 4000000 in
set_option maxRecDepth 100000 in
theorem k_X7_setShare (l : Launch) (hst : l.stackTraces = false) (E : wEn) (w : wW) (sz : Nat) (F : FF) (MA : Nat → Nat) (mo : Nat) (cd : Int32) (N : Nat) (hI : wInv F N) (hm : wMod E F MA mo cd w) (r1 sh1 : Int32) : wM l yX7_setShare wsX7_setShare 2 0 0 E w sz [.ref mo, .int r1, .int sh1] (fun v w2 => v = some (.int (s_setShare F r1 sh1).2.1) ∧ wMod E (s_setShare F r1 sh1).2.2 MA mo (nI (s_setShare F r1 sh1).1) w2 ∧ wKm mo MA w w2) (fun _ _ => False) := by
  refine wm_start (own := RX7) (cc := cX7_setShare) (maxL := 4) (ret := (some .int)) rfl (by decide) rfl (Nat.le_of_ble_eq_true rfl) ?_
  intro p e s m args below meth c ls C0 hr hin ht hP hS hl
  have hx := C0.1
  have hb := C0.2.1
  have hts := C0.2.2.2.2.1
  have hown := C0.2.2.2.1
  have hl : lv_has ls 4 [(0, .ref mo), (1, .int r1), (2, .int sh1)] := hl
  have hf_79 : (Cond.fieldLink RX7 79 "CallGatewayModel" "code" "I").before args s = true := hts _ (by decide +kernel)
  have hf_25 : (Cond.fieldLink RX7 25 "CallGatewayModel" "canary" "[Z").before args s = true := hts _ (by decide +kernel)
  have hf_32 : (Cond.fieldLink RX7 32 "CallGatewayModel" "shares" "[I").before args s = true := hts _ (by decide +kernel)
  have hi_RX7 : ∀ w ∈ u_ws RX7 TX7 27, w ∈ wsX7_setShare := fun _ h => List.mem_cons_of_mem _ (List.mem_append_left _ (List.mem_append_right _ h))
  have hn := hI.n
  have hn9 := hI.n
  refine lv_aload_n hx hb dX7_setShare_0 rfl (lv_at hl 0 rfl) ?_
  refine lv_iconst (v := 0) hx hb dX7_setShare_1 (by decide) ?_
  refine wl_put (T := TX7) (ty0 := tyX7) (fs2 := [.int 0, .int (nI (F 24 0)), .ref (MA 0), .ref (MA 1), .ref (MA 2), .ref (MA 3), .ref (MA 4), .ref (MA 5), .ref (MA 6), .ref (MA 7), .ref (MA 8), .ref (MA 9), .int (nI (F 24 1)), .ref (MA 10), .ref (MA 11), .ref (MA 12), .int (nI (F 24 2)), .ref (MA 13), .ref (MA 14), .ref (MA 15), .int (nI (F 24 3)), .ref (MA 16), .ref (MA 17), .ref (MA 18), .ref (MA 19), .ref (MA 20), .ref (MA 21)]) C0 hP hS (show w mo = some (.inr (7, [.int cd, .int (nI (F 24 0)), .ref (MA 0), .ref (MA 1), .ref (MA 2), .ref (MA 3), .ref (MA 4), .ref (MA 5), .ref (MA 6), .ref (MA 7), .ref (MA 8), .ref (MA 9), .int (nI (F 24 1)), .ref (MA 10), .ref (MA 11), .ref (MA 12), .int (nI (F 24 2)), .ref (MA 13), .ref (MA 14), .ref (MA 15), .int (nI (F 24 3)), .ref (MA 16), .ref (MA 17), .ref (MA 18), .ref (MA 19), .ref (MA 20), .ref (MA 21)])) from hm.x) hi_RX7 tyX7_ok nmX7 rfl 0 (by decide) hf_79 rfl rfl rfl rfl (Nat.le_of_ble_eq_true rfl) rfl dX7_setShare_2 (fun H locs hP hS => ?_)
  obtain ⟨w_2_0, hw9, hm_2_0, hk_2_0⟩ : ∃ wz : wW, wz = wU w mo (.inr (7, [.int 0, .int (nI (F 24 0)), .ref (MA 0), .ref (MA 1), .ref (MA 2), .ref (MA 3), .ref (MA 4), .ref (MA 5), .ref (MA 6), .ref (MA 7), .ref (MA 8), .ref (MA 9), .int (nI (F 24 1)), .ref (MA 10), .ref (MA 11), .ref (MA 12), .int (nI (F 24 2)), .ref (MA 13), .ref (MA 14), .ref (MA 15), .int (nI (F 24 3)), .ref (MA 16), .ref (MA 17), .ref (MA 18), .ref (MA 19), .ref (MA 20), .ref (MA 21)])) ∧ wMod E F MA mo (nI 0) wz ∧ wKm mo MA w wz := ⟨_, rfl, M_o (F := F) (G := F) (cd2 := nI 0) hm (fun a b h => rfl), wKm.rf.tr wKm.o⟩
  rw [← hw9] at hP
  refine lv_aload_n hx hb dX7_setShare_5 rfl (lv_at hl 0 rfl) ?_
  refine lv_iload_n hx hb dX7_setShare_6 rfl (lv_at hl 1 rfl) ?_
  refine wl_on C0 ht hP hS (wl_runV (As := [.int r1]) (rest := []) C0 hP hS (k_X7_isRoute l hst E w_2_0 H.size F MA mo (nI 0) N hI hm_2_0 r1) (cwV 1 hts gX7_setShare_X7_isRoute rfl rfl rfl (by decide +kernel) ⟨(Nat.le_of_ble_eq_true rfl), (Nat.le_of_ble_eq_true rfl)⟩) (show w_2_0 mo = some (.inr (7, [.int (nI 0), .int (nI (F 24 0)), .ref (MA 0), .ref (MA 1), .ref (MA 2), .ref (MA 3), .ref (MA 4), .ref (MA 5), .ref (MA 6), .ref (MA 7), .ref (MA 8), .ref (MA 9), .int (nI (F 24 1)), .ref (MA 10), .ref (MA 11), .ref (MA 12), .int (nI (F 24 2)), .ref (MA 13), .ref (MA 14), .ref (MA 15), .int (nI (F 24 3)), .ref (MA 16), .ref (MA 17), .ref (MA 18), .ref (MA 19), .ref (MA 20), .ref (MA 21)])) from hm_2_0.x) rfl rfl rfl hl.1 (Nat.le_of_ble_eq_true rfl) dX7_setShare_7 ⟨(Nat.le_of_ble_eq_true rfl), (Nat.le_of_ble_eq_true rfl)⟩) (Nat.le_of_ble_eq_true rfl) (Nat.le_of_ble_eq_true rfl) (fun _ _ h => h.elim) (fun v_7 w_7 H locs hq hP hS => ?_)
  obtain ⟨rfl, hw9⟩ := hq
  rw [hw9] at hP
  refine W.eq (g2 := F0 m 10 ls [.int (bI (vpb r1 (F 24 0)))]) rfl ?_
  refine lv_if_ne (tgt := 19) hx hb dX7_setShare_10 (by decide) (fun c_10 => ?_) (fun c_10 => ?_)
  · have q10 : vpb r1 (F 24 0) = true := bI_n.mp c_10
    have hr9 := vpb_tn q10
    have hrt := vpb_nt q10
    have h8 := hI.ro hr9
    have hl : lv_has ls 4 [(0, .ref mo), (1, .int (nI (tn r1))), (2, .int sh1)] := by
      rw [hrt]
      exact hl
    refine lv_iload_n hx hb dX7_setShare_19 rfl (lv_at hl 2 rfl) ?_
    refine lv_iconst (v := 1) hx hb dX7_setShare_20 (by decide) ?_
    refine lv_bipush (v := 100) hx hb dX7_setShare_21 (by decide) ?_
    refine wl_on C0 ht hP hS (wl_runS (As := [.int sh1, .int 1, .int 100]) (rest := []) C0 hP hS (k_X7_in l hst E w_2_0 H.size sh1 1 100) (va_cwS 3 hts gX7_setShare_X7_in rfl rfl rfl (by decide +kernel) ⟨(Nat.le_of_ble_eq_true rfl), (Nat.le_of_ble_eq_true rfl)⟩) rfl rfl hl.1 (Nat.le_of_ble_eq_true rfl) dX7_setShare_23 ⟨(Nat.le_of_ble_eq_true rfl), (Nat.le_of_ble_eq_true rfl)⟩) (Nat.le_of_ble_eq_true rfl) (Nat.le_of_ble_eq_true rfl) (fun _ _ h => h.elim) (fun v_23 w_23 H locs hq hP hS => ?_)
    obtain ⟨rfl, hw9⟩ := hq
    rw [hw9] at hP
    refine W.eq (g2 := F0 m 26 ls [.int (bI (wi sh1 1 100))]) rfl ?_
    refine lv_if_ne (tgt := 35) hx hb dX7_setShare_26 (by decide) (fun c_26 => ?_) (fun c_26 => ?_)
    · have q26 : wi sh1 1 100 = true := bI_n.mp c_26
      have hat := wi_tn (lo := 1) (hi := 100) q26 (by omega) (by omega)
      have hl : lv_has ls 4 [(0, .ref mo), (1, .int (nI (tn r1))), (2, .int (nI (tn sh1)))] := by
        rw [hat.1]
        exact hl
      refine lv_aload_n hx hb dX7_setShare_35 rfl (lv_at hl 0 rfl) ?_
      refine wl_get (T := TX7) C0 hP (show w_2_0 mo = some (.inr (7, [.int (nI 0), .int (nI (F 24 0)), .ref (MA 0), .ref (MA 1), .ref (MA 2), .ref (MA 3), .ref (MA 4), .ref (MA 5), .ref (MA 6), .ref (MA 7), .ref (MA 8), .ref (MA 9), .int (nI (F 24 1)), .ref (MA 10), .ref (MA 11), .ref (MA 12), .int (nI (F 24 2)), .ref (MA 13), .ref (MA 14), .ref (MA 15), .int (nI (F 24 3)), .ref (MA 16), .ref (MA 17), .ref (MA 18), .ref (MA 19), .ref (MA 20), .ref (MA 21)])) from hm_2_0.x) hi_RX7 rfl 7 (by decide) hf_25 rfl dX7_setShare_36 ?_
      refine lv_iload_n hx hb dX7_setShare_39 rfl (lv_at hl 1 rfl) ?_
      refine wl_zald C0 hP (show w_2_0 (MA 5) = some (.inl (E.2.1 3, 8, .inl (fun i => nI (F 5 i)))) from hm_2_0.i 5 (by decide) rfl rfl rfl) (vp_in_nI (by omega) (by omega)) dX7_setShare_40 ?_
      refine W.eq (g2 := F0 m 41 ls [.int (nI (F 5 (tn r1)))]) (by rw [show (nI (tn r1)).toNatClampNeg = (tn r1) from nI_clamp (by omega)]) ?_
      refine lv_if_ne (tgt := 50) hx hb dX7_setShare_41 (by decide) (fun c_41 => ?_) (fun c_41 => ?_)
      · have q41 : ¬ F 5 (tn r1) = 0 := fun q => c_41 ((nI_e0 (by omega)).mpr q)
        refine lv_aload_n hx hb dX7_setShare_50 rfl (lv_at hl 0 rfl) ?_
        refine wl_get (T := TX7) C0 hP (show w_2_0 mo = some (.inr (7, [.int (nI 0), .int (nI (F 24 0)), .ref (MA 0), .ref (MA 1), .ref (MA 2), .ref (MA 3), .ref (MA 4), .ref (MA 5), .ref (MA 6), .ref (MA 7), .ref (MA 8), .ref (MA 9), .int (nI (F 24 1)), .ref (MA 10), .ref (MA 11), .ref (MA 12), .int (nI (F 24 2)), .ref (MA 13), .ref (MA 14), .ref (MA 15), .int (nI (F 24 3)), .ref (MA 16), .ref (MA 17), .ref (MA 18), .ref (MA 19), .ref (MA 20), .ref (MA 21)])) from hm_2_0.x) hi_RX7 rfl 9 (by decide) hf_32 rfl dX7_setShare_51 ?_
        refine lv_iload_n hx hb dX7_setShare_54 rfl (lv_at hl 1 rfl) ?_
        refine wl_iald C0 hP (show w_2_0 (MA 7) = some (.inl (E.2.1 0, 8, .inl (fun i => nI (F 7 i)))) from hm_2_0.i 7 (by decide) rfl rfl rfl) (vp_in_nI (by omega) (by omega)) dX7_setShare_55 ?_
        refine W.eq (g2 := F0 m 56 ls [.int (nI (F 7 (tn r1)))]) (by rw [show (nI (tn r1)).toNatClampNeg = (tn r1) from nI_clamp (by omega)]) ?_
        refine lv_istore_n (lv' := [(3, .int (nI (F 7 (tn r1)))), (0, .ref mo), (1, .int (nI (tn r1))), (2, .int (nI (tn sh1)))]) hx hb dX7_setShare_56 rfl hl (by decide) rfl (fun ls hl => ?_)
        refine lv_aload_n hx hb dX7_setShare_57 rfl (lv_at hl 1 rfl) ?_
        refine wl_get (T := TX7) C0 hP (show w_2_0 mo = some (.inr (7, [.int (nI 0), .int (nI (F 24 0)), .ref (MA 0), .ref (MA 1), .ref (MA 2), .ref (MA 3), .ref (MA 4), .ref (MA 5), .ref (MA 6), .ref (MA 7), .ref (MA 8), .ref (MA 9), .int (nI (F 24 1)), .ref (MA 10), .ref (MA 11), .ref (MA 12), .int (nI (F 24 2)), .ref (MA 13), .ref (MA 14), .ref (MA 15), .int (nI (F 24 3)), .ref (MA 16), .ref (MA 17), .ref (MA 18), .ref (MA 19), .ref (MA 20), .ref (MA 21)])) from hm_2_0.x) hi_RX7 rfl 9 (by decide) hf_32 rfl dX7_setShare_58 ?_
        refine lv_iload_n hx hb dX7_setShare_61 rfl (lv_at hl 2 rfl) ?_
        refine lv_iload_n hx hb dX7_setShare_62 rfl (lv_at hl 3 rfl) ?_
        refine wl_iast C0 hP hS (show w_2_0 (MA 7) = some (.inl (E.2.1 0, 8, .inl (fun i => nI (F 7 i)))) from hm_2_0.i 7 (by decide) rfl rfl rfl) (vp_in_nI (by omega) (by omega)) dX7_setShare_63 (fun H locs hP hS => ?_)
        obtain ⟨w_63_1, hw9, hm_63_1, hk_63_1⟩ : ∃ wz : wW, wz = wU w_2_0 (MA 7) (.inl (E.2.1 0, 8, .inl (upd (fun i => nI (F 7 i)) (nI (tn r1)).toNatClampNeg (nI (tn sh1))))) ∧ wMod E (fU F 7 (tn r1) (tn sh1)) MA mo (nI 0) wz ∧ wKm mo MA w wz := ⟨_, rfl, M_s (F := F) hm_2_0 7 (tn r1) (tn sh1) (by decide) (by rw [show (nI (tn r1)).toNatClampNeg = (tn r1) from nI_clamp (by omega), upd_nI]; rfl), hk_2_0.tr (wKm.s (by decide))⟩
        rw [← hw9] at hP
        refine lv_iload_n hx hb dX7_setShare_64 rfl (lv_at hl 0 rfl) ?_
        have hev : s_setShare F r1 sh1 = (0, nI (F 7 (tn r1)), fU F 7 (tn r1) (tn sh1)) := by simp [s_setShare, q10, q26, q41]
        exact wl_iret C0 hr rfl hP hS dX7_setShare_65 (Nat.le_of_ble_eq_true rfl) (Nat.le_of_ble_eq_true rfl) (⟨by rw [hev], by rw [hev]; exact hm_63_1, hk_63_1⟩)
      · have q41 : F 5 (tn r1) = 0 := (nI_e0 (by omega)).mp c_41
        refine lv_aload_n hx hb dX7_setShare_44 rfl (lv_at hl 0 rfl) ?_
        refine lv_iconst (v := 3) hx hb dX7_setShare_45 (by decide) ?_
        refine wl_on C0 ht hP hS (wl_runV (As := [.int 3]) (rest := []) C0 hP hS (k_X7_fails l hst E w_2_0 H.size F MA mo (nI 0) 3 hm_2_0) (cwV 1 hts gX7_setShare_X7_fails rfl rfl rfl (by decide +kernel) ⟨(Nat.le_of_ble_eq_true rfl), (Nat.le_of_ble_eq_true rfl)⟩) (show w_2_0 mo = some (.inr (7, [.int (nI 0), .int (nI (F 24 0)), .ref (MA 0), .ref (MA 1), .ref (MA 2), .ref (MA 3), .ref (MA 4), .ref (MA 5), .ref (MA 6), .ref (MA 7), .ref (MA 8), .ref (MA 9), .int (nI (F 24 1)), .ref (MA 10), .ref (MA 11), .ref (MA 12), .int (nI (F 24 2)), .ref (MA 13), .ref (MA 14), .ref (MA 15), .int (nI (F 24 3)), .ref (MA 16), .ref (MA 17), .ref (MA 18), .ref (MA 19), .ref (MA 20), .ref (MA 21)])) from hm_2_0.x) rfl rfl rfl hl.1 (Nat.le_of_ble_eq_true rfl) dX7_setShare_46 ⟨(Nat.le_of_ble_eq_true rfl), (Nat.le_of_ble_eq_true rfl)⟩) (Nat.le_of_ble_eq_true rfl) (Nat.le_of_ble_eq_true rfl) (fun _ _ h => h.elim) (fun v_46 w_46 H locs hq hP hS => ?_)
        obtain ⟨rfl, hm_46_2, hk2_46_2⟩ := hq
        have hk_46_2 := hk_2_0.tr hk2_46_2
        refine W.eq (g2 := F0 m 49 ls [.int 0]) rfl ?_
        have hev : s_setShare F r1 sh1 = (3, 0, F) := by simp [s_setShare, q10, q26, q41]
        exact wl_iret C0 hr rfl hP hS dX7_setShare_49 (Nat.le_of_ble_eq_true rfl) (Nat.le_of_ble_eq_true rfl) (⟨by rw [hev], by rw [hev]; exact hm_46_2, hk_46_2⟩)
    · have q26 : wi sh1 1 100 = false := bI_0.mp c_26
      refine lv_aload_n hx hb dX7_setShare_29 rfl (lv_at hl 0 rfl) ?_
      refine lv_iconst (v := 2) hx hb dX7_setShare_30 (by decide) ?_
      refine wl_on C0 ht hP hS (wl_runV (As := [.int 2]) (rest := []) C0 hP hS (k_X7_fails l hst E w_2_0 H.size F MA mo (nI 0) 2 hm_2_0) (cwV 1 hts gX7_setShare_X7_fails rfl rfl rfl (by decide +kernel) ⟨(Nat.le_of_ble_eq_true rfl), (Nat.le_of_ble_eq_true rfl)⟩) (show w_2_0 mo = some (.inr (7, [.int (nI 0), .int (nI (F 24 0)), .ref (MA 0), .ref (MA 1), .ref (MA 2), .ref (MA 3), .ref (MA 4), .ref (MA 5), .ref (MA 6), .ref (MA 7), .ref (MA 8), .ref (MA 9), .int (nI (F 24 1)), .ref (MA 10), .ref (MA 11), .ref (MA 12), .int (nI (F 24 2)), .ref (MA 13), .ref (MA 14), .ref (MA 15), .int (nI (F 24 3)), .ref (MA 16), .ref (MA 17), .ref (MA 18), .ref (MA 19), .ref (MA 20), .ref (MA 21)])) from hm_2_0.x) rfl rfl rfl hl.1 (Nat.le_of_ble_eq_true rfl) dX7_setShare_31 ⟨(Nat.le_of_ble_eq_true rfl), (Nat.le_of_ble_eq_true rfl)⟩) (Nat.le_of_ble_eq_true rfl) (Nat.le_of_ble_eq_true rfl) (fun _ _ h => h.elim) (fun v_31 w_31 H locs hq hP hS => ?_)
      obtain ⟨rfl, hm_31_3, hk2_31_3⟩ := hq
      have hk_31_3 := hk_2_0.tr hk2_31_3
      refine W.eq (g2 := F0 m 34 ls [.int 0]) rfl ?_
      have hev : s_setShare F r1 sh1 = (2, 0, F) := by simp [s_setShare, q10, q26]
      exact wl_iret C0 hr rfl hP hS dX7_setShare_34 (Nat.le_of_ble_eq_true rfl) (Nat.le_of_ble_eq_true rfl) (⟨by rw [hev], by rw [hev]; exact hm_31_3, hk_31_3⟩)
  · have q10 : vpb r1 (F 24 0) = false := bI_0.mp c_10
    refine lv_aload_n hx hb dX7_setShare_13 rfl (lv_at hl 0 rfl) ?_
    refine lv_iconst (v := 1) hx hb dX7_setShare_14 (by decide) ?_
    refine wl_on C0 ht hP hS (wl_runV (As := [.int 1]) (rest := []) C0 hP hS (k_X7_fails l hst E w_2_0 H.size F MA mo (nI 0) 1 hm_2_0) (cwV 1 hts gX7_setShare_X7_fails rfl rfl rfl (by decide +kernel) ⟨(Nat.le_of_ble_eq_true rfl), (Nat.le_of_ble_eq_true rfl)⟩) (show w_2_0 mo = some (.inr (7, [.int (nI 0), .int (nI (F 24 0)), .ref (MA 0), .ref (MA 1), .ref (MA 2), .ref (MA 3), .ref (MA 4), .ref (MA 5), .ref (MA 6), .ref (MA 7), .ref (MA 8), .ref (MA 9), .int (nI (F 24 1)), .ref (MA 10), .ref (MA 11), .ref (MA 12), .int (nI (F 24 2)), .ref (MA 13), .ref (MA 14), .ref (MA 15), .int (nI (F 24 3)), .ref (MA 16), .ref (MA 17), .ref (MA 18), .ref (MA 19), .ref (MA 20), .ref (MA 21)])) from hm_2_0.x) rfl rfl rfl hl.1 (Nat.le_of_ble_eq_true rfl) dX7_setShare_15 ⟨(Nat.le_of_ble_eq_true rfl), (Nat.le_of_ble_eq_true rfl)⟩) (Nat.le_of_ble_eq_true rfl) (Nat.le_of_ble_eq_true rfl) (fun _ _ h => h.elim) (fun v_15 w_15 H locs hq hP hS => ?_)
    obtain ⟨rfl, hm_15_4, hk2_15_4⟩ := hq
    have hk_15_4 := hk_2_0.tr hk2_15_4
    refine W.eq (g2 := F0 m 18 ls [.int 0]) rfl ?_
    have hev : s_setShare F r1 sh1 = (1, 0, F) := by simp [s_setShare, q10]
    exact wl_iret C0 hr rfl hP hS dX7_setShare_18 (Nat.le_of_ble_eq_true rfl) (Nat.le_of_ble_eq_true rfl) (⟨by rw [hev], by rw [hev]; exact hm_15_4, hk_15_4⟩)

set_option maxHeartbeats 4000000 in
set_option maxRecDepth 100000 in
theorem k_X7_broken (l : Launch) (hst : l.stackTraces = false) (E : wEn) (w : wW) (sz : Nat) (F : FF) (MA : Nat → Nat) (mo : Nat) (cd : Int32) (N : Nat) (hI : wInv F N) (hm : wMod E F MA mo cd w) (r1 : Int32) : wM l yX7_broken wsX7_broken 2 0 0 E w sz [.ref mo, .int r1] (fun v w2 => v = some (.int (s_broken F r1).2.1) ∧ wMod E (s_broken F r1).2.2 MA mo (nI (s_broken F r1).1) w2 ∧ wKm mo MA w w2) (fun _ _ => False) := by
  refine wm_start (own := RX7) (cc := cX7_broken) (maxL := 4) (ret := (some .char)) rfl (by decide) rfl (Nat.le_of_ble_eq_true rfl) ?_
  intro p e s m args below meth c ls C0 hr hin ht hP hS hl
  have hx := C0.1
  have hb := C0.2.1
  have hts := C0.2.2.2.2.1
  have hown := C0.2.2.2.1
  have hl : lv_has ls 4 [(0, .ref mo), (1, .int r1)] := hl
  have hf_79 : (Cond.fieldLink RX7 79 "CallGatewayModel" "code" "I").before args s = true := hts _ (by decide +kernel)
  have hf_22 : (Cond.fieldLink RX7 22 "CallGatewayModel" "answers" "[I").before args s = true := hts _ (by decide +kernel)
  have hf_25 : (Cond.fieldLink RX7 25 "CallGatewayModel" "canary" "[Z").before args s = true := hts _ (by decide +kernel)
  have hf_29 : (Cond.fieldLink RX7 29 "CallGatewayModel" "theirs" "[I").before args s = true := hts _ (by decide +kernel)
  have hi_RX7 : ∀ w ∈ u_ws RX7 TX7 27, w ∈ wsX7_broken := fun _ h => List.mem_cons_of_mem _ (List.mem_append_left _ (List.mem_append_right _ h))
  have hn := hI.n
  have hn9 := hI.n
  refine lv_aload_n hx hb dX7_broken_0 rfl (lv_at hl 0 rfl) ?_
  refine lv_aload_n hx hb dX7_broken_1 rfl (lv_at hl 0 rfl) ?_
  refine lv_iload_n hx hb dX7_broken_2 rfl (lv_at hl 1 rfl) ?_
  refine wl_on C0 ht hP hS (wl_runV (As := [.int r1]) (rest := [.ref mo]) C0 hP hS (k_X7_isRoute l hst E w s.heap.size F MA mo cd N hI hm r1) (cwV 1 hts gX7_broken_X7_isRoute rfl rfl rfl (by decide +kernel) ⟨(Nat.le_of_ble_eq_true rfl), (Nat.le_of_ble_eq_true rfl)⟩) (show w mo = some (.inr (7, [.int cd, .int (nI (F 24 0)), .ref (MA 0), .ref (MA 1), .ref (MA 2), .ref (MA 3), .ref (MA 4), .ref (MA 5), .ref (MA 6), .ref (MA 7), .ref (MA 8), .ref (MA 9), .int (nI (F 24 1)), .ref (MA 10), .ref (MA 11), .ref (MA 12), .int (nI (F 24 2)), .ref (MA 13), .ref (MA 14), .ref (MA 15), .int (nI (F 24 3)), .ref (MA 16), .ref (MA 17), .ref (MA 18), .ref (MA 19), .ref (MA 20), .ref (MA 21)])) from hm.x) rfl rfl rfl hl.1 (Nat.le_of_ble_eq_true rfl) dX7_broken_3 ⟨(Nat.le_of_ble_eq_true rfl), (Nat.le_of_ble_eq_true rfl)⟩) (Nat.le_of_ble_eq_true rfl) (Nat.le_of_ble_eq_true rfl) (fun _ _ h => h.elim) (fun v_3 w_3 H locs hq hP hS => ?_)
  obtain ⟨rfl, hw9⟩ := hq
  rw [hw9] at hP
  refine W.eq (g2 := F0 m 6 ls [.int (bI (vpb r1 (F 24 0))), .ref mo]) rfl ?_
  refine lv_if_eq (tgt := 13) hx hb dX7_broken_6 (by decide) (fun c_6 => ?_) (fun c_6 => ?_)
  · have q6 : vpb r1 (F 24 0) = false := bI_0.mp c_6
    refine lv_iconst (v := 1) hx hb dX7_broken_13 (by decide) ?_
    refine wl_put (T := TX7) (ty0 := tyX7) (fs2 := [.int 1, .int (nI (F 24 0)), .ref (MA 0), .ref (MA 1), .ref (MA 2), .ref (MA 3), .ref (MA 4), .ref (MA 5), .ref (MA 6), .ref (MA 7), .ref (MA 8), .ref (MA 9), .int (nI (F 24 1)), .ref (MA 10), .ref (MA 11), .ref (MA 12), .int (nI (F 24 2)), .ref (MA 13), .ref (MA 14), .ref (MA 15), .int (nI (F 24 3)), .ref (MA 16), .ref (MA 17), .ref (MA 18), .ref (MA 19), .ref (MA 20), .ref (MA 21)]) C0 hP hS (show w mo = some (.inr (7, [.int cd, .int (nI (F 24 0)), .ref (MA 0), .ref (MA 1), .ref (MA 2), .ref (MA 3), .ref (MA 4), .ref (MA 5), .ref (MA 6), .ref (MA 7), .ref (MA 8), .ref (MA 9), .int (nI (F 24 1)), .ref (MA 10), .ref (MA 11), .ref (MA 12), .int (nI (F 24 2)), .ref (MA 13), .ref (MA 14), .ref (MA 15), .int (nI (F 24 3)), .ref (MA 16), .ref (MA 17), .ref (MA 18), .ref (MA 19), .ref (MA 20), .ref (MA 21)])) from hm.x) hi_RX7 tyX7_ok nmX7 rfl 0 (by decide) hf_79 rfl rfl rfl rfl (Nat.le_of_ble_eq_true rfl) rfl dX7_broken_14 (fun H locs hP hS => ?_)
    obtain ⟨w_14_0, hw9, hm_14_0, hk_14_0⟩ : ∃ wz : wW, wz = wU w mo (.inr (7, [.int 1, .int (nI (F 24 0)), .ref (MA 0), .ref (MA 1), .ref (MA 2), .ref (MA 3), .ref (MA 4), .ref (MA 5), .ref (MA 6), .ref (MA 7), .ref (MA 8), .ref (MA 9), .int (nI (F 24 1)), .ref (MA 10), .ref (MA 11), .ref (MA 12), .int (nI (F 24 2)), .ref (MA 13), .ref (MA 14), .ref (MA 15), .int (nI (F 24 3)), .ref (MA 16), .ref (MA 17), .ref (MA 18), .ref (MA 19), .ref (MA 20), .ref (MA 21)])) ∧ wMod E F MA mo (nI 1) wz ∧ wKm mo MA w wz := ⟨_, rfl, M_o (F := F) (G := F) (cd2 := nI 1) hm (fun a b h => rfl), wKm.rf.tr wKm.o⟩
    rw [← hw9] at hP
    refine lv_aload_n hx hb dX7_broken_17 rfl (lv_at hl 0 rfl) ?_
    refine wl_get (T := TX7) C0 hP (show w_14_0 mo = some (.inr (7, [.int (nI 1), .int (nI (F 24 0)), .ref (MA 0), .ref (MA 1), .ref (MA 2), .ref (MA 3), .ref (MA 4), .ref (MA 5), .ref (MA 6), .ref (MA 7), .ref (MA 8), .ref (MA 9), .int (nI (F 24 1)), .ref (MA 10), .ref (MA 11), .ref (MA 12), .int (nI (F 24 2)), .ref (MA 13), .ref (MA 14), .ref (MA 15), .int (nI (F 24 3)), .ref (MA 16), .ref (MA 17), .ref (MA 18), .ref (MA 19), .ref (MA 20), .ref (MA 21)])) from hm_14_0.x) hi_RX7 rfl 0 (by decide) hf_79 rfl dX7_broken_18 ?_
    refine lv_if_le (tgt := 26) hx hb dX7_broken_21 (by decide) (fun c_21 => ?_) (fun c_21 => ?_)
    · exact absurd c_21 (by decide)
    · refine lv_iconst (v := 0) hx hb dX7_broken_24 (by decide) ?_
      have hev : s_broken F r1 = (1, 0, F) := by simp [s_broken, q6]
      exact wl_iret C0 hr (by decide) hP hS dX7_broken_25 (Nat.le_of_ble_eq_true rfl) (Nat.le_of_ble_eq_true rfl) (⟨by rw [hev], by rw [hev]; exact hm_14_0, hk_14_0⟩)
  · have q6 : vpb r1 (F 24 0) = true := bI_n.mp c_6
    have hr9 := vpb_tn q6
    have hrt := vpb_nt q6
    have h8 := hI.ro hr9
    have hl : lv_has ls 4 [(0, .ref mo), (1, .int (nI (tn r1)))] := by
      rw [hrt]
      exact hl
    refine lv_iconst (v := 0) hx hb dX7_broken_9 (by decide) ?_
    refine lv_goto (tgt := 14) hx hb dX7_broken_10 (by decide) ?_
    refine wl_put (T := TX7) (ty0 := tyX7) (fs2 := [.int 0, .int (nI (F 24 0)), .ref (MA 0), .ref (MA 1), .ref (MA 2), .ref (MA 3), .ref (MA 4), .ref (MA 5), .ref (MA 6), .ref (MA 7), .ref (MA 8), .ref (MA 9), .int (nI (F 24 1)), .ref (MA 10), .ref (MA 11), .ref (MA 12), .int (nI (F 24 2)), .ref (MA 13), .ref (MA 14), .ref (MA 15), .int (nI (F 24 3)), .ref (MA 16), .ref (MA 17), .ref (MA 18), .ref (MA 19), .ref (MA 20), .ref (MA 21)]) C0 hP hS (show w mo = some (.inr (7, [.int cd, .int (nI (F 24 0)), .ref (MA 0), .ref (MA 1), .ref (MA 2), .ref (MA 3), .ref (MA 4), .ref (MA 5), .ref (MA 6), .ref (MA 7), .ref (MA 8), .ref (MA 9), .int (nI (F 24 1)), .ref (MA 10), .ref (MA 11), .ref (MA 12), .int (nI (F 24 2)), .ref (MA 13), .ref (MA 14), .ref (MA 15), .int (nI (F 24 3)), .ref (MA 16), .ref (MA 17), .ref (MA 18), .ref (MA 19), .ref (MA 20), .ref (MA 21)])) from hm.x) hi_RX7 tyX7_ok nmX7 rfl 0 (by decide) hf_79 rfl rfl rfl rfl (Nat.le_of_ble_eq_true rfl) rfl dX7_broken_14 (fun H locs hP hS => ?_)
    obtain ⟨w_14_1, hw9, hm_14_1, hk_14_1⟩ : ∃ wz : wW, wz = wU w mo (.inr (7, [.int 0, .int (nI (F 24 0)), .ref (MA 0), .ref (MA 1), .ref (MA 2), .ref (MA 3), .ref (MA 4), .ref (MA 5), .ref (MA 6), .ref (MA 7), .ref (MA 8), .ref (MA 9), .int (nI (F 24 1)), .ref (MA 10), .ref (MA 11), .ref (MA 12), .int (nI (F 24 2)), .ref (MA 13), .ref (MA 14), .ref (MA 15), .int (nI (F 24 3)), .ref (MA 16), .ref (MA 17), .ref (MA 18), .ref (MA 19), .ref (MA 20), .ref (MA 21)])) ∧ wMod E F MA mo (nI 0) wz ∧ wKm mo MA w wz := ⟨_, rfl, M_o (F := F) (G := F) (cd2 := nI 0) hm (fun a b h => rfl), wKm.rf.tr wKm.o⟩
    rw [← hw9] at hP
    refine lv_aload_n hx hb dX7_broken_17 rfl (lv_at hl 0 rfl) ?_
    refine wl_get (T := TX7) C0 hP (show w_14_1 mo = some (.inr (7, [.int (nI 0), .int (nI (F 24 0)), .ref (MA 0), .ref (MA 1), .ref (MA 2), .ref (MA 3), .ref (MA 4), .ref (MA 5), .ref (MA 6), .ref (MA 7), .ref (MA 8), .ref (MA 9), .int (nI (F 24 1)), .ref (MA 10), .ref (MA 11), .ref (MA 12), .int (nI (F 24 2)), .ref (MA 13), .ref (MA 14), .ref (MA 15), .int (nI (F 24 3)), .ref (MA 16), .ref (MA 17), .ref (MA 18), .ref (MA 19), .ref (MA 20), .ref (MA 21)])) from hm_14_1.x) hi_RX7 rfl 0 (by decide) hf_79 rfl dX7_broken_18 ?_
    refine lv_if_le (tgt := 26) hx hb dX7_broken_21 (by decide) (fun c_21 => ?_) (fun c_21 => ?_)
    · refine lv_aload_n hx hb dX7_broken_26 rfl (lv_at hl 0 rfl) ?_
      refine lv_iload_n hx hb dX7_broken_27 rfl (lv_at hl 1 rfl) ?_
      refine lv_aload_n hx hb dX7_broken_28 rfl (lv_at hl 0 rfl) ?_
      refine wl_get (T := TX7) C0 hP (show w_14_1 mo = some (.inr (7, [.int (nI 0), .int (nI (F 24 0)), .ref (MA 0), .ref (MA 1), .ref (MA 2), .ref (MA 3), .ref (MA 4), .ref (MA 5), .ref (MA 6), .ref (MA 7), .ref (MA 8), .ref (MA 9), .int (nI (F 24 1)), .ref (MA 10), .ref (MA 11), .ref (MA 12), .int (nI (F 24 2)), .ref (MA 13), .ref (MA 14), .ref (MA 15), .int (nI (F 24 3)), .ref (MA 16), .ref (MA 17), .ref (MA 18), .ref (MA 19), .ref (MA 20), .ref (MA 21)])) from hm_14_1.x) hi_RX7 rfl 6 (by decide) hf_22 rfl dX7_broken_29 ?_
      refine lv_iload_n hx hb dX7_broken_32 rfl (lv_at hl 1 rfl) ?_
      refine wl_iald C0 hP (show w_14_1 (MA 4) = some (.inl (E.2.1 0, 8, .inl (fun i => nI (F 4 i)))) from hm_14_1.i 4 (by decide) rfl rfl rfl) (vp_in_nI (by omega) (by omega)) dX7_broken_33 ?_
      refine W.eq (g2 := F0 m 34 ls [.int (nI (F 4 (tn r1))), .int (nI (tn r1)), .ref mo]) (by rw [show (nI (tn r1)).toNatClampNeg = (tn r1) from nI_clamp (by omega)]) ?_
      refine wl_on C0 ht hP hS (wl_runV (As := [.int (nI (tn r1)), .int (nI (F 4 (tn r1)))]) (rest := []) C0 hP hS (k_X7_breaks l hst E w_14_1 H.size F MA mo (nI 0) N hI hm_14_1 (tn r1) hr9 (F 4 (tn r1)) h8.2.2.2.2.2.1) (cwV 2 hts gX7_broken_X7_breaks rfl rfl rfl (by decide +kernel) ⟨(Nat.le_of_ble_eq_true rfl), (Nat.le_of_ble_eq_true rfl)⟩) (show w_14_1 mo = some (.inr (7, [.int (nI 0), .int (nI (F 24 0)), .ref (MA 0), .ref (MA 1), .ref (MA 2), .ref (MA 3), .ref (MA 4), .ref (MA 5), .ref (MA 6), .ref (MA 7), .ref (MA 8), .ref (MA 9), .int (nI (F 24 1)), .ref (MA 10), .ref (MA 11), .ref (MA 12), .int (nI (F 24 2)), .ref (MA 13), .ref (MA 14), .ref (MA 15), .int (nI (F 24 3)), .ref (MA 16), .ref (MA 17), .ref (MA 18), .ref (MA 19), .ref (MA 20), .ref (MA 21)])) from hm_14_1.x) rfl rfl rfl hl.1 (Nat.le_of_ble_eq_true rfl) dX7_broken_34 ⟨(Nat.le_of_ble_eq_true rfl), (Nat.le_of_ble_eq_true rfl)⟩) (Nat.le_of_ble_eq_true rfl) (Nat.le_of_ble_eq_true rfl) (fun _ _ h => h.elim) (fun v_34 w_34 H locs hq hP hS => ?_)
      obtain ⟨rfl, hw9⟩ := hq
      rw [hw9] at hP
      refine W.eq (g2 := F0 m 37 ls [.int (bI (brk F (tn r1) (F 4 (tn r1))))]) rfl ?_
      refine lv_istore_n (lv' := [(2, .int (bI (brk F (tn r1) (F 4 (tn r1))))), (0, .ref mo), (1, .int (nI (tn r1)))]) hx hb dX7_broken_37 rfl hl (by decide) rfl (fun ls hl => ?_)
      refine lv_aload_n hx hb dX7_broken_38 rfl (lv_at hl 1 rfl) ?_
      refine wl_get (T := TX7) C0 hP (show w_14_1 mo = some (.inr (7, [.int (nI 0), .int (nI (F 24 0)), .ref (MA 0), .ref (MA 1), .ref (MA 2), .ref (MA 3), .ref (MA 4), .ref (MA 5), .ref (MA 6), .ref (MA 7), .ref (MA 8), .ref (MA 9), .int (nI (F 24 1)), .ref (MA 10), .ref (MA 11), .ref (MA 12), .int (nI (F 24 2)), .ref (MA 13), .ref (MA 14), .ref (MA 15), .int (nI (F 24 3)), .ref (MA 16), .ref (MA 17), .ref (MA 18), .ref (MA 19), .ref (MA 20), .ref (MA 21)])) from hm_14_1.x) hi_RX7 rfl 7 (by decide) hf_25 rfl dX7_broken_39 ?_
      refine lv_iload_n hx hb dX7_broken_42 rfl (lv_at hl 2 rfl) ?_
      refine wl_zald C0 hP (show w_14_1 (MA 5) = some (.inl (E.2.1 3, 8, .inl (fun i => nI (F 5 i)))) from hm_14_1.i 5 (by decide) rfl rfl rfl) (vp_in_nI (by omega) (by omega)) dX7_broken_43 ?_
      refine W.eq (g2 := F0 m 44 ls [.int (nI (F 5 (tn r1)))]) (by rw [show (nI (tn r1)).toNatClampNeg = (tn r1) from nI_clamp (by omega)]) ?_
      refine lv_if_eq (tgt := 65) hx hb dX7_broken_44 (by decide) (fun c_44 => ?_) (fun c_44 => ?_)
      · have q44 : F 5 (tn r1) = 0 := (nI_e0 (by omega)).mp c_44
        refine lv_iconst (v := 0) hx hb dX7_broken_65 (by decide) ?_
        refine lv_istore_n (lv' := [(3, .int 0), (2, .int (bI (brk F (tn r1) (F 4 (tn r1))))), (0, .ref mo), (1, .int (nI (tn r1)))]) hx hb dX7_broken_66 rfl hl (by decide) rfl (fun ls hl => ?_)
        refine lv_iload_n hx hb dX7_broken_67 rfl (lv_at hl 1 rfl) ?_
        refine lv_if_eq (tgt := 80) hx hb dX7_broken_68 (by decide) (fun c_68 => ?_) (fun c_68 => ?_)
        · have q68 : brk F (tn r1) (F 4 (tn r1)) = false := bI_0.mp c_68
          refine lv_iload_n hx hb dX7_broken_80 rfl (lv_at hl 1 rfl) ?_
          refine lv_if_eq (tgt := 89) hx hb dX7_broken_81 (by decide) (fun c_81 => ?_) (fun c_81 => ?_)
          · refine lv_iload_n hx hb dX7_broken_89 rfl (lv_at hl 0 rfl) ?_
            refine lv_if_eq (tgt := 98) hx hb dX7_broken_90 (by decide) (fun c_90 => ?_) (fun c_90 => ?_)
            · refine lv_bipush (v := 110) hx hb dX7_broken_98 (by decide) ?_
              have hev : s_broken F r1 = (0, 110, F) := by simp [s_broken, c_broken, q6, q44, q68]
              exact wl_iret C0 hr (by decide) hP hS dX7_broken_100 (Nat.le_of_ble_eq_true rfl) (Nat.le_of_ble_eq_true rfl) (⟨by rw [hev], by rw [hev]; exact hm_14_1, hk_14_1⟩)
            · exact absurd rfl c_90
          · exact absurd (bI_n.mp c_81) (by rw [q68]; decide)
        · have q68 : brk F (tn r1) (F 4 (tn r1)) = true := bI_n.mp c_68
          refine lv_iload_n hx hb dX7_broken_71 rfl (lv_at hl 0 rfl) ?_
          refine lv_if_eq (tgt := 80) hx hb dX7_broken_72 (by decide) (fun c_72 => ?_) (fun c_72 => ?_)
          · refine lv_iload_n hx hb dX7_broken_80 rfl (lv_at hl 1 rfl) ?_
            refine lv_if_eq (tgt := 89) hx hb dX7_broken_81 (by decide) (fun c_81 => ?_) (fun c_81 => ?_)
            · exact absurd (bI_0.mp c_81) (by rw [q68]; decide)
            · refine lv_bipush (v := 115) hx hb dX7_broken_84 (by decide) ?_
              refine lv_goto (tgt := 100) hx hb dX7_broken_86 (by decide) ?_
              have hev : s_broken F r1 = (0, 115, F) := by simp [s_broken, c_broken, q6, q44, q68]
              exact wl_iret C0 hr (by decide) hP hS dX7_broken_100 (Nat.le_of_ble_eq_true rfl) (Nat.le_of_ble_eq_true rfl) (⟨by rw [hev], by rw [hev]; exact hm_14_1, hk_14_1⟩)
          · exact absurd rfl c_72
      · have q44 : ¬ F 5 (tn r1) = 0 := fun q => c_44 ((nI_e0 (by omega)).mpr q)
        refine lv_aload_n hx hb dX7_broken_47 rfl (lv_at hl 1 rfl) ?_
        refine lv_iload_n hx hb dX7_broken_48 rfl (lv_at hl 2 rfl) ?_
        refine lv_aload_n hx hb dX7_broken_49 rfl (lv_at hl 1 rfl) ?_
        refine wl_get (T := TX7) C0 hP (show w_14_1 mo = some (.inr (7, [.int (nI 0), .int (nI (F 24 0)), .ref (MA 0), .ref (MA 1), .ref (MA 2), .ref (MA 3), .ref (MA 4), .ref (MA 5), .ref (MA 6), .ref (MA 7), .ref (MA 8), .ref (MA 9), .int (nI (F 24 1)), .ref (MA 10), .ref (MA 11), .ref (MA 12), .int (nI (F 24 2)), .ref (MA 13), .ref (MA 14), .ref (MA 15), .int (nI (F 24 3)), .ref (MA 16), .ref (MA 17), .ref (MA 18), .ref (MA 19), .ref (MA 20), .ref (MA 21)])) from hm_14_1.x) hi_RX7 rfl 8 (by decide) hf_29 rfl dX7_broken_50 ?_
        refine lv_iload_n hx hb dX7_broken_53 rfl (lv_at hl 2 rfl) ?_
        refine wl_iald C0 hP (show w_14_1 (MA 6) = some (.inl (E.2.1 0, 8, .inl (fun i => nI (F 6 i)))) from hm_14_1.i 6 (by decide) rfl rfl rfl) (vp_in_nI (by omega) (by omega)) dX7_broken_54 ?_
        refine W.eq (g2 := F0 m 55 ls [.int (nI (F 6 (tn r1))), .int (nI (tn r1)), .ref mo]) (by rw [show (nI (tn r1)).toNatClampNeg = (tn r1) from nI_clamp (by omega)]) ?_
        refine wl_on C0 ht hP hS (wl_runV (As := [.int (nI (tn r1)), .int (nI (F 6 (tn r1)))]) (rest := []) C0 hP hS (k_X7_breaks l hst E w_14_1 H.size F MA mo (nI 0) N hI hm_14_1 (tn r1) hr9 (F 6 (tn r1)) (hI.ca hr9 q44).1) (cwV 2 hts gX7_broken_X7_breaks rfl rfl rfl (by decide +kernel) ⟨(Nat.le_of_ble_eq_true rfl), (Nat.le_of_ble_eq_true rfl)⟩) (show w_14_1 mo = some (.inr (7, [.int (nI 0), .int (nI (F 24 0)), .ref (MA 0), .ref (MA 1), .ref (MA 2), .ref (MA 3), .ref (MA 4), .ref (MA 5), .ref (MA 6), .ref (MA 7), .ref (MA 8), .ref (MA 9), .int (nI (F 24 1)), .ref (MA 10), .ref (MA 11), .ref (MA 12), .int (nI (F 24 2)), .ref (MA 13), .ref (MA 14), .ref (MA 15), .int (nI (F 24 3)), .ref (MA 16), .ref (MA 17), .ref (MA 18), .ref (MA 19), .ref (MA 20), .ref (MA 21)])) from hm_14_1.x) rfl rfl rfl hl.1 (Nat.le_of_ble_eq_true rfl) dX7_broken_55 ⟨(Nat.le_of_ble_eq_true rfl), (Nat.le_of_ble_eq_true rfl)⟩) (Nat.le_of_ble_eq_true rfl) (Nat.le_of_ble_eq_true rfl) (fun _ _ h => h.elim) (fun v_55 w_55 H locs hq hP hS => ?_)
        obtain ⟨rfl, hw9⟩ := hq
        rw [hw9] at hP
        refine W.eq (g2 := F0 m 58 ls [.int (bI (brk F (tn r1) (F 6 (tn r1))))]) rfl ?_
        refine lv_if_eq (tgt := 65) hx hb dX7_broken_58 (by decide) (fun c_58 => ?_) (fun c_58 => ?_)
        · have q58 : brk F (tn r1) (F 6 (tn r1)) = false := bI_0.mp c_58
          refine lv_iconst (v := 0) hx hb dX7_broken_65 (by decide) ?_
          refine lv_istore_n (lv' := [(3, .int 0), (2, .int (bI (brk F (tn r1) (F 4 (tn r1))))), (0, .ref mo), (1, .int (nI (tn r1)))]) hx hb dX7_broken_66 rfl hl (by decide) rfl (fun ls hl => ?_)
          refine lv_iload_n hx hb dX7_broken_67 rfl (lv_at hl 1 rfl) ?_
          refine lv_if_eq (tgt := 80) hx hb dX7_broken_68 (by decide) (fun c_68 => ?_) (fun c_68 => ?_)
          · have q68 : brk F (tn r1) (F 4 (tn r1)) = false := bI_0.mp c_68
            refine lv_iload_n hx hb dX7_broken_80 rfl (lv_at hl 1 rfl) ?_
            refine lv_if_eq (tgt := 89) hx hb dX7_broken_81 (by decide) (fun c_81 => ?_) (fun c_81 => ?_)
            · refine lv_iload_n hx hb dX7_broken_89 rfl (lv_at hl 0 rfl) ?_
              refine lv_if_eq (tgt := 98) hx hb dX7_broken_90 (by decide) (fun c_90 => ?_) (fun c_90 => ?_)
              · refine lv_bipush (v := 110) hx hb dX7_broken_98 (by decide) ?_
                have hev : s_broken F r1 = (0, 110, F) := by simp [s_broken, c_broken, q6, q44, q58, q68]
                exact wl_iret C0 hr (by decide) hP hS dX7_broken_100 (Nat.le_of_ble_eq_true rfl) (Nat.le_of_ble_eq_true rfl) (⟨by rw [hev], by rw [hev]; exact hm_14_1, hk_14_1⟩)
              · exact absurd rfl c_90
            · exact absurd (bI_n.mp c_81) (by rw [q68]; decide)
          · have q68 : brk F (tn r1) (F 4 (tn r1)) = true := bI_n.mp c_68
            refine lv_iload_n hx hb dX7_broken_71 rfl (lv_at hl 0 rfl) ?_
            refine lv_if_eq (tgt := 80) hx hb dX7_broken_72 (by decide) (fun c_72 => ?_) (fun c_72 => ?_)
            · refine lv_iload_n hx hb dX7_broken_80 rfl (lv_at hl 1 rfl) ?_
              refine lv_if_eq (tgt := 89) hx hb dX7_broken_81 (by decide) (fun c_81 => ?_) (fun c_81 => ?_)
              · exact absurd (bI_0.mp c_81) (by rw [q68]; decide)
              · refine lv_bipush (v := 115) hx hb dX7_broken_84 (by decide) ?_
                refine lv_goto (tgt := 100) hx hb dX7_broken_86 (by decide) ?_
                have hev : s_broken F r1 = (0, 115, F) := by simp [s_broken, c_broken, q6, q44, q58, q68]
                exact wl_iret C0 hr (by decide) hP hS dX7_broken_100 (Nat.le_of_ble_eq_true rfl) (Nat.le_of_ble_eq_true rfl) (⟨by rw [hev], by rw [hev]; exact hm_14_1, hk_14_1⟩)
            · exact absurd rfl c_72
        · have q58 : brk F (tn r1) (F 6 (tn r1)) = true := bI_n.mp c_58
          refine lv_iconst (v := 1) hx hb dX7_broken_61 (by decide) ?_
          refine lv_goto (tgt := 66) hx hb dX7_broken_62 (by decide) ?_
          refine lv_istore_n (lv' := [(3, .int 1), (2, .int (bI (brk F (tn r1) (F 4 (tn r1))))), (0, .ref mo), (1, .int (nI (tn r1)))]) hx hb dX7_broken_66 rfl hl (by decide) rfl (fun ls hl => ?_)
          refine lv_iload_n hx hb dX7_broken_67 rfl (lv_at hl 1 rfl) ?_
          refine lv_if_eq (tgt := 80) hx hb dX7_broken_68 (by decide) (fun c_68 => ?_) (fun c_68 => ?_)
          · have q68 : brk F (tn r1) (F 4 (tn r1)) = false := bI_0.mp c_68
            refine lv_iload_n hx hb dX7_broken_80 rfl (lv_at hl 1 rfl) ?_
            refine lv_if_eq (tgt := 89) hx hb dX7_broken_81 (by decide) (fun c_81 => ?_) (fun c_81 => ?_)
            · refine lv_iload_n hx hb dX7_broken_89 rfl (lv_at hl 0 rfl) ?_
              refine lv_if_eq (tgt := 98) hx hb dX7_broken_90 (by decide) (fun c_90 => ?_) (fun c_90 => ?_)
              · exact absurd c_90 (by decide)
              · refine lv_bipush (v := 99) hx hb dX7_broken_93 (by decide) ?_
                refine lv_goto (tgt := 100) hx hb dX7_broken_95 (by decide) ?_
                have hev : s_broken F r1 = (0, 99, F) := by simp [s_broken, c_broken, q6, q44, q58, q68]
                exact wl_iret C0 hr (by decide) hP hS dX7_broken_100 (Nat.le_of_ble_eq_true rfl) (Nat.le_of_ble_eq_true rfl) (⟨by rw [hev], by rw [hev]; exact hm_14_1, hk_14_1⟩)
            · exact absurd (bI_n.mp c_81) (by rw [q68]; decide)
          · have q68 : brk F (tn r1) (F 4 (tn r1)) = true := bI_n.mp c_68
            refine lv_iload_n hx hb dX7_broken_71 rfl (lv_at hl 0 rfl) ?_
            refine lv_if_eq (tgt := 80) hx hb dX7_broken_72 (by decide) (fun c_72 => ?_) (fun c_72 => ?_)
            · exact absurd c_72 (by decide)
            · refine lv_bipush (v := 98) hx hb dX7_broken_75 (by decide) ?_
              refine lv_goto (tgt := 100) hx hb dX7_broken_77 (by decide) ?_
              have hev : s_broken F r1 = (0, 98, F) := by simp [s_broken, c_broken, q6, q44, q58, q68]
              exact wl_iret C0 hr (by decide) hP hS dX7_broken_100 (Nat.le_of_ble_eq_true rfl) (Nat.le_of_ble_eq_true rfl) (⟨by rw [hev], by rw [hev]; exact hm_14_1, hk_14_1⟩)
    · exact absurd (by decide) c_21

set_option maxHeartbeats 4000000 in
set_option maxRecDepth 100000 in
theorem k_X7_begin (l : Launch) (hst : l.stackTraces = false) (E : wEn) (w : wW) (sz : Nat) (F : FF) (MA : Nat → Nat) (mo : Nat) (cd : Int32) (N : Nat) (hI : wInv F N) (hm : wMod E F MA mo cd w) (r1 a1 sh1 li1 : Int32) : wM l yX7_begin wsX7_begin 2 0 0 E w sz [.ref mo, .int r1, .int a1, .int sh1, .int li1] (fun v w2 => v = some (.int (s_begin F r1 a1 sh1 li1).2.1) ∧ wMod E (s_begin F r1 a1 sh1 li1).2.2 MA mo (nI (s_begin F r1 a1 sh1 li1).1) w2 ∧ wKm mo MA w w2) (fun _ _ => False) := by
  refine wm_start (own := RX7) (cc := cX7_begin) (maxL := 7) (ret := (some .int)) rfl (by decide) rfl (Nat.le_of_ble_eq_true rfl) ?_
  intro p e s m args below meth c ls C0 hr hin ht hP hS hl
  have hx := C0.1
  have hb := C0.2.1
  have hts := C0.2.2.2.2.1
  have hown := C0.2.2.2.1
  have hl : lv_has ls 7 [(0, .ref mo), (1, .int r1), (2, .int a1), (3, .int sh1), (4, .int li1)] := hl
  have hf_79 : (Cond.fieldLink RX7 79 "CallGatewayModel" "code" "I").before args s = true := hts _ (by decide +kernel)
  have hf_25 : (Cond.fieldLink RX7 25 "CallGatewayModel" "canary" "[Z").before args s = true := hts _ (by decide +kernel)
  have hf_29 : (Cond.fieldLink RX7 29 "CallGatewayModel" "theirs" "[I").before args s = true := hts _ (by decide +kernel)
  have hf_32 : (Cond.fieldLink RX7 32 "CallGatewayModel" "shares" "[I").before args s = true := hts _ (by decide +kernel)
  have hf_35 : (Cond.fieldLink RX7 35 "CallGatewayModel" "limits" "[I").before args s = true := hts _ (by decide +kernel)
  have hf_38 : (Cond.fieldLink RX7 38 "CallGatewayModel" "faults" "[I").before args s = true := hts _ (by decide +kernel)
  have hf_83 : (Cond.fieldLink RX7 83 "CallGatewayModel" "routes" "I").before args s = true := hts _ (by decide +kernel)
  have hi_RX7 : ∀ w ∈ u_ws RX7 TX7 27, w ∈ wsX7_begin := fun _ h => List.mem_cons_of_mem _ (List.mem_append_left _ (List.mem_append_right _ h))
  have hn := hI.n
  have hn9 := hI.n
  refine lv_aload_n hx hb dX7_begin_0 rfl (lv_at hl 0 rfl) ?_
  refine lv_iconst (v := 0) hx hb dX7_begin_1 (by decide) ?_
  refine wl_put (T := TX7) (ty0 := tyX7) (fs2 := [.int 0, .int (nI (F 24 0)), .ref (MA 0), .ref (MA 1), .ref (MA 2), .ref (MA 3), .ref (MA 4), .ref (MA 5), .ref (MA 6), .ref (MA 7), .ref (MA 8), .ref (MA 9), .int (nI (F 24 1)), .ref (MA 10), .ref (MA 11), .ref (MA 12), .int (nI (F 24 2)), .ref (MA 13), .ref (MA 14), .ref (MA 15), .int (nI (F 24 3)), .ref (MA 16), .ref (MA 17), .ref (MA 18), .ref (MA 19), .ref (MA 20), .ref (MA 21)]) C0 hP hS (show w mo = some (.inr (7, [.int cd, .int (nI (F 24 0)), .ref (MA 0), .ref (MA 1), .ref (MA 2), .ref (MA 3), .ref (MA 4), .ref (MA 5), .ref (MA 6), .ref (MA 7), .ref (MA 8), .ref (MA 9), .int (nI (F 24 1)), .ref (MA 10), .ref (MA 11), .ref (MA 12), .int (nI (F 24 2)), .ref (MA 13), .ref (MA 14), .ref (MA 15), .int (nI (F 24 3)), .ref (MA 16), .ref (MA 17), .ref (MA 18), .ref (MA 19), .ref (MA 20), .ref (MA 21)])) from hm.x) hi_RX7 tyX7_ok nmX7 rfl 0 (by decide) hf_79 rfl rfl rfl rfl (Nat.le_of_ble_eq_true rfl) rfl dX7_begin_2 (fun H locs hP hS => ?_)
  obtain ⟨w_2_0, hw9, hm_2_0, hk_2_0⟩ : ∃ wz : wW, wz = wU w mo (.inr (7, [.int 0, .int (nI (F 24 0)), .ref (MA 0), .ref (MA 1), .ref (MA 2), .ref (MA 3), .ref (MA 4), .ref (MA 5), .ref (MA 6), .ref (MA 7), .ref (MA 8), .ref (MA 9), .int (nI (F 24 1)), .ref (MA 10), .ref (MA 11), .ref (MA 12), .int (nI (F 24 2)), .ref (MA 13), .ref (MA 14), .ref (MA 15), .int (nI (F 24 3)), .ref (MA 16), .ref (MA 17), .ref (MA 18), .ref (MA 19), .ref (MA 20), .ref (MA 21)])) ∧ wMod E F MA mo (nI 0) wz ∧ wKm mo MA w wz := ⟨_, rfl, M_o (F := F) (G := F) (cd2 := nI 0) hm (fun a b h => rfl), wKm.rf.tr wKm.o⟩
  rw [← hw9] at hP
  refine lv_aload_n hx hb dX7_begin_5 rfl (lv_at hl 0 rfl) ?_
  refine lv_iload_n hx hb dX7_begin_6 rfl (lv_at hl 1 rfl) ?_
  refine wl_on C0 ht hP hS (wl_runV (As := [.int r1]) (rest := []) C0 hP hS (k_X7_isRoute l hst E w_2_0 H.size F MA mo (nI 0) N hI hm_2_0 r1) (cwV 1 hts gX7_begin_X7_isRoute rfl rfl rfl (by decide +kernel) ⟨(Nat.le_of_ble_eq_true rfl), (Nat.le_of_ble_eq_true rfl)⟩) (show w_2_0 mo = some (.inr (7, [.int (nI 0), .int (nI (F 24 0)), .ref (MA 0), .ref (MA 1), .ref (MA 2), .ref (MA 3), .ref (MA 4), .ref (MA 5), .ref (MA 6), .ref (MA 7), .ref (MA 8), .ref (MA 9), .int (nI (F 24 1)), .ref (MA 10), .ref (MA 11), .ref (MA 12), .int (nI (F 24 2)), .ref (MA 13), .ref (MA 14), .ref (MA 15), .int (nI (F 24 3)), .ref (MA 16), .ref (MA 17), .ref (MA 18), .ref (MA 19), .ref (MA 20), .ref (MA 21)])) from hm_2_0.x) rfl rfl rfl hl.1 (Nat.le_of_ble_eq_true rfl) dX7_begin_7 ⟨(Nat.le_of_ble_eq_true rfl), (Nat.le_of_ble_eq_true rfl)⟩) (Nat.le_of_ble_eq_true rfl) (Nat.le_of_ble_eq_true rfl) (fun _ _ h => h.elim) (fun v_7 w_7 H locs hq hP hS => ?_)
  obtain ⟨rfl, hw9⟩ := hq
  rw [hw9] at hP
  refine W.eq (g2 := F0 m 10 ls [.int (bI (vpb r1 (F 24 0)))]) rfl ?_
  refine lv_if_ne (tgt := 19) hx hb dX7_begin_10 (by decide) (fun c_10 => ?_) (fun c_10 => ?_)
  · have q10 : vpb r1 (F 24 0) = true := bI_n.mp c_10
    have hr9 := vpb_tn q10
    have hrt := vpb_nt q10
    have h8 := hI.ro hr9
    have hl : lv_has ls 7 [(0, .ref mo), (1, .int (nI (tn r1))), (2, .int a1), (3, .int sh1), (4, .int li1)] := by
      rw [hrt]
      exact hl
    refine lv_iload_n hx hb dX7_begin_19 rfl (lv_at hl 2 rfl) ?_
    refine lv_iconst (v := 0) hx hb dX7_begin_20 (by decide) ?_
    refine lv_sipush (v := 999) hx hb dX7_begin_21 (by decide) ?_
    refine wl_on C0 ht hP hS (wl_runS (As := [.int a1, .int 0, .int 999]) (rest := []) C0 hP hS (k_X7_in l hst E w_2_0 H.size a1 0 999) (va_cwS 3 hts gX7_begin_X7_in rfl rfl rfl (by decide +kernel) ⟨(Nat.le_of_ble_eq_true rfl), (Nat.le_of_ble_eq_true rfl)⟩) rfl rfl hl.1 (Nat.le_of_ble_eq_true rfl) dX7_begin_24 ⟨(Nat.le_of_ble_eq_true rfl), (Nat.le_of_ble_eq_true rfl)⟩) (Nat.le_of_ble_eq_true rfl) (Nat.le_of_ble_eq_true rfl) (fun _ _ h => h.elim) (fun v_24 w_24 H locs hq hP hS => ?_)
    obtain ⟨rfl, hw9⟩ := hq
    rw [hw9] at hP
    refine W.eq (g2 := F0 m 27 ls [.int (bI (wi a1 0 999))]) rfl ?_
    refine lv_if_eq (tgt := 51) hx hb dX7_begin_27 (by decide) (fun c_27 => ?_) (fun c_27 => ?_)
    · have q27 : wi a1 0 999 = false := bI_0.mp c_27
      refine lv_aload_n hx hb dX7_begin_51 rfl (lv_at hl 0 rfl) ?_
      refine lv_iconst (v := 2) hx hb dX7_begin_52 (by decide) ?_
      refine wl_on C0 ht hP hS (wl_runV (As := [.int 2]) (rest := []) C0 hP hS (k_X7_fails l hst E w_2_0 H.size F MA mo (nI 0) 2 hm_2_0) (cwV 1 hts gX7_begin_X7_fails rfl rfl rfl (by decide +kernel) ⟨(Nat.le_of_ble_eq_true rfl), (Nat.le_of_ble_eq_true rfl)⟩) (show w_2_0 mo = some (.inr (7, [.int (nI 0), .int (nI (F 24 0)), .ref (MA 0), .ref (MA 1), .ref (MA 2), .ref (MA 3), .ref (MA 4), .ref (MA 5), .ref (MA 6), .ref (MA 7), .ref (MA 8), .ref (MA 9), .int (nI (F 24 1)), .ref (MA 10), .ref (MA 11), .ref (MA 12), .int (nI (F 24 2)), .ref (MA 13), .ref (MA 14), .ref (MA 15), .int (nI (F 24 3)), .ref (MA 16), .ref (MA 17), .ref (MA 18), .ref (MA 19), .ref (MA 20), .ref (MA 21)])) from hm_2_0.x) rfl rfl rfl hl.1 (Nat.le_of_ble_eq_true rfl) dX7_begin_53 ⟨(Nat.le_of_ble_eq_true rfl), (Nat.le_of_ble_eq_true rfl)⟩) (Nat.le_of_ble_eq_true rfl) (Nat.le_of_ble_eq_true rfl) (fun _ _ h => h.elim) (fun v_53 w_53 H locs hq hP hS => ?_)
      obtain ⟨rfl, hm_53_1, hk2_53_1⟩ := hq
      have hk_53_1 := hk_2_0.tr hk2_53_1
      refine W.eq (g2 := F0 m 56 ls [.int 0]) rfl ?_
      have hev : s_begin F r1 a1 sh1 li1 = (2, 0, F) := by simp [s_begin, q10, q27]
      exact wl_iret C0 hr rfl hP hS dX7_begin_56 (Nat.le_of_ble_eq_true rfl) (Nat.le_of_ble_eq_true rfl) (⟨by rw [hev], by rw [hev]; exact hm_53_1, hk_53_1⟩)
    · have q27 : wi a1 0 999 = true := bI_n.mp c_27
      have hat := wi_tn (lo := 0) (hi := 999) q27 (by omega) (by omega)
      have hl : lv_has ls 7 [(0, .ref mo), (1, .int (nI (tn r1))), (2, .int (nI (tn a1))), (3, .int sh1), (4, .int li1)] := by
        rw [hat.1]
        exact hl
      refine lv_iload_n hx hb dX7_begin_30 rfl (lv_at hl 3 rfl) ?_
      refine lv_iconst (v := 1) hx hb dX7_begin_31 (by decide) ?_
      refine lv_bipush (v := 100) hx hb dX7_begin_32 (by decide) ?_
      refine wl_on C0 ht hP hS (wl_runS (As := [.int sh1, .int 1, .int 100]) (rest := []) C0 hP hS (k_X7_in l hst E w_2_0 H.size sh1 1 100) (va_cwS 3 hts gX7_begin_X7_in rfl rfl rfl (by decide +kernel) ⟨(Nat.le_of_ble_eq_true rfl), (Nat.le_of_ble_eq_true rfl)⟩) rfl rfl hl.1 (Nat.le_of_ble_eq_true rfl) dX7_begin_34 ⟨(Nat.le_of_ble_eq_true rfl), (Nat.le_of_ble_eq_true rfl)⟩) (Nat.le_of_ble_eq_true rfl) (Nat.le_of_ble_eq_true rfl) (fun _ _ h => h.elim) (fun v_34 w_34 H locs hq hP hS => ?_)
      obtain ⟨rfl, hw9⟩ := hq
      rw [hw9] at hP
      refine W.eq (g2 := F0 m 37 ls [.int (bI (wi sh1 1 100))]) rfl ?_
      refine lv_if_eq (tgt := 51) hx hb dX7_begin_37 (by decide) (fun c_37 => ?_) (fun c_37 => ?_)
      · have q37 : wi sh1 1 100 = false := bI_0.mp c_37
        refine lv_aload_n hx hb dX7_begin_51 rfl (lv_at hl 0 rfl) ?_
        refine lv_iconst (v := 2) hx hb dX7_begin_52 (by decide) ?_
        refine wl_on C0 ht hP hS (wl_runV (As := [.int 2]) (rest := []) C0 hP hS (k_X7_fails l hst E w_2_0 H.size F MA mo (nI 0) 2 hm_2_0) (cwV 1 hts gX7_begin_X7_fails rfl rfl rfl (by decide +kernel) ⟨(Nat.le_of_ble_eq_true rfl), (Nat.le_of_ble_eq_true rfl)⟩) (show w_2_0 mo = some (.inr (7, [.int (nI 0), .int (nI (F 24 0)), .ref (MA 0), .ref (MA 1), .ref (MA 2), .ref (MA 3), .ref (MA 4), .ref (MA 5), .ref (MA 6), .ref (MA 7), .ref (MA 8), .ref (MA 9), .int (nI (F 24 1)), .ref (MA 10), .ref (MA 11), .ref (MA 12), .int (nI (F 24 2)), .ref (MA 13), .ref (MA 14), .ref (MA 15), .int (nI (F 24 3)), .ref (MA 16), .ref (MA 17), .ref (MA 18), .ref (MA 19), .ref (MA 20), .ref (MA 21)])) from hm_2_0.x) rfl rfl rfl hl.1 (Nat.le_of_ble_eq_true rfl) dX7_begin_53 ⟨(Nat.le_of_ble_eq_true rfl), (Nat.le_of_ble_eq_true rfl)⟩) (Nat.le_of_ble_eq_true rfl) (Nat.le_of_ble_eq_true rfl) (fun _ _ h => h.elim) (fun v_53 w_53 H locs hq hP hS => ?_)
        obtain ⟨rfl, hm_53_2, hk2_53_2⟩ := hq
        have hk_53_2 := hk_2_0.tr hk2_53_2
        refine W.eq (g2 := F0 m 56 ls [.int 0]) rfl ?_
        have hev : s_begin F r1 a1 sh1 li1 = (2, 0, F) := by simp [s_begin, q10, q27, q37]
        exact wl_iret C0 hr rfl hP hS dX7_begin_56 (Nat.le_of_ble_eq_true rfl) (Nat.le_of_ble_eq_true rfl) (⟨by rw [hev], by rw [hev]; exact hm_53_2, hk_53_2⟩)
      · have q37 : wi sh1 1 100 = true := bI_n.mp c_37
        have hst9 := wi_tn (lo := 1) (hi := 100) q37 (by omega) (by omega)
        have hl : lv_has ls 7 [(0, .ref mo), (1, .int (nI (tn r1))), (2, .int (nI (tn a1))), (3, .int (nI (tn sh1))), (4, .int li1)] := by
          rw [hst9.1]
          exact hl
        refine lv_iload hx hb dX7_begin_40 (lv_at hl 4 rfl) ?_
        refine lv_iconst (v := 1) hx hb dX7_begin_42 (by decide) ?_
        refine lv_bipush (v := 9) hx hb dX7_begin_43 (by decide) ?_
        refine wl_on C0 ht hP hS (wl_runS (As := [.int li1, .int 1, .int 9]) (rest := []) C0 hP hS (k_X7_in l hst E w_2_0 H.size li1 1 9) (va_cwS 3 hts gX7_begin_X7_in rfl rfl rfl (by decide +kernel) ⟨(Nat.le_of_ble_eq_true rfl), (Nat.le_of_ble_eq_true rfl)⟩) rfl rfl hl.1 (Nat.le_of_ble_eq_true rfl) dX7_begin_45 ⟨(Nat.le_of_ble_eq_true rfl), (Nat.le_of_ble_eq_true rfl)⟩) (Nat.le_of_ble_eq_true rfl) (Nat.le_of_ble_eq_true rfl) (fun _ _ h => h.elim) (fun v_45 w_45 H locs hq hP hS => ?_)
        obtain ⟨rfl, hw9⟩ := hq
        rw [hw9] at hP
        refine W.eq (g2 := F0 m 48 ls [.int (bI (wi li1 1 9))]) rfl ?_
        refine lv_if_ne (tgt := 57) hx hb dX7_begin_48 (by decide) (fun c_48 => ?_) (fun c_48 => ?_)
        · have q48 : wi li1 1 9 = true := bI_n.mp c_48
          have hlt := wi_tn (lo := 1) (hi := 9) q48 (by omega) (by omega)
          have hl : lv_has ls 7 [(0, .ref mo), (1, .int (nI (tn r1))), (2, .int (nI (tn a1))), (3, .int (nI (tn sh1))), (4, .int (nI (tn li1)))] := by
            rw [hlt.1]
            exact hl
          refine lv_aload_n hx hb dX7_begin_57 rfl (lv_at hl 0 rfl) ?_
          refine wl_get (T := TX7) C0 hP (show w_2_0 mo = some (.inr (7, [.int (nI 0), .int (nI (F 24 0)), .ref (MA 0), .ref (MA 1), .ref (MA 2), .ref (MA 3), .ref (MA 4), .ref (MA 5), .ref (MA 6), .ref (MA 7), .ref (MA 8), .ref (MA 9), .int (nI (F 24 1)), .ref (MA 10), .ref (MA 11), .ref (MA 12), .int (nI (F 24 2)), .ref (MA 13), .ref (MA 14), .ref (MA 15), .int (nI (F 24 3)), .ref (MA 16), .ref (MA 17), .ref (MA 18), .ref (MA 19), .ref (MA 20), .ref (MA 21)])) from hm_2_0.x) hi_RX7 rfl 7 (by decide) hf_25 rfl dX7_begin_58 ?_
          refine lv_iload_n hx hb dX7_begin_61 rfl (lv_at hl 1 rfl) ?_
          refine wl_zald C0 hP (show w_2_0 (MA 5) = some (.inl (E.2.1 3, 8, .inl (fun i => nI (F 5 i)))) from hm_2_0.i 5 (by decide) rfl rfl rfl) (vp_in_nI (by omega) (by omega)) dX7_begin_62 ?_
          refine W.eq (g2 := F0 m 63 ls [.int (nI (F 5 (tn r1)))]) (by rw [show (nI (tn r1)).toNatClampNeg = (tn r1) from nI_clamp (by omega)]) ?_
          refine lv_if_eq (tgt := 72) hx hb dX7_begin_63 (by decide) (fun c_63 => ?_) (fun c_63 => ?_)
          · have q63 : F 5 (tn r1) = 0 := (nI_e0 (by omega)).mp c_63
            refine lv_aload_n hx hb dX7_begin_72 rfl (lv_at hl 0 rfl) ?_
            refine wl_get (T := TX7) C0 hP (show w_2_0 mo = some (.inr (7, [.int (nI 0), .int (nI (F 24 0)), .ref (MA 0), .ref (MA 1), .ref (MA 2), .ref (MA 3), .ref (MA 4), .ref (MA 5), .ref (MA 6), .ref (MA 7), .ref (MA 8), .ref (MA 9), .int (nI (F 24 1)), .ref (MA 10), .ref (MA 11), .ref (MA 12), .int (nI (F 24 2)), .ref (MA 13), .ref (MA 14), .ref (MA 15), .int (nI (F 24 3)), .ref (MA 16), .ref (MA 17), .ref (MA 18), .ref (MA 19), .ref (MA 20), .ref (MA 21)])) from hm_2_0.x) hi_RX7 rfl 7 (by decide) hf_25 rfl dX7_begin_73 ?_
            refine lv_iload_n hx hb dX7_begin_76 rfl (lv_at hl 1 rfl) ?_
            refine lv_iconst (v := 1) hx hb dX7_begin_77 (by decide) ?_
            refine wl_zast C0 hP hS (show w_2_0 (MA 5) = some (.inl (E.2.1 3, 8, .inl (fun i => nI (F 5 i)))) from hm_2_0.i 5 (by decide) rfl rfl rfl) (vp_in_nI (by omega) (by omega)) dX7_begin_78 (fun H locs hP hS => ?_)
            obtain ⟨w_78_3, hw9, hm_78_3, hk_78_3⟩ : ∃ wz : wW, wz = wU w_2_0 (MA 5) (.inl (E.2.1 3, 8, .inl (upd (fun i => nI (F 5 i)) (nI (tn r1)).toNatClampNeg (vp_nar .boolean 1)))) ∧ wMod E (fU F 5 (tn r1) 1) MA mo (nI 0) wz ∧ wKm mo MA w wz := ⟨_, rfl, M_s (F := F) hm_2_0 5 (tn r1) 1 (by decide) (by rw [show (nI (tn r1)).toNatClampNeg = (tn r1) from nI_clamp (by omega), show vp_nar .boolean 1 = nI 1 from rfl, upd_nI]; rfl), hk_2_0.tr (wKm.s (by decide))⟩
            rw [← hw9] at hP
            refine lv_aload_n hx hb dX7_begin_79 rfl (lv_at hl 0 rfl) ?_
            refine wl_get (T := TX7) C0 hP (show w_78_3 mo = some (.inr (7, [.int (nI 0), .int (nI (F 24 0)), .ref (MA 0), .ref (MA 1), .ref (MA 2), .ref (MA 3), .ref (MA 4), .ref (MA 5), .ref (MA 6), .ref (MA 7), .ref (MA 8), .ref (MA 9), .int (nI (F 24 1)), .ref (MA 10), .ref (MA 11), .ref (MA 12), .int (nI (F 24 2)), .ref (MA 13), .ref (MA 14), .ref (MA 15), .int (nI (F 24 3)), .ref (MA 16), .ref (MA 17), .ref (MA 18), .ref (MA 19), .ref (MA 20), .ref (MA 21)])) from hm_78_3.x) hi_RX7 rfl 8 (by decide) hf_29 rfl dX7_begin_80 ?_
            refine lv_iload_n hx hb dX7_begin_83 rfl (lv_at hl 1 rfl) ?_
            refine lv_iload_n hx hb dX7_begin_84 rfl (lv_at hl 2 rfl) ?_
            refine wl_iast C0 hP hS (show w_78_3 (MA 6) = some (.inl (E.2.1 0, 8, .inl (fun i => nI (F 6 i)))) from hm_78_3.i 6 (by decide) rfl rfl rfl) (vp_in_nI (by omega) (by omega)) dX7_begin_85 (fun H locs hP hS => ?_)
            obtain ⟨w_85_4, hw9, hm_85_4, hk_85_4⟩ : ∃ wz : wW, wz = wU w_78_3 (MA 6) (.inl (E.2.1 0, 8, .inl (upd (fun i => nI (F 6 i)) (nI (tn r1)).toNatClampNeg (nI (tn a1))))) ∧ wMod E (fU (fU F 5 (tn r1) 1) 6 (tn r1) (tn a1)) MA mo (nI 0) wz ∧ wKm mo MA w wz := ⟨_, rfl, M_s (F := fU F 5 (tn r1) 1) hm_78_3 6 (tn r1) (tn a1) (by decide) (by rw [show (nI (tn r1)).toNatClampNeg = (tn r1) from nI_clamp (by omega), upd_nI]; rfl), hk_78_3.tr (wKm.s (by decide))⟩
            rw [← hw9] at hP
            refine lv_aload_n hx hb dX7_begin_86 rfl (lv_at hl 0 rfl) ?_
            refine wl_get (T := TX7) C0 hP (show w_85_4 mo = some (.inr (7, [.int (nI 0), .int (nI (F 24 0)), .ref (MA 0), .ref (MA 1), .ref (MA 2), .ref (MA 3), .ref (MA 4), .ref (MA 5), .ref (MA 6), .ref (MA 7), .ref (MA 8), .ref (MA 9), .int (nI (F 24 1)), .ref (MA 10), .ref (MA 11), .ref (MA 12), .int (nI (F 24 2)), .ref (MA 13), .ref (MA 14), .ref (MA 15), .int (nI (F 24 3)), .ref (MA 16), .ref (MA 17), .ref (MA 18), .ref (MA 19), .ref (MA 20), .ref (MA 21)])) from hm_85_4.x) hi_RX7 rfl 9 (by decide) hf_32 rfl dX7_begin_87 ?_
            refine lv_iload_n hx hb dX7_begin_90 rfl (lv_at hl 1 rfl) ?_
            refine lv_iload_n hx hb dX7_begin_91 rfl (lv_at hl 3 rfl) ?_
            refine wl_iast C0 hP hS (show w_85_4 (MA 7) = some (.inl (E.2.1 0, 8, .inl (fun i => nI (F 7 i)))) from hm_85_4.i 7 (by decide) rfl rfl rfl) (vp_in_nI (by omega) (by omega)) dX7_begin_92 (fun H locs hP hS => ?_)
            obtain ⟨w_92_5, hw9, hm_92_5, hk_92_5⟩ : ∃ wz : wW, wz = wU w_85_4 (MA 7) (.inl (E.2.1 0, 8, .inl (upd (fun i => nI (F 7 i)) (nI (tn r1)).toNatClampNeg (nI (tn sh1))))) ∧ wMod E (fU (fU (fU F 5 (tn r1) 1) 6 (tn r1) (tn a1)) 7 (tn r1) (tn sh1)) MA mo (nI 0) wz ∧ wKm mo MA w wz := ⟨_, rfl, M_s (F := fU (fU F 5 (tn r1) 1) 6 (tn r1) (tn a1)) hm_85_4 7 (tn r1) (tn sh1) (by decide) (by rw [show (nI (tn r1)).toNatClampNeg = (tn r1) from nI_clamp (by omega), upd_nI]; rfl), hk_85_4.tr (wKm.s (by decide))⟩
            rw [← hw9] at hP
            refine lv_aload_n hx hb dX7_begin_93 rfl (lv_at hl 0 rfl) ?_
            refine wl_get (T := TX7) C0 hP (show w_92_5 mo = some (.inr (7, [.int (nI 0), .int (nI (F 24 0)), .ref (MA 0), .ref (MA 1), .ref (MA 2), .ref (MA 3), .ref (MA 4), .ref (MA 5), .ref (MA 6), .ref (MA 7), .ref (MA 8), .ref (MA 9), .int (nI (F 24 1)), .ref (MA 10), .ref (MA 11), .ref (MA 12), .int (nI (F 24 2)), .ref (MA 13), .ref (MA 14), .ref (MA 15), .int (nI (F 24 3)), .ref (MA 16), .ref (MA 17), .ref (MA 18), .ref (MA 19), .ref (MA 20), .ref (MA 21)])) from hm_92_5.x) hi_RX7 rfl 10 (by decide) hf_35 rfl dX7_begin_94 ?_
            refine lv_iload_n hx hb dX7_begin_97 rfl (lv_at hl 1 rfl) ?_
            refine lv_iload hx hb dX7_begin_98 (lv_at hl 4 rfl) ?_
            refine wl_iast C0 hP hS (show w_92_5 (MA 8) = some (.inl (E.2.1 0, 8, .inl (fun i => nI (F 8 i)))) from hm_92_5.i 8 (by decide) rfl rfl rfl) (vp_in_nI (by omega) (by omega)) dX7_begin_100 (fun H locs hP hS => ?_)
            obtain ⟨w_100_6, hw9, hm_100_6, hk_100_6⟩ : ∃ wz : wW, wz = wU w_92_5 (MA 8) (.inl (E.2.1 0, 8, .inl (upd (fun i => nI (F 8 i)) (nI (tn r1)).toNatClampNeg (nI (tn li1))))) ∧ wMod E (fU (fU (fU (fU F 5 (tn r1) 1) 6 (tn r1) (tn a1)) 7 (tn r1) (tn sh1)) 8 (tn r1) (tn li1)) MA mo (nI 0) wz ∧ wKm mo MA w wz := ⟨_, rfl, M_s (F := fU (fU (fU F 5 (tn r1) 1) 6 (tn r1) (tn a1)) 7 (tn r1) (tn sh1)) hm_92_5 8 (tn r1) (tn li1) (by decide) (by rw [show (nI (tn r1)).toNatClampNeg = (tn r1) from nI_clamp (by omega), upd_nI]; rfl), hk_92_5.tr (wKm.s (by decide))⟩
            rw [← hw9] at hP
            refine lv_aload_n hx hb dX7_begin_101 rfl (lv_at hl 0 rfl) ?_
            refine wl_get (T := TX7) C0 hP (show w_100_6 mo = some (.inr (7, [.int (nI 0), .int (nI (F 24 0)), .ref (MA 0), .ref (MA 1), .ref (MA 2), .ref (MA 3), .ref (MA 4), .ref (MA 5), .ref (MA 6), .ref (MA 7), .ref (MA 8), .ref (MA 9), .int (nI (F 24 1)), .ref (MA 10), .ref (MA 11), .ref (MA 12), .int (nI (F 24 2)), .ref (MA 13), .ref (MA 14), .ref (MA 15), .int (nI (F 24 3)), .ref (MA 16), .ref (MA 17), .ref (MA 18), .ref (MA 19), .ref (MA 20), .ref (MA 21)])) from hm_100_6.x) hi_RX7 rfl 11 (by decide) hf_38 rfl dX7_begin_102 ?_
            refine lv_iload_n hx hb dX7_begin_105 rfl (lv_at hl 1 rfl) ?_
            refine lv_iconst (v := 0) hx hb dX7_begin_106 (by decide) ?_
            refine wl_iast C0 hP hS (show w_100_6 (MA 9) = some (.inl (E.2.1 0, 8, .inl (fun i => nI (F 9 i)))) from hm_100_6.i 9 (by decide) rfl rfl rfl) (vp_in_nI (by omega) (by omega)) dX7_begin_107 (fun H locs hP hS => ?_)
            obtain ⟨w_107_7, hw9, hm_107_7, hk_107_7⟩ : ∃ wz : wW, wz = wU w_100_6 (MA 9) (.inl (E.2.1 0, 8, .inl (upd (fun i => nI (F 9 i)) (nI (tn r1)).toNatClampNeg 0))) ∧ wMod E (fU (fU (fU (fU (fU F 5 (tn r1) 1) 6 (tn r1) (tn a1)) 7 (tn r1) (tn sh1)) 8 (tn r1) (tn li1)) 9 (tn r1) 0) MA mo (nI 0) wz ∧ wKm mo MA w wz := ⟨_, rfl, M_s (F := fU (fU (fU (fU F 5 (tn r1) 1) 6 (tn r1) (tn a1)) 7 (tn r1) (tn sh1)) 8 (tn r1) (tn li1)) hm_100_6 9 (tn r1) 0 (by decide) (by rw [show (nI (tn r1)).toNatClampNeg = (tn r1) from nI_clamp (by omega), show (0 : Int32) = nI 0 from rfl, upd_nI]; rfl), hk_100_6.tr (wKm.s (by decide))⟩
            rw [← hw9] at hP
            obtain ⟨G, hG⟩ : ∃ G : FF, G = fU (fU (fU (fU (fU F 5 (tn r1) 1) 6 (tn r1) (tn a1)) 7 (tn r1) (tn sh1)) 8 (tn r1) (tn li1)) 9 (tn r1) 0 := ⟨_, rfl⟩
            have hmg : wMod E G MA mo (nI 0) w_107_7 := by rw [hG]; exact hm_107_7
            have e240 : G 24 0 = F 24 0 := by rw [hG]; simp [fU]
            have e5 : ∀ j, j < F 24 0 → G 5 j ≤ 1 := fun j hj => by
              have h := (hI.ro hj).2.2.2.2.2.2
              rw [hG]
              simp only [fU]
              (repeat' split) <;> omega
            refine lv_iconst (v := 0) hx hb dX7_begin_108 (by decide) ?_
            refine lv_istore (lv' := [(5, .int 0), (0, .ref mo), (1, .int (nI (tn r1))), (2, .int (nI (tn a1))), (3, .int (nI (tn sh1))), (4, .int (nI (tn li1)))]) hx hb dX7_begin_109 hl (by decide) rfl (fun ls hl => ?_)
            refine lv_iconst (v := 0) hx hb dX7_begin_111 (by decide) ?_
            refine lv_istore (lv' := [(6, .int 0), (5, .int 0), (0, .ref mo), (1, .int (nI (tn r1))), (2, .int (nI (tn a1))), (3, .int (nI (tn sh1))), (4, .int (nI (tn li1)))]) hx hb dX7_begin_112 hl (by decide) rfl (fun ls hl => ?_)
            have LP : ∀ (nF : Nat) (j k : Nat), F 24 0 - j < nF → (j ≤ F 24 0) → (k = ct (fun i => decide (G 5 i ≠ 0)) j) → ∀ (ls : Array Slot), lv_has ls 7 [(0, .ref mo), (1, .int (nI (tn r1))), (2, .int (nI (tn a1))), (3, .int (nI (tn sh1))), (4, .int (nI (tn li1))), (5, .int (nI k)), (6, .int (nI j))] → W p l e (wRm 2 0 0) s m args below meth c H locs 0 0 (vx_MQ below (wQ E (wA w sz) (fun v w2 => v = some (.int (s_begin F r1 a1 sh1 li1).2.1) ∧ wMod E (s_begin F r1 a1 sh1 li1).2.2 MA mo (nI (s_begin F r1 a1 sh1 li1).1) w2 ∧ wKm mo MA w w2)) (wX E (wA w sz) (fun _ _ => False)) args s 0 0 (wA w sz)) (F0 m 114 ls []) := by
              intro nF
              induction nF with
              | zero => intro j k hn; exact absurd hn (Nat.not_lt_zero _)
              | succ nF ih =>
                intro j k hn i1 i2 ls hl
                refine lv_iload hx hb dX7_begin_114 (lv_at hl 6 rfl) ?_
                refine lv_aload_n hx hb dX7_begin_116 rfl (lv_at hl 0 rfl) ?_
                refine wl_get (T := TX7) C0 hP (show w_107_7 mo = some (.inr (7, [.int (nI 0), .int (nI (G 24 0)), .ref (MA 0), .ref (MA 1), .ref (MA 2), .ref (MA 3), .ref (MA 4), .ref (MA 5), .ref (MA 6), .ref (MA 7), .ref (MA 8), .ref (MA 9), .int (nI (G 24 1)), .ref (MA 10), .ref (MA 11), .ref (MA 12), .int (nI (G 24 2)), .ref (MA 13), .ref (MA 14), .ref (MA 15), .int (nI (G 24 3)), .ref (MA 16), .ref (MA 17), .ref (MA 18), .ref (MA 19), .ref (MA 20), .ref (MA 21)])) from hmg.x) hi_RX7 rfl 1 (by decide) hf_83 rfl dX7_begin_117 ?_
                refine lv_icmp_ge (tgt := 149) hx hb dX7_begin_120 (by decide) (fun c_120 => ?_) (fun c_120 => ?_)
                · have q120 : F 24 0 ≤ j := by
                    have h := (nI_leI (by omega) (by omega)).mp c_120
                    omega
                  refine lv_iload hx hb dX7_begin_149 (lv_at hl 5 rfl) ?_
                  have hcc : ncan (f_begin F (tn r1) (tn a1) (tn sh1) (tn li1)) = k := by
                    unfold ncan
                    rw [i2, show j = F 24 0 by omega, show (f_begin F (tn r1) (tn a1) (tn sh1) (tn li1)) 24 0 = F 24 0 by simp [f_begin, fU]]
                    exact ct_congr (fun i hi => by rw [hG]; simp [f_begin, fU])
                  have hev : s_begin F r1 a1 sh1 li1 = (0, nI k, f_begin F (tn r1) (tn a1) (tn sh1) (tn li1)) := by simp [s_begin, q10, q27, q37, q48, q63, hcc]
                  exact wl_iret C0 hr rfl hP hS dX7_begin_151 (Nat.le_of_ble_eq_true rfl) (Nat.le_of_ble_eq_true rfl) (⟨by rw [hev], by rw [hev]; exact M_ext hmg (fun a b h => by rw [hG]; simp only [f_begin, fU]; (repeat' split) <;> first | rfl | omega) (by rw [e240]; simp [f_begin, fU]) (by rw [hG]; simp [f_begin, fU]) (by rw [hG]; simp [f_begin, fU]) (by rw [hG]; simp [f_begin, fU]), hk_107_7⟩)
                · have q120 : j < F 24 0 := Nat.not_le.mp (fun q => c_120 ((nI_leI (by omega) (by omega)).mpr (by omega)))
                  have e5j := e5 j q120
                  refine lv_iload hx hb dX7_begin_123 (lv_at hl 5 rfl) ?_
                  refine lv_aload_n hx hb dX7_begin_125 rfl (lv_at hl 0 rfl) ?_
                  refine wl_get (T := TX7) C0 hP (show w_107_7 mo = some (.inr (7, [.int (nI 0), .int (nI (G 24 0)), .ref (MA 0), .ref (MA 1), .ref (MA 2), .ref (MA 3), .ref (MA 4), .ref (MA 5), .ref (MA 6), .ref (MA 7), .ref (MA 8), .ref (MA 9), .int (nI (G 24 1)), .ref (MA 10), .ref (MA 11), .ref (MA 12), .int (nI (G 24 2)), .ref (MA 13), .ref (MA 14), .ref (MA 15), .int (nI (G 24 3)), .ref (MA 16), .ref (MA 17), .ref (MA 18), .ref (MA 19), .ref (MA 20), .ref (MA 21)])) from hmg.x) hi_RX7 rfl 7 (by decide) hf_25 rfl dX7_begin_126 ?_
                  refine lv_iload hx hb dX7_begin_129 (lv_at hl 6 rfl) ?_
                  refine wl_zald C0 hP (show w_107_7 (MA 5) = some (.inl (E.2.1 3, 8, .inl (fun i => nI (G 5 i)))) from hmg.i 5 (by decide) rfl rfl rfl) (vp_in_nI (by omega) (by omega)) dX7_begin_131 ?_
                  refine W.eq (g2 := F0 m 132 ls [.int (nI (G 5 j)), .int (nI k)]) (by rw [show (nI j).toNatClampNeg = j from nI_clamp (by omega)]) ?_
                  refine lv_if_eq (tgt := 139) hx hb dX7_begin_132 (by decide) (fun c_132 => ?_) (fun c_132 => ?_)
                  · have q132 : G 5 j = 0 := (nI_e0 (by omega)).mp c_132
                    refine lv_iconst (v := 0) hx hb dX7_begin_139 (by decide) ?_
                    refine lv_iadd hx hb dX7_begin_140 ?_
                    rw [show ((nI k) + 0) = (nI k) from Int32.add_zero _]
                    refine lv_istore (lv' := [(5, .int (nI k)), (0, .ref mo), (1, .int (nI (tn r1))), (2, .int (nI (tn a1))), (3, .int (nI (tn sh1))), (4, .int (nI (tn li1))), (6, .int (nI j))]) hx hb dX7_begin_141 hl (by decide) rfl (fun ls hl => ?_)
                    refine lv_iinc (v := nI (j + 1)) (lv' := [(6, .int (nI (j + 1))), (5, .int (nI k)), (0, .ref mo), (1, .int (nI (tn r1))), (2, .int (nI (tn a1))), (3, .int (nI (tn sh1))), (4, .int (nI (tn li1)))]) hx hb dX7_begin_143 hl (k := 6) rfl (nI_1 _) (by decide) rfl (fun ls hl => ?_)
                    refine lv_goto (tgt := 114) hx hb dX7_begin_146 (by decide) ?_
                    exact ih (j + 1) k (by omega) (by omega) (by rw [i2, ct_n (by simp [q132])]) ls (lv_sub hl [2, 3, 4, 5, 6, 1, 0] rfl)
                  · have q132 : ¬ G 5 j = 0 := fun q => c_132 ((nI_e0 (by omega)).mpr q)
                    refine lv_iconst (v := 1) hx hb dX7_begin_135 (by decide) ?_
                    refine lv_goto (tgt := 140) hx hb dX7_begin_136 (by decide) ?_
                    refine lv_iadd hx hb dX7_begin_140 ?_
                    rw [show ((nI k) + 1) = (nI (k + 1)) from nI_1 _]
                    refine lv_istore (lv' := [(5, .int (nI (k + 1))), (0, .ref mo), (1, .int (nI (tn r1))), (2, .int (nI (tn a1))), (3, .int (nI (tn sh1))), (4, .int (nI (tn li1))), (6, .int (nI j))]) hx hb dX7_begin_141 hl (by decide) rfl (fun ls hl => ?_)
                    refine lv_iinc (v := nI (j + 1)) (lv' := [(6, .int (nI (j + 1))), (5, .int (nI (k + 1))), (0, .ref mo), (1, .int (nI (tn r1))), (2, .int (nI (tn a1))), (3, .int (nI (tn sh1))), (4, .int (nI (tn li1)))]) hx hb dX7_begin_143 hl (k := 6) rfl (nI_1 _) (by decide) rfl (fun ls hl => ?_)
                    refine lv_goto (tgt := 114) hx hb dX7_begin_146 (by decide) ?_
                    exact ih (j + 1) (k + 1) (by omega) (by omega) (by rw [i2, ct_s (by simp [q132])]) ls (lv_sub hl [2, 3, 4, 5, 6, 1, 0] rfl)
            exact LP _ 0 0 (Nat.lt_succ_self _) (Nat.zero_le _) (rfl) ls (lv_sub hl [2, 3, 4, 5, 6, 1, 0] rfl)
          · have q63 : ¬ F 5 (tn r1) = 0 := fun q => c_63 ((nI_e0 (by omega)).mpr q)
            refine lv_aload_n hx hb dX7_begin_66 rfl (lv_at hl 0 rfl) ?_
            refine lv_iconst (v := 3) hx hb dX7_begin_67 (by decide) ?_
            refine wl_on C0 ht hP hS (wl_runV (As := [.int 3]) (rest := []) C0 hP hS (k_X7_fails l hst E w_2_0 H.size F MA mo (nI 0) 3 hm_2_0) (cwV 1 hts gX7_begin_X7_fails rfl rfl rfl (by decide +kernel) ⟨(Nat.le_of_ble_eq_true rfl), (Nat.le_of_ble_eq_true rfl)⟩) (show w_2_0 mo = some (.inr (7, [.int (nI 0), .int (nI (F 24 0)), .ref (MA 0), .ref (MA 1), .ref (MA 2), .ref (MA 3), .ref (MA 4), .ref (MA 5), .ref (MA 6), .ref (MA 7), .ref (MA 8), .ref (MA 9), .int (nI (F 24 1)), .ref (MA 10), .ref (MA 11), .ref (MA 12), .int (nI (F 24 2)), .ref (MA 13), .ref (MA 14), .ref (MA 15), .int (nI (F 24 3)), .ref (MA 16), .ref (MA 17), .ref (MA 18), .ref (MA 19), .ref (MA 20), .ref (MA 21)])) from hm_2_0.x) rfl rfl rfl hl.1 (Nat.le_of_ble_eq_true rfl) dX7_begin_68 ⟨(Nat.le_of_ble_eq_true rfl), (Nat.le_of_ble_eq_true rfl)⟩) (Nat.le_of_ble_eq_true rfl) (Nat.le_of_ble_eq_true rfl) (fun _ _ h => h.elim) (fun v_68 w_68 H locs hq hP hS => ?_)
            obtain ⟨rfl, hm_68_8, hk2_68_8⟩ := hq
            have hk_68_8 := hk_2_0.tr hk2_68_8
            refine W.eq (g2 := F0 m 71 ls [.int 0]) rfl ?_
            have hev : s_begin F r1 a1 sh1 li1 = (3, 0, F) := by simp [s_begin, q10, q27, q37, q48, q63]
            exact wl_iret C0 hr rfl hP hS dX7_begin_71 (Nat.le_of_ble_eq_true rfl) (Nat.le_of_ble_eq_true rfl) (⟨by rw [hev], by rw [hev]; exact hm_68_8, hk_68_8⟩)
        · have q48 : wi li1 1 9 = false := bI_0.mp c_48
          refine lv_aload_n hx hb dX7_begin_51 rfl (lv_at hl 0 rfl) ?_
          refine lv_iconst (v := 2) hx hb dX7_begin_52 (by decide) ?_
          refine wl_on C0 ht hP hS (wl_runV (As := [.int 2]) (rest := []) C0 hP hS (k_X7_fails l hst E w_2_0 H.size F MA mo (nI 0) 2 hm_2_0) (cwV 1 hts gX7_begin_X7_fails rfl rfl rfl (by decide +kernel) ⟨(Nat.le_of_ble_eq_true rfl), (Nat.le_of_ble_eq_true rfl)⟩) (show w_2_0 mo = some (.inr (7, [.int (nI 0), .int (nI (F 24 0)), .ref (MA 0), .ref (MA 1), .ref (MA 2), .ref (MA 3), .ref (MA 4), .ref (MA 5), .ref (MA 6), .ref (MA 7), .ref (MA 8), .ref (MA 9), .int (nI (F 24 1)), .ref (MA 10), .ref (MA 11), .ref (MA 12), .int (nI (F 24 2)), .ref (MA 13), .ref (MA 14), .ref (MA 15), .int (nI (F 24 3)), .ref (MA 16), .ref (MA 17), .ref (MA 18), .ref (MA 19), .ref (MA 20), .ref (MA 21)])) from hm_2_0.x) rfl rfl rfl hl.1 (Nat.le_of_ble_eq_true rfl) dX7_begin_53 ⟨(Nat.le_of_ble_eq_true rfl), (Nat.le_of_ble_eq_true rfl)⟩) (Nat.le_of_ble_eq_true rfl) (Nat.le_of_ble_eq_true rfl) (fun _ _ h => h.elim) (fun v_53 w_53 H locs hq hP hS => ?_)
          obtain ⟨rfl, hm_53_9, hk2_53_9⟩ := hq
          have hk_53_9 := hk_2_0.tr hk2_53_9
          refine W.eq (g2 := F0 m 56 ls [.int 0]) rfl ?_
          have hev : s_begin F r1 a1 sh1 li1 = (2, 0, F) := by simp [s_begin, q10, q27, q37, q48]
          exact wl_iret C0 hr rfl hP hS dX7_begin_56 (Nat.le_of_ble_eq_true rfl) (Nat.le_of_ble_eq_true rfl) (⟨by rw [hev], by rw [hev]; exact hm_53_9, hk_53_9⟩)
  · have q10 : vpb r1 (F 24 0) = false := bI_0.mp c_10
    refine lv_aload_n hx hb dX7_begin_13 rfl (lv_at hl 0 rfl) ?_
    refine lv_iconst (v := 1) hx hb dX7_begin_14 (by decide) ?_
    refine wl_on C0 ht hP hS (wl_runV (As := [.int 1]) (rest := []) C0 hP hS (k_X7_fails l hst E w_2_0 H.size F MA mo (nI 0) 1 hm_2_0) (cwV 1 hts gX7_begin_X7_fails rfl rfl rfl (by decide +kernel) ⟨(Nat.le_of_ble_eq_true rfl), (Nat.le_of_ble_eq_true rfl)⟩) (show w_2_0 mo = some (.inr (7, [.int (nI 0), .int (nI (F 24 0)), .ref (MA 0), .ref (MA 1), .ref (MA 2), .ref (MA 3), .ref (MA 4), .ref (MA 5), .ref (MA 6), .ref (MA 7), .ref (MA 8), .ref (MA 9), .int (nI (F 24 1)), .ref (MA 10), .ref (MA 11), .ref (MA 12), .int (nI (F 24 2)), .ref (MA 13), .ref (MA 14), .ref (MA 15), .int (nI (F 24 3)), .ref (MA 16), .ref (MA 17), .ref (MA 18), .ref (MA 19), .ref (MA 20), .ref (MA 21)])) from hm_2_0.x) rfl rfl rfl hl.1 (Nat.le_of_ble_eq_true rfl) dX7_begin_15 ⟨(Nat.le_of_ble_eq_true rfl), (Nat.le_of_ble_eq_true rfl)⟩) (Nat.le_of_ble_eq_true rfl) (Nat.le_of_ble_eq_true rfl) (fun _ _ h => h.elim) (fun v_15 w_15 H locs hq hP hS => ?_)
    obtain ⟨rfl, hm_15_10, hk2_15_10⟩ := hq
    have hk_15_10 := hk_2_0.tr hk2_15_10
    refine W.eq (g2 := F0 m 18 ls [.int 0]) rfl ?_
    have hev : s_begin F r1 a1 sh1 li1 = (1, 0, F) := by simp [s_begin, q10]
    exact wl_iret C0 hr rfl hP hS dX7_begin_18 (Nat.le_of_ble_eq_true rfl) (Nat.le_of_ble_eq_true rfl) (⟨by rw [hev], by rw [hev]; exact hm_15_10, hk_15_10⟩)

set_option maxHeartbeats 4000000 in
set_option maxRecDepth 100000 in
theorem k_X7_hasCanary (l : Launch) (hst : l.stackTraces = false) (E : wEn) (w : wW) (sz : Nat) (F : FF) (MA : Nat → Nat) (mo : Nat) (cd : Int32) (N : Nat) (hI : wInv F N) (hm : wMod E F MA mo cd w) (r1 : Int32) : wM l yX7_hasCanary wsX7_hasCanary 2 0 0 E w sz [.ref mo, .int r1] (fun v w2 => v = some (.int (s_hasCanary F r1).2.1) ∧ wMod E (s_hasCanary F r1).2.2 MA mo (nI (s_hasCanary F r1).1) w2 ∧ wKm mo MA w w2) (fun _ _ => False) := by
  refine wm_start (own := RX7) (cc := cX7_hasCanary) (maxL := 2) (ret := (some .boolean)) rfl (by decide) rfl (Nat.le_of_ble_eq_true rfl) ?_
  intro p e s m args below meth c ls C0 hr hin ht hP hS hl
  have hx := C0.1
  have hb := C0.2.1
  have hts := C0.2.2.2.2.1
  have hown := C0.2.2.2.1
  have hl : lv_has ls 2 [(0, .ref mo), (1, .int r1)] := hl
  have hf_79 : (Cond.fieldLink RX7 79 "CallGatewayModel" "code" "I").before args s = true := hts _ (by decide +kernel)
  have hf_25 : (Cond.fieldLink RX7 25 "CallGatewayModel" "canary" "[Z").before args s = true := hts _ (by decide +kernel)
  have hi_RX7 : ∀ w ∈ u_ws RX7 TX7 27, w ∈ wsX7_hasCanary := fun _ h => List.mem_cons_of_mem _ (List.mem_append_left _ (List.mem_append_right _ h))
  have hn := hI.n
  have hn9 := hI.n
  refine lv_aload_n hx hb dX7_hasCanary_0 rfl (lv_at hl 0 rfl) ?_
  refine lv_aload_n hx hb dX7_hasCanary_1 rfl (lv_at hl 0 rfl) ?_
  refine lv_iload_n hx hb dX7_hasCanary_2 rfl (lv_at hl 1 rfl) ?_
  refine wl_on C0 ht hP hS (wl_runV (As := [.int r1]) (rest := [.ref mo]) C0 hP hS (k_X7_isRoute l hst E w s.heap.size F MA mo cd N hI hm r1) (cwV 1 hts gX7_hasCanary_X7_isRoute rfl rfl rfl (by decide +kernel) ⟨(Nat.le_of_ble_eq_true rfl), (Nat.le_of_ble_eq_true rfl)⟩) (show w mo = some (.inr (7, [.int cd, .int (nI (F 24 0)), .ref (MA 0), .ref (MA 1), .ref (MA 2), .ref (MA 3), .ref (MA 4), .ref (MA 5), .ref (MA 6), .ref (MA 7), .ref (MA 8), .ref (MA 9), .int (nI (F 24 1)), .ref (MA 10), .ref (MA 11), .ref (MA 12), .int (nI (F 24 2)), .ref (MA 13), .ref (MA 14), .ref (MA 15), .int (nI (F 24 3)), .ref (MA 16), .ref (MA 17), .ref (MA 18), .ref (MA 19), .ref (MA 20), .ref (MA 21)])) from hm.x) rfl rfl rfl hl.1 (Nat.le_of_ble_eq_true rfl) dX7_hasCanary_3 ⟨(Nat.le_of_ble_eq_true rfl), (Nat.le_of_ble_eq_true rfl)⟩) (Nat.le_of_ble_eq_true rfl) (Nat.le_of_ble_eq_true rfl) (fun _ _ h => h.elim) (fun v_3 w_3 H locs hq hP hS => ?_)
  obtain ⟨rfl, hw9⟩ := hq
  rw [hw9] at hP
  refine W.eq (g2 := F0 m 6 ls [.int (bI (vpb r1 (F 24 0))), .ref mo]) rfl ?_
  refine lv_if_eq (tgt := 13) hx hb dX7_hasCanary_6 (by decide) (fun c_6 => ?_) (fun c_6 => ?_)
  · have q6 : vpb r1 (F 24 0) = false := bI_0.mp c_6
    refine lv_iconst (v := 1) hx hb dX7_hasCanary_13 (by decide) ?_
    refine wl_put (T := TX7) (ty0 := tyX7) (fs2 := [.int 1, .int (nI (F 24 0)), .ref (MA 0), .ref (MA 1), .ref (MA 2), .ref (MA 3), .ref (MA 4), .ref (MA 5), .ref (MA 6), .ref (MA 7), .ref (MA 8), .ref (MA 9), .int (nI (F 24 1)), .ref (MA 10), .ref (MA 11), .ref (MA 12), .int (nI (F 24 2)), .ref (MA 13), .ref (MA 14), .ref (MA 15), .int (nI (F 24 3)), .ref (MA 16), .ref (MA 17), .ref (MA 18), .ref (MA 19), .ref (MA 20), .ref (MA 21)]) C0 hP hS (show w mo = some (.inr (7, [.int cd, .int (nI (F 24 0)), .ref (MA 0), .ref (MA 1), .ref (MA 2), .ref (MA 3), .ref (MA 4), .ref (MA 5), .ref (MA 6), .ref (MA 7), .ref (MA 8), .ref (MA 9), .int (nI (F 24 1)), .ref (MA 10), .ref (MA 11), .ref (MA 12), .int (nI (F 24 2)), .ref (MA 13), .ref (MA 14), .ref (MA 15), .int (nI (F 24 3)), .ref (MA 16), .ref (MA 17), .ref (MA 18), .ref (MA 19), .ref (MA 20), .ref (MA 21)])) from hm.x) hi_RX7 tyX7_ok nmX7 rfl 0 (by decide) hf_79 rfl rfl rfl rfl (Nat.le_of_ble_eq_true rfl) rfl dX7_hasCanary_14 (fun H locs hP hS => ?_)
    obtain ⟨w_14_0, hw9, hm_14_0, hk_14_0⟩ : ∃ wz : wW, wz = wU w mo (.inr (7, [.int 1, .int (nI (F 24 0)), .ref (MA 0), .ref (MA 1), .ref (MA 2), .ref (MA 3), .ref (MA 4), .ref (MA 5), .ref (MA 6), .ref (MA 7), .ref (MA 8), .ref (MA 9), .int (nI (F 24 1)), .ref (MA 10), .ref (MA 11), .ref (MA 12), .int (nI (F 24 2)), .ref (MA 13), .ref (MA 14), .ref (MA 15), .int (nI (F 24 3)), .ref (MA 16), .ref (MA 17), .ref (MA 18), .ref (MA 19), .ref (MA 20), .ref (MA 21)])) ∧ wMod E F MA mo (nI 1) wz ∧ wKm mo MA w wz := ⟨_, rfl, M_o (F := F) (G := F) (cd2 := nI 1) hm (fun a b h => rfl), wKm.rf.tr wKm.o⟩
    rw [← hw9] at hP
    refine lv_aload_n hx hb dX7_hasCanary_17 rfl (lv_at hl 0 rfl) ?_
    refine wl_get (T := TX7) C0 hP (show w_14_0 mo = some (.inr (7, [.int (nI 1), .int (nI (F 24 0)), .ref (MA 0), .ref (MA 1), .ref (MA 2), .ref (MA 3), .ref (MA 4), .ref (MA 5), .ref (MA 6), .ref (MA 7), .ref (MA 8), .ref (MA 9), .int (nI (F 24 1)), .ref (MA 10), .ref (MA 11), .ref (MA 12), .int (nI (F 24 2)), .ref (MA 13), .ref (MA 14), .ref (MA 15), .int (nI (F 24 3)), .ref (MA 16), .ref (MA 17), .ref (MA 18), .ref (MA 19), .ref (MA 20), .ref (MA 21)])) from hm_14_0.x) hi_RX7 rfl 0 (by decide) hf_79 rfl dX7_hasCanary_18 ?_
    refine lv_if_ne (tgt := 37) hx hb dX7_hasCanary_21 (by decide) (fun c_21 => ?_) (fun c_21 => ?_)
    · refine lv_iconst (v := 0) hx hb dX7_hasCanary_37 (by decide) ?_
      have hev : s_hasCanary F r1 = (1, 0, F) := by simp [s_hasCanary, q6]
      exact wl_iret C0 hr (by decide) hP hS dX7_hasCanary_38 (Nat.le_of_ble_eq_true rfl) (Nat.le_of_ble_eq_true rfl) (⟨by rw [hev], by rw [hev]; exact hm_14_0, hk_14_0⟩)
    · exact absurd c_21 (by decide)
  · have q6 : vpb r1 (F 24 0) = true := bI_n.mp c_6
    have hr9 := vpb_tn q6
    have hrt := vpb_nt q6
    have h8 := hI.ro hr9
    have hl : lv_has ls 2 [(0, .ref mo), (1, .int (nI (tn r1)))] := by
      rw [hrt]
      exact hl
    refine lv_iconst (v := 0) hx hb dX7_hasCanary_9 (by decide) ?_
    refine lv_goto (tgt := 14) hx hb dX7_hasCanary_10 (by decide) ?_
    refine wl_put (T := TX7) (ty0 := tyX7) (fs2 := [.int 0, .int (nI (F 24 0)), .ref (MA 0), .ref (MA 1), .ref (MA 2), .ref (MA 3), .ref (MA 4), .ref (MA 5), .ref (MA 6), .ref (MA 7), .ref (MA 8), .ref (MA 9), .int (nI (F 24 1)), .ref (MA 10), .ref (MA 11), .ref (MA 12), .int (nI (F 24 2)), .ref (MA 13), .ref (MA 14), .ref (MA 15), .int (nI (F 24 3)), .ref (MA 16), .ref (MA 17), .ref (MA 18), .ref (MA 19), .ref (MA 20), .ref (MA 21)]) C0 hP hS (show w mo = some (.inr (7, [.int cd, .int (nI (F 24 0)), .ref (MA 0), .ref (MA 1), .ref (MA 2), .ref (MA 3), .ref (MA 4), .ref (MA 5), .ref (MA 6), .ref (MA 7), .ref (MA 8), .ref (MA 9), .int (nI (F 24 1)), .ref (MA 10), .ref (MA 11), .ref (MA 12), .int (nI (F 24 2)), .ref (MA 13), .ref (MA 14), .ref (MA 15), .int (nI (F 24 3)), .ref (MA 16), .ref (MA 17), .ref (MA 18), .ref (MA 19), .ref (MA 20), .ref (MA 21)])) from hm.x) hi_RX7 tyX7_ok nmX7 rfl 0 (by decide) hf_79 rfl rfl rfl rfl (Nat.le_of_ble_eq_true rfl) rfl dX7_hasCanary_14 (fun H locs hP hS => ?_)
    obtain ⟨w_14_1, hw9, hm_14_1, hk_14_1⟩ : ∃ wz : wW, wz = wU w mo (.inr (7, [.int 0, .int (nI (F 24 0)), .ref (MA 0), .ref (MA 1), .ref (MA 2), .ref (MA 3), .ref (MA 4), .ref (MA 5), .ref (MA 6), .ref (MA 7), .ref (MA 8), .ref (MA 9), .int (nI (F 24 1)), .ref (MA 10), .ref (MA 11), .ref (MA 12), .int (nI (F 24 2)), .ref (MA 13), .ref (MA 14), .ref (MA 15), .int (nI (F 24 3)), .ref (MA 16), .ref (MA 17), .ref (MA 18), .ref (MA 19), .ref (MA 20), .ref (MA 21)])) ∧ wMod E F MA mo (nI 0) wz ∧ wKm mo MA w wz := ⟨_, rfl, M_o (F := F) (G := F) (cd2 := nI 0) hm (fun a b h => rfl), wKm.rf.tr wKm.o⟩
    rw [← hw9] at hP
    refine lv_aload_n hx hb dX7_hasCanary_17 rfl (lv_at hl 0 rfl) ?_
    refine wl_get (T := TX7) C0 hP (show w_14_1 mo = some (.inr (7, [.int (nI 0), .int (nI (F 24 0)), .ref (MA 0), .ref (MA 1), .ref (MA 2), .ref (MA 3), .ref (MA 4), .ref (MA 5), .ref (MA 6), .ref (MA 7), .ref (MA 8), .ref (MA 9), .int (nI (F 24 1)), .ref (MA 10), .ref (MA 11), .ref (MA 12), .int (nI (F 24 2)), .ref (MA 13), .ref (MA 14), .ref (MA 15), .int (nI (F 24 3)), .ref (MA 16), .ref (MA 17), .ref (MA 18), .ref (MA 19), .ref (MA 20), .ref (MA 21)])) from hm_14_1.x) hi_RX7 rfl 0 (by decide) hf_79 rfl dX7_hasCanary_18 ?_
    refine lv_if_ne (tgt := 37) hx hb dX7_hasCanary_21 (by decide) (fun c_21 => ?_) (fun c_21 => ?_)
    · exact absurd (by decide) c_21
    · refine lv_aload_n hx hb dX7_hasCanary_24 rfl (lv_at hl 0 rfl) ?_
      refine wl_get (T := TX7) C0 hP (show w_14_1 mo = some (.inr (7, [.int (nI 0), .int (nI (F 24 0)), .ref (MA 0), .ref (MA 1), .ref (MA 2), .ref (MA 3), .ref (MA 4), .ref (MA 5), .ref (MA 6), .ref (MA 7), .ref (MA 8), .ref (MA 9), .int (nI (F 24 1)), .ref (MA 10), .ref (MA 11), .ref (MA 12), .int (nI (F 24 2)), .ref (MA 13), .ref (MA 14), .ref (MA 15), .int (nI (F 24 3)), .ref (MA 16), .ref (MA 17), .ref (MA 18), .ref (MA 19), .ref (MA 20), .ref (MA 21)])) from hm_14_1.x) hi_RX7 rfl 7 (by decide) hf_25 rfl dX7_hasCanary_25 ?_
      refine lv_iload_n hx hb dX7_hasCanary_28 rfl (lv_at hl 1 rfl) ?_
      refine wl_zald C0 hP (show w_14_1 (MA 5) = some (.inl (E.2.1 3, 8, .inl (fun i => nI (F 5 i)))) from hm_14_1.i 5 (by decide) rfl rfl rfl) (vp_in_nI (by omega) (by omega)) dX7_hasCanary_29 ?_
      refine W.eq (g2 := F0 m 30 ls [.int (nI (F 5 (tn r1)))]) (by rw [show (nI (tn r1)).toNatClampNeg = (tn r1) from nI_clamp (by omega)]) ?_
      refine lv_if_eq (tgt := 37) hx hb dX7_hasCanary_30 (by decide) (fun c_30 => ?_) (fun c_30 => ?_)
      · have q30 : F 5 (tn r1) = 0 := (nI_e0 (by omega)).mp c_30
        refine lv_iconst (v := 0) hx hb dX7_hasCanary_37 (by decide) ?_
        have hev : s_hasCanary F r1 = (0, 0, F) := by simp [s_hasCanary, q6, q30, bI]
        exact wl_iret C0 hr (by decide) hP hS dX7_hasCanary_38 (Nat.le_of_ble_eq_true rfl) (Nat.le_of_ble_eq_true rfl) (⟨by rw [hev], by rw [hev]; exact hm_14_1, hk_14_1⟩)
      · have q30 : ¬ F 5 (tn r1) = 0 := fun q => c_30 ((nI_e0 (by omega)).mpr q)
        refine lv_iconst (v := 1) hx hb dX7_hasCanary_33 (by decide) ?_
        refine lv_goto (tgt := 38) hx hb dX7_hasCanary_34 (by decide) ?_
        have hev : s_hasCanary F r1 = (0, 1, F) := by simp [s_hasCanary, q6, q30, bI]
        exact wl_iret C0 hr (by decide) hP hS dX7_hasCanary_38 (Nat.le_of_ble_eq_true rfl) (Nat.le_of_ble_eq_true rfl) (⟨by rw [hev], by rw [hev]; exact hm_14_1, hk_14_1⟩)

set_option maxHeartbeats 4000000 in
set_option maxRecDepth 100000 in
theorem k_X7_faults (l : Launch) (hst : l.stackTraces = false) (E : wEn) (w : wW) (sz : Nat) (F : FF) (MA : Nat → Nat) (mo : Nat) (cd : Int32) (N : Nat) (hI : wInv F N) (hm : wMod E F MA mo cd w) (r1 : Int32) : wM l yX7_faults wsX7_faults 2 0 0 E w sz [.ref mo, .int r1] (fun v w2 => v = some (.int (s_faults F r1).2.1) ∧ wMod E (s_faults F r1).2.2 MA mo (nI (s_faults F r1).1) w2 ∧ wKm mo MA w w2) (fun _ _ => False) := by
  refine wm_start (own := RX7) (cc := cX7_faults) (maxL := 2) (ret := (some .int)) rfl (by decide) rfl (Nat.le_of_ble_eq_true rfl) ?_
  intro p e s m args below meth c ls C0 hr hin ht hP hS hl
  have hx := C0.1
  have hb := C0.2.1
  have hts := C0.2.2.2.2.1
  have hown := C0.2.2.2.1
  have hl : lv_has ls 2 [(0, .ref mo), (1, .int r1)] := hl
  have hf_79 : (Cond.fieldLink RX7 79 "CallGatewayModel" "code" "I").before args s = true := hts _ (by decide +kernel)
  have hf_25 : (Cond.fieldLink RX7 25 "CallGatewayModel" "canary" "[Z").before args s = true := hts _ (by decide +kernel)
  have hf_38 : (Cond.fieldLink RX7 38 "CallGatewayModel" "faults" "[I").before args s = true := hts _ (by decide +kernel)
  have hi_RX7 : ∀ w ∈ u_ws RX7 TX7 27, w ∈ wsX7_faults := fun _ h => List.mem_cons_of_mem _ (List.mem_append_left _ (List.mem_append_right _ h))
  have hn := hI.n
  have hn9 := hI.n
  refine lv_aload_n hx hb dX7_faults_0 rfl (lv_at hl 0 rfl) ?_
  refine lv_iconst (v := 0) hx hb dX7_faults_1 (by decide) ?_
  refine wl_put (T := TX7) (ty0 := tyX7) (fs2 := [.int 0, .int (nI (F 24 0)), .ref (MA 0), .ref (MA 1), .ref (MA 2), .ref (MA 3), .ref (MA 4), .ref (MA 5), .ref (MA 6), .ref (MA 7), .ref (MA 8), .ref (MA 9), .int (nI (F 24 1)), .ref (MA 10), .ref (MA 11), .ref (MA 12), .int (nI (F 24 2)), .ref (MA 13), .ref (MA 14), .ref (MA 15), .int (nI (F 24 3)), .ref (MA 16), .ref (MA 17), .ref (MA 18), .ref (MA 19), .ref (MA 20), .ref (MA 21)]) C0 hP hS (show w mo = some (.inr (7, [.int cd, .int (nI (F 24 0)), .ref (MA 0), .ref (MA 1), .ref (MA 2), .ref (MA 3), .ref (MA 4), .ref (MA 5), .ref (MA 6), .ref (MA 7), .ref (MA 8), .ref (MA 9), .int (nI (F 24 1)), .ref (MA 10), .ref (MA 11), .ref (MA 12), .int (nI (F 24 2)), .ref (MA 13), .ref (MA 14), .ref (MA 15), .int (nI (F 24 3)), .ref (MA 16), .ref (MA 17), .ref (MA 18), .ref (MA 19), .ref (MA 20), .ref (MA 21)])) from hm.x) hi_RX7 tyX7_ok nmX7 rfl 0 (by decide) hf_79 rfl rfl rfl rfl (Nat.le_of_ble_eq_true rfl) rfl dX7_faults_2 (fun H locs hP hS => ?_)
  obtain ⟨w_2_0, hw9, hm_2_0, hk_2_0⟩ : ∃ wz : wW, wz = wU w mo (.inr (7, [.int 0, .int (nI (F 24 0)), .ref (MA 0), .ref (MA 1), .ref (MA 2), .ref (MA 3), .ref (MA 4), .ref (MA 5), .ref (MA 6), .ref (MA 7), .ref (MA 8), .ref (MA 9), .int (nI (F 24 1)), .ref (MA 10), .ref (MA 11), .ref (MA 12), .int (nI (F 24 2)), .ref (MA 13), .ref (MA 14), .ref (MA 15), .int (nI (F 24 3)), .ref (MA 16), .ref (MA 17), .ref (MA 18), .ref (MA 19), .ref (MA 20), .ref (MA 21)])) ∧ wMod E F MA mo (nI 0) wz ∧ wKm mo MA w wz := ⟨_, rfl, M_o (F := F) (G := F) (cd2 := nI 0) hm (fun a b h => rfl), wKm.rf.tr wKm.o⟩
  rw [← hw9] at hP
  refine lv_aload_n hx hb dX7_faults_5 rfl (lv_at hl 0 rfl) ?_
  refine lv_iload_n hx hb dX7_faults_6 rfl (lv_at hl 1 rfl) ?_
  refine wl_on C0 ht hP hS (wl_runV (As := [.int r1]) (rest := []) C0 hP hS (k_X7_isRoute l hst E w_2_0 H.size F MA mo (nI 0) N hI hm_2_0 r1) (cwV 1 hts gX7_faults_X7_isRoute rfl rfl rfl (by decide +kernel) ⟨(Nat.le_of_ble_eq_true rfl), (Nat.le_of_ble_eq_true rfl)⟩) (show w_2_0 mo = some (.inr (7, [.int (nI 0), .int (nI (F 24 0)), .ref (MA 0), .ref (MA 1), .ref (MA 2), .ref (MA 3), .ref (MA 4), .ref (MA 5), .ref (MA 6), .ref (MA 7), .ref (MA 8), .ref (MA 9), .int (nI (F 24 1)), .ref (MA 10), .ref (MA 11), .ref (MA 12), .int (nI (F 24 2)), .ref (MA 13), .ref (MA 14), .ref (MA 15), .int (nI (F 24 3)), .ref (MA 16), .ref (MA 17), .ref (MA 18), .ref (MA 19), .ref (MA 20), .ref (MA 21)])) from hm_2_0.x) rfl rfl rfl hl.1 (Nat.le_of_ble_eq_true rfl) dX7_faults_7 ⟨(Nat.le_of_ble_eq_true rfl), (Nat.le_of_ble_eq_true rfl)⟩) (Nat.le_of_ble_eq_true rfl) (Nat.le_of_ble_eq_true rfl) (fun _ _ h => h.elim) (fun v_7 w_7 H locs hq hP hS => ?_)
  obtain ⟨rfl, hw9⟩ := hq
  rw [hw9] at hP
  refine W.eq (g2 := F0 m 10 ls [.int (bI (vpb r1 (F 24 0)))]) rfl ?_
  refine lv_if_ne (tgt := 19) hx hb dX7_faults_10 (by decide) (fun c_10 => ?_) (fun c_10 => ?_)
  · have q10 : vpb r1 (F 24 0) = true := bI_n.mp c_10
    have hr9 := vpb_tn q10
    have hrt := vpb_nt q10
    have h8 := hI.ro hr9
    have hl : lv_has ls 2 [(0, .ref mo), (1, .int (nI (tn r1)))] := by
      rw [hrt]
      exact hl
    refine lv_aload_n hx hb dX7_faults_19 rfl (lv_at hl 0 rfl) ?_
    refine wl_get (T := TX7) C0 hP (show w_2_0 mo = some (.inr (7, [.int (nI 0), .int (nI (F 24 0)), .ref (MA 0), .ref (MA 1), .ref (MA 2), .ref (MA 3), .ref (MA 4), .ref (MA 5), .ref (MA 6), .ref (MA 7), .ref (MA 8), .ref (MA 9), .int (nI (F 24 1)), .ref (MA 10), .ref (MA 11), .ref (MA 12), .int (nI (F 24 2)), .ref (MA 13), .ref (MA 14), .ref (MA 15), .int (nI (F 24 3)), .ref (MA 16), .ref (MA 17), .ref (MA 18), .ref (MA 19), .ref (MA 20), .ref (MA 21)])) from hm_2_0.x) hi_RX7 rfl 7 (by decide) hf_25 rfl dX7_faults_20 ?_
    refine lv_iload_n hx hb dX7_faults_23 rfl (lv_at hl 1 rfl) ?_
    refine wl_zald C0 hP (show w_2_0 (MA 5) = some (.inl (E.2.1 3, 8, .inl (fun i => nI (F 5 i)))) from hm_2_0.i 5 (by decide) rfl rfl rfl) (vp_in_nI (by omega) (by omega)) dX7_faults_24 ?_
    refine W.eq (g2 := F0 m 25 ls [.int (nI (F 5 (tn r1)))]) (by rw [show (nI (tn r1)).toNatClampNeg = (tn r1) from nI_clamp (by omega)]) ?_
    refine lv_if_eq (tgt := 37) hx hb dX7_faults_25 (by decide) (fun c_25 => ?_) (fun c_25 => ?_)
    · have q25 : F 5 (tn r1) = 0 := (nI_e0 (by omega)).mp c_25
      refine lv_aload_n hx hb dX7_faults_37 rfl (lv_at hl 0 rfl) ?_
      refine lv_iconst (v := 2) hx hb dX7_faults_38 (by decide) ?_
      refine wl_on C0 ht hP hS (wl_runV (As := [.int 2]) (rest := []) C0 hP hS (k_X7_fails l hst E w_2_0 H.size F MA mo (nI 0) 2 hm_2_0) (cwV 1 hts gX7_faults_X7_fails rfl rfl rfl (by decide +kernel) ⟨(Nat.le_of_ble_eq_true rfl), (Nat.le_of_ble_eq_true rfl)⟩) (show w_2_0 mo = some (.inr (7, [.int (nI 0), .int (nI (F 24 0)), .ref (MA 0), .ref (MA 1), .ref (MA 2), .ref (MA 3), .ref (MA 4), .ref (MA 5), .ref (MA 6), .ref (MA 7), .ref (MA 8), .ref (MA 9), .int (nI (F 24 1)), .ref (MA 10), .ref (MA 11), .ref (MA 12), .int (nI (F 24 2)), .ref (MA 13), .ref (MA 14), .ref (MA 15), .int (nI (F 24 3)), .ref (MA 16), .ref (MA 17), .ref (MA 18), .ref (MA 19), .ref (MA 20), .ref (MA 21)])) from hm_2_0.x) rfl rfl rfl hl.1 (Nat.le_of_ble_eq_true rfl) dX7_faults_39 ⟨(Nat.le_of_ble_eq_true rfl), (Nat.le_of_ble_eq_true rfl)⟩) (Nat.le_of_ble_eq_true rfl) (Nat.le_of_ble_eq_true rfl) (fun _ _ h => h.elim) (fun v_39 w_39 H locs hq hP hS => ?_)
      obtain ⟨rfl, hm_39_1, hk2_39_1⟩ := hq
      have hk_39_1 := hk_2_0.tr hk2_39_1
      refine W.eq (g2 := F0 m 42 ls [.int 0]) rfl ?_
      have hev : s_faults F r1 = (2, 0, F) := by simp [s_faults, q10, q25]
      exact wl_iret C0 hr rfl hP hS dX7_faults_42 (Nat.le_of_ble_eq_true rfl) (Nat.le_of_ble_eq_true rfl) (⟨by rw [hev], by rw [hev]; exact hm_39_1, hk_39_1⟩)
    · have q25 : ¬ F 5 (tn r1) = 0 := fun q => c_25 ((nI_e0 (by omega)).mpr q)
      refine lv_aload_n hx hb dX7_faults_28 rfl (lv_at hl 0 rfl) ?_
      refine wl_get (T := TX7) C0 hP (show w_2_0 mo = some (.inr (7, [.int (nI 0), .int (nI (F 24 0)), .ref (MA 0), .ref (MA 1), .ref (MA 2), .ref (MA 3), .ref (MA 4), .ref (MA 5), .ref (MA 6), .ref (MA 7), .ref (MA 8), .ref (MA 9), .int (nI (F 24 1)), .ref (MA 10), .ref (MA 11), .ref (MA 12), .int (nI (F 24 2)), .ref (MA 13), .ref (MA 14), .ref (MA 15), .int (nI (F 24 3)), .ref (MA 16), .ref (MA 17), .ref (MA 18), .ref (MA 19), .ref (MA 20), .ref (MA 21)])) from hm_2_0.x) hi_RX7 rfl 11 (by decide) hf_38 rfl dX7_faults_29 ?_
      refine lv_iload_n hx hb dX7_faults_32 rfl (lv_at hl 1 rfl) ?_
      refine wl_iald C0 hP (show w_2_0 (MA 9) = some (.inl (E.2.1 0, 8, .inl (fun i => nI (F 9 i)))) from hm_2_0.i 9 (by decide) rfl rfl rfl) (vp_in_nI (by omega) (by omega)) dX7_faults_33 ?_
      refine W.eq (g2 := F0 m 34 ls [.int (nI (F 9 (tn r1)))]) (by rw [show (nI (tn r1)).toNatClampNeg = (tn r1) from nI_clamp (by omega)]) ?_
      refine lv_goto (tgt := 42) hx hb dX7_faults_34 (by decide) ?_
      have hev : s_faults F r1 = (0, nI (F 9 (tn r1)), F) := by simp [s_faults, q10, q25]
      exact wl_iret C0 hr rfl hP hS dX7_faults_42 (Nat.le_of_ble_eq_true rfl) (Nat.le_of_ble_eq_true rfl) (⟨by rw [hev], by rw [hev]; exact hm_2_0, hk_2_0⟩)
  · have q10 : vpb r1 (F 24 0) = false := bI_0.mp c_10
    refine lv_aload_n hx hb dX7_faults_13 rfl (lv_at hl 0 rfl) ?_
    refine lv_iconst (v := 1) hx hb dX7_faults_14 (by decide) ?_
    refine wl_on C0 ht hP hS (wl_runV (As := [.int 1]) (rest := []) C0 hP hS (k_X7_fails l hst E w_2_0 H.size F MA mo (nI 0) 1 hm_2_0) (cwV 1 hts gX7_faults_X7_fails rfl rfl rfl (by decide +kernel) ⟨(Nat.le_of_ble_eq_true rfl), (Nat.le_of_ble_eq_true rfl)⟩) (show w_2_0 mo = some (.inr (7, [.int (nI 0), .int (nI (F 24 0)), .ref (MA 0), .ref (MA 1), .ref (MA 2), .ref (MA 3), .ref (MA 4), .ref (MA 5), .ref (MA 6), .ref (MA 7), .ref (MA 8), .ref (MA 9), .int (nI (F 24 1)), .ref (MA 10), .ref (MA 11), .ref (MA 12), .int (nI (F 24 2)), .ref (MA 13), .ref (MA 14), .ref (MA 15), .int (nI (F 24 3)), .ref (MA 16), .ref (MA 17), .ref (MA 18), .ref (MA 19), .ref (MA 20), .ref (MA 21)])) from hm_2_0.x) rfl rfl rfl hl.1 (Nat.le_of_ble_eq_true rfl) dX7_faults_15 ⟨(Nat.le_of_ble_eq_true rfl), (Nat.le_of_ble_eq_true rfl)⟩) (Nat.le_of_ble_eq_true rfl) (Nat.le_of_ble_eq_true rfl) (fun _ _ h => h.elim) (fun v_15 w_15 H locs hq hP hS => ?_)
    obtain ⟨rfl, hm_15_2, hk2_15_2⟩ := hq
    have hk_15_2 := hk_2_0.tr hk2_15_2
    refine W.eq (g2 := F0 m 18 ls [.int 0]) rfl ?_
    have hev : s_faults F r1 = (1, 0, F) := by simp [s_faults, q10]
    exact wl_iret C0 hr rfl hP hS dX7_faults_18 (Nat.le_of_ble_eq_true rfl) (Nat.le_of_ble_eq_true rfl) (⟨by rw [hev], by rw [hev]; exact hm_15_2, hk_15_2⟩)
