set_option maxHeartbeats 4000000 in
set_option maxRecDepth 100000 in
theorem k_X7_in (l : Launch) (hst : l.stackTraces = false) (E : wEn) (w : wW) (sz : Nat) (v9 lo hi : Int32) : wM l yX7_in wsX7_in 0 0 0 E w sz [.int v9, .int lo, .int hi] (fun v w2 => v = some (.int (bI (wi v9 lo hi))) ∧ w2 = w) (fun _ _ => False) := by
  refine wm_start (own := RX7) (cc := cX7_in) (maxL := 3) (ret := (some .boolean)) rfl (by decide) rfl (Nat.le_of_ble_eq_true rfl) ?_
  intro p e s m args below meth c ls C0 hr hin ht hP hS hl
  have hx := C0.1
  have hb := C0.2.1
  have hts := C0.2.2.2.2.1
  have hown := C0.2.2.2.1
  have hl : lv_has ls 3 [(0, .int v9), (1, .int lo), (2, .int hi)] := hl
  refine lv_iload_n hx hb dX7_in_0 rfl (lv_at hl 0 rfl) ?_
  refine lv_iload_n hx hb dX7_in_1 rfl (lv_at hl 1 rfl) ?_
  refine lv_icmp_lt (tgt := 14) hx hb dX7_in_2 (by decide) (fun c_2 => ?_) (fun c_2 => ?_)
  · refine lv_iconst (v := 0) hx hb dX7_in_14 (by decide) ?_
    exact wl_iret C0 hr (by decide) hP hS dX7_in_15 (Nat.le_of_ble_eq_true rfl) (Nat.le_of_ble_eq_true rfl) (⟨by rw [wi_f1 c_2]; rfl, rfl⟩)
  · refine lv_iload_n hx hb dX7_in_5 rfl (lv_at hl 0 rfl) ?_
    refine lv_iload_n hx hb dX7_in_6 rfl (lv_at hl 2 rfl) ?_
    refine lv_icmp_gt (tgt := 14) hx hb dX7_in_7 (by decide) (fun c_7 => ?_) (fun c_7 => ?_)
    · refine lv_iconst (v := 0) hx hb dX7_in_14 (by decide) ?_
      exact wl_iret C0 hr (by decide) hP hS dX7_in_15 (Nat.le_of_ble_eq_true rfl) (Nat.le_of_ble_eq_true rfl) (⟨by rw [wi_f2 c_7]; rfl, rfl⟩)
    · refine lv_iconst (v := 1) hx hb dX7_in_10 (by decide) ?_
      refine lv_goto (tgt := 15) hx hb dX7_in_11 (by decide) ?_
      exact wl_iret C0 hr (by decide) hP hS dX7_in_15 (Nat.le_of_ble_eq_true rfl) (Nat.le_of_ble_eq_true rfl) (⟨by rw [wi_t c_2 c_7]; rfl, rfl⟩)

set_option maxHeartbeats 4000000 in
set_option maxRecDepth 100000 in
theorem k_X7_isContract (l : Launch) (hst : l.stackTraces = false) (E : wEn) (w : wW) (sz : Nat) (a b : Int32) : wM l yX7_isContract wsX7_isContract 1 0 0 E w sz [.int a, .int b] (fun v w2 => v = some (.int (bI (ctr a b))) ∧ w2 = w) (fun _ _ => False) := by
  refine wm_start (own := RX7) (cc := cX7_isContract) (maxL := 2) (ret := (some .boolean)) rfl (by decide) rfl (Nat.le_of_ble_eq_true rfl) ?_
  intro p e s m args below meth c ls C0 hr hin ht hP hS hl
  have hx := C0.1
  have hb := C0.2.1
  have hts := C0.2.2.2.2.1
  have hown := C0.2.2.2.1
  have hl : lv_has ls 2 [(0, .int a), (1, .int b)] := hl
  refine lv_iload_n hx hb dX7_isContract_0 rfl (lv_at hl 0 rfl) ?_
  refine lv_iconst (v := 0) hx hb dX7_isContract_1 (by decide) ?_
  refine lv_sipush (v := 999) hx hb dX7_isContract_2 (by decide) ?_
  refine wl_on C0 ht hP hS (wl_runS (As := [.int a, .int 0, .int 999]) (rest := []) C0 hP hS (k_X7_in l hst E w s.heap.size a 0 999) (va_cwS 3 hts gX7_isContract_X7_in rfl rfl rfl (by decide +kernel) ⟨(Nat.le_of_ble_eq_true rfl), (Nat.le_of_ble_eq_true rfl)⟩) rfl rfl hl.1 (Nat.le_of_ble_eq_true rfl) dX7_isContract_5 ⟨(Nat.le_of_ble_eq_true rfl), (Nat.le_of_ble_eq_true rfl)⟩) (Nat.le_of_ble_eq_true rfl) (Nat.le_of_ble_eq_true rfl) (fun _ _ h => h.elim) (fun v_5 w_5 H locs hq hP hS => ?_)
  obtain ⟨rfl, hw9⟩ := hq
  rw [hw9] at hP
  refine W.eq (g2 := F0 m 8 ls [.int (bI (wi a 0 999))]) rfl ?_
  refine lv_if_eq (tgt := 26) hx hb dX7_isContract_8 (by decide) (fun c_8 => ?_) (fun c_8 => ?_)
  · refine lv_iconst (v := 0) hx hb dX7_isContract_26 (by decide) ?_
    exact wl_iret C0 hr (by decide) hP hS dX7_isContract_27 (Nat.le_of_ble_eq_true rfl) (Nat.le_of_ble_eq_true rfl) (⟨by unfold ctr; rw [bI_0.mp c_8]; rfl, rfl⟩)
  · refine lv_iload_n hx hb dX7_isContract_11 rfl (lv_at hl 1 rfl) ?_
    refine lv_iload_n hx hb dX7_isContract_12 rfl (lv_at hl 0 rfl) ?_
    refine lv_sipush (v := 999) hx hb dX7_isContract_13 (by decide) ?_
    refine wl_on C0 ht hP hS (wl_runS (As := [.int b, .int a, .int 999]) (rest := []) C0 hP hS (k_X7_in l hst E w H.size b a 999) (va_cwS 3 hts gX7_isContract_X7_in rfl rfl rfl (by decide +kernel) ⟨(Nat.le_of_ble_eq_true rfl), (Nat.le_of_ble_eq_true rfl)⟩) rfl rfl hl.1 (Nat.le_of_ble_eq_true rfl) dX7_isContract_16 ⟨(Nat.le_of_ble_eq_true rfl), (Nat.le_of_ble_eq_true rfl)⟩) (Nat.le_of_ble_eq_true rfl) (Nat.le_of_ble_eq_true rfl) (fun _ _ h => h.elim) (fun v_16 w_16 H locs hq hP hS => ?_)
    obtain ⟨rfl, hw9⟩ := hq
    rw [hw9] at hP
    refine W.eq (g2 := F0 m 19 ls [.int (bI (wi b a 999))]) rfl ?_
    refine lv_if_eq (tgt := 26) hx hb dX7_isContract_19 (by decide) (fun c_19 => ?_) (fun c_19 => ?_)
    · refine lv_iconst (v := 0) hx hb dX7_isContract_26 (by decide) ?_
      exact wl_iret C0 hr (by decide) hP hS dX7_isContract_27 (Nat.le_of_ble_eq_true rfl) (Nat.le_of_ble_eq_true rfl) (⟨by unfold ctr; rw [bI_0.mp c_19, Bool.and_false]; rfl, rfl⟩)
    · refine lv_iconst (v := 1) hx hb dX7_isContract_22 (by decide) ?_
      refine lv_goto (tgt := 27) hx hb dX7_isContract_23 (by decide) ?_
      exact wl_iret C0 hr (by decide) hP hS dX7_isContract_27 (Nat.le_of_ble_eq_true rfl) (Nat.le_of_ble_eq_true rfl) (⟨by unfold ctr; rw [bI_n.mp c_8, bI_n.mp c_19]; rfl, rfl⟩)

set_option maxHeartbeats 4000000 in
set_option maxRecDepth 100000 in
theorem k_X7_fails (l : Launch) (hst : l.stackTraces = false) (E : wEn) (w : wW) (sz : Nat) (F : FF) (MA : Nat → Nat) (mo : Nat) (cd : Int32) (k : Nat) (hm : wMod E F MA mo cd w) : wM l yX7_fails wsX7_fails 0 0 0 E w sz [.ref mo, .int (nI k)] (fun v w2 => v = some (.int 0) ∧ wMod E F MA mo (nI k) w2 ∧ wKm mo MA w w2) (fun _ _ => False) := by
  refine wm_start (own := RX7) (cc := cX7_fails) (maxL := 2) (ret := (some .int)) rfl (by decide) rfl (Nat.le_of_ble_eq_true rfl) ?_
  intro p e s m args below meth c ls C0 hr hin ht hP hS hl
  have hx := C0.1
  have hb := C0.2.1
  have hts := C0.2.2.2.2.1
  have hown := C0.2.2.2.1
  have hl : lv_has ls 2 [(0, .ref mo), (1, .int (nI k))] := hl
  have hf_79 : (Cond.fieldLink RX7 79 "CallGatewayModel" "code" "I").before args s = true := hts _ (by decide +kernel)
  have hi_RX7 : ∀ w ∈ u_ws RX7 TX7 27, w ∈ wsX7_fails := fun _ h => List.mem_cons_of_mem _ (List.mem_append_right _ h)
  refine lv_aload_n hx hb dX7_fails_0 rfl (lv_at hl 0 rfl) ?_
  refine lv_iload_n hx hb dX7_fails_1 rfl (lv_at hl 1 rfl) ?_
  refine wl_put (T := TX7) (ty0 := tyX7) (fs2 := [.int (nI k), .int (nI (F 24 0)), .ref (MA 0), .ref (MA 1), .ref (MA 2), .ref (MA 3), .ref (MA 4), .ref (MA 5), .ref (MA 6), .ref (MA 7), .ref (MA 8), .ref (MA 9), .int (nI (F 24 1)), .ref (MA 10), .ref (MA 11), .ref (MA 12), .int (nI (F 24 2)), .ref (MA 13), .ref (MA 14), .ref (MA 15), .int (nI (F 24 3)), .ref (MA 16), .ref (MA 17), .ref (MA 18), .ref (MA 19), .ref (MA 20), .ref (MA 21)]) C0 hP hS (show w mo = some (.inr (7, [.int cd, .int (nI (F 24 0)), .ref (MA 0), .ref (MA 1), .ref (MA 2), .ref (MA 3), .ref (MA 4), .ref (MA 5), .ref (MA 6), .ref (MA 7), .ref (MA 8), .ref (MA 9), .int (nI (F 24 1)), .ref (MA 10), .ref (MA 11), .ref (MA 12), .int (nI (F 24 2)), .ref (MA 13), .ref (MA 14), .ref (MA 15), .int (nI (F 24 3)), .ref (MA 16), .ref (MA 17), .ref (MA 18), .ref (MA 19), .ref (MA 20), .ref (MA 21)])) from hm.x) hi_RX7 tyX7_ok nmX7 rfl 0 (by decide) hf_79 rfl rfl rfl rfl (Nat.le_of_ble_eq_true rfl) rfl dX7_fails_2 (fun H locs hP hS => ?_)
  obtain ⟨w_2_0, hw9, hm_2_0, hk_2_0⟩ : ∃ wz : wW, wz = wU w mo (.inr (7, [.int (nI k), .int (nI (F 24 0)), .ref (MA 0), .ref (MA 1), .ref (MA 2), .ref (MA 3), .ref (MA 4), .ref (MA 5), .ref (MA 6), .ref (MA 7), .ref (MA 8), .ref (MA 9), .int (nI (F 24 1)), .ref (MA 10), .ref (MA 11), .ref (MA 12), .int (nI (F 24 2)), .ref (MA 13), .ref (MA 14), .ref (MA 15), .int (nI (F 24 3)), .ref (MA 16), .ref (MA 17), .ref (MA 18), .ref (MA 19), .ref (MA 20), .ref (MA 21)])) ∧ wMod E F MA mo (nI k) wz ∧ wKm mo MA w wz := ⟨_, rfl, M_o (F := F) (G := F) (cd2 := nI k) hm (fun a b h => rfl), wKm.rf.tr wKm.o⟩
  rw [← hw9] at hP
  refine lv_iconst (v := 0) hx hb dX7_fails_5 (by decide) ?_
  exact wl_iret C0 hr rfl hP hS dX7_fails_6 (Nat.le_of_ble_eq_true rfl) (Nat.le_of_ble_eq_true rfl) (⟨rfl, hm_2_0, hk_2_0⟩)

set_option maxHeartbeats 4000000 in
set_option maxRecDepth 100000 in
theorem k_X7_isRoute (l : Launch) (hst : l.stackTraces = false) (E : wEn) (w : wW) (sz : Nat) (F : FF) (MA : Nat → Nat) (mo : Nat) (cd : Int32) (N : Nat) (hI : wInv F N) (hm : wMod E F MA mo cd w) (r1 : Int32) : wM l yX7_isRoute wsX7_isRoute 1 0 0 E w sz [.ref mo, .int r1] (fun v w2 => v = some (.int (bI (vpb r1 (F 24 0)))) ∧ w2 = w) (fun _ _ => False) := by
  refine wm_start (own := RX7) (cc := cX7_isRoute) (maxL := 2) (ret := (some .boolean)) rfl (by decide) rfl (Nat.le_of_ble_eq_true rfl) ?_
  intro p e s m args below meth c ls C0 hr hin ht hP hS hl
  have hx := C0.1
  have hb := C0.2.1
  have hts := C0.2.2.2.2.1
  have hown := C0.2.2.2.1
  have hl : lv_has ls 2 [(0, .ref mo), (1, .int r1)] := hl
  have hf_83 : (Cond.fieldLink RX7 83 "CallGatewayModel" "routes" "I").before args s = true := hts _ (by decide +kernel)
  have hi_RX7 : ∀ w ∈ u_ws RX7 TX7 27, w ∈ wsX7_isRoute := fun _ h => List.mem_cons_of_mem _ (List.mem_append_right _ h)
  have hn := hI.n
  have hn9 := hI.n
  refine lv_iload_n hx hb dX7_isRoute_0 rfl (lv_at hl 1 rfl) ?_
  refine lv_iconst (v := 0) hx hb dX7_isRoute_1 (by decide) ?_
  refine lv_aload_n hx hb dX7_isRoute_2 rfl (lv_at hl 0 rfl) ?_
  refine wl_get (T := TX7) C0 hP (show w mo = some (.inr (7, [.int cd, .int (nI (F 24 0)), .ref (MA 0), .ref (MA 1), .ref (MA 2), .ref (MA 3), .ref (MA 4), .ref (MA 5), .ref (MA 6), .ref (MA 7), .ref (MA 8), .ref (MA 9), .int (nI (F 24 1)), .ref (MA 10), .ref (MA 11), .ref (MA 12), .int (nI (F 24 2)), .ref (MA 13), .ref (MA 14), .ref (MA 15), .int (nI (F 24 3)), .ref (MA 16), .ref (MA 17), .ref (MA 18), .ref (MA 19), .ref (MA 20), .ref (MA 21)])) from hm.x) hi_RX7 rfl 1 (by decide) hf_83 rfl dX7_isRoute_3 ?_
  refine lv_iconst (v := 1) hx hb dX7_isRoute_6 (by decide) ?_
  refine lv_isub hx hb dX7_isRoute_7 ?_
  refine wl_on C0 ht hP hS (wl_runS (As := [.int r1, .int 0, .int ((nI (F 24 0)) - 1)]) (rest := []) C0 hP hS (k_X7_in l hst E w s.heap.size r1 0 ((nI (F 24 0)) - 1)) (va_cwS 3 hts gX7_isRoute_X7_in rfl rfl rfl (by decide +kernel) ⟨(Nat.le_of_ble_eq_true rfl), (Nat.le_of_ble_eq_true rfl)⟩) rfl rfl hl.1 (Nat.le_of_ble_eq_true rfl) dX7_isRoute_8 ⟨(Nat.le_of_ble_eq_true rfl), (Nat.le_of_ble_eq_true rfl)⟩) (Nat.le_of_ble_eq_true rfl) (Nat.le_of_ble_eq_true rfl) (fun _ _ h => h.elim) (fun v_8 w_8 H locs hq hP hS => ?_)
  obtain ⟨rfl, hw9⟩ := hq
  rw [hw9] at hP
  refine W.eq (g2 := F0 m 11 ls [.int (bI (wi r1 0 ((nI (F 24 0)) - 1)))]) rfl ?_
  exact wl_iret C0 hr (w_nz _) hP hS dX7_isRoute_11 (Nat.le_of_ble_eq_true rfl) (Nat.le_of_ble_eq_true rfl) (⟨by rw [wi_vpb (by omega)], rfl⟩)

set_option maxHeartbeats 4000000 in
set_option maxRecDepth 100000 in
theorem k_X7_isCaller (l : Launch) (hst : l.stackTraces = false) (E : wEn) (w : wW) (sz : Nat) (F : FF) (MA : Nat → Nat) (mo : Nat) (cd : Int32) (N : Nat) (hI : wInv F N) (hm : wMod E F MA mo cd w) (r1 : Int32) : wM l yX7_isCaller wsX7_isCaller 1 0 0 E w sz [.ref mo, .int r1] (fun v w2 => v = some (.int (bI (vpb r1 (F 24 2)))) ∧ w2 = w) (fun _ _ => False) := by
  refine wm_start (own := RX7) (cc := cX7_isCaller) (maxL := 2) (ret := (some .boolean)) rfl (by decide) rfl (Nat.le_of_ble_eq_true rfl) ?_
  intro p e s m args below meth c ls C0 hr hin ht hP hS hl
  have hx := C0.1
  have hb := C0.2.1
  have hts := C0.2.2.2.2.1
  have hown := C0.2.2.2.1
  have hl : lv_has ls 2 [(0, .ref mo), (1, .int r1)] := hl
  have hf_90 : (Cond.fieldLink RX7 90 "CallGatewayModel" "callers" "I").before args s = true := hts _ (by decide +kernel)
  have hi_RX7 : ∀ w ∈ u_ws RX7 TX7 27, w ∈ wsX7_isCaller := fun _ h => List.mem_cons_of_mem _ (List.mem_append_right _ h)
  have hn := hI.n
  have hn9 := hI.n
  refine lv_iload_n hx hb dX7_isCaller_0 rfl (lv_at hl 1 rfl) ?_
  refine lv_iconst (v := 0) hx hb dX7_isCaller_1 (by decide) ?_
  refine lv_aload_n hx hb dX7_isCaller_2 rfl (lv_at hl 0 rfl) ?_
  refine wl_get (T := TX7) C0 hP (show w mo = some (.inr (7, [.int cd, .int (nI (F 24 0)), .ref (MA 0), .ref (MA 1), .ref (MA 2), .ref (MA 3), .ref (MA 4), .ref (MA 5), .ref (MA 6), .ref (MA 7), .ref (MA 8), .ref (MA 9), .int (nI (F 24 1)), .ref (MA 10), .ref (MA 11), .ref (MA 12), .int (nI (F 24 2)), .ref (MA 13), .ref (MA 14), .ref (MA 15), .int (nI (F 24 3)), .ref (MA 16), .ref (MA 17), .ref (MA 18), .ref (MA 19), .ref (MA 20), .ref (MA 21)])) from hm.x) hi_RX7 rfl 16 (by decide) hf_90 rfl dX7_isCaller_3 ?_
  refine lv_iconst (v := 1) hx hb dX7_isCaller_6 (by decide) ?_
  refine lv_isub hx hb dX7_isCaller_7 ?_
  refine wl_on C0 ht hP hS (wl_runS (As := [.int r1, .int 0, .int ((nI (F 24 2)) - 1)]) (rest := []) C0 hP hS (k_X7_in l hst E w s.heap.size r1 0 ((nI (F 24 2)) - 1)) (va_cwS 3 hts gX7_isCaller_X7_in rfl rfl rfl (by decide +kernel) ⟨(Nat.le_of_ble_eq_true rfl), (Nat.le_of_ble_eq_true rfl)⟩) rfl rfl hl.1 (Nat.le_of_ble_eq_true rfl) dX7_isCaller_8 ⟨(Nat.le_of_ble_eq_true rfl), (Nat.le_of_ble_eq_true rfl)⟩) (Nat.le_of_ble_eq_true rfl) (Nat.le_of_ble_eq_true rfl) (fun _ _ h => h.elim) (fun v_8 w_8 H locs hq hP hS => ?_)
  obtain ⟨rfl, hw9⟩ := hq
  rw [hw9] at hP
  refine W.eq (g2 := F0 m 11 ls [.int (bI (wi r1 0 ((nI (F 24 2)) - 1)))]) rfl ?_
  exact wl_iret C0 hr (w_nz _) hP hS dX7_isCaller_11 (Nat.le_of_ble_eq_true rfl) (Nat.le_of_ble_eq_true rfl) (⟨by rw [wi_vpb (by omega)], rfl⟩)

set_option maxHeartbeats 4000000 in
set_option maxRecDepth 100000 in
theorem k_X7_isPath (l : Launch) (hst : l.stackTraces = false) (E : wEn) (w : wW) (sz : Nat) (n : Int32) : wM l yX7_isPath wsX7_isPath 1 0 0 E w sz [.int n] (fun v w2 => v = some (.int (bI (pathB n))) ∧ w2 = w) (fun _ _ => False) := by
  refine wm_start (own := RX7) (cc := cX7_isPath) (maxL := 2) (ret := (some .boolean)) rfl (by decide) rfl (Nat.le_of_ble_eq_true rfl) ?_
  intro p e s m args below meth c ls C0 hr hin ht hP hS hl
  have hx := C0.1
  have hb := C0.2.1
  have hts := C0.2.2.2.2.1
  have hown := C0.2.2.2.1
  have hl : lv_has ls 2 [(0, .int n)] := hl
  refine lv_iload_n hx hb dX7_isPath_0 rfl (lv_at hl 0 rfl) ?_
  refine lv_iconst (v := 0) hx hb dX7_isPath_1 (by decide) ?_
  refine lv_sipush (v := 9999) hx hb dX7_isPath_2 (by decide) ?_
  refine wl_on C0 ht hP hS (wl_runS (As := [.int n, .int 0, .int 9999]) (rest := []) C0 hP hS (k_X7_in l hst E w s.heap.size n 0 9999) (va_cwS 3 hts gX7_isPath_X7_in rfl rfl rfl (by decide +kernel) ⟨(Nat.le_of_ble_eq_true rfl), (Nat.le_of_ble_eq_true rfl)⟩) rfl rfl hl.1 (Nat.le_of_ble_eq_true rfl) dX7_isPath_5 ⟨(Nat.le_of_ble_eq_true rfl), (Nat.le_of_ble_eq_true rfl)⟩) (Nat.le_of_ble_eq_true rfl) (Nat.le_of_ble_eq_true rfl) (fun _ _ h => h.elim) (fun v_5 w_5 H locs hq hP hS => ?_)
  obtain ⟨rfl, hw9⟩ := hq
  rw [hw9] at hP
  refine W.eq (g2 := F0 m 8 ls [.int (bI (wi n 0 9999))]) rfl ?_
  refine lv_if_ne (tgt := 13) hx hb dX7_isPath_8 (by decide) (fun c_8 => ?_) (fun c_8 => ?_)
  · obtain ⟨j, -, hj, hn, htn⟩ := wi_nat (lo := 0) (hi := 9999) (bI_n.mp c_8) (by omega) (by omega)
    have hpb : pathB n = okD 4 j := by
      unfold pathB
      rw [bI_n.mp c_8, htn]
      rfl
    rw [hn] at hl
    refine lv_iload_n hx hb dX7_isPath_13 rfl (lv_at hl 0 rfl) ?_
    refine lv_istore_n (lv' := [(1, .int (nI j)), (0, .int (nI j))]) hx hb dX7_isPath_14 rfl hl (by decide) rfl (fun ls hl => ?_)
    have LP : ∀ (nF : Nat) (k r : Nat), r < nF → (k ≤ 4) → (r ≤ 9999) → (okD k r = okD 4 j) → (r < 10 ^ k) → ∀ (ls : Array Slot), lv_has ls 2 [(0, .int (nI j)), (1, .int (nI r))] → W p l e (wRm 1 0 0) s m args below meth c H locs 0 0 (vx_MQ below (wQ E (wA w sz) (fun v w2 => v = some (.int (bI (pathB n))) ∧ w2 = w)) (wX E (wA w sz) (fun _ _ => False)) args s 0 0 (wA w sz)) (F0 m 15 ls []) := by
      intro nF
      induction nF with
      | zero => intro k r hn; exact absurd hn (Nat.not_lt_zero _)
      | succ nF ih =>
        intro k r hn i1 i2 i3 i4 ls hl
        refine lv_iload_n hx hb dX7_isPath_15 rfl (lv_at hl 1 rfl) ?_
        refine lv_if_le (tgt := 36) hx hb dX7_isPath_16 (by decide) (fun c_16 => ?_) (fun c_16 => ?_)
        · have q16 := (nI_leI (a := r) (b := 0) (by omega) (by omega)).mp c_16
          refine lv_iconst (v := 1) hx hb dX7_isPath_36 (by decide) ?_
          exact wl_iret C0 hr (by decide) hP hS dX7_isPath_37 (Nat.le_of_ble_eq_true rfl) (Nat.le_of_ble_eq_true rfl) (⟨by rw [hpb, ← i3, show r = 0 by omega, okD_0]; rfl, rfl⟩)
        · have q16 : 0 < r := Nat.not_le.mp (fun q => c_16 ((nI_leI (a := r) (b := 0) (by omega) (by omega)).mpr q))
          refine lv_iload_n hx hb dX7_isPath_19 rfl (lv_at hl 1 rfl) ?_
          refine lv_bipush (v := 10) hx hb dX7_isPath_20 (by decide) ?_
          refine lv_irem hx hb dX7_isPath_22 (by decide) ?_
          rw [show ((nI r) - (nI r) / 10 * 10) = (nI (r % 10)) from pk_rem (d := 10) (by omega) (by omega) (by omega)]
          refine lv_if_ne (tgt := 28) hx hb dX7_isPath_23 (by decide) (fun c_23 => ?_) (fun c_23 => ?_)
          · refine lv_iload_n hx hb dX7_isPath_28 rfl (lv_at hl 1 rfl) ?_
            refine lv_bipush (v := 10) hx hb dX7_isPath_29 (by decide) ?_
            refine lv_idiv hx hb dX7_isPath_31 (by decide) ?_
            rw [show ((nI r) / 10) = (nI (r / 10)) from pk_div (d := 10) (by omega) (by omega) (by omega)]
            refine lv_istore_n (lv' := [(1, .int (nI (r / 10))), (0, .int (nI j))]) hx hb dX7_isPath_32 rfl hl (by decide) rfl (fun ls hl => ?_)
            refine lv_goto (tgt := 15) hx hb dX7_isPath_33 (by decide) ?_
            exact ih (k - 1) (r / 10) (by omega) (by omega) (by omega) (by rw [← i3, okD_s (k := k) (pw10 q16 i4).1 (by omega) (fun q => c_23 ((nI_e0 (by omega)).mpr q))]) ((pw10 q16 i4).2) ls (lv_sub hl [1, 0] rfl)
          · refine lv_iconst (v := 0) hx hb dX7_isPath_26 (by decide) ?_
            exact wl_iret C0 hr (by decide) hP hS dX7_isPath_27 (Nat.le_of_ble_eq_true rfl) (Nat.le_of_ble_eq_true rfl) (⟨by rw [hpb, ← i3, okD_f (pw10 q16 i4).1 (by omega) ((nI_e0 (by omega)).mp c_23)]; rfl, rfl⟩)
    exact LP _ 4 j (Nat.lt_succ_self _) (by omega) (hj) (rfl) (by omega) ls (lv_sub hl [1, 0] rfl)
  · refine lv_iconst (v := 0) hx hb dX7_isPath_11 (by decide) ?_
    exact wl_iret C0 hr (by decide) hP hS dX7_isPath_12 (Nat.le_of_ble_eq_true rfl) (Nat.le_of_ble_eq_true rfl) (⟨by unfold pathB; rw [bI_0.mp c_8]; rfl, rfl⟩)

set_option maxHeartbeats 4000000 in
set_option maxRecDepth 100000 in
theorem k_X7_thrown (l : Launch) (hst : l.stackTraces = false) (E : wEn) (w : wW) (sz : Nat) (F : FF) (MA : Nat → Nat) (mo : Nat) (cd : Int32) (hm : wMod E F MA mo cd w) : wM l yX7_thrown wsX7_thrown 0 0 0 E w sz [.ref mo] (fun v w2 => v = some (.int cd) ∧ w2 = w) (fun _ _ => False) := by
  refine wm_start (own := RX7) (cc := cX7_thrown) (maxL := 1) (ret := (some .int)) rfl (by decide) rfl (Nat.le_of_ble_eq_true rfl) ?_
  intro p e s m args below meth c ls C0 hr hin ht hP hS hl
  have hx := C0.1
  have hb := C0.2.1
  have hts := C0.2.2.2.2.1
  have hown := C0.2.2.2.1
  have hl : lv_has ls 1 [(0, .ref mo)] := hl
  have hf_79 : (Cond.fieldLink RX7 79 "CallGatewayModel" "code" "I").before args s = true := hts _ (by decide +kernel)
  have hi_RX7 : ∀ w ∈ u_ws RX7 TX7 27, w ∈ wsX7_thrown := fun _ h => List.mem_cons_of_mem _ (List.mem_append_right _ h)
  refine lv_aload_n hx hb dX7_thrown_0 rfl (lv_at hl 0 rfl) ?_
  refine wl_get (T := TX7) C0 hP (show w mo = some (.inr (7, [.int cd, .int (nI (F 24 0)), .ref (MA 0), .ref (MA 1), .ref (MA 2), .ref (MA 3), .ref (MA 4), .ref (MA 5), .ref (MA 6), .ref (MA 7), .ref (MA 8), .ref (MA 9), .int (nI (F 24 1)), .ref (MA 10), .ref (MA 11), .ref (MA 12), .int (nI (F 24 2)), .ref (MA 13), .ref (MA 14), .ref (MA 15), .int (nI (F 24 3)), .ref (MA 16), .ref (MA 17), .ref (MA 18), .ref (MA 19), .ref (MA 20), .ref (MA 21)])) from hm.x) hi_RX7 rfl 0 (by decide) hf_79 rfl dX7_thrown_1 ?_
  exact wl_iret C0 hr rfl hP hS dX7_thrown_4 (Nat.le_of_ble_eq_true rfl) (Nat.le_of_ble_eq_true rfl) (⟨rfl, rfl⟩)

set_option maxHeartbeats 4000000 in
set_option maxRecDepth 100000 in
theorem k_X7_breaks (l : Launch) (hst : l.stackTraces = false) (E : wEn) (w : wW) (sz : Nat) (F : FF) (MA : Nat → Nat) (mo : Nat) (cd : Int32) (N : Nat) (hI : wInv F N) (hm : wMod E F MA mo cd w) (i : Nat) (hi : i < F 24 0) (a0 : Nat) (ha : a0 ≤ 999) : wM l yX7_breaks wsX7_breaks 0 0 0 E w sz [.ref mo, .int (nI i), .int (nI a0)] (fun v w2 => v = some (.int (bI (brk F i a0))) ∧ w2 = w) (fun _ _ => False) := by
  refine wm_start (own := RX7) (cc := cX7_breaks) (maxL := 3) (ret := (some .boolean)) rfl (by decide) rfl (Nat.le_of_ble_eq_true rfl) ?_
  intro p e s m args below meth c ls C0 hr hin ht hP hS hl
  have hx := C0.1
  have hb := C0.2.1
  have hts := C0.2.2.2.2.1
  have hown := C0.2.2.2.1
  have hl : lv_has ls 3 [(0, .ref mo), (1, .int (nI i)), (2, .int (nI a0))] := hl
  have hf_16 : (Cond.fieldLink RX7 16 "CallGatewayModel" "leasts" "[I").before args s = true := hts _ (by decide +kernel)
  have hf_19 : (Cond.fieldLink RX7 19 "CallGatewayModel" "greatests" "[I").before args s = true := hts _ (by decide +kernel)
  have hi_RX7 : ∀ w ∈ u_ws RX7 TX7 27, w ∈ wsX7_breaks := fun _ h => List.mem_cons_of_mem _ (List.mem_append_left _ (List.mem_append_right _ h))
  have hn := hI.n
  have hn9 := hI.n
  have h8 := hI.ro hi
  refine lv_iload_n hx hb dX7_breaks_0 rfl (lv_at hl 2 rfl) ?_
  refine lv_aload_n hx hb dX7_breaks_1 rfl (lv_at hl 0 rfl) ?_
  refine wl_get (T := TX7) C0 hP (show w mo = some (.inr (7, [.int cd, .int (nI (F 24 0)), .ref (MA 0), .ref (MA 1), .ref (MA 2), .ref (MA 3), .ref (MA 4), .ref (MA 5), .ref (MA 6), .ref (MA 7), .ref (MA 8), .ref (MA 9), .int (nI (F 24 1)), .ref (MA 10), .ref (MA 11), .ref (MA 12), .int (nI (F 24 2)), .ref (MA 13), .ref (MA 14), .ref (MA 15), .int (nI (F 24 3)), .ref (MA 16), .ref (MA 17), .ref (MA 18), .ref (MA 19), .ref (MA 20), .ref (MA 21)])) from hm.x) hi_RX7 rfl 4 (by decide) hf_16 rfl dX7_breaks_2 ?_
  refine lv_iload_n hx hb dX7_breaks_5 rfl (lv_at hl 1 rfl) ?_
  refine wl_iald C0 hP (show w (MA 2) = some (.inl (E.2.1 0, 8, .inl (fun i => nI (F 2 i)))) from hm.i 2 (by decide) rfl rfl rfl) (vp_in_nI (by omega) (by omega)) dX7_breaks_6 ?_
  refine W.eq (g2 := F0 m 7 ls [.int (nI (F 2 i)), .int (nI a0)]) (by rw [show (nI i).toNatClampNeg = i from nI_clamp (by omega)]) ?_
  refine lv_icmp_lt (tgt := 20) hx hb dX7_breaks_7 (by decide) (fun c_7 => ?_) (fun c_7 => ?_)
  · have q5 : a0 < F 2 i := (nI_ltI (by omega) (by omega)).mp c_7
    refine lv_iconst (v := 1) hx hb dX7_breaks_20 (by decide) ?_
    refine lv_goto (tgt := 25) hx hb dX7_breaks_21 (by decide) ?_
    exact wl_iret C0 hr (by decide) hP hS dX7_breaks_25 (Nat.le_of_ble_eq_true rfl) (Nat.le_of_ble_eq_true rfl) (⟨by simp [brk, q5, bI], rfl⟩)
  · have q5 : ¬ a0 < F 2 i := fun q => c_7 ((nI_ltI (by omega) (by omega)).mpr q)
    refine lv_iload_n hx hb dX7_breaks_10 rfl (lv_at hl 2 rfl) ?_
    refine lv_aload_n hx hb dX7_breaks_11 rfl (lv_at hl 0 rfl) ?_
    refine wl_get (T := TX7) C0 hP (show w mo = some (.inr (7, [.int cd, .int (nI (F 24 0)), .ref (MA 0), .ref (MA 1), .ref (MA 2), .ref (MA 3), .ref (MA 4), .ref (MA 5), .ref (MA 6), .ref (MA 7), .ref (MA 8), .ref (MA 9), .int (nI (F 24 1)), .ref (MA 10), .ref (MA 11), .ref (MA 12), .int (nI (F 24 2)), .ref (MA 13), .ref (MA 14), .ref (MA 15), .int (nI (F 24 3)), .ref (MA 16), .ref (MA 17), .ref (MA 18), .ref (MA 19), .ref (MA 20), .ref (MA 21)])) from hm.x) hi_RX7 rfl 5 (by decide) hf_19 rfl dX7_breaks_12 ?_
    refine lv_iload_n hx hb dX7_breaks_15 rfl (lv_at hl 1 rfl) ?_
    refine wl_iald C0 hP (show w (MA 3) = some (.inl (E.2.1 0, 8, .inl (fun i => nI (F 3 i)))) from hm.i 3 (by decide) rfl rfl rfl) (vp_in_nI (by omega) (by omega)) dX7_breaks_16 ?_
    refine W.eq (g2 := F0 m 17 ls [.int (nI (F 3 i)), .int (nI a0)]) (by rw [show (nI i).toNatClampNeg = i from nI_clamp (by omega)]) ?_
    refine lv_icmp_le (tgt := 24) hx hb dX7_breaks_17 (by decide) (fun c_17 => ?_) (fun c_17 => ?_)
    · have q13 : a0 ≤ F 3 i := (nI_leI (by omega) (by omega)).mp c_17
      refine lv_iconst (v := 0) hx hb dX7_breaks_24 (by decide) ?_
      exact wl_iret C0 hr (by decide) hP hS dX7_breaks_25 (Nat.le_of_ble_eq_true rfl) (Nat.le_of_ble_eq_true rfl) (⟨by simp [brk, q5, q13, bI], rfl⟩)
    · have q13 : ¬ a0 ≤ F 3 i := fun q => c_17 ((nI_leI (by omega) (by omega)).mpr q)
      refine lv_iconst (v := 1) hx hb dX7_breaks_20 (by decide) ?_
      refine lv_goto (tgt := 25) hx hb dX7_breaks_21 (by decide) ?_
      exact wl_iret C0 hr (by decide) hP hS dX7_breaks_25 (Nat.le_of_ble_eq_true rfl) (Nat.le_of_ble_eq_true rfl) (⟨by simp [brk, Nat.not_le.mp q13, bI], rfl⟩)

set_option maxHeartbeats 4000000 in
set_option maxRecDepth 100000 in
theorem k_X7_withPath (l : Launch) (hst : l.stackTraces = false) (E : wEn) (w : wW) (sz : Nat) (F : FF) (MA : Nat → Nat) (mo : Nat) (cd : Int32) (N : Nat) (hI : wInv F N) (hm : wMod E F MA mo cd w) (p0 : Nat) (hp : p0 ≤ 9999) : wM l yX7_withPath wsX7_withPath 0 0 0 E w sz [.ref mo, .int (nI p0)] (fun v w2 => v = some (.int (xI F (wpt F p0))) ∧ w2 = w) (fun _ _ => False) := by
  refine wm_start (own := RX7) (cc := cX7_withPath) (maxL := 3) (ret := (some .int)) rfl (by decide) rfl (Nat.le_of_ble_eq_true rfl) ?_
  intro p e s m args below meth c ls C0 hr hin ht hP hS hl
  have hx := C0.1
  have hb := C0.2.1
  have hts := C0.2.2.2.2.1
  have hown := C0.2.2.2.1
  have hl : lv_has ls 3 [(0, .ref mo), (1, .int (nI p0))] := hl
  have hf_83 : (Cond.fieldLink RX7 83 "CallGatewayModel" "routes" "I").before args s = true := hts _ (by decide +kernel)
  have hf_7 : (Cond.fieldLink RX7 7 "CallGatewayModel" "paths" "[I").before args s = true := hts _ (by decide +kernel)
  have hi_RX7 : ∀ w ∈ u_ws RX7 TX7 27, w ∈ wsX7_withPath := fun _ h => List.mem_cons_of_mem _ (List.mem_append_left _ (List.mem_append_right _ h))
  have hn := hI.n
  have hn9 := hI.n
  refine lv_iconst (v := 0) hx hb dX7_withPath_0 (by decide) ?_
  refine lv_istore_n (lv' := [(2, .int 0), (0, .ref mo), (1, .int (nI p0))]) hx hb dX7_withPath_1 rfl hl (by decide) rfl (fun ls hl => ?_)
  have LP : ∀ (nF : Nat) (j : Nat), F 24 0 - j < nF → (j ≤ F 24 0) → (∀ t, t < j → F 0 t ≠ p0) → ∀ (ls : Array Slot), lv_has ls 3 [(0, .ref mo), (1, .int (nI p0)), (2, .int (nI j))] → W p l e (wRm 0 0 0) s m args below meth c s.heap [] 0 0 (vx_MQ below (wQ E (wA w sz) (fun v w2 => v = some (.int (xI F (wpt F p0))) ∧ w2 = w)) (wX E (wA w sz) (fun _ _ => False)) args s 0 0 (wA w sz)) (F0 m 2 ls []) := by
    intro nF
    induction nF with
    | zero => intro j hn; exact absurd hn (Nat.not_lt_zero _)
    | succ nF ih =>
      intro j hn i1 i2 ls hl
      refine lv_iload_n hx hb dX7_withPath_2 rfl (lv_at hl 2 rfl) ?_
      refine lv_aload_n hx hb dX7_withPath_3 rfl (lv_at hl 0 rfl) ?_
      refine wl_get (T := TX7) C0 hP (show w mo = some (.inr (7, [.int cd, .int (nI (F 24 0)), .ref (MA 0), .ref (MA 1), .ref (MA 2), .ref (MA 3), .ref (MA 4), .ref (MA 5), .ref (MA 6), .ref (MA 7), .ref (MA 8), .ref (MA 9), .int (nI (F 24 1)), .ref (MA 10), .ref (MA 11), .ref (MA 12), .int (nI (F 24 2)), .ref (MA 13), .ref (MA 14), .ref (MA 15), .int (nI (F 24 3)), .ref (MA 16), .ref (MA 17), .ref (MA 18), .ref (MA 19), .ref (MA 20), .ref (MA 21)])) from hm.x) hi_RX7 rfl 1 (by decide) hf_83 rfl dX7_withPath_4 ?_
      refine lv_icmp_ge (tgt := 28) hx hb dX7_withPath_7 (by decide) (fun c_7 => ?_) (fun c_7 => ?_)
      · have q7 : F 24 0 ≤ j := (nI_leI (by omega) (by omega)).mp c_7
        refine lv_iconst (v := -1) hx hb dX7_withPath_28 (by decide) ?_
        exact wl_iret C0 hr rfl hP hS dX7_withPath_29 (Nat.le_of_ble_eq_true rfl) (Nat.le_of_ble_eq_true rfl) (⟨by rw [wpt_all (fun t ht => i2 t (by omega)), xI_no (Nat.lt_irrefl _)], rfl⟩)
      · have q7 : j < F 24 0 := Nat.not_le.mp (fun q => c_7 ((nI_leI (by omega) (by omega)).mpr q))
        have h8 := hI.ro q7
        refine lv_aload_n hx hb dX7_withPath_10 rfl (lv_at hl 0 rfl) ?_
        refine wl_get (T := TX7) C0 hP (show w mo = some (.inr (7, [.int cd, .int (nI (F 24 0)), .ref (MA 0), .ref (MA 1), .ref (MA 2), .ref (MA 3), .ref (MA 4), .ref (MA 5), .ref (MA 6), .ref (MA 7), .ref (MA 8), .ref (MA 9), .int (nI (F 24 1)), .ref (MA 10), .ref (MA 11), .ref (MA 12), .int (nI (F 24 2)), .ref (MA 13), .ref (MA 14), .ref (MA 15), .int (nI (F 24 3)), .ref (MA 16), .ref (MA 17), .ref (MA 18), .ref (MA 19), .ref (MA 20), .ref (MA 21)])) from hm.x) hi_RX7 rfl 2 (by decide) hf_7 rfl dX7_withPath_11 ?_
        refine lv_iload_n hx hb dX7_withPath_14 rfl (lv_at hl 2 rfl) ?_
        refine wl_iald C0 hP (show w (MA 0) = some (.inl (E.2.1 0, 8, .inl (fun i => nI (F 0 i)))) from hm.i 0 (by decide) rfl rfl rfl) (vp_in_nI (by omega) (by omega)) dX7_withPath_15 ?_
        refine W.eq (g2 := F0 m 16 ls [.int (nI (F 0 j))]) (by rw [show (nI j).toNatClampNeg = j from nI_clamp (by omega)]) ?_
        refine lv_iload_n hx hb dX7_withPath_16 rfl (lv_at hl 1 rfl) ?_
        refine lv_icmp_ne (tgt := 22) hx hb dX7_withPath_17 (by decide) (fun c_17 => ?_) (fun c_17 => ?_)
        · refine lv_iinc (v := nI (j + 1)) (lv' := [(2, .int (nI (j + 1))), (0, .ref mo), (1, .int (nI p0))]) hx hb dX7_withPath_22 hl (k := 2) rfl (nI_1 _) (by decide) rfl (fun ls hl => ?_)
          refine lv_goto (tgt := 2) hx hb dX7_withPath_25 (by decide) ?_
          exact ih (j + 1) (by omega) (by omega) (fun t ht h => by
                rcases Nat.lt_or_ge t j with q | q
                · exact i2 t q h
                · have e : t = j := by omega
                  subst e
                  exact c_17 ((nI_eq (by omega) (by omega)).mpr h)) ls (lv_sub hl [1, 2, 0] rfl)
        · refine lv_iload_n hx hb dX7_withPath_20 rfl (lv_at hl 2 rfl) ?_
          exact wl_iret C0 hr rfl hP hS dX7_withPath_21 (Nat.le_of_ble_eq_true rfl) (Nat.le_of_ble_eq_true rfl) (⟨by rw [wpt_eq q7 ((nI_eq (by omega) (by omega)).mp c_17) i2, xI_in q7], rfl⟩)
  exact LP _ 0 (Nat.lt_succ_self _) (Nat.zero_le _) (fun t ht => absurd ht (Nat.not_lt_zero _)) ls (lv_sub hl [1, 2, 0] rfl)

set_option maxHeartbeats 4000000 in
set_option maxRecDepth 100000 in
theorem k_X7_goes (l : Launch) (hst : l.stackTraces = false) (E : wEn) (w : wW) (sz : Nat) (F : FF) (MA : Nat → Nat) (mo : Nat) (cd : Int32) (N : Nat) (hI : wInv F N) (hm : wMod E F MA mo cd w) (p0 : Nat) (hp : p0 ≤ 9999) : wM l yX7_goes wsX7_goes 1 0 0 E w sz [.ref mo, .int (nI p0)] (fun v w2 => v = some (.int (xI F (gN F 4 p0))) ∧ w2 = w) (fun _ _ => False) := by
  refine wm_start (own := RX7) (cc := cX7_goes) (maxL := 3) (ret := (some .int)) rfl (by decide) rfl (Nat.le_of_ble_eq_true rfl) ?_
  intro p e s m args below meth c ls C0 hr hin ht hP hS hl
  have hx := C0.1
  have hb := C0.2.1
  have hts := C0.2.2.2.2.1
  have hown := C0.2.2.2.1
  have hl : lv_has ls 3 [(0, .ref mo), (1, .int (nI p0))] := hl
  have hn := hI.n
  have hn9 := hI.n
  refine lv_iload_n hx hb dX7_goes_0 rfl (lv_at hl 1 rfl) ?_
  refine lv_istore_n (lv' := [(2, .int (nI p0)), (0, .ref mo), (1, .int (nI p0))]) hx hb dX7_goes_1 rfl hl (by decide) rfl (fun ls hl => ?_)
  have LP : ∀ (nF : Nat) (k r : Nat) (H : Heap) (locs : List Loc), wP E.1 (wA w sz) w H → va_S (wA w sz) s.heap H locs → r < nF → (k ≤ 4) → (r ≤ 9999) → (gN F k r = gN F 4 p0) → (r < 10 ^ k) → ∀ (ls : Array Slot), lv_has ls 3 [(0, .ref mo), (1, .int (nI p0)), (2, .int (nI r))] → W p l e (wRm 1 0 0) s m args below meth c H locs 0 0 (vx_MQ below (wQ E (wA w sz) (fun v w2 => v = some (.int (xI F (gN F 4 p0))) ∧ w2 = w)) (wX E (wA w sz) (fun _ _ => False)) args s 0 0 (wA w sz)) (F0 m 2 ls []) := by
    intro nF
    induction nF with
    | zero => intro k r H locs hP hS hn; exact absurd hn (Nat.not_lt_zero _)
    | succ nF ih =>
      intro k r H locs hP hS hn i1 i2 i3 i4 ls hl
      refine lv_iload_n hx hb dX7_goes_2 rfl (lv_at hl 2 rfl) ?_
      refine lv_if_le (tgt := 29) hx hb dX7_goes_3 (by decide) (fun c_3 => ?_) (fun c_3 => ?_)
      · have q3 := (nI_leI (a := r) (b := 0) (by omega) (by omega)).mp c_3
        refine lv_aload_n hx hb dX7_goes_29 rfl (lv_at hl 0 rfl) ?_
        refine lv_iconst (v := 0) hx hb dX7_goes_30 (by decide) ?_
        refine wl_on C0 ht hP hS (wl_runV (As := [.int 0]) (rest := []) C0 hP hS (k_X7_withPath l hst E w H.size F MA mo cd N hI hm 0 (by omega)) (cwV 1 hts gX7_goes_X7_withPath rfl rfl rfl (by decide +kernel) ⟨(Nat.le_of_ble_eq_true rfl), (Nat.le_of_ble_eq_true rfl)⟩) (show w mo = some (.inr (7, [.int cd, .int (nI (F 24 0)), .ref (MA 0), .ref (MA 1), .ref (MA 2), .ref (MA 3), .ref (MA 4), .ref (MA 5), .ref (MA 6), .ref (MA 7), .ref (MA 8), .ref (MA 9), .int (nI (F 24 1)), .ref (MA 10), .ref (MA 11), .ref (MA 12), .int (nI (F 24 2)), .ref (MA 13), .ref (MA 14), .ref (MA 15), .int (nI (F 24 3)), .ref (MA 16), .ref (MA 17), .ref (MA 18), .ref (MA 19), .ref (MA 20), .ref (MA 21)])) from hm.x) rfl rfl rfl hl.1 (Nat.le_of_ble_eq_true rfl) dX7_goes_31 ⟨(Nat.le_of_ble_eq_true rfl), (Nat.le_of_ble_eq_true rfl)⟩) (Nat.le_of_ble_eq_true rfl) (Nat.le_of_ble_eq_true rfl) (fun _ _ h => h.elim) (fun v_31 w_31 H locs hq hP hS => ?_)
        obtain ⟨rfl, hw9⟩ := hq
        rw [hw9] at hP
        refine W.eq (g2 := F0 m 34 ls [.int (xI F (wpt F 0))]) rfl ?_
        exact wl_iret C0 hr rfl hP hS dX7_goes_34 (Nat.le_of_ble_eq_true rfl) (Nat.le_of_ble_eq_true rfl) (⟨by rw [← i3, show r = 0 by omega, gN_0], rfl⟩)
      · have q3 : 0 < r := Nat.not_le.mp (fun q => c_3 ((nI_leI (a := r) (b := 0) (by omega) (by omega)).mpr q))
        refine lv_aload_n hx hb dX7_goes_6 rfl (lv_at hl 0 rfl) ?_
        refine lv_iload_n hx hb dX7_goes_7 rfl (lv_at hl 2 rfl) ?_
        refine wl_on C0 ht hP hS (wl_runV (As := [.int (nI r)]) (rest := []) C0 hP hS (k_X7_withPath l hst E w H.size F MA mo cd N hI hm r i2) (cwV 1 hts gX7_goes_X7_withPath rfl rfl rfl (by decide +kernel) ⟨(Nat.le_of_ble_eq_true rfl), (Nat.le_of_ble_eq_true rfl)⟩) (show w mo = some (.inr (7, [.int cd, .int (nI (F 24 0)), .ref (MA 0), .ref (MA 1), .ref (MA 2), .ref (MA 3), .ref (MA 4), .ref (MA 5), .ref (MA 6), .ref (MA 7), .ref (MA 8), .ref (MA 9), .int (nI (F 24 1)), .ref (MA 10), .ref (MA 11), .ref (MA 12), .int (nI (F 24 2)), .ref (MA 13), .ref (MA 14), .ref (MA 15), .int (nI (F 24 3)), .ref (MA 16), .ref (MA 17), .ref (MA 18), .ref (MA 19), .ref (MA 20), .ref (MA 21)])) from hm.x) rfl rfl rfl hl.1 (Nat.le_of_ble_eq_true rfl) dX7_goes_8 ⟨(Nat.le_of_ble_eq_true rfl), (Nat.le_of_ble_eq_true rfl)⟩) (Nat.le_of_ble_eq_true rfl) (Nat.le_of_ble_eq_true rfl) (fun _ _ h => h.elim) (fun v_8 w_8 H locs hq hP hS => ?_)
        obtain ⟨rfl, hw9⟩ := hq
        rw [hw9] at hP
        refine W.eq (g2 := F0 m 11 ls [.int (xI F (wpt F r))]) rfl ?_
        by_cases h_11 : wpt F r < F 24 0
        · refine W.eq (g2 := F0 m 11 ls [.int (nI (wpt F r))]) (by rw [xI_in h_11]) ?_
          refine lv_iconst (v := -1) hx hb dX7_goes_11 (by decide) ?_
          refine lv_icmp_eq (tgt := 21) hx hb dX7_goes_12 (by decide) (fun c_12 => ?_) (fun c_12 => ?_)
          · exact absurd c_12 (nI_m1 (by omega))
          · refine lv_aload_n hx hb dX7_goes_15 rfl (lv_at hl 0 rfl) ?_
            refine lv_iload_n hx hb dX7_goes_16 rfl (lv_at hl 2 rfl) ?_
            refine wl_on C0 ht hP hS (wl_runV (As := [.int (nI r)]) (rest := []) C0 hP hS (k_X7_withPath l hst E w H.size F MA mo cd N hI hm r i2) (cwV 1 hts gX7_goes_X7_withPath rfl rfl rfl (by decide +kernel) ⟨(Nat.le_of_ble_eq_true rfl), (Nat.le_of_ble_eq_true rfl)⟩) (show w mo = some (.inr (7, [.int cd, .int (nI (F 24 0)), .ref (MA 0), .ref (MA 1), .ref (MA 2), .ref (MA 3), .ref (MA 4), .ref (MA 5), .ref (MA 6), .ref (MA 7), .ref (MA 8), .ref (MA 9), .int (nI (F 24 1)), .ref (MA 10), .ref (MA 11), .ref (MA 12), .int (nI (F 24 2)), .ref (MA 13), .ref (MA 14), .ref (MA 15), .int (nI (F 24 3)), .ref (MA 16), .ref (MA 17), .ref (MA 18), .ref (MA 19), .ref (MA 20), .ref (MA 21)])) from hm.x) rfl rfl rfl hl.1 (Nat.le_of_ble_eq_true rfl) dX7_goes_17 ⟨(Nat.le_of_ble_eq_true rfl), (Nat.le_of_ble_eq_true rfl)⟩) (Nat.le_of_ble_eq_true rfl) (Nat.le_of_ble_eq_true rfl) (fun _ _ h => h.elim) (fun v_17 w_17 H locs hq hP hS => ?_)
            obtain ⟨rfl, hw9⟩ := hq
            rw [hw9] at hP
            refine W.eq (g2 := F0 m 20 ls [.int (xI F (wpt F r))]) rfl ?_
            exact wl_iret C0 hr rfl hP hS dX7_goes_20 (Nat.le_of_ble_eq_true rfl) (Nat.le_of_ble_eq_true rfl) (⟨by rw [← i3, gN_hit _ h_11], rfl⟩)
        · refine W.eq (g2 := F0 m 11 ls [.int (-1)]) (by rw [xI_no h_11]) ?_
          refine lv_iconst (v := -1) hx hb dX7_goes_11 (by decide) ?_
          refine lv_icmp_eq (tgt := 21) hx hb dX7_goes_12 (by decide) (fun c_12 => ?_) (fun c_12 => ?_)
          · refine lv_iload_n hx hb dX7_goes_21 rfl (lv_at hl 2 rfl) ?_
            refine lv_bipush (v := 10) hx hb dX7_goes_22 (by decide) ?_
            refine lv_idiv hx hb dX7_goes_24 (by decide) ?_
            rw [show ((nI r) / 10) = (nI (r / 10)) from pk_div (d := 10) (by omega) (by omega) (by omega)]
            refine lv_istore_n (lv' := [(2, .int (nI (r / 10))), (0, .ref mo), (1, .int (nI p0))]) hx hb dX7_goes_25 rfl hl (by decide) rfl (fun ls hl => ?_)
            refine lv_goto (tgt := 2) hx hb dX7_goes_26 (by decide) ?_
            exact ih (k - 1) (r / 10) _ _ hP hS (by omega) (by omega) (by omega) (by
                  obtain ⟨k, rfl⟩ : ∃ x, k = x + 1 := ⟨k - 1, by have := (pw10 q3 i4).1; omega⟩
                  rw [← i3, gN_step h_11]
                  rfl) ((pw10 q3 i4).2) ls (lv_sub hl [1, 2, 0] rfl)
          · exact absurd rfl c_12
  exact LP _ 4 p0 _ _ hP hS (Nat.lt_succ_self _) (by omega) (hp) (rfl) (by omega) ls (lv_sub hl [1, 2, 0] rfl)
