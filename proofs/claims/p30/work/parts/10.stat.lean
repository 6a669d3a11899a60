set_option maxHeartbeats 4000000 in
set_option maxRecDepth 100000 in
theorem k_X6_isWithin (l : Launch) (hst : l.stackTraces = false) (E : wEn) (w : wW) (sz : Nat) (n lo hi : Int32) : wM l yX6_isWithin wsX6_isWithin 0 0 0 E w sz [.int n, .int lo, .int hi] (fun v w2 => v = some (.int (bI (wi n lo hi))) ∧ w2 = w) (fun _ _ => False) := by
  refine wm_start (own := RX6) (cc := cX6_isWithin) (maxL := 3) (ret := (some .boolean)) rfl (by decide) rfl (Nat.le_of_ble_eq_true rfl) ?_
  intro p e s m args below meth c ls C0 hr hin ht hP hS hl
  have hx := C0.1
  have hb := C0.2.1
  have hts := C0.2.2.2.2.1
  have hown := C0.2.2.2.1
  have hl : lv_has ls 3 [(0, .int n), (1, .int lo), (2, .int hi)] := hl
  refine lv_iload_n hx hb dX6_isWithin_0 rfl (lv_at hl 0 rfl) ?_
  refine lv_iload_n hx hb dX6_isWithin_1 rfl (lv_at hl 1 rfl) ?_
  refine lv_icmp_lt (tgt := 14) hx hb dX6_isWithin_2 (by decide) (fun c_2 => ?_) (fun c_2 => ?_)
  · refine lv_iconst (v := 0) hx hb dX6_isWithin_14 (by decide) ?_
    exact wl_iret C0 hr (by decide) hP hS dX6_isWithin_15 (Nat.le_of_ble_eq_true rfl) (Nat.le_of_ble_eq_true rfl) (⟨by rw [wi_f1 c_2]; rfl, rfl⟩)
  · refine lv_iload_n hx hb dX6_isWithin_5 rfl (lv_at hl 0 rfl) ?_
    refine lv_iload_n hx hb dX6_isWithin_6 rfl (lv_at hl 2 rfl) ?_
    refine lv_icmp_gt (tgt := 14) hx hb dX6_isWithin_7 (by decide) (fun c_7 => ?_) (fun c_7 => ?_)
    · refine lv_iconst (v := 0) hx hb dX6_isWithin_14 (by decide) ?_
      exact wl_iret C0 hr (by decide) hP hS dX6_isWithin_15 (Nat.le_of_ble_eq_true rfl) (Nat.le_of_ble_eq_true rfl) (⟨by rw [wi_f2 c_7]; rfl, rfl⟩)
    · refine lv_iconst (v := 1) hx hb dX6_isWithin_10 (by decide) ?_
      refine lv_goto (tgt := 15) hx hb dX6_isWithin_11 (by decide) ?_
      exact wl_iret C0 hr (by decide) hP hS dX6_isWithin_15 (Nat.le_of_ble_eq_true rfl) (Nat.le_of_ble_eq_true rfl) (⟨by rw [wi_t c_2 c_7]; rfl, rfl⟩)

set_option maxHeartbeats 4000000 in
set_option maxRecDepth 100000 in
theorem k_X6_isAnswer (l : Launch) (hst : l.stackTraces = false) (E : wEn) (w : wW) (sz : Nat) (n : Int32) : wM l yX6_isAnswer wsX6_isAnswer 1 0 0 E w sz [.int n] (fun v w2 => v = some (.int (bI (wi n 0 999))) ∧ w2 = w) (fun _ _ => False) := by
  refine wm_start (own := RX6) (cc := cX6_isAnswer) (maxL := 1) (ret := (some .boolean)) rfl (by decide) rfl (Nat.le_of_ble_eq_true rfl) ?_
  intro p e s m args below meth c ls C0 hr hin ht hP hS hl
  have hx := C0.1
  have hb := C0.2.1
  have hts := C0.2.2.2.2.1
  have hown := C0.2.2.2.1
  have hl : lv_has ls 1 [(0, .int n)] := hl
  refine lv_iload_n hx hb dX6_isAnswer_0 rfl (lv_at hl 0 rfl) ?_
  refine lv_iconst (v := 0) hx hb dX6_isAnswer_1 (by decide) ?_
  refine lv_sipush (v := 999) hx hb dX6_isAnswer_2 (by decide) ?_
  refine wl_on C0 ht hP hS (wl_runS (As := [.int n, .int 0, .int 999]) (rest := []) C0 hP hS (k_X6_isWithin l hst E w s.heap.size n 0 999) (va_cwS 3 hts gX6_isAnswer_X6_isWithin rfl rfl rfl (by decide +kernel) ⟨(Nat.le_of_ble_eq_true rfl), (Nat.le_of_ble_eq_true rfl)⟩) rfl rfl hl.1 (Nat.le_of_ble_eq_true rfl) dX6_isAnswer_5 ⟨(Nat.le_of_ble_eq_true rfl), (Nat.le_of_ble_eq_true rfl)⟩) (Nat.le_of_ble_eq_true rfl) (Nat.le_of_ble_eq_true rfl) (fun _ _ h => h.elim) (fun v_5 w_5 H locs hq hP hS => ?_)
  obtain ⟨rfl, hw9⟩ := hq
  rw [hw9] at hP
  refine W.eq (g2 := F0 m 8 ls [.int (bI (wi n 0 999))]) rfl ?_
  exact wl_iret C0 hr (w_nz _) hP hS dX6_isAnswer_8 (Nat.le_of_ble_eq_true rfl) (Nat.le_of_ble_eq_true rfl) (⟨rfl, rfl⟩)

set_option maxHeartbeats 4000000 in
set_option maxRecDepth 100000 in
theorem k_X6_isShare (l : Launch) (hst : l.stackTraces = false) (E : wEn) (w : wW) (sz : Nat) (n : Int32) : wM l yX6_isShare wsX6_isShare 1 0 0 E w sz [.int n] (fun v w2 => v = some (.int (bI (wi n 1 100))) ∧ w2 = w) (fun _ _ => False) := by
  refine wm_start (own := RX6) (cc := cX6_isShare) (maxL := 1) (ret := (some .boolean)) rfl (by decide) rfl (Nat.le_of_ble_eq_true rfl) ?_
  intro p e s m args below meth c ls C0 hr hin ht hP hS hl
  have hx := C0.1
  have hb := C0.2.1
  have hts := C0.2.2.2.2.1
  have hown := C0.2.2.2.1
  have hl : lv_has ls 1 [(0, .int n)] := hl
  refine lv_iload_n hx hb dX6_isShare_0 rfl (lv_at hl 0 rfl) ?_
  refine lv_iconst (v := 1) hx hb dX6_isShare_1 (by decide) ?_
  refine lv_bipush (v := 100) hx hb dX6_isShare_2 (by decide) ?_
  refine wl_on C0 ht hP hS (wl_runS (As := [.int n, .int 1, .int 100]) (rest := []) C0 hP hS (k_X6_isWithin l hst E w s.heap.size n 1 100) (va_cwS 3 hts gX6_isShare_X6_isWithin rfl rfl rfl (by decide +kernel) ⟨(Nat.le_of_ble_eq_true rfl), (Nat.le_of_ble_eq_true rfl)⟩) rfl rfl hl.1 (Nat.le_of_ble_eq_true rfl) dX6_isShare_4 ⟨(Nat.le_of_ble_eq_true rfl), (Nat.le_of_ble_eq_true rfl)⟩) (Nat.le_of_ble_eq_true rfl) (Nat.le_of_ble_eq_true rfl) (fun _ _ h => h.elim) (fun v_4 w_4 H locs hq hP hS => ?_)
  obtain ⟨rfl, hw9⟩ := hq
  rw [hw9] at hP
  refine W.eq (g2 := F0 m 7 ls [.int (bI (wi n 1 100))]) rfl ?_
  exact wl_iret C0 hr (w_nz _) hP hS dX6_isShare_7 (Nat.le_of_ble_eq_true rfl) (Nat.le_of_ble_eq_true rfl) (⟨rfl, rfl⟩)

set_option maxHeartbeats 4000000 in
set_option maxRecDepth 100000 in
theorem k_X6_isContract (l : Launch) (hst : l.stackTraces = false) (E : wEn) (w : wW) (sz : Nat) (a b : Int32) : wM l yX6_isContract wsX6_isContract 2 0 0 E w sz [.int a, .int b] (fun v w2 => v = some (.int (bI (ctr a b))) ∧ w2 = w) (fun _ _ => False) := by
  refine wm_start (own := RX6) (cc := cX6_isContract) (maxL := 2) (ret := (some .boolean)) rfl (by decide) rfl (Nat.le_of_ble_eq_true rfl) ?_
  intro p e s m args below meth c ls C0 hr hin ht hP hS hl
  have hx := C0.1
  have hb := C0.2.1
  have hts := C0.2.2.2.2.1
  have hown := C0.2.2.2.1
  have hl : lv_has ls 2 [(0, .int a), (1, .int b)] := hl
  refine lv_iload_n hx hb dX6_isContract_0 rfl (lv_at hl 0 rfl) ?_
  refine wl_on C0 ht hP hS (wl_runS (As := [.int a]) (rest := []) C0 hP hS (k_X6_isAnswer l hst E w s.heap.size a) (va_cwS 1 hts gX6_isContract_X6_isAnswer rfl rfl rfl (by decide +kernel) ⟨(Nat.le_of_ble_eq_true rfl), (Nat.le_of_ble_eq_true rfl)⟩) rfl rfl hl.1 (Nat.le_of_ble_eq_true rfl) dX6_isContract_1 ⟨(Nat.le_of_ble_eq_true rfl), (Nat.le_of_ble_eq_true rfl)⟩) (Nat.le_of_ble_eq_true rfl) (Nat.le_of_ble_eq_true rfl) (fun _ _ h => h.elim) (fun v_1 w_1 H locs hq hP hS => ?_)
  obtain ⟨rfl, hw9⟩ := hq
  rw [hw9] at hP
  refine W.eq (g2 := F0 m 4 ls [.int (bI (wi a 0 999))]) rfl ?_
  refine lv_if_eq (tgt := 22) hx hb dX6_isContract_4 (by decide) (fun c_4 => ?_) (fun c_4 => ?_)
  · refine lv_iconst (v := 0) hx hb dX6_isContract_22 (by decide) ?_
    exact wl_iret C0 hr (by decide) hP hS dX6_isContract_23 (Nat.le_of_ble_eq_true rfl) (Nat.le_of_ble_eq_true rfl) (⟨by unfold ctr; rw [bI_0.mp c_4]; rfl, rfl⟩)
  · refine lv_iload_n hx hb dX6_isContract_7 rfl (lv_at hl 1 rfl) ?_
    refine lv_iload_n hx hb dX6_isContract_8 rfl (lv_at hl 0 rfl) ?_
    refine lv_sipush (v := 999) hx hb dX6_isContract_9 (by decide) ?_
    refine wl_on C0 ht hP hS (wl_runS (As := [.int b, .int a, .int 999]) (rest := []) C0 hP hS (k_X6_isWithin l hst E w H.size b a 999) (va_cwS 3 hts gX6_isContract_X6_isWithin rfl rfl rfl (by decide +kernel) ⟨(Nat.le_of_ble_eq_true rfl), (Nat.le_of_ble_eq_true rfl)⟩) rfl rfl hl.1 (Nat.le_of_ble_eq_true rfl) dX6_isContract_12 ⟨(Nat.le_of_ble_eq_true rfl), (Nat.le_of_ble_eq_true rfl)⟩) (Nat.le_of_ble_eq_true rfl) (Nat.le_of_ble_eq_true rfl) (fun _ _ h => h.elim) (fun v_12 w_12 H locs hq hP hS => ?_)
    obtain ⟨rfl, hw9⟩ := hq
    rw [hw9] at hP
    refine W.eq (g2 := F0 m 15 ls [.int (bI (wi b a 999))]) rfl ?_
    refine lv_if_eq (tgt := 22) hx hb dX6_isContract_15 (by decide) (fun c_15 => ?_) (fun c_15 => ?_)
    · refine lv_iconst (v := 0) hx hb dX6_isContract_22 (by decide) ?_
      exact wl_iret C0 hr (by decide) hP hS dX6_isContract_23 (Nat.le_of_ble_eq_true rfl) (Nat.le_of_ble_eq_true rfl) (⟨by unfold ctr; rw [bI_0.mp c_15, Bool.and_false]; rfl, rfl⟩)
    · refine lv_iconst (v := 1) hx hb dX6_isContract_18 (by decide) ?_
      refine lv_goto (tgt := 23) hx hb dX6_isContract_19 (by decide) ?_
      exact wl_iret C0 hr (by decide) hP hS dX6_isContract_23 (Nat.le_of_ble_eq_true rfl) (Nat.le_of_ble_eq_true rfl) (⟨by unfold ctr; rw [bI_n.mp c_4, bI_n.mp c_15]; rfl, rfl⟩)

set_option maxHeartbeats 4000000 in
set_option maxRecDepth 100000 in
theorem k_X6_isKind (l : Launch) (hst : l.stackTraces = false) (E : wEn) (w : wW) (sz : Nat) (k : Int32) : wM l yX6_isKind wsX6_isKind 0 0 0 E w sz [.int k] (fun v w2 => v = some (.int (bI (isK k))) ∧ w2 = w) (fun _ _ => False) := by
  refine wm_start (own := RX6) (cc := cX6_isKind) (maxL := 1) (ret := (some .boolean)) rfl (by decide) rfl (Nat.le_of_ble_eq_true rfl) ?_
  intro p e s m args below meth c ls C0 hr hin ht hP hS hl
  have hx := C0.1
  have hb := C0.2.1
  have hts := C0.2.2.2.2.1
  have hown := C0.2.2.2.1
  have hl : lv_has ls 1 [(0, .int k)] := hl
  refine lv_iload_n hx hb dX6_isKind_0 rfl (lv_at hl 0 rfl) ?_
  refine lv_bipush (v := 110) hx hb dX6_isKind_1 (by decide) ?_
  refine lv_icmp_eq (tgt := 30) hx hb dX6_isKind_3 (by decide) (fun c_3 => ?_) (fun c_3 => ?_)
  · refine lv_iconst (v := 1) hx hb dX6_isKind_30 (by decide) ?_
    refine lv_goto (tgt := 35) hx hb dX6_isKind_31 (by decide) ?_
    exact wl_iret C0 hr (by decide) hP hS dX6_isKind_35 (Nat.le_of_ble_eq_true rfl) (Nat.le_of_ble_eq_true rfl) (⟨by simp_all [isK, bI], rfl⟩)
  · refine lv_iload_n hx hb dX6_isKind_6 rfl (lv_at hl 0 rfl) ?_
    refine lv_bipush (v := 108) hx hb dX6_isKind_7 (by decide) ?_
    refine lv_icmp_eq (tgt := 30) hx hb dX6_isKind_9 (by decide) (fun c_9 => ?_) (fun c_9 => ?_)
    · refine lv_iconst (v := 1) hx hb dX6_isKind_30 (by decide) ?_
      refine lv_goto (tgt := 35) hx hb dX6_isKind_31 (by decide) ?_
      exact wl_iret C0 hr (by decide) hP hS dX6_isKind_35 (Nat.le_of_ble_eq_true rfl) (Nat.le_of_ble_eq_true rfl) (⟨by simp_all [isK, bI], rfl⟩)
    · refine lv_iload_n hx hb dX6_isKind_12 rfl (lv_at hl 0 rfl) ?_
      refine lv_bipush (v := 115) hx hb dX6_isKind_13 (by decide) ?_
      refine lv_icmp_eq (tgt := 30) hx hb dX6_isKind_15 (by decide) (fun c_15 => ?_) (fun c_15 => ?_)
      · refine lv_iconst (v := 1) hx hb dX6_isKind_30 (by decide) ?_
        refine lv_goto (tgt := 35) hx hb dX6_isKind_31 (by decide) ?_
        exact wl_iret C0 hr (by decide) hP hS dX6_isKind_35 (Nat.le_of_ble_eq_true rfl) (Nat.le_of_ble_eq_true rfl) (⟨by simp_all [isK, bI], rfl⟩)
      · refine lv_iload_n hx hb dX6_isKind_18 rfl (lv_at hl 0 rfl) ?_
        refine lv_bipush (v := 99) hx hb dX6_isKind_19 (by decide) ?_
        refine lv_icmp_eq (tgt := 30) hx hb dX6_isKind_21 (by decide) (fun c_21 => ?_) (fun c_21 => ?_)
        · refine lv_iconst (v := 1) hx hb dX6_isKind_30 (by decide) ?_
          refine lv_goto (tgt := 35) hx hb dX6_isKind_31 (by decide) ?_
          exact wl_iret C0 hr (by decide) hP hS dX6_isKind_35 (Nat.le_of_ble_eq_true rfl) (Nat.le_of_ble_eq_true rfl) (⟨by simp_all [isK, bI], rfl⟩)
        · refine lv_iload_n hx hb dX6_isKind_24 rfl (lv_at hl 0 rfl) ?_
          refine lv_bipush (v := 102) hx hb dX6_isKind_25 (by decide) ?_
          refine lv_icmp_ne (tgt := 34) hx hb dX6_isKind_27 (by decide) (fun c_27 => ?_) (fun c_27 => ?_)
          · refine lv_iconst (v := 0) hx hb dX6_isKind_34 (by decide) ?_
            exact wl_iret C0 hr (by decide) hP hS dX6_isKind_35 (Nat.le_of_ble_eq_true rfl) (Nat.le_of_ble_eq_true rfl) (⟨by simp_all [isK, bI], rfl⟩)
          · refine lv_iconst (v := 1) hx hb dX6_isKind_30 (by decide) ?_
            refine lv_goto (tgt := 35) hx hb dX6_isKind_31 (by decide) ?_
            exact wl_iret C0 hr (by decide) hP hS dX6_isKind_35 (Nat.le_of_ble_eq_true rfl) (Nat.le_of_ble_eq_true rfl) (⟨by simp_all [isK, bI], rfl⟩)
