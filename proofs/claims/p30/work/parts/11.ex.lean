set_option maxHeartbeats 4000000 in
set_option maxRecDepth 100000 in
theorem k_X6_isPath (l : Launch) (hst : l.stackTraces = false) (E : wEn) (w : wW) (sz : Nat) (n : Int32) : wM l yX6_isPath wsX6_isPath 1 0 0 E w sz [.int n] (fun v w2 => v = some (.int (bI (pathB n))) ∧ w2 = w) (fun _ _ => False) := by
  refine wm_start (own := RX6) (cc := cX6_isPath) (maxL := 3) (ret := (some .boolean)) rfl (by decide) rfl (Nat.le_of_ble_eq_true rfl) ?_
  intro p e s m args below meth c ls C0 hr hin ht hP hS hl
  have hx := C0.1
  have hb := C0.2.1
  have hts := C0.2.2.2.2.1
  have hown := C0.2.2.2.1
  have hl : lv_has ls 3 [(0, .int n)] := hl
  refine lv_iload_n hx hb dX6_isPath_0 rfl (lv_at hl 0 rfl) ?_
  refine lv_iconst (v := 0) hx hb dX6_isPath_1 (by decide) ?_
  refine lv_sipush (v := 9999) hx hb dX6_isPath_2 (by decide) ?_
  refine wl_on C0 ht hP hS (wl_runS (As := [.int n, .int 0, .int 9999]) (rest := []) C0 hP hS (k_X6_isWithin l hst E w s.heap.size n 0 9999) (va_cwS 3 hts gX6_isPath_X6_isWithin rfl rfl rfl (by decide +kernel) ⟨(Nat.le_of_ble_eq_true rfl), (Nat.le_of_ble_eq_true rfl)⟩) rfl rfl hl.1 (Nat.le_of_ble_eq_true rfl) dX6_isPath_5 ⟨(Nat.le_of_ble_eq_true rfl), (Nat.le_of_ble_eq_true rfl)⟩) (Nat.le_of_ble_eq_true rfl) (Nat.le_of_ble_eq_true rfl) (fun _ _ h => h.elim) (fun v_5 w_5 H locs hq hP hS => ?_)
  obtain ⟨rfl, hw9⟩ := hq
  rw [hw9] at hP
  refine W.eq (g2 := F0 m 8 ls [.int (bI (wi n 0 9999))]) rfl ?_
  refine lv_if_ne (tgt := 13) hx hb dX6_isPath_8 (by decide) (fun c_8 => ?_) (fun c_8 => ?_)
  · obtain ⟨j, -, hj, hn, htn⟩ := wi_nat (lo := 0) (hi := 9999) (bI_n.mp c_8) (by omega) (by omega)
    have hpb : pathB n = okD 4 j := by
      unfold pathB
      rw [bI_n.mp c_8, htn]
      rfl
    rw [hn] at hl
    refine lv_iload_n hx hb dX6_isPath_13 rfl (lv_at hl 0 rfl) ?_
    refine lv_istore_n (lv' := [(1, .int (nI j)), (0, .int (nI j))]) hx hb dX6_isPath_14 rfl hl (by decide) rfl (fun ls hl => ?_)
    refine lv_iconst (v := 0) hx hb dX6_isPath_15 (by decide) ?_
    refine lv_istore_n (lv' := [(2, .int 0), (1, .int (nI j)), (0, .int (nI j))]) hx hb dX6_isPath_16 rfl hl (by decide) rfl (fun ls hl => ?_)
    have LP : ∀ (nF : Nat) (d r : Nat), 4 - d < nF → (d ≤ 4) → (r ≤ 9999) → (okD (4 - d) r = okD 4 j) → ∀ (ls : Array Slot), lv_has ls 3 [(0, .int (nI j)), (1, .int (nI r)), (2, .int (nI d))] → W p l e (wRm 1 0 0) s m args below meth c H locs 0 0 (vx_MQ below (wQ E (wA w sz) (fun v w2 => v = some (.int (bI (pathB n))) ∧ w2 = w)) (wX E (wA w sz) (fun _ _ => False)) args s 0 0 (wA w sz)) (F0 m 17 ls []) := by
      intro nF
      induction nF with
      | zero => intro d r hn; exact absurd hn (Nat.not_lt_zero _)
      | succ nF ih =>
        intro d r hn i1 i2 i3 ls hl
        refine lv_iload_n hx hb dX6_isPath_17 rfl (lv_at hl 2 rfl) ?_
        refine lv_iconst (v := 4) hx hb dX6_isPath_18 (by decide) ?_
        refine lv_icmp_ge (tgt := 46) hx hb dX6_isPath_19 (by decide) (fun c_19 => ?_) (fun c_19 => ?_)
        · have q19 := (nI_leI (a := 4) (b := d) (by omega) (by omega)).mp c_19
          refine lv_iconst (v := 1) hx hb dX6_isPath_46 (by decide) ?_
          exact wl_iret C0 hr (by decide) hP hS dX6_isPath_47 (Nat.le_of_ble_eq_true rfl) (Nat.le_of_ble_eq_true rfl) (⟨by rw [hpb, ← i3, show 4 - d = 0 by omega]; rfl, rfl⟩)
        · have q19 : d < 4 := Nat.not_le.mp (fun q => c_19 ((nI_leI (a := 4) (b := d) (by omega) (by omega)).mpr q))
          refine lv_iload_n hx hb dX6_isPath_22 rfl (lv_at hl 1 rfl) ?_
          refine lv_if_le (tgt := 46) hx hb dX6_isPath_23 (by decide) (fun c_23 => ?_) (fun c_23 => ?_)
          · have q23 := (nI_leI (a := r) (b := 0) (by omega) (by omega)).mp c_23
            refine lv_iconst (v := 1) hx hb dX6_isPath_46 (by decide) ?_
            exact wl_iret C0 hr (by decide) hP hS dX6_isPath_47 (Nat.le_of_ble_eq_true rfl) (Nat.le_of_ble_eq_true rfl) (⟨by rw [hpb, ← i3, show r = 0 by omega, okD_0]; rfl, rfl⟩)
          · have q23 : 0 < r := Nat.not_le.mp (fun q => c_23 ((nI_leI (a := r) (b := 0) (by omega) (by omega)).mpr q))
            refine lv_iload_n hx hb dX6_isPath_26 rfl (lv_at hl 1 rfl) ?_
            refine lv_bipush (v := 10) hx hb dX6_isPath_27 (by decide) ?_
            refine lv_irem hx hb dX6_isPath_29 (by decide) ?_
            rw [show ((nI r) - (nI r) / 10 * 10) = (nI (r % 10)) from pk_rem (d := 10) (by omega) (by omega) (by omega)]
            refine lv_if_ne (tgt := 35) hx hb dX6_isPath_30 (by decide) (fun c_30 => ?_) (fun c_30 => ?_)
            · refine lv_iload_n hx hb dX6_isPath_35 rfl (lv_at hl 1 rfl) ?_
              refine lv_bipush (v := 10) hx hb dX6_isPath_36 (by decide) ?_
              refine lv_idiv hx hb dX6_isPath_38 (by decide) ?_
              rw [show ((nI r) / 10) = (nI (r / 10)) from pk_div (d := 10) (by omega) (by omega) (by omega)]
              refine lv_istore_n (lv' := [(1, .int (nI (r / 10))), (0, .int (nI j)), (2, .int (nI d))]) hx hb dX6_isPath_39 rfl hl (by decide) rfl (fun ls hl => ?_)
              refine lv_iinc (v := nI (d + 1)) (lv' := [(2, .int (nI (d + 1))), (1, .int (nI (r / 10))), (0, .int (nI j))]) hx hb dX6_isPath_40 hl (k := 2) rfl (nI_1 _) (by decide) rfl (fun ls hl => ?_)
              refine lv_goto (tgt := 17) hx hb dX6_isPath_43 (by decide) ?_
              exact ih (d + 1) (r / 10) (by omega) (by omega) (by omega) (by rw [← i3, okD_s (k := 4 - d) (by omega) (by omega) (fun q => c_30 ((nI_e0 (by omega)).mpr q)), Nat.sub_sub]) ls (lv_sub hl [2, 1, 0] rfl)
            · refine lv_iconst (v := 0) hx hb dX6_isPath_33 (by decide) ?_
              exact wl_iret C0 hr (by decide) hP hS dX6_isPath_34 (Nat.le_of_ble_eq_true rfl) (Nat.le_of_ble_eq_true rfl) (⟨by rw [hpb, ← i3, okD_f (by omega) (by omega) ((nI_e0 (by omega)).mp c_30)]; rfl, rfl⟩)
    exact LP _ 0 j (Nat.lt_succ_self _) (by omega) (hj) (rfl) ls (lv_sub hl [2, 1, 0] rfl)
  · refine lv_iconst (v := 0) hx hb dX6_isPath_11 (by decide) ?_
    exact wl_iret C0 hr (by decide) hP hS dX6_isPath_12 (Nat.le_of_ble_eq_true rfl) (Nat.le_of_ble_eq_true rfl) (⟨by unfold pathB; rw [bI_0.mp c_8]; rfl, rfl⟩)

set_option maxHeartbeats 4000000 in
set_option maxRecDepth 100000 in
theorem k_X6_requirePath (l : Launch) (hst : l.stackTraces = false) (E : wEn) (w : wW) (sz : Nat) (n : Int32) : wM l yX6_requirePath wsX6_requirePath 2 1 6 E w sz [.int n] (fun v w2 => v = none ∧ w2 = w ∧ pathB n = true) (fun X w2 => X = xIAE ∧ w2 = w ∧ pathB n = false) := by
  refine wm_start (own := RX6) (cc := cX6_requirePath) (maxL := 1) (ret := none) rfl (by decide) rfl (Nat.le_of_ble_eq_true rfl) ?_
  intro p e s m args below meth c ls C0 hr hin ht hP hS hl
  have hx := C0.1
  have hb := C0.2.1
  have hts := C0.2.2.2.2.1
  have hown := C0.2.2.2.1
  have hl : lv_has ls 1 [(0, .int n)] := hl
  refine lv_iload_n hx hb dX6_requirePath_0 rfl (lv_at hl 0 rfl) ?_
  refine wl_on C0 ht hP hS (wl_runS (As := [.int n]) (rest := []) C0 hP hS (k_X6_isPath l hst E w s.heap.size n) (va_cwS 1 hts gX6_requirePath_X6_isPath rfl rfl rfl (by decide +kernel) ⟨(Nat.le_of_ble_eq_true rfl), (Nat.le_of_ble_eq_true rfl)⟩) rfl rfl hl.1 (Nat.le_of_ble_eq_true rfl) dX6_requirePath_1 ⟨(Nat.le_of_ble_eq_true rfl), (Nat.le_of_ble_eq_true rfl)⟩) (Nat.le_of_ble_eq_true rfl) (Nat.le_of_ble_eq_true rfl) (fun _ _ h => h.elim) (fun v_1 w_1 H locs hq hP hS => ?_)
  obtain ⟨rfl, hw9⟩ := hq
  rw [hw9] at hP
  refine W.eq (g2 := F0 m 4 ls [.int (bI (pathB n))]) rfl ?_
  refine lv_if_ne (tgt := 18) hx hb dX6_requirePath_4 (by decide) (fun c_4 => ?_) (fun c_4 => ?_)
  · exact wl_vret C0 hr hP hS dX6_requirePath_18 (Nat.le_of_ble_eq_true rfl) (Nat.le_of_ble_eq_true rfl) (⟨rfl, rfl, bI_n.mp c_4⟩)
  · exact wl_throwSW (ik := 46) (is := 272) (ic := 50) (i := 3) C0 hst ht (by decide +kernel) (hts _ (by decide +kernel)) (hts _ (by decide +kernel)) rfl (fun _ h => List.mem_cons_of_mem _ (List.mem_append_right _ h)) xc_IAE xn_IAE xg_IAE hP hS hl.1 dX6_requirePath_7 dX6_requirePath_10 dX6_requirePath_11 dX6_requirePath_14 dX6_requirePath_17 (Nat.le_of_ble_eq_true rfl) (Nat.le_of_ble_eq_true rfl) (Nat.le_of_ble_eq_true rfl) (Nat.le_of_ble_eq_true rfl) (Nat.le_of_ble_eq_true rfl) (Nat.le_of_ble_eq_true rfl) (⟨rfl, rfl, bI_0.mp c_4⟩)

set_option maxHeartbeats 4000000 in
set_option maxRecDepth 100000 in
theorem k_X6_numberOfFound (l : Launch) (hst : l.stackTraces = false) (E : wEn) (w : wW) (sz : Nat) (F : FF) (AD : AT) (N : Nat) (hI : wInv F N) (hs : wSys E F AD w) (i : Nat) (hi : i < F 24 0) : wM l yX6_numberOfFound wsX6_numberOfFound 0 1 6 E w sz [.ref (AD 0 i)] (fun v w2 => v = some (.int (nI i)) ∧ w2 = w) (fun _ _ => False) := by
  refine wm_start (own := RX6) (cc := cX6_numberOfFound) (maxL := 1) (ret := (some .int)) rfl (by decide) rfl (Nat.le_of_ble_eq_true rfl) ?_
  intro p e s m args below meth c ls C0 hr hin ht hP hS hl
  have hx := C0.1
  have hb := C0.2.1
  have hts := C0.2.2.2.2.1
  have hown := C0.2.2.2.1
  have hl : lv_has ls 1 [(0, .ref (AD 0 i))] := hl
  have hf_276 : va_Nw (.fieldLinkNest RX6 276 "CallGateway$Route" "number" "I" "CallGateway") s := C0.2.2.2.2.2.2.2.1.1 _ (by decide +kernel)
  have hi_RX5 : ∀ w ∈ u_ws RX5 TX5 7, w ∈ wsX6_numberOfFound := fun _ h => List.mem_cons_of_mem _ (List.mem_append_left _ (List.mem_append_right _ h))
  refine lv_aload_n hx hb dX6_numberOfFound_0 rfl (lv_at hl 0 rfl) ?_
  refine lv_ifnonnull (tgt := 15) hx hb dX6_numberOfFound_1 (by decide) ?_
  refine lv_aload_n hx hb dX6_numberOfFound_15 rfl (lv_at hl 0 rfl) ?_
  refine wl_getN (T := TX5) C0 hP (wSys.ro hs hi) hi_RX5 rfl 0 (by decide) hf_276 rfl dX6_numberOfFound_16 ?_
  exact wl_iret C0 hr rfl hP hS dX6_numberOfFound_19 (Nat.le_of_ble_eq_true rfl) (Nat.le_of_ble_eq_true rfl) (⟨rfl, rfl⟩)

set_option maxHeartbeats 4000000 in
set_option maxRecDepth 100000 in
theorem k_X6_numberOfFound_n (l : Launch) (hst : l.stackTraces = false) (E : wEn) (w : wW) (sz : Nat)  : wM l yX6_numberOfFound wsX6_numberOfFound 0 1 6 E w sz [.null] (fun _ _ => False) (fun X w2 => X = xNSE ∧ w2 = w) := by
  refine wm_start (own := RX6) (cc := cX6_numberOfFound) (maxL := 1) (ret := (some .int)) rfl (by decide) rfl (Nat.le_of_ble_eq_true rfl) ?_
  intro p e s m args below meth c ls C0 hr hin ht hP hS hl
  have hx := C0.1
  have hb := C0.2.1
  have hts := C0.2.2.2.2.1
  have hown := C0.2.2.2.1
  have hl : lv_has ls 1 [(0, .null)] := hl
  have hf_276 : va_Nw (.fieldLinkNest RX6 276 "CallGateway$Route" "number" "I" "CallGateway") s := C0.2.2.2.2.2.2.2.1.1 _ (by decide +kernel)
  have hi_RX5 : ∀ w ∈ u_ws RX5 TX5 7, w ∈ wsX6_numberOfFound := fun _ h => List.mem_cons_of_mem _ (List.mem_append_left _ (List.mem_append_right _ h))
  refine lv_aload_nN hx hb dX6_numberOfFound_0 rfl (lv_at hl 0 rfl) ?_
  refine lv_ifnonnullN hx hb dX6_numberOfFound_1 ?_
  exact wl_throwXW (ik := 144) (is := 274) (ic := 148) (i := 4) C0 hst ht (by decide +kernel) (hts _ (by decide +kernel)) (hts _ (by decide +kernel)) rfl (fun _ h => List.mem_cons_of_mem _ (List.mem_append_right _ h)) xc_NSE xn_NSE xg_NSE hP hS hl.1 dX6_numberOfFound_4 dX6_numberOfFound_7 dX6_numberOfFound_8 dX6_numberOfFound_11 dX6_numberOfFound_14 (Nat.le_of_ble_eq_true rfl) (Nat.le_of_ble_eq_true rfl) (Nat.le_of_ble_eq_true rfl) (Nat.le_of_ble_eq_true rfl) (Nat.le_of_ble_eq_true rfl) (Nat.le_of_ble_eq_true rfl) (⟨rfl, rfl⟩)

set_option maxHeartbeats 4000000 in
set_option maxRecDepth 100000 in
theorem k_X6_existingRoute (l : Launch) (hst : l.stackTraces = false) (E : wEn) (w : wW) (sz : Nat) (F : FF) (AD : AT) (N : Nat) (hI : wInv F N) (hs : wSys E F AD w) (n : Int32) : wM l yX6_existingRoute wsX6_existingRoute 0 1 6 E w sz [.ref (AD 5 0), .int n] (fun v w2 => v = some (.ref (AD 0 (tn n))) ∧ w2 = w ∧ vpb n (F 24 0) = true) (fun X w2 => X = xIOB ∧ w2 = w ∧ vpb n (F 24 0) = false) := by
  refine wm_start (own := RX6) (cc := cX6_existingRoute) (maxL := 3) (ret := (some (.object "CallGateway$Route"))) rfl (by decide) rfl (Nat.le_of_ble_eq_true rfl) ?_
  intro p e s m args below meth c ls C0 hr hin ht hP hS hl
  have hx := C0.1
  have hb := C0.2.1
  have hts := C0.2.2.2.2.1
  have hown := C0.2.2.2.1
  have hl : lv_has ls 3 [(0, .ref (AD 5 0)), (1, .int n)] := hl
  have hf_11 : (Cond.fieldLink RX6 11 "CallGateway" "routes" "[LCallGateway$Route;").before args s = true := hts _ (by decide +kernel)
  have hi_RX6 : ∀ w ∈ u_ws RX6 TX6 8, w ∈ wsX6_existingRoute := fun _ h => List.mem_cons_of_mem _ (List.mem_append_left _ (List.mem_append_right _ h))
  refine lv_iload_n hx hb dX6_existingRoute_0 rfl (lv_at hl 1 rfl) ?_
  refine lv_if_lt (tgt := 22) hx hb dX6_existingRoute_1 (by decide) (fun c_1 => ?_) (fun c_1 => ?_)
  · refine lv_null hx hb dX6_existingRoute_22 ?_
    refine lv_astore_nN (lv' := [(2, .null), (0, .ref (AD 5 0)), (1, .int n)]) hx hb dX6_existingRoute_23 rfl hl (by decide) rfl (fun ls hl => ?_)
    refine lv_aload_nN hx hb dX6_existingRoute_24 rfl (lv_at hl 0 rfl) ?_
    refine lv_ifnonnullN hx hb dX6_existingRoute_25 ?_
    exact wl_throwSW (ik := 245) (is := 277) (ic := 249) (i := 5) C0 hst ht (by decide +kernel) (hts _ (by decide +kernel)) (hts _ (by decide +kernel)) rfl (fun _ h => List.mem_cons_of_mem _ (List.mem_append_right _ h)) xc_IOB xn_IOB xg_IOB hP hS hl.1 dX6_existingRoute_28 dX6_existingRoute_31 dX6_existingRoute_32 dX6_existingRoute_35 dX6_existingRoute_38 (Nat.le_of_ble_eq_true rfl) (Nat.le_of_ble_eq_true rfl) (Nat.le_of_ble_eq_true rfl) (Nat.le_of_ble_eq_true rfl) (Nat.le_of_ble_eq_true rfl) (Nat.le_of_ble_eq_true rfl) (⟨rfl, rfl, vpb_neg c_1⟩)
  · refine lv_iload_n hx hb dX6_existingRoute_4 rfl (lv_at hl 1 rfl) ?_
    refine lv_aload_n hx hb dX6_existingRoute_5 rfl (lv_at hl 0 rfl) ?_
    refine wl_get (T := TX6) C0 hP hs.x hi_RX6 rfl 0 (by decide) hf_11 rfl dX6_existingRoute_6 ?_
    refine wl_alen (v := 8) C0 hP hs.aR 4 rfl rfl dX6_existingRoute_9 ?_
    refine lv_icmp_ge (tgt := 22) hx hb dX6_existingRoute_10 (by decide) (fun c_10 => ?_) (fun c_10 => ?_)
    · refine lv_null hx hb dX6_existingRoute_22 ?_
      refine lv_astore_nN (lv' := [(2, .null), (0, .ref (AD 5 0)), (1, .int n)]) hx hb dX6_existingRoute_23 rfl hl (by decide) rfl (fun ls hl => ?_)
      refine lv_aload_nN hx hb dX6_existingRoute_24 rfl (lv_at hl 0 rfl) ?_
      refine lv_ifnonnullN hx hb dX6_existingRoute_25 ?_
      exact wl_throwSW (ik := 245) (is := 277) (ic := 249) (i := 5) C0 hst ht (by decide +kernel) (hts _ (by decide +kernel)) (hts _ (by decide +kernel)) rfl (fun _ h => List.mem_cons_of_mem _ (List.mem_append_right _ h)) xc_IOB xn_IOB xg_IOB hP hS hl.1 dX6_existingRoute_28 dX6_existingRoute_31 dX6_existingRoute_32 dX6_existingRoute_35 dX6_existingRoute_38 (Nat.le_of_ble_eq_true rfl) (Nat.le_of_ble_eq_true rfl) (Nat.le_of_ble_eq_true rfl) (Nat.le_of_ble_eq_true rfl) (Nat.le_of_ble_eq_true rfl) (Nat.le_of_ble_eq_true rfl) (⟨rfl, rfl, vpb_big (k := 8) (by omega) hI.n.1 c_1 c_10⟩)
    · refine lv_aload_n hx hb dX6_existingRoute_13 rfl (lv_at hl 0 rfl) ?_
      refine wl_get (T := TX6) C0 hP hs.x hi_RX6 rfl 0 (by decide) hf_11 rfl dX6_existingRoute_14 ?_
      refine lv_iload_n hx hb dX6_existingRoute_17 rfl (lv_at hl 1 rfl) ?_
      refine wl_aldq (t0 := 4) C0 hP rfl hs.aR (vpin_of (n := 8) (by omega) c_1 c_10) dX6_existingRoute_18 ?_
      refine wl_rfU (fun h_19 => ?_) (fun h_19 => ?_)
      · refine lv_goto (tgt := 23) hx hb dX6_existingRoute_19 (by decide) ?_
        refine lv_astore_n (lv' := [(2, .ref (AD 0 (tn n))), (0, .ref (AD 5 0)), (1, .int n)]) hx hb dX6_existingRoute_23 rfl hl (by decide) rfl (fun ls hl => ?_)
        refine lv_aload_n hx hb dX6_existingRoute_24 rfl (lv_at hl 0 rfl) ?_
        refine lv_ifnonnull (tgt := 39) hx hb dX6_existingRoute_25 (by decide) ?_
        refine lv_aload_n hx hb dX6_existingRoute_39 rfl (lv_at hl 0 rfl) ?_
        exact wl_aret C0 hr (Or.inr ⟨_, rfl⟩) hP hS dX6_existingRoute_40 (Nat.le_of_ble_eq_true rfl) (Nat.le_of_ble_eq_true rfl) (⟨rfl, rfl, vpb_lt c_1 h_19⟩)
      · refine lv_goto (tgt := 23) hx hb dX6_existingRoute_19 (by decide) ?_
        refine lv_astore_nN (lv' := [(2, .null), (0, .ref (AD 5 0)), (1, .int n)]) hx hb dX6_existingRoute_23 rfl hl (by decide) rfl (fun ls hl => ?_)
        refine lv_aload_nN hx hb dX6_existingRoute_24 rfl (lv_at hl 0 rfl) ?_
        refine lv_ifnonnullN hx hb dX6_existingRoute_25 ?_
        exact wl_throwSW (ik := 245) (is := 277) (ic := 249) (i := 5) C0 hst ht (by decide +kernel) (hts _ (by decide +kernel)) (hts _ (by decide +kernel)) rfl (fun _ h => List.mem_cons_of_mem _ (List.mem_append_right _ h)) xc_IOB xn_IOB xg_IOB hP hS hl.1 dX6_existingRoute_28 dX6_existingRoute_31 dX6_existingRoute_32 dX6_existingRoute_35 dX6_existingRoute_38 (Nat.le_of_ble_eq_true rfl) (Nat.le_of_ble_eq_true rfl) (Nat.le_of_ble_eq_true rfl) (Nat.le_of_ble_eq_true rfl) (Nat.le_of_ble_eq_true rfl) (Nat.le_of_ble_eq_true rfl) (⟨rfl, rfl, vpb_ge h_19⟩)

set_option maxHeartbeats 4000000 in
set_option maxRecDepth 100000 in
theorem k_X6_existingPlan (l : Launch) (hst : l.stackTraces = false) (E : wEn) (w : wW) (sz : Nat) (F : FF) (AD : AT) (N : Nat) (hI : wInv F N) (hs : wSys E F AD w) (n : Int32) : wM l yX6_existingPlan wsX6_existingPlan 0 1 6 E w sz [.ref (AD 5 0), .int n] (fun v w2 => v = some (.ref (AD 1 (tn n))) ∧ w2 = w ∧ vpb n (F 24 1) = true) (fun X w2 => X = xIOB ∧ w2 = w ∧ vpb n (F 24 1) = false) := by
  refine wm_start (own := RX6) (cc := cX6_existingPlan) (maxL := 3) (ret := (some (.object "CallGateway$Plan"))) rfl (by decide) rfl (Nat.le_of_ble_eq_true rfl) ?_
  intro p e s m args below meth c ls C0 hr hin ht hP hS hl
  have hx := C0.1
  have hb := C0.2.1
  have hts := C0.2.2.2.2.1
  have hown := C0.2.2.2.1
  have hl : lv_has ls 3 [(0, .ref (AD 5 0)), (1, .int n)] := hl
  have hf_17 : (Cond.fieldLink RX6 17 "CallGateway" "plans" "[LCallGateway$Plan;").before args s = true := hts _ (by decide +kernel)
  have hi_RX6 : ∀ w ∈ u_ws RX6 TX6 8, w ∈ wsX6_existingPlan := fun _ h => List.mem_cons_of_mem _ (List.mem_append_left _ (List.mem_append_right _ h))
  refine lv_iload_n hx hb dX6_existingPlan_0 rfl (lv_at hl 1 rfl) ?_
  refine lv_if_lt (tgt := 22) hx hb dX6_existingPlan_1 (by decide) (fun c_1 => ?_) (fun c_1 => ?_)
  · refine lv_null hx hb dX6_existingPlan_22 ?_
    refine lv_astore_nN (lv' := [(2, .null), (0, .ref (AD 5 0)), (1, .int n)]) hx hb dX6_existingPlan_23 rfl hl (by decide) rfl (fun ls hl => ?_)
    refine lv_aload_nN hx hb dX6_existingPlan_24 rfl (lv_at hl 0 rfl) ?_
    refine lv_ifnonnullN hx hb dX6_existingPlan_25 ?_
    exact wl_throwSW (ik := 245) (is := 279) (ic := 249) (i := 12) C0 hst ht (by decide +kernel) (hts _ (by decide +kernel)) (hts _ (by decide +kernel)) rfl (fun _ h => List.mem_cons_of_mem _ (List.mem_append_right _ h)) xc_IOB xn_IOB xg_IOB hP hS hl.1 dX6_existingPlan_28 dX6_existingPlan_31 dX6_existingPlan_32 dX6_existingPlan_35 dX6_existingPlan_38 (Nat.le_of_ble_eq_true rfl) (Nat.le_of_ble_eq_true rfl) (Nat.le_of_ble_eq_true rfl) (Nat.le_of_ble_eq_true rfl) (Nat.le_of_ble_eq_true rfl) (Nat.le_of_ble_eq_true rfl) (⟨rfl, rfl, vpb_neg c_1⟩)
  · refine lv_iload_n hx hb dX6_existingPlan_4 rfl (lv_at hl 1 rfl) ?_
    refine lv_aload_n hx hb dX6_existingPlan_5 rfl (lv_at hl 0 rfl) ?_
    refine wl_get (T := TX6) C0 hP hs.x hi_RX6 rfl 1 (by decide) hf_17 rfl dX6_existingPlan_6 ?_
    refine wl_alen (v := 3) C0 hP hs.aP 5 rfl rfl dX6_existingPlan_9 ?_
    refine lv_icmp_ge (tgt := 22) hx hb dX6_existingPlan_10 (by decide) (fun c_10 => ?_) (fun c_10 => ?_)
    · refine lv_null hx hb dX6_existingPlan_22 ?_
      refine lv_astore_nN (lv' := [(2, .null), (0, .ref (AD 5 0)), (1, .int n)]) hx hb dX6_existingPlan_23 rfl hl (by decide) rfl (fun ls hl => ?_)
      refine lv_aload_nN hx hb dX6_existingPlan_24 rfl (lv_at hl 0 rfl) ?_
      refine lv_ifnonnullN hx hb dX6_existingPlan_25 ?_
      exact wl_throwSW (ik := 245) (is := 279) (ic := 249) (i := 12) C0 hst ht (by decide +kernel) (hts _ (by decide +kernel)) (hts _ (by decide +kernel)) rfl (fun _ h => List.mem_cons_of_mem _ (List.mem_append_right _ h)) xc_IOB xn_IOB xg_IOB hP hS hl.1 dX6_existingPlan_28 dX6_existingPlan_31 dX6_existingPlan_32 dX6_existingPlan_35 dX6_existingPlan_38 (Nat.le_of_ble_eq_true rfl) (Nat.le_of_ble_eq_true rfl) (Nat.le_of_ble_eq_true rfl) (Nat.le_of_ble_eq_true rfl) (Nat.le_of_ble_eq_true rfl) (Nat.le_of_ble_eq_true rfl) (⟨rfl, rfl, vpb_big (k := 3) (by omega) hI.n.2.1 c_1 c_10⟩)
    · refine lv_aload_n hx hb dX6_existingPlan_13 rfl (lv_at hl 0 rfl) ?_
      refine wl_get (T := TX6) C0 hP hs.x hi_RX6 rfl 1 (by decide) hf_17 rfl dX6_existingPlan_14 ?_
      refine lv_iload_n hx hb dX6_existingPlan_17 rfl (lv_at hl 1 rfl) ?_
      refine wl_aldq (t0 := 5) C0 hP rfl hs.aP (vpin_of (n := 3) (by omega) c_1 c_10) dX6_existingPlan_18 ?_
      refine wl_rfU (fun h_19 => ?_) (fun h_19 => ?_)
      · refine lv_goto (tgt := 23) hx hb dX6_existingPlan_19 (by decide) ?_
        refine lv_astore_n (lv' := [(2, .ref (AD 1 (tn n))), (0, .ref (AD 5 0)), (1, .int n)]) hx hb dX6_existingPlan_23 rfl hl (by decide) rfl (fun ls hl => ?_)
        refine lv_aload_n hx hb dX6_existingPlan_24 rfl (lv_at hl 0 rfl) ?_
        refine lv_ifnonnull (tgt := 39) hx hb dX6_existingPlan_25 (by decide) ?_
        refine lv_aload_n hx hb dX6_existingPlan_39 rfl (lv_at hl 0 rfl) ?_
        exact wl_aret C0 hr (Or.inr ⟨_, rfl⟩) hP hS dX6_existingPlan_40 (Nat.le_of_ble_eq_true rfl) (Nat.le_of_ble_eq_true rfl) (⟨rfl, rfl, vpb_lt c_1 h_19⟩)
      · refine lv_goto (tgt := 23) hx hb dX6_existingPlan_19 (by decide) ?_
        refine lv_astore_nN (lv' := [(2, .null), (0, .ref (AD 5 0)), (1, .int n)]) hx hb dX6_existingPlan_23 rfl hl (by decide) rfl (fun ls hl => ?_)
        refine lv_aload_nN hx hb dX6_existingPlan_24 rfl (lv_at hl 0 rfl) ?_
        refine lv_ifnonnullN hx hb dX6_existingPlan_25 ?_
        exact wl_throwSW (ik := 245) (is := 279) (ic := 249) (i := 12) C0 hst ht (by decide +kernel) (hts _ (by decide +kernel)) (hts _ (by decide +kernel)) rfl (fun _ h => List.mem_cons_of_mem _ (List.mem_append_right _ h)) xc_IOB xn_IOB xg_IOB hP hS hl.1 dX6_existingPlan_28 dX6_existingPlan_31 dX6_existingPlan_32 dX6_existingPlan_35 dX6_existingPlan_38 (Nat.le_of_ble_eq_true rfl) (Nat.le_of_ble_eq_true rfl) (Nat.le_of_ble_eq_true rfl) (Nat.le_of_ble_eq_true rfl) (Nat.le_of_ble_eq_true rfl) (Nat.le_of_ble_eq_true rfl) (⟨rfl, rfl, vpb_ge h_19⟩)

set_option maxHeartbeats 4000000 in
set_option maxRecDepth 100000 in
theorem k_X6_existingCaller (l : Launch) (hst : l.stackTraces = false) (E : wEn) (w : wW) (sz : Nat) (F : FF) (AD : AT) (N : Nat) (hI : wInv F N) (hs : wSys E F AD w) (n : Int32) : wM l yX6_existingCaller wsX6_existingCaller 0 1 6 E w sz [.ref (AD 5 0), .int n] (fun v w2 => v = some (.ref (AD 2 (tn n))) ∧ w2 = w ∧ vpb n (F 24 2) = true) (fun X w2 => X = xIOB ∧ w2 = w ∧ vpb n (F 24 2) = false) := by
  refine wm_start (own := RX6) (cc := cX6_existingCaller) (maxL := 3) (ret := (some (.object "CallGateway$Caller"))) rfl (by decide) rfl (Nat.le_of_ble_eq_true rfl) ?_
  intro p e s m args below meth c ls C0 hr hin ht hP hS hl
  have hx := C0.1
  have hb := C0.2.1
  have hts := C0.2.2.2.2.1
  have hown := C0.2.2.2.1
  have hl : lv_has ls 3 [(0, .ref (AD 5 0)), (1, .int n)] := hl
  have hf_23 : (Cond.fieldLink RX6 23 "CallGateway" "callers" "[LCallGateway$Caller;").before args s = true := hts _ (by decide +kernel)
  have hi_RX6 : ∀ w ∈ u_ws RX6 TX6 8, w ∈ wsX6_existingCaller := fun _ h => List.mem_cons_of_mem _ (List.mem_append_left _ (List.mem_append_right _ h))
  refine lv_iload_n hx hb dX6_existingCaller_0 rfl (lv_at hl 1 rfl) ?_
  refine lv_if_lt (tgt := 22) hx hb dX6_existingCaller_1 (by decide) (fun c_1 => ?_) (fun c_1 => ?_)
  · refine lv_null hx hb dX6_existingCaller_22 ?_
    refine lv_astore_nN (lv' := [(2, .null), (0, .ref (AD 5 0)), (1, .int n)]) hx hb dX6_existingCaller_23 rfl hl (by decide) rfl (fun ls hl => ?_)
    refine lv_aload_nN hx hb dX6_existingCaller_24 rfl (lv_at hl 0 rfl) ?_
    refine lv_ifnonnullN hx hb dX6_existingCaller_25 ?_
    exact wl_throwSW (ik := 245) (is := 281) (ic := 249) (i := 14) C0 hst ht (by decide +kernel) (hts _ (by decide +kernel)) (hts _ (by decide +kernel)) rfl (fun _ h => List.mem_cons_of_mem _ (List.mem_append_right _ h)) xc_IOB xn_IOB xg_IOB hP hS hl.1 dX6_existingCaller_28 dX6_existingCaller_31 dX6_existingCaller_32 dX6_existingCaller_35 dX6_existingCaller_38 (Nat.le_of_ble_eq_true rfl) (Nat.le_of_ble_eq_true rfl) (Nat.le_of_ble_eq_true rfl) (Nat.le_of_ble_eq_true rfl) (Nat.le_of_ble_eq_true rfl) (Nat.le_of_ble_eq_true rfl) (⟨rfl, rfl, vpb_neg c_1⟩)
  · refine lv_iload_n hx hb dX6_existingCaller_4 rfl (lv_at hl 1 rfl) ?_
    refine lv_aload_n hx hb dX6_existingCaller_5 rfl (lv_at hl 0 rfl) ?_
    refine wl_get (T := TX6) C0 hP hs.x hi_RX6 rfl 2 (by decide) hf_23 rfl dX6_existingCaller_6 ?_
    refine wl_alen (v := 6) C0 hP hs.aC 6 rfl rfl dX6_existingCaller_9 ?_
    refine lv_icmp_ge (tgt := 22) hx hb dX6_existingCaller_10 (by decide) (fun c_10 => ?_) (fun c_10 => ?_)
    · refine lv_null hx hb dX6_existingCaller_22 ?_
      refine lv_astore_nN (lv' := [(2, .null), (0, .ref (AD 5 0)), (1, .int n)]) hx hb dX6_existingCaller_23 rfl hl (by decide) rfl (fun ls hl => ?_)
      refine lv_aload_nN hx hb dX6_existingCaller_24 rfl (lv_at hl 0 rfl) ?_
      refine lv_ifnonnullN hx hb dX6_existingCaller_25 ?_
      exact wl_throwSW (ik := 245) (is := 281) (ic := 249) (i := 14) C0 hst ht (by decide +kernel) (hts _ (by decide +kernel)) (hts _ (by decide +kernel)) rfl (fun _ h => List.mem_cons_of_mem _ (List.mem_append_right _ h)) xc_IOB xn_IOB xg_IOB hP hS hl.1 dX6_existingCaller_28 dX6_existingCaller_31 dX6_existingCaller_32 dX6_existingCaller_35 dX6_existingCaller_38 (Nat.le_of_ble_eq_true rfl) (Nat.le_of_ble_eq_true rfl) (Nat.le_of_ble_eq_true rfl) (Nat.le_of_ble_eq_true rfl) (Nat.le_of_ble_eq_true rfl) (Nat.le_of_ble_eq_true rfl) (⟨rfl, rfl, vpb_big (k := 6) (by omega) hI.n.2.2.1 c_1 c_10⟩)
    · refine lv_aload_n hx hb dX6_existingCaller_13 rfl (lv_at hl 0 rfl) ?_
      refine wl_get (T := TX6) C0 hP hs.x hi_RX6 rfl 2 (by decide) hf_23 rfl dX6_existingCaller_14 ?_
      refine lv_iload_n hx hb dX6_existingCaller_17 rfl (lv_at hl 1 rfl) ?_
      refine wl_aldq (t0 := 6) C0 hP rfl hs.aC (vpin_of (n := 6) (by omega) c_1 c_10) dX6_existingCaller_18 ?_
      refine wl_rfU (fun h_19 => ?_) (fun h_19 => ?_)
      · refine lv_goto (tgt := 23) hx hb dX6_existingCaller_19 (by decide) ?_
        refine lv_astore_n (lv' := [(2, .ref (AD 2 (tn n))), (0, .ref (AD 5 0)), (1, .int n)]) hx hb dX6_existingCaller_23 rfl hl (by decide) rfl (fun ls hl => ?_)
        refine lv_aload_n hx hb dX6_existingCaller_24 rfl (lv_at hl 0 rfl) ?_
        refine lv_ifnonnull (tgt := 39) hx hb dX6_existingCaller_25 (by decide) ?_
        refine lv_aload_n hx hb dX6_existingCaller_39 rfl (lv_at hl 0 rfl) ?_
        exact wl_aret C0 hr (Or.inr ⟨_, rfl⟩) hP hS dX6_existingCaller_40 (Nat.le_of_ble_eq_true rfl) (Nat.le_of_ble_eq_true rfl) (⟨rfl, rfl, vpb_lt c_1 h_19⟩)
      · refine lv_goto (tgt := 23) hx hb dX6_existingCaller_19 (by decide) ?_
        refine lv_astore_nN (lv' := [(2, .null), (0, .ref (AD 5 0)), (1, .int n)]) hx hb dX6_existingCaller_23 rfl hl (by decide) rfl (fun ls hl => ?_)
        refine lv_aload_nN hx hb dX6_existingCaller_24 rfl (lv_at hl 0 rfl) ?_
        refine lv_ifnonnullN hx hb dX6_existingCaller_25 ?_
        exact wl_throwSW (ik := 245) (is := 281) (ic := 249) (i := 14) C0 hst ht (by decide +kernel) (hts _ (by decide +kernel)) (hts _ (by decide +kernel)) rfl (fun _ h => List.mem_cons_of_mem _ (List.mem_append_right _ h)) xc_IOB xn_IOB xg_IOB hP hS hl.1 dX6_existingCaller_28 dX6_existingCaller_31 dX6_existingCaller_32 dX6_existingCaller_35 dX6_existingCaller_38 (Nat.le_of_ble_eq_true rfl) (Nat.le_of_ble_eq_true rfl) (Nat.le_of_ble_eq_true rfl) (Nat.le_of_ble_eq_true rfl) (Nat.le_of_ble_eq_true rfl) (Nat.le_of_ble_eq_true rfl) (⟨rfl, rfl, vpb_ge h_19⟩)

set_option maxHeartbeats 4000000 in
set_option maxRecDepth 100000 in
theorem k_X6_existingCanary (l : Launch) (hst : l.stackTraces = false) (E : wEn) (w : wW) (sz : Nat) (F : FF) (AD : AT) (N : Nat) (hI : wInv F N) (hs : wSys E F AD w) (i : Nat) (hi : i < F 24 0) : wM l yX6_existingCanary wsX6_existingCanary 0 1 6 E w sz [.ref (AD 0 i)] (fun v w2 => v = some (.ref (AD 4 i)) ∧ w2 = w ∧ ¬ F 5 i = 0) (fun X w2 => X = xISE ∧ w2 = w ∧ F 5 i = 0) := by
  refine wm_start (own := RX6) (cc := cX6_existingCanary) (maxL := 2) (ret := (some (.object "CallGateway$Canary"))) rfl (by decide) rfl (Nat.le_of_ble_eq_true rfl) ?_
  intro p e s m args below meth c ls C0 hr hin ht hP hS hl
  have hx := C0.1
  have hb := C0.2.1
  have hts := C0.2.2.2.2.1
  have hown := C0.2.2.2.1
  have hl : lv_has ls 2 [(0, .ref (AD 0 i))] := hl
  have hf_104 : va_Nw (.fieldLinkNest RX6 104 "CallGateway$Route" "canary" "LCallGateway$Canary;" "CallGateway") s := C0.2.2.2.2.2.2.2.1.1 _ (by decide +kernel)
  have hi_RX5 : ∀ w ∈ u_ws RX5 TX5 7, w ∈ wsX6_existingCanary := fun _ h => List.mem_cons_of_mem _ (List.mem_append_left _ (List.mem_append_right _ h))
  refine lv_aload_n hx hb dX6_existingCanary_0 rfl (lv_at hl 0 rfl) ?_
  refine wl_getN (T := TX5) C0 hP (wSys.ro hs hi) hi_RX5 rfl 6 (by decide) hf_104 rfl dX6_existingCanary_1 ?_
  refine wl_rfC (fun h_4 => ?_) (fun h_4 => ?_)
  · refine lv_astore_nN (lv' := [(1, .null), (0, .ref (AD 0 i))]) hx hb dX6_existingCanary_4 rfl hl (by decide) rfl (fun ls hl => ?_)
    refine lv_aload_nN hx hb dX6_existingCanary_5 rfl (lv_at hl 0 rfl) ?_
    refine lv_ifnonnullN hx hb dX6_existingCanary_6 ?_
    exact wl_throwS (ik := 63) (is := 146) (ic := 67) (i := 10) C0 hst ht (by decide +kernel) (hts _ (by decide +kernel)) (hts _ (by decide +kernel)) rfl (fun _ h => List.mem_cons_of_mem _ (List.mem_append_right _ h)) xc_ISE xn_ISE xg_ISE hP hS hl.1 dX6_existingCanary_9 dX6_existingCanary_12 dX6_existingCanary_13 dX6_existingCanary_15 dX6_existingCanary_18 (Nat.le_of_ble_eq_true rfl) (Nat.le_of_ble_eq_true rfl) (Nat.le_of_ble_eq_true rfl) (Nat.le_of_ble_eq_true rfl) (Nat.le_of_ble_eq_true rfl) (Nat.le_of_ble_eq_true rfl) (⟨rfl, rfl, h_4⟩)
  · refine lv_astore_n (lv' := [(1, .ref (AD 4 i)), (0, .ref (AD 0 i))]) hx hb dX6_existingCanary_4 rfl hl (by decide) rfl (fun ls hl => ?_)
    refine lv_aload_n hx hb dX6_existingCanary_5 rfl (lv_at hl 0 rfl) ?_
    refine lv_ifnonnull (tgt := 19) hx hb dX6_existingCanary_6 (by decide) ?_
    refine lv_aload_n hx hb dX6_existingCanary_19 rfl (lv_at hl 0 rfl) ?_
    exact wl_aret C0 hr (Or.inr ⟨_, rfl⟩) hP hS dX6_existingCanary_20 (Nat.le_of_ble_eq_true rfl) (Nat.le_of_ble_eq_true rfl) (⟨rfl, rfl, h_4⟩)
