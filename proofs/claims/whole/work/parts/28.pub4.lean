def v_share (F : FF) : UInt32 := FP.fdiv (FP.i2f (nI (n_can F))) (FP.i2f (nI (F 24 3)))
def v_mean (F : FF) : UInt64 := FP.ddiv (FP.i2d (nI (t_took F))) (FP.i2d (nI (n_took F)))
set_option maxHeartbeats 4000000 in
set_option maxRecDepth 100000 in
theorem k_X6_canaryShare (l : Launch) (hst : l.stackTraces = false) (E : wEn) (w : wW) (sz : Nat) (F : FF) (AD : AT) (N : Nat) (hI : wInv F N) (hs : wSys E F AD w) : wM l yX6_canaryShare wsX6_canaryShare 2 1 6 E w sz [.ref (AD 5 0)] (fun v w2 => F 24 3 ≠ 0 ∧ v = some (.float (v_share F)) ∧ w2 = w) (fun X w2 => w2 = w ∧ F 24 3 = 0 ∧ X = xARI) := by
  refine wm_start (own := RX6) (cc := cX6_canaryShare) (maxL := 2) (ret := (some .float)) rfl (by decide) rfl (Nat.le_of_ble_eq_true rfl) ?_
  intro p e s m args below meth c ls C0 hr hin ht hP hS hl
  have hx := C0.1
  have hb := C0.2.1
  have hts := C0.2.2.2.2.1
  have hown := C0.2.2.2.1
  have hl : lv_has ls 2 [(0, .ref (AD 5 0))] := hl
  have hf_30 : (Cond.fieldLink RX6 30 "CallGateway" "log" "LCallGateway$CallLog;").before args s = true := hts _ (by decide +kernel)
  have hf_228 : va_Nw (.fieldLinkNest RX6 228 "CallGateway$CallLog" "size" "I" "CallGateway") s := C0.2.2.2.2.2.2.2.1.1 _ (by decide +kernel)
  have hi_RX0 : ∀ w ∈ u_ws RX0 TX0 2, w ∈ wsX6_canaryShare := fun _ h => List.mem_cons_of_mem _ (List.mem_append_left _ (List.mem_append_left _ (List.mem_append_right _ h)))
  have hi_RX6 : ∀ w ∈ u_ws RX6 TX6 8, w ∈ wsX6_canaryShare := fun _ h => List.mem_cons_of_mem _ (List.mem_append_left _ (List.mem_append_left _ (List.mem_append_left _ (List.mem_append_right _ h))))
  have hn := hI.n
  refine lv_aload_n hx hb dX6_canaryShare_0 rfl (lv_at hl 0 rfl) ?_
  refine wl_get (T := TX6) C0 hP hs.x hi_RX6 rfl 3 (by decide) hf_30 rfl dX6_canaryShare_1 ?_
  refine wl_getN (T := TX0) C0 hP hs.log hi_RX0 rfl 1 (by decide) hf_228 rfl dX6_canaryShare_4 ?_
  refine lv_istore_n (lv' := [(1, .int (nI (F 24 3))), (0, .ref (AD 5 0))]) hx hb dX6_canaryShare_7 rfl hl (by decide) rfl (fun ls hl => ?_)
  refine lv_iload_n hx hb dX6_canaryShare_8 rfl (lv_at hl 0 rfl) ?_
  refine lv_if_ne (tgt := 23) hx hb dX6_canaryShare_9 (by decide) (fun c_9 => ?_) (fun c_9 => ?_)
  · have q9 : ¬ F 24 3 = 0 := fun q => c_9 ((nI_e0 (by omega)).mpr q)
    have hc9 : n_can F ≤ F 24 3 := ct_le _ _
    refine lv_aload_n hx hb dX6_canaryShare_23 rfl (lv_at hl 1 rfl) ?_
    refine wl_get (T := TX6) C0 hP hs.x hi_RX6 rfl 3 (by decide) hf_30 rfl dX6_canaryShare_24 ?_
    refine wl_on C0 ht hP hS (wl_runVN (host := "CallGateway") (As := []) (rest := []) C0 hP hS (k_X0_numberOfStandingCanaryCalls l hst E w s.heap.size F AD N hI hs) ⟨va_cnB 0 hts gX6_canaryShare_X0_numberOfStandingCanaryCalls_n263 rfl rfl rfl (C0.2.2.2.2.2.2.2.1.1 _ (by decide +kernel)) (hts _ (by decide +kernel)) (by decide +kernel) ⟨(Nat.le_of_ble_eq_true rfl), (Nat.le_of_ble_eq_true rfl)⟩, hts _ (by decide +kernel), hts _ (by decide +kernel)⟩ hs.log rfl rfl rfl hl.1 (Nat.le_of_ble_eq_true rfl) dX6_canaryShare_27 ⟨(Nat.le_of_ble_eq_true rfl), (Nat.le_of_ble_eq_true rfl)⟩) (Nat.le_of_ble_eq_true rfl) (Nat.le_of_ble_eq_true rfl) (fun _ _ h => h.elim) (fun v_27 w_27 H locs hq hP hS => ?_)
    obtain ⟨rfl, hw9⟩ := hq
    rw [hw9] at hP
    refine W.eq (g2 := F0 m 30 ls [.int (nI (n_can F))]) rfl ?_
    refine lv_i2f hx hb dX6_canaryShare_30 ?_
    refine lv_iload_n hx hb dX6_canaryShare_31 rfl (lv_at hl 0 rfl) ?_
    refine lv_i2f hx hb dX6_canaryShare_32 ?_
    refine lv_fdiv hx hb dX6_canaryShare_33 (fp_fdiv (by omega) (by omega) q9) ?_
    exact wl_fret C0 hr hP hS dX6_canaryShare_34 (Nat.le_of_ble_eq_true rfl) (Nat.le_of_ble_eq_true rfl) (⟨q9, rfl, rfl⟩)
  · have q9 : F 24 3 = 0 := (nI_e0 (by omega)).mp c_9
    exact wl_throwSW (ik := 258) (is := 260) (ic := 262) (i := 21) C0 hst ht (by decide +kernel) (hts _ (by decide +kernel)) (hts _ (by decide +kernel)) rfl (fun _ h => List.mem_cons_of_mem _ (List.mem_append_right _ h)) xc_ARI xn_ARI xg_ARI hP hS hl.1 dX6_canaryShare_12 dX6_canaryShare_15 dX6_canaryShare_16 dX6_canaryShare_19 dX6_canaryShare_22 (Nat.le_of_ble_eq_true rfl) (Nat.le_of_ble_eq_true rfl) (Nat.le_of_ble_eq_true rfl) (Nat.le_of_ble_eq_true rfl) (Nat.le_of_ble_eq_true rfl) (Nat.le_of_ble_eq_true rfl) (⟨rfl, q9, rfl⟩)

set_option maxHeartbeats 4000000 in
set_option maxRecDepth 100000 in
theorem k_X6_meanCost (l : Launch) (hst : l.stackTraces = false) (E : wEn) (w : wW) (sz : Nat) (F : FF) (AD : AT) (N : Nat) (hI : wInv F N) (hs : wSys E F AD w) : wM l yX6_meanCost wsX6_meanCost 2 1 6 E w sz [.ref (AD 5 0)] (fun v w2 => n_took F ≠ 0 ∧ v = some (.double (v_mean F)) ∧ w2 = w) (fun X w2 => w2 = w ∧ n_took F = 0 ∧ X = xARI) := by
  refine wm_start (own := RX6) (cc := cX6_meanCost) (maxL := 2) (ret := (some .double)) rfl (by decide) rfl (Nat.le_of_ble_eq_true rfl) ?_
  intro p e s m args below meth c ls C0 hr hin ht hP hS hl
  have hx := C0.1
  have hb := C0.2.1
  have hts := C0.2.2.2.2.1
  have hown := C0.2.2.2.1
  have hl : lv_has ls 2 [(0, .ref (AD 5 0))] := hl
  have hf_30 : (Cond.fieldLink RX6 30 "CallGateway" "log" "LCallGateway$CallLog;").before args s = true := hts _ (by decide +kernel)
  have hi_RX6 : ∀ w ∈ u_ws RX6 TX6 8, w ∈ wsX6_meanCost := fun _ h => List.mem_cons_of_mem _ (List.mem_append_left _ (List.mem_append_left _ (List.mem_append_left _ (List.mem_append_right _ h))))
  have hn := hI.n
  have hc9 : n_took F ≤ F 24 3 := ct_le _ _
  have hs9 : t_took F ≤ F 24 3 * 5 := sm_le (fun k hk => by
    have h := (hI.en hk).2.2.1
    split <;> omega)
  refine lv_aload_n hx hb dX6_meanCost_0 rfl (lv_at hl 0 rfl) ?_
  refine wl_get (T := TX6) C0 hP hs.x hi_RX6 rfl 3 (by decide) hf_30 rfl dX6_meanCost_1 ?_
  refine wl_on C0 ht hP hS (wl_runVN (host := "CallGateway") (As := []) (rest := []) C0 hP hS (k_X0_numberThatTook l hst E w s.heap.size F AD N hI hs) ⟨va_cnB 0 hts gX6_meanCost_X0_numberThatTook_n266 rfl rfl rfl (C0.2.2.2.2.2.2.2.1.1 _ (by decide +kernel)) (hts _ (by decide +kernel)) (by decide +kernel) ⟨(Nat.le_of_ble_eq_true rfl), (Nat.le_of_ble_eq_true rfl)⟩, hts _ (by decide +kernel), hts _ (by decide +kernel)⟩ hs.log rfl rfl rfl hl.1 (Nat.le_of_ble_eq_true rfl) dX6_meanCost_4 ⟨(Nat.le_of_ble_eq_true rfl), (Nat.le_of_ble_eq_true rfl)⟩) (Nat.le_of_ble_eq_true rfl) (Nat.le_of_ble_eq_true rfl) (fun _ _ h => h.elim) (fun v_4 w_4 H locs hq hP hS => ?_)
  obtain ⟨rfl, hw9⟩ := hq
  rw [hw9] at hP
  refine W.eq (g2 := F0 m 7 ls [.int (nI (n_took F))]) rfl ?_
  refine lv_istore_n (lv' := [(1, .int (nI (n_took F))), (0, .ref (AD 5 0))]) hx hb dX6_meanCost_7 rfl hl (by decide) rfl (fun ls hl => ?_)
  refine lv_iload_n hx hb dX6_meanCost_8 rfl (lv_at hl 0 rfl) ?_
  refine lv_if_ne (tgt := 22) hx hb dX6_meanCost_9 (by decide) (fun c_9 => ?_) (fun c_9 => ?_)
  · have q9 : ¬ n_took F = 0 := fun q => c_9 ((nI_e0 (by omega)).mpr q)
    refine lv_aload_n hx hb dX6_meanCost_22 rfl (lv_at hl 1 rfl) ?_
    refine wl_get (T := TX6) C0 hP hs.x hi_RX6 rfl 3 (by decide) hf_30 rfl dX6_meanCost_23 ?_
    refine wl_on C0 ht hP hS (wl_runVN (host := "CallGateway") (As := []) (rest := []) C0 hP hS (k_X0_sumTaken l hst E w H.size F AD N hI hs) ⟨va_cnB 0 hts gX6_meanCost_X0_sumTaken_n269 rfl rfl rfl (C0.2.2.2.2.2.2.2.1.1 _ (by decide +kernel)) (hts _ (by decide +kernel)) (by decide +kernel) ⟨(Nat.le_of_ble_eq_true rfl), (Nat.le_of_ble_eq_true rfl)⟩, hts _ (by decide +kernel), hts _ (by decide +kernel)⟩ hs.log rfl rfl rfl hl.1 (Nat.le_of_ble_eq_true rfl) dX6_meanCost_26 ⟨(Nat.le_of_ble_eq_true rfl), (Nat.le_of_ble_eq_true rfl)⟩) (Nat.le_of_ble_eq_true rfl) (Nat.le_of_ble_eq_true rfl) (fun _ _ h => h.elim) (fun v_26 w_26 H locs hq hP hS => ?_)
    obtain ⟨rfl, hw9⟩ := hq
    rw [hw9] at hP
    refine W.eq (g2 := F0 m 29 ls [.int (nI (t_took F))]) rfl ?_
    refine lv_i2d hx hb dX6_meanCost_29 ?_
    refine lv_iload_n hx hb dX6_meanCost_30 rfl (lv_at hl 0 rfl) ?_
    refine lv_i2d hx hb dX6_meanCost_31 ?_
    refine lv_ddiv hx hb dX6_meanCost_32 (fp_ddiv (by omega) (by omega) q9) ?_
    exact wl_dret C0 hr hP hS dX6_meanCost_33 (Nat.le_of_ble_eq_true rfl) (Nat.le_of_ble_eq_true rfl) (⟨q9, rfl, rfl⟩)
  · have q9 : n_took F = 0 := (nI_e0 (by omega)).mp c_9
    exact wl_throwS (ik := 258) (is := 247) (ic := 262) (i := 19) C0 hst ht (by decide +kernel) (hts _ (by decide +kernel)) (hts _ (by decide +kernel)) rfl (fun _ h => List.mem_cons_of_mem _ (List.mem_append_right _ h)) xc_ARI xn_ARI xg_ARI hP hS hl.1 dX6_meanCost_12 dX6_meanCost_15 dX6_meanCost_16 dX6_meanCost_18 dX6_meanCost_21 (Nat.le_of_ble_eq_true rfl) (Nat.le_of_ble_eq_true rfl) (Nat.le_of_ble_eq_true rfl) (Nat.le_of_ble_eq_true rfl) (Nat.le_of_ble_eq_true rfl) (Nat.le_of_ble_eq_true rfl) (⟨rfl, q9, rfl⟩)
