set_option maxHeartbeats 4000000 in
set_option maxRecDepth 100000 in
theorem k_X0_isFull (l : Launch) (hst : l.stackTraces = false) (E : wEn) (w : wW) (sz : Nat) (F : FF) (AD : AT) (hs : wSys E F AD w) (hn3 : F 24 3 ≤ 512) : wM l yX0_isFull wsX0_isFull 0 0 0 E w sz [.ref (AD 5 4)] (fun v w2 => v = some (.int (bI (decide (512 ≤ F 24 3)))) ∧ w2 = w) (fun _ _ => False) := by
  refine wm_start (own := RX0) (cc := cX0_isFull) (maxL := 1) (ret := (some .boolean)) rfl (by decide) rfl (Nat.le_of_ble_eq_true rfl) ?_
  intro p e s m args below meth c ls C0 hr hin ht hP hS hl
  have hx := C0.1
  have hb := C0.2.1
  have hts := C0.2.2.2.2.1
  have hown := C0.2.2.2.1
  have hl : lv_has ls 1 [(0, .ref (AD 5 4))] := hl
  have hf_17 : (Cond.fieldLink RX0 17 "CallGateway$CallLog" "size" "I").before args s = true := hts _ (by decide +kernel)
  have hf_11 : (Cond.fieldLink RX0 11 "CallGateway$CallLog" "entries" "[LCallGateway$Entry;").before args s = true := hts _ (by decide +kernel)
  have hi_RX0 : ∀ w ∈ u_ws RX0 TX0 2, w ∈ wsX0_isFull := fun _ h => List.mem_cons_of_mem _ (List.mem_append_right _ h)
  refine lv_aload_n hx hb dX0_isFull_0 rfl (lv_at hl 0 rfl) ?_
  refine wl_get (T := TX0) C0 hP hs.log hi_RX0 rfl 1 (by decide) hf_17 rfl dX0_isFull_1 ?_
  refine lv_aload_n hx hb dX0_isFull_4 rfl (lv_at hl 0 rfl) ?_
  refine wl_get (T := TX0) C0 hP hs.log hi_RX0 rfl 0 (by decide) hf_11 rfl dX0_isFull_5 ?_
  refine wl_alen (v := 512) C0 hP hs.aE 7 rfl rfl dX0_isFull_8 ?_
  refine lv_icmp_lt (tgt := 16) hx hb dX0_isFull_9 (by decide) (fun c_9 => ?_) (fun c_9 => ?_)
  · have q9 : F 24 3 < 512 := (nI_ltI (b := 512) (by omega) (by omega)).mp c_9
    refine lv_iconst (v := 0) hx hb dX0_isFull_16 (by decide) ?_
    exact wl_iret C0 hr (by decide) hP hS dX0_isFull_17 (Nat.le_of_ble_eq_true rfl) (Nat.le_of_ble_eq_true rfl) (⟨by rw [decide_eq_false (by omega)]; rfl, rfl⟩)
  · have q9 : ¬ F 24 3 < 512 := fun q => c_9 ((nI_ltI (b := 512) (by omega) (by omega)).mpr q)
    refine lv_iconst (v := 1) hx hb dX0_isFull_12 (by decide) ?_
    refine lv_goto (tgt := 17) hx hb dX0_isFull_13 (by decide) ?_
    exact wl_iret C0 hr (by decide) hP hS dX0_isFull_17 (Nat.le_of_ble_eq_true rfl) (Nat.le_of_ble_eq_true rfl) (⟨by rw [decide_eq_true (by omega)]; rfl, rfl⟩)

set_option maxHeartbeats 4000000 in
set_option maxRecDepth 100000 in
theorem k_X0_entryAt (l : Launch) (hst : l.stackTraces = false) (E : wEn) (w : wW) (sz : Nat) (F : FF) (AD : AT) (hs : wSys E F AD w) (hn3 : F 24 3 ≤ 512) (n : Int32) : wM l yX0_entryAt wsX0_entryAt 0 0 0 E w sz [.ref (AD 5 4), .int n] (fun v w2 => v = some (va_rf (rfX (AD 3) (F 24 3) n)) ∧ w2 = w) (fun _ _ => False) := by
  refine wm_start (own := RX0) (cc := cX0_entryAt) (maxL := 2) (ret := (some (.object "CallGateway$Entry"))) rfl (by decide) rfl (Nat.le_of_ble_eq_true rfl) ?_
  intro p e s m args below meth c ls C0 hr hin ht hP hS hl
  have hx := C0.1
  have hb := C0.2.1
  have hts := C0.2.2.2.2.1
  have hown := C0.2.2.2.1
  have hl : lv_has ls 2 [(0, .ref (AD 5 4)), (1, .int n)] := hl
  have hf_11 : (Cond.fieldLink RX0 11 "CallGateway$CallLog" "entries" "[LCallGateway$Entry;").before args s = true := hts _ (by decide +kernel)
  have hi_RX0 : ∀ w ∈ u_ws RX0 TX0 2, w ∈ wsX0_entryAt := fun _ h => List.mem_cons_of_mem _ (List.mem_append_right _ h)
  refine lv_iload_n hx hb dX0_entryAt_0 rfl (lv_at hl 1 rfl) ?_
  refine lv_if_lt (tgt := 22) hx hb dX0_entryAt_1 (by decide) (fun c_1 => ?_) (fun c_1 => ?_)
  · refine lv_null hx hb dX0_entryAt_22 ?_
    exact wl_aret C0 hr (Or.inl rfl) hP hS dX0_entryAt_23 (Nat.le_of_ble_eq_true rfl) (Nat.le_of_ble_eq_true rfl) (⟨by rw [rfX_no (vpb_neg c_1)]; rfl, rfl⟩)
  · refine lv_iload_n hx hb dX0_entryAt_4 rfl (lv_at hl 1 rfl) ?_
    refine lv_aload_n hx hb dX0_entryAt_5 rfl (lv_at hl 0 rfl) ?_
    refine wl_get (T := TX0) C0 hP hs.log hi_RX0 rfl 0 (by decide) hf_11 rfl dX0_entryAt_6 ?_
    refine wl_alen (v := 512) C0 hP hs.aE 7 rfl rfl dX0_entryAt_9 ?_
    refine lv_icmp_ge (tgt := 22) hx hb dX0_entryAt_10 (by decide) (fun c_10 => ?_) (fun c_10 => ?_)
    · refine lv_null hx hb dX0_entryAt_22 ?_
      exact wl_aret C0 hr (Or.inl rfl) hP hS dX0_entryAt_23 (Nat.le_of_ble_eq_true rfl) (Nat.le_of_ble_eq_true rfl) (⟨by rw [rfX_no (vpb_big (k := 512) (by omega) hn3 c_1 c_10)]; rfl, rfl⟩)
    · refine lv_aload_n hx hb dX0_entryAt_13 rfl (lv_at hl 0 rfl) ?_
      refine wl_get (T := TX0) C0 hP hs.log hi_RX0 rfl 0 (by decide) hf_11 rfl dX0_entryAt_14 ?_
      refine lv_iload_n hx hb dX0_entryAt_17 rfl (lv_at hl 1 rfl) ?_
      refine wl_aldq (t0 := 7) C0 hP rfl hs.aE (vpin_of (n := 512) (by omega) c_1 c_10) dX0_entryAt_18 ?_
      refine wl_rfU (fun h_19 => ?_) (fun h_19 => ?_)
      · refine lv_goto (tgt := 23) hx hb dX0_entryAt_19 (by decide) ?_
        exact wl_aret C0 hr (Or.inr ⟨_, rfl⟩) hP hS dX0_entryAt_23 (Nat.le_of_ble_eq_true rfl) (Nat.le_of_ble_eq_true rfl) (⟨by rw [rfX_ok (vpb_lt c_1 h_19)]; rfl, rfl⟩)
      · refine lv_goto (tgt := 23) hx hb dX0_entryAt_19 (by decide) ?_
        exact wl_aret C0 hr (Or.inl rfl) hP hS dX0_entryAt_23 (Nat.le_of_ble_eq_true rfl) (Nat.le_of_ble_eq_true rfl) (⟨by rw [rfX_no (vpb_ge h_19)]; rfl, rfl⟩)

set_option maxHeartbeats 4000000 in
set_option maxRecDepth 100000 in
theorem k_X0_billOf (l : Launch) (hst : l.stackTraces = false) (E : wEn) (w : wW) (sz : Nat) (F : FF) (AD : AT) (N : Nat) (hI : wInv F N) (hs : wSys E F AD w) (c0 : Nat) (hc : c0 < F 24 2) : wM l yX0_billOf wsX0_billOf 1 0 0 E w sz [.ref (AD 5 4), .int (nI c0)] (fun v w2 => v = some (.long (lN (F 15 c0))) ∧ w2 = w) (fun _ _ => False) := by
  refine wm_start (own := RX0) (cc := cX0_billOf) (maxL := 6) (ret := (some .long)) rfl (by decide) rfl (Nat.le_of_ble_eq_true rfl) ?_
  intro p e s m args below meth c ls C0 hr hin ht hP hS hl
  have hx := C0.1
  have hb := C0.2.1
  have hts := C0.2.2.2.2.1
  have hown := C0.2.2.2.1
  have hl : lv_has ls 6 [(0, .ref (AD 5 4)), (1, .int (nI c0))] := hl
  have hf_17 : (Cond.fieldLink RX0 17 "CallGateway$CallLog" "size" "I").before args s = true := hts _ (by decide +kernel)
  have hf_31 : va_Nw (.fieldLinkNest RX0 31 "CallGateway$Entry" "undone" "Z" "CallGateway") s := C0.2.2.2.2.2.2.2.1.1 _ (by decide +kernel)
  have hf_35 : va_Nw (.fieldLinkNest RX0 35 "CallGateway$Entry" "caller" "LCallGateway$Caller;" "CallGateway") s := C0.2.2.2.2.2.2.2.1.1 _ (by decide +kernel)
  have hf_39 : va_Nw (.fieldLinkNest RX0 39 "CallGateway$Caller" "number" "I" "CallGateway") s := C0.2.2.2.2.2.2.2.1.1 _ (by decide +kernel)
  have hf_44 : va_Nw (.fieldLinkNest RX0 44 "CallGateway$Entry" "added" "I" "CallGateway") s := C0.2.2.2.2.2.2.2.1.1 _ (by decide +kernel)
  have hi_RX0 : ∀ w ∈ u_ws RX0 TX0 2, w ∈ wsX0_billOf := fun _ h => List.mem_cons_of_mem _ (List.mem_append_left _ (List.mem_append_left _ (List.mem_append_right _ h)))
  have hi_RX1 : ∀ w ∈ u_ws RX1 TX1 4, w ∈ wsX0_billOf := fun _ h => List.mem_cons_of_mem _ (List.mem_append_right _ h)
  have hi_RX3 : ∀ w ∈ u_ws RX3 TX3 6, w ∈ wsX0_billOf := fun _ h => List.mem_cons_of_mem _ (List.mem_append_left _ (List.mem_append_right _ h))
  have hn := hI.n
  refine lv_lconst (v := 0) hx hb dX0_billOf_0 (by decide) ?_
  refine lv_lstore_n (lv' := [(2, .long 0), (0, .ref (AD 5 4)), (1, .int (nI c0))]) hx hb dX0_billOf_1 rfl hl (by decide) rfl (fun ls hl => ?_)
  refine lv_iconst (v := 0) hx hb dX0_billOf_2 (by decide) ?_
  refine lv_istore (lv' := [(4, .int 0), (2, .long 0), (0, .ref (AD 5 4)), (1, .int (nI c0))]) hx hb dX0_billOf_3 hl (by decide) rfl (fun ls hl => ?_)
  have LP : ∀ (nF : Nat) (j k : Nat) (H : Heap) (locs : List Loc), wP E.1 (wA w sz) w H → va_S (wA w sz) s.heap H locs → F 24 3 - j < nF → (j ≤ F 24 3) → (k = (sm (fun k => if F 16 k = c0 ∧ F 20 k = 0 then F 19 k else 0)) j) → ∀ (ls : Array Slot), lv_has ls 6 [(0, .ref (AD 5 4)), (1, .int (nI c0)), (2, .long (lN k)), (4, .int (nI j))] → W p l e (wRm 1 0 0) s m args below meth c H locs 0 0 (vx_MQ below (wQ E (wA w sz) (fun v w2 => v = some (.long (lN (F 15 c0))) ∧ w2 = w)) (wX E (wA w sz) (fun _ _ => False)) args s 0 0 (wA w sz)) (F0 m 5 ls []) := by
    intro nF
    induction nF with
    | zero => intro j k H locs hP hS hn; exact absurd hn (Nat.not_lt_zero _)
    | succ nF ih =>
      intro j k H locs hP hS hn i1 i2 ls hl
      refine lv_iload hx hb dX0_billOf_5 (lv_at hl 3 rfl) ?_
      refine lv_aload_n hx hb dX0_billOf_7 rfl (lv_at hl 0 rfl) ?_
      refine wl_get (T := TX0) C0 hP hs.log hi_RX0 rfl 1 (by decide) hf_17 rfl dX0_billOf_8 ?_
      refine lv_icmp_ge (tgt := 62) hx hb dX0_billOf_11 (by decide) (fun c_11 => ?_) (fun c_11 => ?_)
      · have q11 : F 24 3 ≤ j := (nI_leI (by omega) (by omega)).mp c_11
        refine lv_lload_n hx hb dX0_billOf_62 rfl (lv_at hl 2 rfl) ?_
        exact wl_lret C0 hr hP hS dX0_billOf_63 (Nat.le_of_ble_eq_true rfl) (Nat.le_of_ble_eq_true rfl) (⟨by rw [hI.bi hc, i2, show j = F 24 3 by omega], rfl⟩)
      · have q11 : j < F 24 3 := Nat.not_le.mp (fun q => c_11 ((nI_leI (by omega) (by omega)).mpr q))
        have h8 := hI.en q11
        refine lv_aload_n hx hb dX0_billOf_14 rfl (lv_at hl 0 rfl) ?_
        refine lv_iload hx hb dX0_billOf_15 (lv_at hl 3 rfl) ?_
        refine wl_on C0 ht hP hS (wl_runV (As := [.int (nI j)]) (rest := []) C0 hP hS (k_X0_entryAt l hst E w H.size F AD hs (by omega) (nI j)) (cwV 1 hts gX0_billOf_X0_entryAt rfl rfl rfl (by decide +kernel) ⟨(Nat.le_of_ble_eq_true rfl), (Nat.le_of_ble_eq_true rfl)⟩) hs.log rfl rfl rfl hl.1 (Nat.le_of_ble_eq_true rfl) dX0_billOf_17 ⟨(Nat.le_of_ble_eq_true rfl), (Nat.le_of_ble_eq_true rfl)⟩) (Nat.le_of_ble_eq_true rfl) (Nat.le_of_ble_eq_true rfl) (fun _ _ h => h.elim) (fun v_17 w_17 H locs hq hP hS => ?_)
        obtain ⟨rfl, hw9⟩ := hq
        rw [hw9] at hP
        rw [rfX_in q11 (by omega)]
        refine W.eq (g2 := F0 m 20 ls [.ref (AD 3 j)]) rfl ?_
        refine lv_astore (lv' := [(5, .ref (AD 3 j)), (0, .ref (AD 5 4)), (1, .int (nI c0)), (2, .long (lN k)), (4, .int (nI j))]) hx hb dX0_billOf_20 hl (by decide) rfl (fun ls hl => ?_)
        refine lv_aload hx hb dX0_billOf_22 (lv_at hl 0 rfl) ?_
        refine lv_ifnull hx hb dX0_billOf_24 ?_
        refine lv_aload hx hb dX0_billOf_27 (lv_at hl 0 rfl) ?_
        refine wl_getN (T := TX3) C0 hP (wSys.en hs q11) hi_RX3 rfl 5 (by decide) hf_31 rfl dX0_billOf_29 ?_
        refine lv_if_ne (tgt := 56) hx hb dX0_billOf_32 (by decide) (fun c_32 => ?_) (fun c_32 => ?_)
        · have q32 : ¬ F 20 j = 0 := fun q => c_32 ((nI_e0 (by omega)).mpr q)
          refine lv_iinc (v := nI (j + 1)) (lv' := [(4, .int (nI (j + 1))), (5, .ref (AD 3 j)), (0, .ref (AD 5 4)), (1, .int (nI c0)), (2, .long (lN k))]) hx hb dX0_billOf_56 hl (k := 4) rfl (nI_1 _) (by decide) rfl (fun ls hl => ?_)
          refine lv_goto (tgt := 5) hx hb dX0_billOf_59 (by decide) ?_
          exact ih (j + 1) k _ _ hP hS (by omega) (by omega) (by rw [i2, sm_s, if_neg (fun q => q32 q.2)]; rfl) ls (lv_sub hl [2, 3, 4, 0] rfl)
        · have q32 : F 20 j = 0 := (nI_e0 (by omega)).mp c_32
          refine lv_aload hx hb dX0_billOf_35 (lv_at hl 0 rfl) ?_
          refine wl_getN (T := TX3) C0 hP (wSys.en hs q11) hi_RX3 rfl 0 (by decide) hf_35 rfl dX0_billOf_37 ?_
          refine wl_getN (T := TX1) C0 hP (wSys.cl hs h8.1) hi_RX1 rfl 0 (by decide) hf_39 rfl dX0_billOf_40 ?_
          refine lv_iload_n hx hb dX0_billOf_43 rfl (lv_at hl 2 rfl) ?_
          refine lv_icmp_ne (tgt := 56) hx hb dX0_billOf_44 (by decide) (fun c_44 => ?_) (fun c_44 => ?_)
          · have q44 : ¬ F 16 j = c0 := fun q => c_44 ((nI_eq (by omega) (by omega)).mpr q)
            refine lv_iinc (v := nI (j + 1)) (lv' := [(4, .int (nI (j + 1))), (5, .ref (AD 3 j)), (0, .ref (AD 5 4)), (1, .int (nI c0)), (2, .long (lN k))]) hx hb dX0_billOf_56 hl (k := 4) rfl (nI_1 _) (by decide) rfl (fun ls hl => ?_)
            refine lv_goto (tgt := 5) hx hb dX0_billOf_59 (by decide) ?_
            exact ih (j + 1) k _ _ hP hS (by omega) (by omega) (by rw [i2, sm_s, if_neg (fun q => q44 q.1)]; rfl) ls (lv_sub hl [2, 3, 4, 0] rfl)
          · have q44 : F 16 j = c0 := (nI_eq (by omega) (by omega)).mp c_44
            refine lv_lload_n hx hb dX0_billOf_47 rfl (lv_at hl 3 rfl) ?_
            refine lv_aload hx hb dX0_billOf_48 (lv_at hl 0 rfl) ?_
            refine wl_getN (T := TX3) C0 hP (wSys.en hs q11) hi_RX3 rfl 3 (by decide) hf_44 rfl dX0_billOf_50 ?_
            refine lv_i2l (v := (nI (F 19 j)).toInt64) hx hb dX0_billOf_53 rfl ?_
            rw [show ((nI (F 19 j)).toInt64) = (lN (F 19 j)) from nI_l (by omega)]
            refine lv_ladd hx hb dX0_billOf_54 ?_
            rw [show ((lN k) + (lN (F 19 j))) = (lN (k + F 19 j)) from lN_add _ _]
            refine lv_lstore_n (lv' := [(2, .long (lN (k + F 19 j))), (5, .ref (AD 3 j)), (0, .ref (AD 5 4)), (1, .int (nI c0)), (4, .int (nI j))]) hx hb dX0_billOf_55 rfl hl (by decide) rfl (fun ls hl => ?_)
            refine lv_iinc (v := nI (j + 1)) (lv' := [(4, .int (nI (j + 1))), (2, .long (lN (k + F 19 j))), (5, .ref (AD 3 j)), (0, .ref (AD 5 4)), (1, .int (nI c0))]) hx hb dX0_billOf_56 hl (k := 4) rfl (nI_1 _) (by decide) rfl (fun ls hl => ?_)
            refine lv_goto (tgt := 5) hx hb dX0_billOf_59 (by decide) ?_
            exact ih (j + 1) (k + F 19 j) _ _ hP hS (by omega) (by omega) (by rw [i2, sm_s, if_pos ⟨q44, q32⟩]) ls (lv_sub hl [3, 4, 1, 0] rfl)
  exact LP _ 0 0 _ _ hP hS (Nat.lt_succ_self _) (Nat.zero_le _) (rfl) ls (lv_sub hl [2, 3, 1, 0] rfl)

set_option maxHeartbeats 4000000 in
set_option maxRecDepth 100000 in
theorem k_X0_numberOf (l : Launch) (hst : l.stackTraces = false) (E : wEn) (w : wW) (sz : Nat) (F : FF) (AD : AT) (N : Nat) (hI : wInv F N) (hs : wSys E F AD w) (c0 : Nat) (hc : c0 < F 24 2) (kd : Int32) : wM l yX0_numberOf wsX0_numberOf 1 0 0 E w sz [.ref (AD 5 4), .int (nI c0), .int kd] (fun v w2 => v = some (.int (nI ((ct (fun i => decide (F 16 i = c0) && decide (nI (F 17 i) = kd))) (F 24 3)))) ∧ w2 = w) (fun _ _ => False) := by
  refine wm_start (own := RX0) (cc := cX0_numberOf) (maxL := 6) (ret := (some .int)) rfl (by decide) rfl (Nat.le_of_ble_eq_true rfl) ?_
  intro p e s m args below meth c ls C0 hr hin ht hP hS hl
  have hx := C0.1
  have hb := C0.2.1
  have hts := C0.2.2.2.2.1
  have hown := C0.2.2.2.1
  have hl : lv_has ls 6 [(0, .ref (AD 5 4)), (1, .int (nI c0)), (2, .int kd)] := hl
  have hf_17 : (Cond.fieldLink RX0 17 "CallGateway$CallLog" "size" "I").before args s = true := hts _ (by decide +kernel)
  have hf_47 : va_Nw (.fieldLinkNest RX0 47 "CallGateway$Entry" "kind" "C" "CallGateway") s := C0.2.2.2.2.2.2.2.1.1 _ (by decide +kernel)
  have hf_35 : va_Nw (.fieldLinkNest RX0 35 "CallGateway$Entry" "caller" "LCallGateway$Caller;" "CallGateway") s := C0.2.2.2.2.2.2.2.1.1 _ (by decide +kernel)
  have hf_39 : va_Nw (.fieldLinkNest RX0 39 "CallGateway$Caller" "number" "I" "CallGateway") s := C0.2.2.2.2.2.2.2.1.1 _ (by decide +kernel)
  have hi_RX0 : ∀ w ∈ u_ws RX0 TX0 2, w ∈ wsX0_numberOf := fun _ h => List.mem_cons_of_mem _ (List.mem_append_left _ (List.mem_append_left _ (List.mem_append_right _ h)))
  have hi_RX1 : ∀ w ∈ u_ws RX1 TX1 4, w ∈ wsX0_numberOf := fun _ h => List.mem_cons_of_mem _ (List.mem_append_right _ h)
  have hi_RX3 : ∀ w ∈ u_ws RX3 TX3 6, w ∈ wsX0_numberOf := fun _ h => List.mem_cons_of_mem _ (List.mem_append_left _ (List.mem_append_right _ h))
  have hn := hI.n
  refine lv_iconst (v := 0) hx hb dX0_numberOf_0 (by decide) ?_
  refine lv_istore_n (lv' := [(3, .int 0), (0, .ref (AD 5 4)), (1, .int (nI c0)), (2, .int kd)]) hx hb dX0_numberOf_1 rfl hl (by decide) rfl (fun ls hl => ?_)
  refine lv_iconst (v := 0) hx hb dX0_numberOf_2 (by decide) ?_
  refine lv_istore (lv' := [(4, .int 0), (3, .int 0), (0, .ref (AD 5 4)), (1, .int (nI c0)), (2, .int kd)]) hx hb dX0_numberOf_3 hl (by decide) rfl (fun ls hl => ?_)
  have LP : ∀ (nF : Nat) (j k : Nat) (H : Heap) (locs : List Loc), wP E.1 (wA w sz) w H → va_S (wA w sz) s.heap H locs → F 24 3 - j < nF → (j ≤ F 24 3) → (k = (ct (fun i => decide (F 16 i = c0) && decide (nI (F 17 i) = kd))) j) → ∀ (ls : Array Slot), lv_has ls 6 [(0, .ref (AD 5 4)), (1, .int (nI c0)), (2, .int kd), (3, .int (nI k)), (4, .int (nI j))] → W p l e (wRm 1 0 0) s m args below meth c H locs 0 0 (vx_MQ below (wQ E (wA w sz) (fun v w2 => v = some (.int (nI ((ct (fun i => decide (F 16 i = c0) && decide (nI (F 17 i) = kd))) (F 24 3)))) ∧ w2 = w)) (wX E (wA w sz) (fun _ _ => False)) args s 0 0 (wA w sz)) (F0 m 5 ls []) := by
    intro nF
    induction nF with
    | zero => intro j k H locs hP hS hn; exact absurd hn (Nat.not_lt_zero _)
    | succ nF ih =>
      intro j k H locs hP hS hn i1 i2 ls hl
      refine lv_iload hx hb dX0_numberOf_5 (lv_at hl 4 rfl) ?_
      refine lv_aload_n hx hb dX0_numberOf_7 rfl (lv_at hl 0 rfl) ?_
      refine wl_get (T := TX0) C0 hP hs.log hi_RX0 rfl 1 (by decide) hf_17 rfl dX0_numberOf_8 ?_
      refine lv_icmp_ge (tgt := 57) hx hb dX0_numberOf_11 (by decide) (fun c_11 => ?_) (fun c_11 => ?_)
      · have q11 : F 24 3 ≤ j := (nI_leI (by omega) (by omega)).mp c_11
        refine lv_iload_n hx hb dX0_numberOf_57 rfl (lv_at hl 3 rfl) ?_
        exact wl_iret C0 hr rfl hP hS dX0_numberOf_58 (Nat.le_of_ble_eq_true rfl) (Nat.le_of_ble_eq_true rfl) (⟨by rw [i2, show j = F 24 3 by omega], rfl⟩)
      · have q11 : j < F 24 3 := Nat.not_le.mp (fun q => c_11 ((nI_leI (by omega) (by omega)).mpr q))
        have h8 := hI.en q11
        refine lv_aload_n hx hb dX0_numberOf_14 rfl (lv_at hl 0 rfl) ?_
        refine lv_iload hx hb dX0_numberOf_15 (lv_at hl 4 rfl) ?_
        refine wl_on C0 ht hP hS (wl_runV (As := [.int (nI j)]) (rest := []) C0 hP hS (k_X0_entryAt l hst E w H.size F AD hs (by omega) (nI j)) (cwV 1 hts gX0_numberOf_X0_entryAt rfl rfl rfl (by decide +kernel) ⟨(Nat.le_of_ble_eq_true rfl), (Nat.le_of_ble_eq_true rfl)⟩) hs.log rfl rfl rfl hl.1 (Nat.le_of_ble_eq_true rfl) dX0_numberOf_17 ⟨(Nat.le_of_ble_eq_true rfl), (Nat.le_of_ble_eq_true rfl)⟩) (Nat.le_of_ble_eq_true rfl) (Nat.le_of_ble_eq_true rfl) (fun _ _ h => h.elim) (fun v_17 w_17 H locs hq hP hS => ?_)
        obtain ⟨rfl, hw9⟩ := hq
        rw [hw9] at hP
        rw [rfX_in q11 (by omega)]
        refine W.eq (g2 := F0 m 20 ls [.ref (AD 3 j)]) rfl ?_
        refine lv_astore (lv' := [(5, .ref (AD 3 j)), (0, .ref (AD 5 4)), (1, .int (nI c0)), (2, .int kd), (3, .int (nI k)), (4, .int (nI j))]) hx hb dX0_numberOf_20 hl (by decide) rfl (fun ls hl => ?_)
        refine lv_aload hx hb dX0_numberOf_22 (lv_at hl 0 rfl) ?_
        refine lv_ifnull hx hb dX0_numberOf_24 ?_
        refine lv_aload hx hb dX0_numberOf_27 (lv_at hl 0 rfl) ?_
        refine wl_getN (T := TX3) C0 hP (wSys.en hs q11) hi_RX3 rfl 1 (by decide) hf_47 rfl dX0_numberOf_29 ?_
        refine lv_iload_n hx hb dX0_numberOf_32 rfl (lv_at hl 3 rfl) ?_
        refine lv_icmp_ne (tgt := 51) hx hb dX0_numberOf_33 (by decide) (fun c_33 => ?_) (fun c_33 => ?_)
        · refine lv_iinc (v := nI (j + 1)) (lv' := [(4, .int (nI (j + 1))), (5, .ref (AD 3 j)), (0, .ref (AD 5 4)), (1, .int (nI c0)), (2, .int kd), (3, .int (nI k))]) hx hb dX0_numberOf_51 hl (k := 5) rfl (nI_1 _) (by decide) rfl (fun ls hl => ?_)
          refine lv_goto (tgt := 5) hx hb dX0_numberOf_54 (by decide) ?_
          exact ih (j + 1) k _ _ hP hS (by omega) (by omega) (by rw [i2, ct_n (by simp [c_33])]) ls (lv_sub hl [2, 3, 4, 5, 0] rfl)
        · refine lv_aload hx hb dX0_numberOf_36 (lv_at hl 0 rfl) ?_
          refine wl_getN (T := TX3) C0 hP (wSys.en hs q11) hi_RX3 rfl 0 (by decide) hf_35 rfl dX0_numberOf_38 ?_
          refine wl_getN (T := TX1) C0 hP (wSys.cl hs h8.1) hi_RX1 rfl 0 (by decide) hf_39 rfl dX0_numberOf_41 ?_
          refine lv_iload_n hx hb dX0_numberOf_44 rfl (lv_at hl 2 rfl) ?_
          refine lv_icmp_ne (tgt := 51) hx hb dX0_numberOf_45 (by decide) (fun c_45 => ?_) (fun c_45 => ?_)
          · have q45 : ¬ F 16 j = c0 := fun q => c_45 ((nI_eq (by omega) (by omega)).mpr q)
            refine lv_iinc (v := nI (j + 1)) (lv' := [(4, .int (nI (j + 1))), (5, .ref (AD 3 j)), (0, .ref (AD 5 4)), (1, .int (nI c0)), (2, .int kd), (3, .int (nI k))]) hx hb dX0_numberOf_51 hl (k := 5) rfl (nI_1 _) (by decide) rfl (fun ls hl => ?_)
            refine lv_goto (tgt := 5) hx hb dX0_numberOf_54 (by decide) ?_
            exact ih (j + 1) k _ _ hP hS (by omega) (by omega) (by rw [i2, ct_n (by simp [q45])]) ls (lv_sub hl [2, 3, 4, 5, 0] rfl)
          · have q45 : F 16 j = c0 := (nI_eq (by omega) (by omega)).mp c_45
            refine lv_iinc (v := nI (k + 1)) (lv' := [(3, .int (nI (k + 1))), (5, .ref (AD 3 j)), (0, .ref (AD 5 4)), (1, .int (nI c0)), (2, .int kd), (4, .int (nI j))]) hx hb dX0_numberOf_48 hl (k := 4) rfl (nI_1 _) (by decide) rfl (fun ls hl => ?_)
            refine lv_iinc (v := nI (j + 1)) (lv' := [(4, .int (nI (j + 1))), (3, .int (nI (k + 1))), (5, .ref (AD 3 j)), (0, .ref (AD 5 4)), (1, .int (nI c0)), (2, .int kd)]) hx hb dX0_numberOf_51 hl (k := 5) rfl (nI_1 _) (by decide) rfl (fun ls hl => ?_)
            refine lv_goto (tgt := 5) hx hb dX0_numberOf_54 (by decide) ?_
            exact ih (j + 1) (k + 1) _ _ hP hS (by omega) (by omega) (by rw [i2, ct_s (by simp [q45, c_33])]) ls (lv_sub hl [3, 4, 5, 1, 0] rfl)
  exact LP _ 0 0 _ _ hP hS (Nat.lt_succ_self _) (Nat.zero_le _) (rfl) ls (lv_sub hl [2, 3, 4, 1, 0] rfl)

set_option maxHeartbeats 4000000 in
set_option maxRecDepth 100000 in
theorem k_X1_gain (l : Launch) (hst : l.stackTraces = false) (E : wEn) (w : wW) (sz : Nat) (F : FF) (AD : AT) (hs : wSys E F AD w) (i : Nat) (hi : i < F 24 2) (hb6 : F 24 2 ≤ 6) (h13 : F 13 i < F 24 1) (h14 : F 14 i ≤ F 11 (F 13 i)) (h11 : F 11 (F 13 i) ≤ 100) (o : Nat) (ho9 : o ≤ 2000) : wM l yX1_gain wsX1_gain 0 0 0 E w sz [.ref (AD 2 i), .int (nI o)] (fun v w2 => v = some (.int (nI (Nat.min o (F 11 (F 13 i) - F 14 i)))) ∧ wSys E (fU F 14 i (F 14 i + Nat.min o (F 11 (F 13 i) - F 14 i))) AD w2 ∧ wKp w w2) (fun _ _ => False) := by
  refine wm_start (own := RX1) (cc := cX1_gain) (maxL := 3) (ret := (some .int)) rfl (by decide) rfl (Nat.le_of_ble_eq_true rfl) ?_
  intro p e s m args below meth c ls C0 hr hin ht hP hS hl
  have hx := C0.1
  have hb := C0.2.1
  have hts := C0.2.2.2.2.1
  have hown := C0.2.2.2.1
  have hl : lv_has ls 3 [(0, .ref (AD 2 i)), (1, .int (nI o))] := hl
  have hf_13 : (Cond.fieldLink RX1 13 "CallGateway$Caller" "plan" "LCallGateway$Plan;").before args s = true := hts _ (by decide +kernel)
  have hf_17 : va_Nw (.fieldLinkNest RX1 17 "CallGateway$Plan" "burst" "I" "CallGateway") s := C0.2.2.2.2.2.2.2.1.1 _ (by decide +kernel)
  have hf_22 : (Cond.fieldLink RX1 22 "CallGateway$Caller" "tokens" "I").before args s = true := hts _ (by decide +kernel)
  have hi_RX1 : ∀ w ∈ u_ws RX1 TX1 4, w ∈ wsX1_gain := fun _ h => List.mem_cons_of_mem _ (List.mem_append_left _ (List.mem_append_right _ h))
  have hi_RX4 : ∀ w ∈ u_ws RX4 TX4 3, w ∈ wsX1_gain := fun _ h => List.mem_cons_of_mem _ (List.mem_append_right _ h)
  refine lv_iload_n hx hb dX1_gain_0 rfl (lv_at hl 1 rfl) ?_
  refine lv_aload_n hx hb dX1_gain_1 rfl (lv_at hl 0 rfl) ?_
  refine wl_get (T := TX1) C0 hP (wSys.cl hs hi) hi_RX1 rfl 1 (by decide) hf_13 rfl dX1_gain_2 ?_
  refine wl_getN (T := TX4) C0 hP (wSys.pl hs h13) hi_RX4 rfl 1 (by decide) hf_17 rfl dX1_gain_5 ?_
  refine lv_aload_n hx hb dX1_gain_8 rfl (lv_at hl 0 rfl) ?_
  refine wl_get (T := TX1) C0 hP (wSys.cl hs hi) hi_RX1 rfl 2 (by decide) hf_22 rfl dX1_gain_9 ?_
  refine lv_isub hx hb dX1_gain_12 ?_
  rw [show ((nI (F 11 (F 13 i))) - (nI (F 14 i))) = (nI (F 11 (F 13 i) - F 14 i)) from pk_sub h14]
  refine va_mmin hx hb (by rw [C0.2.2.1]; exact hl.1.symm) hown (hts _ (by decide +kernel)) (hts _ (by decide +kernel)) (hts _ (by decide +kernel)) (hts _ (by decide +kernel)) (Nat.le_of_ble_eq_true rfl) (Nat.le_of_ble_eq_true rfl) (Nat.le_of_ble_eq_true rfl) (Nat.le_of_ble_eq_true rfl) dX1_gain_13 ?_
  rw [show (if (nI (F 11 (F 13 i) - F 14 i)) < (nI o) then (nI (F 11 (F 13 i) - F 14 i)) else (nI o)) = (nI (Nat.min o (F 11 (F 13 i) - F 14 i))) from w_min (by omega) (by omega)]
  refine lv_istore_n (lv' := [(2, .int (nI (Nat.min o (F 11 (F 13 i) - F 14 i)))), (0, .ref (AD 2 i)), (1, .int (nI o))]) hx hb dX1_gain_16 rfl hl (by decide) rfl (fun ls hl => ?_)
  refine lv_aload_n hx hb dX1_gain_17 rfl (lv_at hl 1 rfl) ?_
  refine lv_dup hx hb dX1_gain_18 rfl ?_
  refine wl_get (T := TX1) C0 hP (wSys.cl hs hi) hi_RX1 rfl 2 (by decide) hf_22 rfl dX1_gain_19 ?_
  refine lv_iload_n hx hb dX1_gain_22 rfl (lv_at hl 0 rfl) ?_
  refine lv_iadd hx hb dX1_gain_23 ?_
  rw [show ((nI (F 14 i)) + (nI (Nat.min o (F 11 (F 13 i) - F 14 i)))) = (nI (F 14 i + Nat.min o (F 11 (F 13 i) - F 14 i))) from nI_add _ _]
  refine wl_put (T := TX1) (ty0 := tyX1) (fs2 := [.int (nI i), .ref (AD 1 (F 13 i)), .int (nI (F 14 i + Nat.min o (F 11 (F 13 i) - F 14 i))), .long (lN (F 15 i))]) C0 hP hS (wSys.cl hs hi) hi_RX1 tyX1_ok nmX1 rfl 2 (by decide) hf_22 rfl rfl rfl rfl (Nat.le_of_ble_eq_true rfl) rfl dX1_gain_24 (fun H locs hP hS => ?_)
  refine lv_iload_n hx hb dX1_gain_27 rfl (lv_at hl 0 rfl) ?_
  exact wl_iret C0 hr rfl hP hS dX1_gain_28 (Nat.le_of_ble_eq_true rfl) (Nat.le_of_ble_eq_true rfl) (⟨rfl, U_cl hs hi hb6 (fun a b h => by simp only [fU]; (repeat' split) <;> first | rfl | omega) (by rw [wU_s]; simp [e_caller, fU]) (fun b hb9 => wU_n _ _ hb9), wKp.rf.u (hs.cl hi) rfl⟩)

set_option maxHeartbeats 4000000 in
set_option maxRecDepth 100000 in
theorem k_X3_undo (l : Launch) (hst : l.stackTraces = false) (E : wEn) (w : wW) (sz : Nat) (F : FF) (AD : AT) (hs : wSys E F AD w) (k : Nat) (hk : k < F 24 3) (h16 : F 16 k < F 24 2) (hb6 : F 24 2 ≤ 6) (h13 : F 13 (F 16 k) < F 24 1) (h14 : F 14 (F 16 k) ≤ F 11 (F 13 (F 16 k))) (h11 : F 11 (F 13 (F 16 k)) ≤ 100) (h18 : F 18 k ≤ 5) (h19 : F 19 k ≤ F 15 (F 16 k)) (h15 : F 15 (F 16 k) ≤ 1000000) : wM l yX3_undo wsX3_undo 1 0 0 E w sz [.ref (AD 3 k)] (fun v w2 => v = none ∧ wSys E (f_und1 F k) AD w2 ∧ wKp w w2) (fun _ _ => False) := by
  refine wm_start (own := RX3) (cc := cX3_undo) (maxL := 1) (ret := none) rfl (by decide) rfl (Nat.le_of_ble_eq_true rfl) ?_
  intro p e s m args below meth c ls C0 hr hin ht hP hS hl
  have hx := C0.1
  have hb := C0.2.1
  have hts := C0.2.2.2.2.1
  have hown := C0.2.2.2.1
  have hl : lv_has ls 1 [(0, .ref (AD 3 k))] := hl
  have hf_27 : (Cond.fieldLink RX3 27 "CallGateway$Entry" "undone" "Z").before args s = true := hts _ (by decide +kernel)
  have hf_7 : (Cond.fieldLink RX3 7 "CallGateway$Entry" "caller" "LCallGateway$Caller;").before args s = true := hts _ (by decide +kernel)
  have hf_17 : (Cond.fieldLink RX3 17 "CallGateway$Entry" "taken" "I").before args s = true := hts _ (by decide +kernel)
  have hf_37 : va_Nw (.fieldLinkNest RX3 37 "CallGateway$Caller" "bill" "J" "CallGateway") s := C0.2.2.2.2.2.2.2.1.1 _ (by decide +kernel)
  have hf_21 : (Cond.fieldLink RX3 21 "CallGateway$Entry" "added" "I").before args s = true := hts _ (by decide +kernel)
  have hi_RX1 : ∀ w ∈ u_ws RX1 TX1 4, w ∈ wsX3_undo := fun _ h => List.mem_cons_of_mem _ (List.mem_append_left _ (List.mem_append_right _ h))
  have hi_RX3 : ∀ w ∈ u_ws RX3 TX3 6, w ∈ wsX3_undo := fun _ h => List.mem_cons_of_mem _ (List.mem_append_left _ (List.mem_append_left _ (List.mem_append_right _ h)))
  refine lv_aload_n hx hb dX3_undo_0 rfl (lv_at hl 0 rfl) ?_
  refine lv_iconst (v := 1) hx hb dX3_undo_1 (by decide) ?_
  refine wl_put (T := TX3) (ty0 := tyX3) (fs2 := [.ref (AD 2 (F 16 k)), .int (nI (F 17 k)), .int (nI (F 18 k)), .int (nI (F 19 k)), .int (oI (F 23 k)), .int 1]) C0 hP hS (wSys.en hs hk) hi_RX3 tyX3_ok nmX3 rfl 5 (by decide) hf_27 rfl rfl rfl rfl (Nat.le_of_ble_eq_true rfl) rfl dX3_undo_2 (fun H locs hP hS => ?_)
  have hs1 : wSys E (fU (fU F 21 k 0) 20 k 1) AD (wU w (AD 3 k) (.inr (3, [.ref (AD 2 (F 16 k)), .int (nI (F 17 k)), .int (nI (F 18 k)), .int (nI (F 19 k)), .int (oI (F 23 k)), .int 1]))) := U_en (k := k) hs hk (fun a b h => by simp only [fU]; (repeat' split) <;> first | rfl | omega) (by rw [wU_s]; simp [e_entry, fU]; rfl) (fun b hb9 => wU_n _ _ hb9)
  refine lv_aload_n hx hb dX3_undo_5 rfl (lv_at hl 0 rfl) ?_
  have f9_1 : (wU w (AD 3 k) (.inr (3, [.ref (AD 2 (F 16 k)), .int (nI (F 17 k)), .int (nI (F 18 k)), .int (nI (F 19 k)), .int (oI (F 23 k)), .int 1]))) (AD 3 k) = some (.inr (3, [.ref (AD 2 (F 16 k)), .int (nI (F 17 k)), .int (nI (F 18 k)), .int (nI (F 19 k)), .int (oI (F 23 k)), .int 1])) := (wU_s _ _ _)
  refine wl_get (T := TX3) C0 hP f9_1 hi_RX3 rfl 0 (by decide) hf_7 rfl dX3_undo_6 ?_
  refine lv_aload_n hx hb dX3_undo_9 rfl (lv_at hl 0 rfl) ?_
  refine wl_get (T := TX3) C0 hP f9_1 hi_RX3 rfl 2 (by decide) hf_17 rfl dX3_undo_10 ?_
  have f9_2 : (wU w (AD 3 k) (.inr (3, [.ref (AD 2 (F 16 k)), .int (nI (F 17 k)), .int (nI (F 18 k)), .int (nI (F 19 k)), .int (oI (F 23 k)), .int 1]))) (AD 2 (F 16 k)) = some (.inr (1, [.int (nI (F 16 k)), .ref (AD 1 (F 13 (F 16 k))), .int (nI (F 14 (F 16 k))), .long (lN (F 15 (F 16 k)))])) := (wU_n _ _ (wne (wSys.cl hs h16) (wSys.en hs hk) (Nat.ne_of_beq_eq_false rfl))).trans (wSys.cl hs h16)
  refine wl_on C0 ht hP hS (wl_runVN (host := "CallGateway") (As := [.int (nI (F 18 k))]) (rest := []) C0 hP hS (k_X1_gain l hst E (wU w (AD 3 k) (.inr (3, [.ref (AD 2 (F 16 k)), .int (nI (F 17 k)), .int (nI (F 18 k)), .int (nI (F 19 k)), .int (oI (F 23 k)), .int 1]))) H.size (fU (fU F 21 k 0) 20 k 1) AD hs1 (F 16 k) h16 hb6 h13 h14 h11 (F 18 k) (by omega)) ⟨va_cnB 1 hts gX3_undo_X1_gain_n31 rfl rfl rfl (C0.2.2.2.2.2.2.2.1.1 _ (by decide +kernel)) (hts _ (by decide +kernel)) (by decide +kernel) ⟨(Nat.le_of_ble_eq_true rfl), (Nat.le_of_ble_eq_true rfl)⟩, hts _ (by decide +kernel), hts _ (by decide +kernel)⟩ f9_2 rfl rfl rfl hl.1 (Nat.le_of_ble_eq_true rfl) dX3_undo_13 ⟨(Nat.le_of_ble_eq_true rfl), (Nat.le_of_ble_eq_true rfl)⟩) (Nat.le_of_ble_eq_true rfl) (Nat.le_of_ble_eq_true rfl) (fun _ _ h => h.elim) (fun v_13 w_13 H locs hq hP hS => ?_)
  obtain ⟨rfl, hs2, hk2⟩ := hq
  have hs2 : wSys E (fU (fU (fU F 21 k 0) 20 k 1) 14 (F 16 k) (F 14 (F 16 k) + Nat.min (F 18 k) (F 11 (F 13 (F 16 k)) - F 14 (F 16 k)))) AD w_13 := hs2
  have hce : w_13 (AD 2 (F 16 k)) = some (.inr (1, [.int (nI (F 16 k)), .ref (AD 1 (F 13 (F 16 k))), .int (nI (F 14 (F 16 k) + Nat.min (F 18 k) (F 11 (F 13 (F 16 k)) - F 14 (F 16 k)))), .long (lN (F 15 (F 16 k)))])) := by
    have h := hs2.cl (i := (F 16 k)) h16
    simpa [e_caller, fU] using h
  have hee : w_13 (AD 3 k) = some (.inr (3, [.ref (AD 2 (F 16 k)), .int (nI (F 17 k)), .int (nI (F 18 k)), .int (nI (F 19 k)), .int (oI (F 23 k)), .int (nI 1)])) := by
    have h := hs2.en (k := k) hk
    simpa [e_entry, fU] using h
  refine W.eq (g2 := F0 m 16 ls [.int (nI (Nat.min (F 18 k) (F 11 (F 13 (F 16 k)) - F 14 (F 16 k))))]) rfl ?_
  refine lv_pop hx hb dX3_undo_16 rfl ?_
  refine lv_aload_n hx hb dX3_undo_17 rfl (lv_at hl 0 rfl) ?_
  refine wl_get (T := TX3) C0 hP hee hi_RX3 rfl 0 (by decide) hf_7 rfl dX3_undo_18 ?_
  refine lv_dup hx hb dX3_undo_21 rfl ?_
  refine wl_getN (T := TX1) C0 hP hce hi_RX1 rfl 3 (by decide) hf_37 rfl dX3_undo_22 ?_
  refine lv_aload_n hx hb dX3_undo_25 rfl (lv_at hl 0 rfl) ?_
  refine wl_get (T := TX3) C0 hP hee hi_RX3 rfl 3 (by decide) hf_21 rfl dX3_undo_26 ?_
  refine lv_i2l (v := (nI (F 19 k)).toInt64) hx hb dX3_undo_29 rfl ?_
  rw [show ((nI (F 19 k)).toInt64) = (lN (F 19 k)) from nI_l (by omega)]
  refine lv_lsub hx hb dX3_undo_30 ?_
  rw [show ((lN (F 15 (F 16 k))) - (lN (F 19 k))) = (lN (F 15 (F 16 k) - F 19 k)) from lN_sub h19]
  refine wl_putN (T := TX1) (ty0 := tyX1) (fs2 := [.int (nI (F 16 k)), .ref (AD 1 (F 13 (F 16 k))), .int (nI (F 14 (F 16 k) + Nat.min (F 18 k) (F 11 (F 13 (F 16 k)) - F 14 (F 16 k)))), .long (lN (F 15 (F 16 k) - F 19 k))]) C0 hP hS hce hi_RX1 tyX1_ok nmX1 rfl 3 (by decide) hf_37 rfl rfl rfl rfl (Nat.le_of_ble_eq_true rfl) rfl dX3_undo_31 (fun H locs hP hS => ?_)
  exact wl_vret C0 hr hP hS dX3_undo_34 (Nat.le_of_ble_eq_true rfl) (Nat.le_of_ble_eq_true rfl) (⟨rfl, U_cl (i := (F 16 k)) hs2 h16 hb6 (fun a b h => by simp only [f_und1, fU]; (repeat' split) <;> first | rfl | omega) (by rw [wU_s]; simp [e_caller, f_und1, fU, w_tok h14]) (fun b hb9 => wU_n _ _ hb9), ((wKp.rf.u (hs.en hk) rfl).tr hk2).u hce rfl⟩)

set_option maxHeartbeats 4000000 in
set_option maxRecDepth 100000 in
theorem k_X0_undoCallsOf (l : Launch) (hst : l.stackTraces = false) (E : wEn) (w : wW) (sz : Nat) (F : FF) (AD : AT) (N : Nat) (hI : wInv F N) (r : Nat) (hr9 : r < F 24 0) (h5 : F 5 r ≠ 0) (hs : wSys E (f_und F r 0) AD w) : wM l yX0_undoCallsOf wsX0_undoCallsOf 2 0 0 E w sz [.ref (AD 5 4), .int (nI (F 22 r))] (fun v w2 => v = some (.int (nI (n_und F r (F 24 3)))) ∧ wSys E (f_und F r (F 24 3)) AD w2 ∧ wKp w w2) (fun _ _ => False) := by
  refine wm_start (own := RX0) (cc := cX0_undoCallsOf) (maxL := 5) (ret := (some .int)) rfl (by decide) rfl (Nat.le_of_ble_eq_true rfl) ?_
  intro p e s m args below meth c ls C0 hr hin ht hP hS hl
  have hx := C0.1
  have hb := C0.2.1
  have hts := C0.2.2.2.2.1
  have hown := C0.2.2.2.1
  have hl : lv_has ls 5 [(0, .ref (AD 5 4)), (1, .int (nI (F 22 r)))] := hl
  have hf_17 : (Cond.fieldLink RX0 17 "CallGateway$CallLog" "size" "I").before args s = true := hts _ (by decide +kernel)
  have hf_25 : va_Nw (.fieldLinkNest RX0 25 "CallGateway$Entry" "canary" "I" "CallGateway") s := C0.2.2.2.2.2.2.2.1.1 _ (by decide +kernel)
  have hi_RX0 : ∀ w ∈ u_ws RX0 TX0 2, w ∈ wsX0_undoCallsOf := fun _ h => List.mem_cons_of_mem _ (List.mem_append_left _ (List.mem_append_left _ (List.mem_append_left _ (List.mem_append_right _ h))))
  have hi_RX3 : ∀ w ∈ u_ws RX3 TX3 6, w ∈ wsX0_undoCallsOf := fun _ h => List.mem_cons_of_mem _ (List.mem_append_left _ (List.mem_append_left _ (List.mem_append_right _ h)))
  have hn := hI.n
  have hca := hI.ca hr9 h5
  refine lv_iconst (v := 0) hx hb dX0_undoCallsOf_0 (by decide) ?_
  refine lv_istore_n (lv' := [(2, .int 0), (0, .ref (AD 5 4)), (1, .int (nI (F 22 r)))]) hx hb dX0_undoCallsOf_1 rfl hl (by decide) rfl (fun ls hl => ?_)
  refine lv_iconst (v := 0) hx hb dX0_undoCallsOf_2 (by decide) ?_
  refine lv_istore_n (lv' := [(3, .int 0), (2, .int 0), (0, .ref (AD 5 4)), (1, .int (nI (F 22 r)))]) hx hb dX0_undoCallsOf_3 rfl hl (by decide) rfl (fun ls hl => ?_)
  have LP : ∀ (nF : Nat) (j k : Nat) (w1 : wW) (H : Heap) (locs : List Loc), wP E.1 (wA w sz) w1 H → va_S (wA w sz) s.heap H locs → F 24 3 - j < nF → (j ≤ F 24 3) → (k = n_und F r j) → (wSys E (f_und F r j) AD w1) → (wKp w w1) → ∀ (ls : Array Slot), lv_has ls 5 [(0, .ref (AD 5 4)), (1, .int (nI (F 22 r))), (2, .int (nI k)), (3, .int (nI j))] → W p l e (wRm 2 0 0) s m args below meth c H locs 0 0 (vx_MQ below (wQ E (wA w sz) (fun v w2 => v = some (.int (nI (n_und F r (F 24 3)))) ∧ wSys E (f_und F r (F 24 3)) AD w2 ∧ wKp w w2)) (wX E (wA w sz) (fun _ _ => False)) args s 0 0 (wA w sz)) (F0 m 4 ls []) := by
    intro nF
    induction nF with
    | zero => intro j k w1 H locs hP hS hn; exact absurd hn (Nat.not_lt_zero _)
    | succ nF ih =>
      intro j k w1 H locs hP hS hn i1 i2 i3 i4 ls hl
      have hlog : w1 (AD 5 4) = some (.inr (0, [.ref (AD 5 5), .int (nI (F 24 3))])) := by
        have h := i3.log
        simpa only [e_log, und_a (F := F) (r := r) (k := j) (a := 24) (by decide) (by decide) (by decide) (by decide) (by decide)] using h
      refine lv_iload_n hx hb dX0_undoCallsOf_4 rfl (lv_at hl 3 rfl) ?_
      refine lv_aload_n hx hb dX0_undoCallsOf_5 rfl (lv_at hl 0 rfl) ?_
      refine wl_get (T := TX0) C0 hP hlog hi_RX0 rfl 1 (by decide) hf_17 rfl dX0_undoCallsOf_6 ?_
      refine lv_icmp_ge (tgt := 47) hx hb dX0_undoCallsOf_9 (by decide) (fun c_9 => ?_) (fun c_9 => ?_)
      · have q9 : F 24 3 ≤ j := (nI_leI (by omega) (by omega)).mp c_9
        refine lv_iload_n hx hb dX0_undoCallsOf_47 rfl (lv_at hl 2 rfl) ?_
        exact wl_iret C0 hr rfl hP hS dX0_undoCallsOf_48 (Nat.le_of_ble_eq_true rfl) (Nat.le_of_ble_eq_true rfl) (⟨by rw [i2, show j = F 24 3 by omega], by rw [show F 24 3 = j by omega]; exact i3, i4⟩)
      · have q9 : j < F 24 3 := Nat.not_le.mp (fun q => c_9 ((nI_leI (by omega) (by omega)).mpr q))
        have h8 := hI.en q9
        refine lv_aload_n hx hb dX0_undoCallsOf_12 rfl (lv_at hl 0 rfl) ?_
        refine lv_iload_n hx hb dX0_undoCallsOf_13 rfl (lv_at hl 3 rfl) ?_
        refine wl_on C0 ht hP hS (wl_runV (As := [.int (nI j)]) (rest := []) C0 hP hS (k_X0_entryAt l hst E w1 H.size (f_und F r j) AD i3 (by rw [und_a (by decide) (by decide) (by decide) (by decide) (by decide)]; omega) (nI j)) (cwV 1 hts gX0_undoCallsOf_X0_entryAt rfl rfl rfl (by decide +kernel) ⟨(Nat.le_of_ble_eq_true rfl), (Nat.le_of_ble_eq_true rfl)⟩) hlog rfl rfl rfl hl.1 (Nat.le_of_ble_eq_true rfl) dX0_undoCallsOf_14 ⟨(Nat.le_of_ble_eq_true rfl), (Nat.le_of_ble_eq_true rfl)⟩) (Nat.le_of_ble_eq_true rfl) (Nat.le_of_ble_eq_true rfl) (fun _ _ h => h.elim) (fun v_14 w_14 H locs hq hP hS => ?_)
        obtain ⟨rfl, hw9⟩ := hq
        rw [hw9] at hP
        have e24 : f_und F r j 24 3 = F 24 3 := und_a (by decide) (by decide) (by decide) (by decide) (by decide)
        rw [e24, rfX_in q9 (by omega)]
        have hee : w1 (AD 3 j) = some (.inr (3, [.ref (AD 2 (F 16 j)), .int (nI (F 17 j)), .int (nI (F 18 j)), .int (nI (F 19 j)), .int (oI (F 23 j)), .int (nI (f_und F r j 20 j))])) := by
          have h := i3.en (k := j) (by rw [e24]; exact q9)
          simpa only [e_entry, und_a (F := F) (r := r) (k := j) (a := 16) (by decide) (by decide) (by decide) (by decide) (by decide), und_a (F := F) (r := r) (k := j) (a := 17) (by decide) (by decide) (by decide) (by decide) (by decide), und_a (F := F) (r := r) (k := j) (a := 18) (by decide) (by decide) (by decide) (by decide) (by decide), und_a (F := F) (r := r) (k := j) (a := 19) (by decide) (by decide) (by decide) (by decide) (by decide), und_a (F := F) (r := r) (k := j) (a := 23) (by decide) (by decide) (by decide) (by decide) (by decide)] using h
        refine W.eq (g2 := F0 m 17 ls [.ref (AD 3 j)]) rfl ?_
        refine lv_astore (lv' := [(4, .ref (AD 3 j)), (0, .ref (AD 5 4)), (1, .int (nI (F 22 r))), (2, .int (nI k)), (3, .int (nI j))]) hx hb dX0_undoCallsOf_17 hl (by decide) rfl (fun ls hl => ?_)
        refine lv_aload hx hb dX0_undoCallsOf_19 (lv_at hl 0 rfl) ?_
        refine lv_ifnull hx hb dX0_undoCallsOf_21 ?_
        refine lv_aload hx hb dX0_undoCallsOf_24 (lv_at hl 0 rfl) ?_
        refine wl_getN (T := TX3) C0 hP hee hi_RX3 rfl 4 (by decide) hf_25 rfl dX0_undoCallsOf_26 ?_
        refine lv_iload_n hx hb dX0_undoCallsOf_29 rfl (lv_at hl 2 rfl) ?_
        refine lv_icmp_ne (tgt := 41) hx hb dX0_undoCallsOf_30 (by decide) (fun c_30 => ?_) (fun c_30 => ?_)
        · have q30 : ¬ F 21 j = r + 1 := fun q => c_30 ((oI_eq (by omega) (by omega)).mpr (by have h := (hI.op q9 (by omega)).2.1; rw [q] at h; exact h))
          refine lv_iinc (v := nI (j + 1)) (lv' := [(3, .int (nI (j + 1))), (4, .ref (AD 3 j)), (0, .ref (AD 5 4)), (1, .int (nI (F 22 r))), (2, .int (nI k))]) hx hb dX0_undoCallsOf_41 hl (k := 4) rfl (nI_1 _) (by decide) rfl (fun ls hl => ?_)
          refine lv_goto (tgt := 4) hx hb dX0_undoCallsOf_44 (by decide) ?_
          exact ih (j + 1) k w1 _ _ hP hS (by omega) (by omega) (by rw [i2]; exact (ct_n (by simp [q30])).symm) (by rw [und_n q30]; exact i3) (i4) ls (lv_sub hl [2, 3, 4, 0] rfl)
        · have q30 : F 21 j = r + 1 := hI.li q9 hr9 h5 ((oI_eq (by omega) (by omega)).mp c_30)
          refine lv_aload hx hb dX0_undoCallsOf_33 (lv_at hl 0 rfl) ?_
          have hcl := hI.cl h8.1
          have h20 : f_und F r j 20 j = 0 := by
            rw [und_20, if_neg (fun q => Nat.lt_irrefl _ q.1)]
            exact (hI.op q9 (by omega)).2.2
          have h15a : f_und F r j 15 (F 16 j) = _ := und_15 (r := r) hI i1 h8.1
          have h19a : F 19 j ≤ f_und F r j 15 (F 16 j) := by
            have h := sm_ge (f := fun x => if F 16 x = F 16 j ∧ f_und F r j 20 x = 0 then F 19 x else 0) q9
            rw [h15a]
            simpa only [h20, and_self, if_true] using h
          have h15b : f_und F r j 15 (F 16 j) ≤ 1000000 := by
            have h : sm (fun x => if F 16 x = F 16 j ∧ f_und F r j 20 x = 0 then F 19 x else 0) (F 24 3) ≤ F 24 3 * 495 := sm_le (fun x hx => by
              have := (hI.en hx).2.2.2.1
              split <;> omega)
            rw [h15a]
            omega
          refine wl_on C0 ht hP hS (wl_runVN (host := "CallGateway") (As := []) (rest := []) C0 hP hS (k_X3_undo l hst E w1 H.size (f_und F r j) AD i3 j (by rw [e24]; exact q9) (by rw [und_a (a := 16) (by decide) (by decide) (by decide) (by decide) (by decide), und_a (a := 24) (by decide) (by decide) (by decide) (by decide) (by decide)]; exact h8.1) (by rw [und_a (by decide) (by decide) (by decide) (by decide) (by decide)]; omega) (by rw [und_a (a := 16) (by decide) (by decide) (by decide) (by decide) (by decide), und_a (a := 13) (by decide) (by decide) (by decide) (by decide) (by decide), und_a (a := 24) (by decide) (by decide) (by decide) (by decide) (by decide)]; exact hcl.1) (by rw [und_a (a := 16) (by decide) (by decide) (by decide) (by decide) (by decide), und_a (a := 13) (by decide) (by decide) (by decide) (by decide) (by decide), und_a (a := 11) (by decide) (by decide) (by decide) (by decide) (by decide)]; exact und_14 hI h8.1) (by rw [und_a (a := 16) (by decide) (by decide) (by decide) (by decide) (by decide), und_a (a := 13) (by decide) (by decide) (by decide) (by decide) (by decide), und_a (a := 11) (by decide) (by decide) (by decide) (by decide) (by decide)]; exact (hI.pl hcl.1).2.2.2.1) (by rw [und_a (by decide) (by decide) (by decide) (by decide) (by decide)]; omega) (by rw [und_a (a := 16) (by decide) (by decide) (by decide) (by decide) (by decide), und_a (a := 19) (by decide) (by decide) (by decide) (by decide) (by decide)]; exact h19a) (by rw [und_a (a := 16) (by decide) (by decide) (by decide) (by decide) (by decide)]; exact h15b)) ⟨va_cnB 0 hts gX0_undoCallsOf_X3_undo_n28 rfl rfl rfl (C0.2.2.2.2.2.2.2.1.1 _ (by decide +kernel)) (hts _ (by decide +kernel)) (by decide +kernel) ⟨(Nat.le_of_ble_eq_true rfl), (Nat.le_of_ble_eq_true rfl)⟩, hts _ (by decide +kernel), hts _ (by decide +kernel)⟩ hee rfl rfl rfl hl.1 (Nat.le_of_ble_eq_true rfl) dX0_undoCallsOf_35 ⟨(Nat.le_of_ble_eq_true rfl), (Nat.le_of_ble_eq_true rfl)⟩) (Nat.le_of_ble_eq_true rfl) (Nat.le_of_ble_eq_true rfl) (fun _ _ h => h.elim) (fun v_35 w_35 H locs hq hP hS => ?_)
          obtain ⟨rfl, hs2, hk2⟩ := hq
          have hs2 : wSys E (f_und F r (j + 1)) AD w_35 := by
            rw [und_s q30]
            exact hs2
          refine W.eq (g2 := F0 m 38 ls []) rfl ?_
          refine lv_iinc (v := nI (k + 1)) (lv' := [(2, .int (nI (k + 1))), (4, .ref (AD 3 j)), (0, .ref (AD 5 4)), (1, .int (nI (F 22 r))), (3, .int (nI j))]) hx hb dX0_undoCallsOf_38 hl (k := 3) rfl (nI_1 _) (by decide) rfl (fun ls hl => ?_)
          refine lv_iinc (v := nI (j + 1)) (lv' := [(3, .int (nI (j + 1))), (2, .int (nI (k + 1))), (4, .ref (AD 3 j)), (0, .ref (AD 5 4)), (1, .int (nI (F 22 r)))]) hx hb dX0_undoCallsOf_41 hl (k := 4) rfl (nI_1 _) (by decide) rfl (fun ls hl => ?_)
          refine lv_goto (tgt := 4) hx hb dX0_undoCallsOf_44 (by decide) ?_
          exact ih (j + 1) (k + 1) w_35 _ _ hP hS (by omega) (by omega) (by rw [i2]; exact (ct_s (by simp [q30])).symm) (hs2) (i4.tr hk2) ls (lv_sub hl [3, 4, 1, 0] rfl)
  exact LP _ 0 0 w _ _ hP hS (Nat.lt_succ_self _) (Nat.zero_le _) (rfl) (hs) (wKp.rf) ls (lv_sub hl [2, 3, 1, 0] rfl)
