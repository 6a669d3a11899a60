set_option maxHeartbeats 4000000 in
set_option maxRecDepth 100000 in
theorem k_X6_routeWithPath (l : Launch) (hst : l.stackTraces = false) (E : wEn) (w : wW) (sz : Nat) (F : FF) (AD : AT) (N : Nat) (hI : wInv F N) (hs : wSys E F AD w) (p0 : Nat) (hp : p0 ≤ 9999) : wM l yX6_routeWithPath wsX6_routeWithPath 0 0 0 E w sz [.ref (AD 5 0), .int (nI p0)] (fun v w2 => v = some (va_rf (rfU (AD 0) (F 24 0) (wpt F p0))) ∧ w2 = w) (fun _ _ => False) := by
  refine wm_start (own := RX6) (cc := cX6_routeWithPath) (maxL := 6) (ret := (some (.object "CallGateway$Route"))) rfl (by decide) rfl (Nat.le_of_ble_eq_true rfl) ?_
  intro p e s m args below meth c ls C0 hr hin ht hP hS hl
  have hx := C0.1
  have hb := C0.2.1
  have hts := C0.2.2.2.2.1
  have hown := C0.2.2.2.1
  have hl : lv_has ls 6 [(0, .ref (AD 5 0)), (1, .int (nI p0))] := hl
  have hf_11 : (Cond.fieldLink RX6 11 "CallGateway" "routes" "[LCallGateway$Route;").before args s = true := hts _ (by decide +kernel)
  have hf_283 : va_Nw (.fieldLinkNest RX6 283 "CallGateway$Route" "path" "I" "CallGateway") s := C0.2.2.2.2.2.2.2.1.1 _ (by decide +kernel)
  have hi_RX5 : ∀ w ∈ u_ws RX5 TX5 7, w ∈ wsX6_routeWithPath := fun _ h => List.mem_cons_of_mem _ (List.mem_append_right _ h)
  have hi_RX6 : ∀ w ∈ u_ws RX6 TX6 8, w ∈ wsX6_routeWithPath := fun _ h => List.mem_cons_of_mem _ (List.mem_append_left _ (List.mem_append_right _ h))
  have hn := hI.n
  refine lv_aload_n hx hb dX6_routeWithPath_0 rfl (lv_at hl 0 rfl) ?_
  refine wl_get (T := TX6) C0 hP hs.x hi_RX6 rfl 0 (by decide) hf_11 rfl dX6_routeWithPath_1 ?_
  refine lv_astore_n (lv' := [(2, .ref (AD 5 1)), (0, .ref (AD 5 0)), (1, .int (nI p0))]) hx hb dX6_routeWithPath_4 rfl hl (by decide) rfl (fun ls hl => ?_)
  refine lv_aload_n hx hb dX6_routeWithPath_5 rfl (lv_at hl 0 rfl) ?_
  refine wl_alen (v := 8) C0 hP hs.aR 4 rfl rfl dX6_routeWithPath_6 ?_
  refine lv_istore_n (lv' := [(3, .int 8), (2, .ref (AD 5 1)), (0, .ref (AD 5 0)), (1, .int (nI p0))]) hx hb dX6_routeWithPath_7 rfl hl (by decide) rfl (fun ls hl => ?_)
  refine lv_iconst (v := 0) hx hb dX6_routeWithPath_8 (by decide) ?_
  refine lv_istore (lv' := [(4, .int 0), (3, .int 8), (2, .ref (AD 5 1)), (0, .ref (AD 5 0)), (1, .int (nI p0))]) hx hb dX6_routeWithPath_9 hl (by decide) rfl (fun ls hl => ?_)
  have LP : ∀ (nF : Nat) (j : Nat), 8 - j < nF → (j ≤ 8) → (∀ t, t < j → t < F 24 0 → F 0 t ≠ p0) → ∀ (ls : Array Slot), lv_has ls 6 [(0, .ref (AD 5 0)), (1, .int (nI p0)), (2, .ref (AD 5 1)), (3, .int 8), (4, .int (nI j))] → W p l e (wRm 0 0 0) s m args below meth c s.heap [] 0 0 (vx_MQ below (wQ E (wA w sz) (fun v w2 => v = some (va_rf (rfU (AD 0) (F 24 0) (wpt F p0))) ∧ w2 = w)) (wX E (wA w sz) (fun _ _ => False)) args s 0 0 (wA w sz)) (F0 m 11 ls []) := by
    intro nF
    induction nF with
    | zero => intro j hn; exact absurd hn (Nat.not_lt_zero _)
    | succ nF ih =>
      intro j hn i1 i2 ls hl
      refine lv_iload hx hb dX6_routeWithPath_11 (lv_at hl 4 rfl) ?_
      refine lv_iload_n hx hb dX6_routeWithPath_13 rfl (lv_at hl 3 rfl) ?_
      refine lv_icmp_ge (tgt := 46) hx hb dX6_routeWithPath_14 (by decide) (fun c_14 => ?_) (fun c_14 => ?_)
      · have q14 : 8 ≤ j := (nI_leI (a := 8) (b := j) (by omega) (by omega)).mp c_14
        refine lv_null hx hb dX6_routeWithPath_46 ?_
        exact wl_aret C0 hr (Or.inl rfl) hP hS dX6_routeWithPath_47 (Nat.le_of_ble_eq_true rfl) (Nat.le_of_ble_eq_true rfl) (⟨by rw [wpt_all (fun t ht => i2 t (by omega) ht), rfU_ge (Nat.le_refl _)]; rfl, rfl⟩)
      · have q14 : j < 8 := Nat.not_le.mp (fun q => c_14 ((nI_leI (a := 8) (b := j) (by omega) (by omega)).mpr q))
        refine lv_aload_n hx hb dX6_routeWithPath_17 rfl (lv_at hl 2 rfl) ?_
        refine lv_iload hx hb dX6_routeWithPath_18 (lv_at hl 4 rfl) ?_
        refine wl_aldq (t0 := 4) C0 hP rfl hs.aR (vp_in_nI q14 (by omega)) dX6_routeWithPath_20 ?_
        rw [show (nI j).toNatClampNeg = j from nI_clamp (by omega)]
        refine wl_rfU (fun h_21 => ?_) (fun h_21 => ?_)
        · refine lv_astore (lv' := [(5, .ref (AD 0 j)), (0, .ref (AD 5 0)), (1, .int (nI p0)), (2, .ref (AD 5 1)), (3, .int 8), (4, .int (nI j))]) hx hb dX6_routeWithPath_21 hl (by decide) rfl (fun ls hl => ?_)
          refine lv_aload hx hb dX6_routeWithPath_23 (lv_at hl 0 rfl) ?_
          refine lv_ifnull hx hb dX6_routeWithPath_25 ?_
          refine lv_aload hx hb dX6_routeWithPath_28 (lv_at hl 0 rfl) ?_
          refine wl_getN (T := TX5) C0 hP (wSys.ro hs h_21) hi_RX5 rfl 1 (by decide) hf_283 rfl dX6_routeWithPath_30 ?_
          refine lv_iload_n hx hb dX6_routeWithPath_33 rfl (lv_at hl 2 rfl) ?_
          refine lv_icmp_ne (tgt := 40) hx hb dX6_routeWithPath_34 (by decide) (fun c_34 => ?_) (fun c_34 => ?_)
          · have h8 := hI.ro h_21
            refine lv_iinc (v := nI (j + 1)) (lv' := [(4, .int (nI (j + 1))), (5, .ref (AD 0 j)), (0, .ref (AD 5 0)), (1, .int (nI p0)), (2, .ref (AD 5 1)), (3, .int 8)]) hx hb dX6_routeWithPath_40 hl (k := 5) rfl (nI_1 _) (by decide) rfl (fun ls hl => ?_)
            refine lv_goto (tgt := 11) hx hb dX6_routeWithPath_43 (by decide) ?_
            exact ih (j + 1) (by omega) (by omega) (fun t ht h => by
                  rcases Nat.lt_or_ge t j with q | q
                  · exact i2 t q h
                  · have e : t = j := by omega
                    subst e
                    exact fun q => c_34 ((nI_eq (by omega) (by omega)).mpr q)) ls (lv_sub hl [2, 3, 4, 5, 0] rfl)
          · have h8 := hI.ro h_21
            refine lv_aload hx hb dX6_routeWithPath_37 (lv_at hl 0 rfl) ?_
            exact wl_aret C0 hr (Or.inr ⟨_, rfl⟩) hP hS dX6_routeWithPath_39 (Nat.le_of_ble_eq_true rfl) (Nat.le_of_ble_eq_true rfl) (⟨by rw [wpt_eq h_21 ((nI_eq (by omega) (by omega)).mp c_34) (fun t ht => i2 t ht (by omega)), rfU_lt h_21]; rfl, rfl⟩)
        · refine lv_astoreN (lv' := [(5, .null), (0, .ref (AD 5 0)), (1, .int (nI p0)), (2, .ref (AD 5 1)), (3, .int 8), (4, .int (nI j))]) hx hb dX6_routeWithPath_21 hl (by decide) rfl (fun ls hl => ?_)
          refine lv_aloadN hx hb dX6_routeWithPath_23 (lv_at hl 0 rfl) ?_
          refine lv_ifnullN (tgt := 40) hx hb dX6_routeWithPath_25 (by decide) ?_
          refine lv_iinc (v := nI (j + 1)) (lv' := [(4, .int (nI (j + 1))), (5, .null), (0, .ref (AD 5 0)), (1, .int (nI p0)), (2, .ref (AD 5 1)), (3, .int 8)]) hx hb dX6_routeWithPath_40 hl (k := 5) rfl (nI_1 _) (by decide) rfl (fun ls hl => ?_)
          refine lv_goto (tgt := 11) hx hb dX6_routeWithPath_43 (by decide) ?_
          exact ih (j + 1) (by omega) (by omega) (fun t ht h => by
                rcases Nat.lt_or_ge t j with q | q
                · exact i2 t q h
                · have e : t = j := by omega
                  subst e
                  omega) ls (lv_sub hl [2, 3, 4, 5, 0] rfl)
  exact LP _ 0 (Nat.lt_succ_self _) (by omega) (fun t ht => absurd ht (Nat.not_lt_zero _)) ls (lv_sub hl [3, 4, 2, 1, 0] rfl)

set_option maxHeartbeats 4000000 in
set_option maxRecDepth 100000 in
theorem k_X6_routeByTakingOff (l : Launch) (hst : l.stackTraces = false) (E : wEn) (w : wW) (sz : Nat) (F : FF) (AD : AT) (N : Nat) (hI : wInv F N) (hs : wSys E F AD w) (p0 : Nat) (hp : p0 ≤ 9999) : wM l yX6_routeByTakingOff wsX6_routeByTakingOff 1 0 0 E w sz [.ref (AD 5 0), .int (nI p0)] (fun v w2 => v = some (va_rf (rfU (AD 0) (F 24 0) (gN F 4 p0))) ∧ w2 = w) (fun _ _ => False) := by
  refine wm_start (own := RX6) (cc := cX6_routeByTakingOff) (maxL := 5) (ret := (some (.object "CallGateway$Route"))) rfl (by decide) rfl (Nat.le_of_ble_eq_true rfl) ?_
  intro p e s m args below meth c ls C0 hr hin ht hP hS hl
  have hx := C0.1
  have hb := C0.2.1
  have hts := C0.2.2.2.2.1
  have hown := C0.2.2.2.1
  have hl : lv_has ls 5 [(0, .ref (AD 5 0)), (1, .int (nI p0))] := hl
  have hn := hI.n
  refine lv_iload_n hx hb dX6_routeByTakingOff_0 rfl (lv_at hl 1 rfl) ?_
  refine lv_istore_n (lv' := [(2, .int (nI p0)), (0, .ref (AD 5 0)), (1, .int (nI p0))]) hx hb dX6_routeByTakingOff_1 rfl hl (by decide) rfl (fun ls hl => ?_)
  refine lv_iconst (v := 0) hx hb dX6_routeByTakingOff_2 (by decide) ?_
  refine lv_istore_n (lv' := [(3, .int 0), (2, .int (nI p0)), (0, .ref (AD 5 0)), (1, .int (nI p0))]) hx hb dX6_routeByTakingOff_3 rfl hl (by decide) rfl (fun ls hl => ?_)
  have LP : ∀ (nF : Nat) (t r : Nat) (H : Heap) (locs : List Loc), wP E.1 (wA w sz) w H → va_S (wA w sz) s.heap H locs → 5 - t < nF → (t ≤ 5) → (r ≤ 9999) → (t ≤ 4 → gN F (4 - t) r = gN F 4 p0) → (t = 5 → gN F 4 p0 = F 24 0) → ∀ (ls : Array Slot), lv_has ls 5 [(0, .ref (AD 5 0)), (1, .int (nI p0)), (2, .int (nI r)), (3, .int (nI t))] → W p l e (wRm 1 0 0) s m args below meth c H locs 0 0 (vx_MQ below (wQ E (wA w sz) (fun v w2 => v = some (va_rf (rfU (AD 0) (F 24 0) (gN F 4 p0))) ∧ w2 = w)) (wX E (wA w sz) (fun _ _ => False)) args s 0 0 (wA w sz)) (F0 m 4 ls []) := by
    intro nF
    induction nF with
    | zero => intro t r H locs hP hS hn; exact absurd hn (Nat.not_lt_zero _)
    | succ nF ih =>
      intro t r H locs hP hS hn i1 i2 i3 i4 ls hl
      refine lv_iload_n hx hb dX6_routeByTakingOff_4 rfl (lv_at hl 3 rfl) ?_
      refine lv_iconst (v := 4) hx hb dX6_routeByTakingOff_5 (by decide) ?_
      refine lv_icmp_gt (tgt := 35) hx hb dX6_routeByTakingOff_6 (by decide) (fun c_6 => ?_) (fun c_6 => ?_)
      · have q6 : 4 < t := (nI_ltI (a := 4) (b := t) (by omega) (by omega)).mp c_6
        refine lv_null hx hb dX6_routeByTakingOff_35 ?_
        exact wl_aret C0 hr (Or.inl rfl) hP hS dX6_routeByTakingOff_36 (Nat.le_of_ble_eq_true rfl) (Nat.le_of_ble_eq_true rfl) (⟨by rw [i4 (by omega), rfU_ge (Nat.le_refl _)]; rfl, rfl⟩)
      · have q6 : t ≤ 4 := Nat.not_lt.mp (fun q => c_6 ((nI_ltI (a := 4) (b := t) (by omega) (by omega)).mpr q))
        refine lv_aload_n hx hb dX6_routeByTakingOff_9 rfl (lv_at hl 0 rfl) ?_
        refine lv_iload_n hx hb dX6_routeByTakingOff_10 rfl (lv_at hl 2 rfl) ?_
        refine wl_on C0 ht hP hS (wl_runV (As := [.int (nI r)]) (rest := []) C0 hP hS (k_X6_routeWithPath l hst E w H.size F AD N hI hs r i2) (cwV 1 hts gX6_routeByTakingOff_X6_routeWithPath rfl rfl rfl (by decide +kernel) ⟨(Nat.le_of_ble_eq_true rfl), (Nat.le_of_ble_eq_true rfl)⟩) hs.x rfl rfl rfl hl.1 (Nat.le_of_ble_eq_true rfl) dX6_routeByTakingOff_11 ⟨(Nat.le_of_ble_eq_true rfl), (Nat.le_of_ble_eq_true rfl)⟩) (Nat.le_of_ble_eq_true rfl) (Nat.le_of_ble_eq_true rfl) (fun _ _ h => h.elim) (fun v_11 w_11 H locs hq hP hS => ?_)
        obtain ⟨rfl, hw9⟩ := hq
        rw [hw9] at hP
        refine W.eq (g2 := F0 m 14 ls [va_rf (rfU (AD 0) (F 24 0) (wpt F r))]) rfl ?_
        refine wl_rfU (fun h_14 => ?_) (fun h_14 => ?_)
        · refine lv_astore (lv' := [(4, .ref (AD 0 (wpt F r))), (0, .ref (AD 5 0)), (1, .int (nI p0)), (2, .int (nI r)), (3, .int (nI t))]) hx hb dX6_routeByTakingOff_14 hl (by decide) rfl (fun ls hl => ?_)
          refine lv_aload hx hb dX6_routeByTakingOff_16 (lv_at hl 0 rfl) ?_
          refine lv_ifnull hx hb dX6_routeByTakingOff_18 ?_
          refine lv_aload hx hb dX6_routeByTakingOff_21 (lv_at hl 0 rfl) ?_
          exact wl_aret C0 hr (Or.inr ⟨_, rfl⟩) hP hS dX6_routeByTakingOff_23 (Nat.le_of_ble_eq_true rfl) (Nat.le_of_ble_eq_true rfl) (⟨by rw [← i3 (by omega), gN_hit _ h_14, rfU_lt h_14]; rfl, rfl⟩)
        · refine lv_astoreN (lv' := [(4, .null), (0, .ref (AD 5 0)), (1, .int (nI p0)), (2, .int (nI r)), (3, .int (nI t))]) hx hb dX6_routeByTakingOff_14 hl (by decide) rfl (fun ls hl => ?_)
          refine lv_aloadN hx hb dX6_routeByTakingOff_16 (lv_at hl 0 rfl) ?_
          refine lv_ifnullN (tgt := 24) hx hb dX6_routeByTakingOff_18 (by decide) ?_
          refine lv_iload_n hx hb dX6_routeByTakingOff_24 rfl (lv_at hl 3 rfl) ?_
          refine lv_bipush (v := 10) hx hb dX6_routeByTakingOff_25 (by decide) ?_
          refine lv_idiv hx hb dX6_routeByTakingOff_27 (by decide) ?_
          rw [show ((nI r) / 10) = (nI (r / 10)) from pk_div (d := 10) (by omega) (by omega) (by omega)]
          refine lv_istore_n (lv' := [(2, .int (nI (r / 10))), (4, .null), (0, .ref (AD 5 0)), (1, .int (nI p0)), (3, .int (nI t))]) hx hb dX6_routeByTakingOff_28 rfl hl (by decide) rfl (fun ls hl => ?_)
          refine lv_iinc (v := nI (t + 1)) (lv' := [(3, .int (nI (t + 1))), (2, .int (nI (r / 10))), (4, .null), (0, .ref (AD 5 0)), (1, .int (nI p0))]) hx hb dX6_routeByTakingOff_29 hl (k := 4) rfl (nI_1 _) (by decide) rfl (fun ls hl => ?_)
          refine lv_goto (tgt := 4) hx hb dX6_routeByTakingOff_32 (by decide) ?_
          exact ih (t + 1) (r / 10) _ _ hP hS (by omega) (by omega) (by omega) (fun q => by rw [← i3 (by omega), show 4 - t = (4 - (t + 1)) + 1 by omega, gN_step (by omega)]) (fun q => by
                rw [← i3 (by omega), show 4 - t = 0 by omega]
                have h1 := wpt_le F r
                show wpt F r = F 24 0
                omega) ls (lv_sub hl [3, 4, 1, 0] rfl)
  exact LP _ 0 p0 _ _ hP hS (Nat.lt_succ_self _) (by omega) (hp) (fun _ => rfl) (fun q => absurd q (by omega)) ls (lv_sub hl [2, 3, 1, 0] rfl)

set_option maxHeartbeats 4000000 in
set_option maxRecDepth 100000 in
theorem k_X5_fits (l : Launch) (hst : l.stackTraces = false) (E : wEn) (w : wW) (sz : Nat) (F : FF) (AD : AT) (N : Nat) (hI : wInv F N) (hs : wSys E F AD w) (i : Nat) (hi : i < F 24 0) (p0 : Nat) (hp : p0 ≤ 9999) : wM l yX5_fits wsX5_fits 0 0 0 E w sz [.ref (AD 0 i), .int (nI p0)] (fun v w2 => v = some (.int (bI (fitN 4 (F 0 i) p0))) ∧ w2 = w) (fun _ _ => False) := by
  refine wm_start (own := RX5) (cc := cX5_fits) (maxL := 4) (ret := (some .boolean)) rfl (by decide) rfl (Nat.le_of_ble_eq_true rfl) ?_
  intro p e s m args below meth c ls C0 hr hin ht hP hS hl
  have hx := C0.1
  have hb := C0.2.1
  have hts := C0.2.2.2.2.1
  have hown := C0.2.2.2.1
  have hl : lv_has ls 4 [(0, .ref (AD 0 i)), (1, .int (nI p0))] := hl
  have hf_15 : (Cond.fieldLink RX5 15 "CallGateway$Route" "path" "I").before args s = true := hts _ (by decide +kernel)
  have hi_RX5 : ∀ w ∈ u_ws RX5 TX5 7, w ∈ wsX5_fits := fun _ h => List.mem_cons_of_mem _ (List.mem_append_right _ h)
  have hn := hI.n
  have h8 := hI.ro hi
  refine lv_iload_n hx hb dX5_fits_0 rfl (lv_at hl 1 rfl) ?_
  refine lv_istore_n (lv' := [(2, .int (nI p0)), (0, .ref (AD 0 i)), (1, .int (nI p0))]) hx hb dX5_fits_1 rfl hl (by decide) rfl (fun ls hl => ?_)
  refine lv_iconst (v := 0) hx hb dX5_fits_2 (by decide) ?_
  refine lv_istore_n (lv' := [(3, .int 0), (2, .int (nI p0)), (0, .ref (AD 0 i)), (1, .int (nI p0))]) hx hb dX5_fits_3 rfl hl (by decide) rfl (fun ls hl => ?_)
  have LP : ∀ (nF : Nat) (t r : Nat), 5 - t < nF → (t ≤ 5) → (r ≤ 9999) → (t ≤ 4 → fitN (4 - t) (F 0 i) r = fitN 4 (F 0 i) p0) → (t = 5 → fitN 4 (F 0 i) p0 = false) → ∀ (ls : Array Slot), lv_has ls 4 [(0, .ref (AD 0 i)), (1, .int (nI p0)), (2, .int (nI r)), (3, .int (nI t))] → W p l e (wRm 0 0 0) s m args below meth c s.heap [] 0 0 (vx_MQ below (wQ E (wA w sz) (fun v w2 => v = some (.int (bI (fitN 4 (F 0 i) p0))) ∧ w2 = w)) (wX E (wA w sz) (fun _ _ => False)) args s 0 0 (wA w sz)) (F0 m 4 ls []) := by
    intro nF
    induction nF with
    | zero => intro t r hn; exact absurd hn (Nat.not_lt_zero _)
    | succ nF ih =>
      intro t r hn i1 i2 i3 i4 ls hl
      refine lv_iload_n hx hb dX5_fits_4 rfl (lv_at hl 3 rfl) ?_
      refine lv_iconst (v := 4) hx hb dX5_fits_5 (by decide) ?_
      refine lv_icmp_gt (tgt := 30) hx hb dX5_fits_6 (by decide) (fun c_6 => ?_) (fun c_6 => ?_)
      · have q6 : 4 < t := (nI_ltI (a := 4) (b := t) (by omega) (by omega)).mp c_6
        refine lv_iconst (v := 0) hx hb dX5_fits_30 (by decide) ?_
        exact wl_iret C0 hr (by decide) hP hS dX5_fits_31 (Nat.le_of_ble_eq_true rfl) (Nat.le_of_ble_eq_true rfl) (⟨by rw [i4 (by omega)]; rfl, rfl⟩)
      · have q6 : t ≤ 4 := Nat.not_lt.mp (fun q => c_6 ((nI_ltI (a := 4) (b := t) (by omega) (by omega)).mpr q))
        refine lv_iload_n hx hb dX5_fits_9 rfl (lv_at hl 2 rfl) ?_
        refine lv_aload_n hx hb dX5_fits_10 rfl (lv_at hl 0 rfl) ?_
        refine wl_get (T := TX5) C0 hP (wSys.ro hs hi) hi_RX5 rfl 1 (by decide) hf_15 rfl dX5_fits_11 ?_
        refine lv_icmp_ne (tgt := 19) hx hb dX5_fits_14 (by decide) (fun c_14 => ?_) (fun c_14 => ?_)
        · have q14 : ¬ r = F 0 i := fun q => c_14 ((nI_eq (by omega) (by omega)).mpr q)
          refine lv_iload_n hx hb dX5_fits_19 rfl (lv_at hl 2 rfl) ?_
          refine lv_bipush (v := 10) hx hb dX5_fits_20 (by decide) ?_
          refine lv_idiv hx hb dX5_fits_22 (by decide) ?_
          rw [show ((nI r) / 10) = (nI (r / 10)) from pk_div (d := 10) (by omega) (by omega) (by omega)]
          refine lv_istore_n (lv' := [(2, .int (nI (r / 10))), (0, .ref (AD 0 i)), (1, .int (nI p0)), (3, .int (nI t))]) hx hb dX5_fits_23 rfl hl (by decide) rfl (fun ls hl => ?_)
          refine lv_iinc (v := nI (t + 1)) (lv' := [(3, .int (nI (t + 1))), (2, .int (nI (r / 10))), (0, .ref (AD 0 i)), (1, .int (nI p0))]) hx hb dX5_fits_24 hl (k := 3) rfl (nI_1 _) (by decide) rfl (fun ls hl => ?_)
          refine lv_goto (tgt := 4) hx hb dX5_fits_27 (by decide) ?_
          exact ih (t + 1) (r / 10) (by omega) (by omega) (by omega) (fun q => by
                rw [← i3 (by omega), show 4 - t = (4 - (t + 1)) + 1 by omega]
                simp [fitN, q14]) (fun q => by
                rw [← i3 (by omega), show 4 - t = 0 by omega]
                simp [fitN, q14]) ls (lv_sub hl [2, 3, 1, 0] rfl)
        · have q14 : r = F 0 i := (nI_eq (by omega) (by omega)).mp c_14
          refine lv_iconst (v := 1) hx hb dX5_fits_17 (by decide) ?_
          exact wl_iret C0 hr (by decide) hP hS dX5_fits_18 (Nat.le_of_ble_eq_true rfl) (Nat.le_of_ble_eq_true rfl) (⟨by rw [← i3 (by omega), show fitN (4 - t) (F 0 i) r = true by cases (4 - t) <;> simp [fitN, q14]]; rfl, rfl⟩)
  exact LP _ 0 p0 (Nat.lt_succ_self _) (by omega) (hp) (fun _ => rfl) (fun q => absurd q (by omega)) ls (lv_sub hl [2, 3, 1, 0] rfl)

set_option maxHeartbeats 4000000 in
set_option maxRecDepth 100000 in
theorem k_X5_isBrokenBy (l : Launch) (hst : l.stackTraces = false) (E : wEn) (w : wW) (sz : Nat) (F : FF) (AD : AT) (N : Nat) (hI : wInv F N) (hs : wSys E F AD w) (i : Nat) (hi : i < F 24 0) (a0 : Nat) (ha : a0 ≤ 999) : wM l yX5_isBrokenBy wsX5_isBrokenBy 0 0 0 E w sz [.ref (AD 0 i), .int (nI a0)] (fun v w2 => v = some (.int (bI (brk F i a0))) ∧ w2 = w) (fun _ _ => False) := by
  refine wm_start (own := RX5) (cc := cX5_isBrokenBy) (maxL := 2) (ret := (some .boolean)) rfl (by decide) rfl (Nat.le_of_ble_eq_true rfl) ?_
  intro p e s m args below meth c ls C0 hr hin ht hP hS hl
  have hx := C0.1
  have hb := C0.2.1
  have hts := C0.2.2.2.2.1
  have hown := C0.2.2.2.1
  have hl : lv_has ls 2 [(0, .ref (AD 0 i)), (1, .int (nI a0))] := hl
  have hf_21 : (Cond.fieldLink RX5 21 "CallGateway$Route" "least" "I").before args s = true := hts _ (by decide +kernel)
  have hf_24 : (Cond.fieldLink RX5 24 "CallGateway$Route" "greatest" "I").before args s = true := hts _ (by decide +kernel)
  have hi_RX5 : ∀ w ∈ u_ws RX5 TX5 7, w ∈ wsX5_isBrokenBy := fun _ h => List.mem_cons_of_mem _ (List.mem_append_right _ h)
  have h8 := hI.ro hi
  refine lv_iload_n hx hb dX5_isBrokenBy_0 rfl (lv_at hl 1 rfl) ?_
  refine lv_aload_n hx hb dX5_isBrokenBy_1 rfl (lv_at hl 0 rfl) ?_
  refine wl_get (T := TX5) C0 hP (wSys.ro hs hi) hi_RX5 rfl 3 (by decide) hf_21 rfl dX5_isBrokenBy_2 ?_
  refine lv_icmp_lt (tgt := 16) hx hb dX5_isBrokenBy_5 (by decide) (fun c_5 => ?_) (fun c_5 => ?_)
  · have q5 : a0 < F 2 i := (nI_ltI (by omega) (by omega)).mp c_5
    refine lv_iconst (v := 1) hx hb dX5_isBrokenBy_16 (by decide) ?_
    refine lv_goto (tgt := 21) hx hb dX5_isBrokenBy_17 (by decide) ?_
    exact wl_iret C0 hr (by decide) hP hS dX5_isBrokenBy_21 (Nat.le_of_ble_eq_true rfl) (Nat.le_of_ble_eq_true rfl) (⟨by simp [brk, q5, bI], rfl⟩)
  · have q5 : ¬ a0 < F 2 i := fun q => c_5 ((nI_ltI (by omega) (by omega)).mpr q)
    refine lv_iload_n hx hb dX5_isBrokenBy_8 rfl (lv_at hl 1 rfl) ?_
    refine lv_aload_n hx hb dX5_isBrokenBy_9 rfl (lv_at hl 0 rfl) ?_
    refine wl_get (T := TX5) C0 hP (wSys.ro hs hi) hi_RX5 rfl 4 (by decide) hf_24 rfl dX5_isBrokenBy_10 ?_
    refine lv_icmp_le (tgt := 20) hx hb dX5_isBrokenBy_13 (by decide) (fun c_13 => ?_) (fun c_13 => ?_)
    · have q13 : a0 ≤ F 3 i := (nI_leI (by omega) (by omega)).mp c_13
      refine lv_iconst (v := 0) hx hb dX5_isBrokenBy_20 (by decide) ?_
      exact wl_iret C0 hr (by decide) hP hS dX5_isBrokenBy_21 (Nat.le_of_ble_eq_true rfl) (Nat.le_of_ble_eq_true rfl) (⟨by simp [brk, q5, q13, bI], rfl⟩)
    · have q13 : ¬ a0 ≤ F 3 i := fun q => c_13 ((nI_leI (by omega) (by omega)).mpr q)
      refine lv_iconst (v := 1) hx hb dX5_isBrokenBy_16 (by decide) ?_
      refine lv_goto (tgt := 21) hx hb dX5_isBrokenBy_17 (by decide) ?_
      exact wl_iret C0 hr (by decide) hP hS dX5_isBrokenBy_21 (Nat.le_of_ble_eq_true rfl) (Nat.le_of_ble_eq_true rfl) (⟨by simp [brk, Nat.not_le.mp q13, bI], rfl⟩)

set_option maxHeartbeats 4000000 in
set_option maxRecDepth 100000 in
theorem k_X6_longestThatFits (l : Launch) (hst : l.stackTraces = false) (E : wEn) (w : wW) (sz : Nat) (F : FF) (AD : AT) (N : Nat) (hI : wInv F N) (hs : wSys E F AD w) (p0 : Nat) (hp : p0 ≤ 9999) : wM l yX6_longestThatFits wsX6_longestThatFits 1 0 0 E w sz [.ref (AD 5 0), .int (nI p0)] (fun v w2 => v = some (va_rf (rfU (AD 0) (F 24 0) (gN F 4 p0))) ∧ w2 = w) (fun _ _ => False) := by
  refine wm_start (own := RX6) (cc := cX6_longestThatFits) (maxL := 7) (ret := (some (.object "CallGateway$Route"))) rfl (by decide) rfl (Nat.le_of_ble_eq_true rfl) ?_
  intro p e s m args below meth c ls C0 hr hin ht hP hS hl
  have hx := C0.1
  have hb := C0.2.1
  have hts := C0.2.2.2.2.1
  have hown := C0.2.2.2.1
  have hl : lv_has ls 7 [(0, .ref (AD 5 0)), (1, .int (nI p0))] := hl
  have hf_11 : (Cond.fieldLink RX6 11 "CallGateway" "routes" "[LCallGateway$Route;").before args s = true := hts _ (by decide +kernel)
  have hf_283 : va_Nw (.fieldLinkNest RX6 283 "CallGateway$Route" "path" "I" "CallGateway") s := C0.2.2.2.2.2.2.2.1.1 _ (by decide +kernel)
  have hi_RX5 : ∀ w ∈ u_ws RX5 TX5 7, w ∈ wsX6_longestThatFits := fun _ h => List.mem_cons_of_mem _ (List.mem_append_right _ h)
  have hi_RX6 : ∀ w ∈ u_ws RX6 TX6 8, w ∈ wsX6_longestThatFits := fun _ h => List.mem_cons_of_mem _ (List.mem_append_left _ (List.mem_append_right _ h))
  have hn := hI.n
  refine lv_null hx hb dX6_longestThatFits_0 ?_
  refine lv_astore_nN (lv' := [(2, .null), (0, .ref (AD 5 0)), (1, .int (nI p0))]) hx hb dX6_longestThatFits_1 rfl hl (by decide) rfl (fun ls hl => ?_)
  refine lv_aload_n hx hb dX6_longestThatFits_2 rfl (lv_at hl 1 rfl) ?_
  refine wl_get (T := TX6) C0 hP hs.x hi_RX6 rfl 0 (by decide) hf_11 rfl dX6_longestThatFits_3 ?_
  refine lv_astore_n (lv' := [(3, .ref (AD 5 1)), (2, .null), (0, .ref (AD 5 0)), (1, .int (nI p0))]) hx hb dX6_longestThatFits_6 rfl hl (by decide) rfl (fun ls hl => ?_)
  refine lv_aload_n hx hb dX6_longestThatFits_7 rfl (lv_at hl 0 rfl) ?_
  refine wl_alen (v := 8) C0 hP hs.aR 4 rfl rfl dX6_longestThatFits_8 ?_
  refine lv_istore (lv' := [(4, .int 8), (3, .ref (AD 5 1)), (2, .null), (0, .ref (AD 5 0)), (1, .int (nI p0))]) hx hb dX6_longestThatFits_9 hl (by decide) rfl (fun ls hl => ?_)
  refine lv_iconst (v := 0) hx hb dX6_longestThatFits_11 (by decide) ?_
  refine lv_istore (lv' := [(5, .int 0), (4, .int 8), (3, .ref (AD 5 1)), (2, .null), (0, .ref (AD 5 0)), (1, .int (nI p0))]) hx hb dX6_longestThatFits_12 hl (by decide) rfl (fun ls hl => ?_)
  have LP : ∀ (nF : Nat) (j b : Nat) (H : Heap) (locs : List Loc), wP E.1 (wA w sz) w H → va_S (wA w sz) s.heap H locs → 8 - j < nF → (j ≤ 8) → (b ≤ F 24 0) → (b < F 24 0 → b < j ∧ fitN 4 (F 0 b) p0 = true) → (∀ t, t < j → t < F 24 0 → fitN 4 (F 0 t) p0 = true → b < F 24 0 ∧ F 0 t ≤ F 0 b) → ∀ (ls : Array Slot), lv_has ls 7 [(0, .ref (AD 5 0)), (1, .int (nI p0)), (2, va_rf (rfU (AD 0) (F 24 0) b)), (3, .ref (AD 5 1)), (4, .int 8), (5, .int (nI j))] → W p l e (wRm 1 0 0) s m args below meth c H locs 0 0 (vx_MQ below (wQ E (wA w sz) (fun v w2 => v = some (va_rf (rfU (AD 0) (F 24 0) (gN F 4 p0))) ∧ w2 = w)) (wX E (wA w sz) (fun _ _ => False)) args s 0 0 (wA w sz)) (F0 m 14 ls []) := by
    intro nF
    induction nF with
    | zero => intro j b H locs hP hS hn; exact absurd hn (Nat.not_lt_zero _)
    | succ nF ih =>
      intro j b H locs hP hS hn i1 i2 i3 i4 ls hl
      refine lv_iload hx hb dX6_longestThatFits_14 (lv_at hl 5 rfl) ?_
      refine lv_iload hx hb dX6_longestThatFits_16 (lv_at hl 4 rfl) ?_
      refine lv_icmp_ge (tgt := 66) hx hb dX6_longestThatFits_18 (by decide) (fun c_18 => ?_) (fun c_18 => ?_)
      · have q18 : 8 ≤ j := (nI_leI (a := 8) (b := j) (by omega) (by omega)).mp c_18
        rcases Nat.lt_or_ge b (F 24 0) with hb9 | hb9
        · rw [rfU_lt hb9] at hl
          have hl : lv_has ls 7 [(0, .ref (AD 5 0)), (1, .int (nI p0)), (2, .ref (AD 0 b)), (3, .ref (AD 5 1)), (4, .int 8), (5, .int (nI j))] := hl
          refine lv_aload_n hx hb dX6_longestThatFits_66 rfl (lv_at hl 2 rfl) ?_
          exact wl_aret C0 hr (Or.inr ⟨_, rfl⟩) hP hS dX6_longestThatFits_67 (Nat.le_of_ble_eq_true rfl) (Nat.le_of_ble_eq_true rfl) (⟨by rw [gN_max hI hb9 (i3 hb9).2 (fun t ht hf => (i4 t (by omega) ht hf).2), rfU_lt hb9]; rfl, rfl⟩)
        · rw [rfU_ge hb9] at hl
          have hl : lv_has ls 7 [(0, .ref (AD 5 0)), (1, .int (nI p0)), (2, .null), (3, .ref (AD 5 1)), (4, .int 8), (5, .int (nI j))] := hl
          refine lv_aload_nN hx hb dX6_longestThatFits_66 rfl (lv_at hl 2 rfl) ?_
          exact wl_aret C0 hr (Or.inl rfl) hP hS dX6_longestThatFits_67 (Nat.le_of_ble_eq_true rfl) (Nat.le_of_ble_eq_true rfl) (⟨by rw [gN_none (fun t ht => by cases q : fitN 4 (F 0 t) p0 with | false => rfl | true => exact absurd (i4 t (by omega) ht q).1 (by omega)), rfU_ge (Nat.le_refl _)]; rfl, rfl⟩)
      · have q18 : j < 8 := Nat.not_le.mp (fun q => c_18 ((nI_leI (a := 8) (b := j) (by omega) (by omega)).mpr q))
        refine lv_aload_n hx hb dX6_longestThatFits_21 rfl (lv_at hl 3 rfl) ?_
        refine lv_iload hx hb dX6_longestThatFits_22 (lv_at hl 5 rfl) ?_
        refine wl_aldq (t0 := 4) C0 hP rfl hs.aR (vp_in_nI q18 (by omega)) dX6_longestThatFits_24 ?_
        rw [show (nI j).toNatClampNeg = j from nI_clamp (by omega)]
        refine wl_rfU (fun h_25 => ?_) (fun h_25 => ?_)
        · refine lv_astore (lv' := [(6, .ref (AD 0 j)), (0, .ref (AD 5 0)), (1, .int (nI p0)), (2, va_rf (rfU (AD 0) (F 24 0) b)), (3, .ref (AD 5 1)), (4, .int 8), (5, .int (nI j))]) hx hb dX6_longestThatFits_25 hl (by decide) rfl (fun ls hl => ?_)
          refine lv_aload hx hb dX6_longestThatFits_27 (lv_at hl 0 rfl) ?_
          refine lv_ifnull hx hb dX6_longestThatFits_29 ?_
          refine lv_aload hx hb dX6_longestThatFits_32 (lv_at hl 0 rfl) ?_
          refine lv_iload_n hx hb dX6_longestThatFits_34 rfl (lv_at hl 2 rfl) ?_
          refine wl_on C0 ht hP hS (wl_runVN (host := "CallGateway") (As := [.int (nI p0)]) (rest := []) C0 hP hS (k_X5_fits l hst E w H.size F AD N hI hs j h_25 p0 hp) ⟨va_cnB 1 hts gX6_longestThatFits_X5_fits_n286 rfl rfl rfl (C0.2.2.2.2.2.2.2.1.1 _ (by decide +kernel)) (hts _ (by decide +kernel)) (by decide +kernel) ⟨(Nat.le_of_ble_eq_true rfl), (Nat.le_of_ble_eq_true rfl)⟩, hts _ (by decide +kernel), hts _ (by decide +kernel)⟩ (wSys.ro hs h_25) rfl rfl rfl hl.1 (Nat.le_of_ble_eq_true rfl) dX6_longestThatFits_35 ⟨(Nat.le_of_ble_eq_true rfl), (Nat.le_of_ble_eq_true rfl)⟩) (Nat.le_of_ble_eq_true rfl) (Nat.le_of_ble_eq_true rfl) (fun _ _ h => h.elim) (fun v_35 w_35 H locs hq hP hS => ?_)
          obtain ⟨rfl, hw9⟩ := hq
          rw [hw9] at hP
          refine W.eq (g2 := F0 m 38 ls [.int (bI (fitN 4 (F 0 j) p0))]) rfl ?_
          refine lv_if_eq (tgt := 60) hx hb dX6_longestThatFits_38 (by decide) (fun c_38 => ?_) (fun c_38 => ?_)
          · refine lv_iinc (v := nI (j + 1)) (lv' := [(5, .int (nI (j + 1))), (6, .ref (AD 0 j)), (0, .ref (AD 5 0)), (1, .int (nI p0)), (2, va_rf (rfU (AD 0) (F 24 0) b)), (3, .ref (AD 5 1)), (4, .int 8)]) hx hb dX6_longestThatFits_60 hl (k := 6) rfl (nI_1 _) (by decide) rfl (fun ls hl => ?_)
            refine lv_goto (tgt := 14) hx hb dX6_longestThatFits_63 (by decide) ?_
            exact ih (j + 1) b _ _ hP hS (by omega) (by omega) (i2) (fun h => ⟨by have := (i3 h).1; omega, (i3 h).2⟩) (fun t ht hr hf => by
                  rcases Nat.lt_or_ge t j with q | q
                  · exact i4 t q hr hf
                  · have e : t = j := by omega
                    subst e
                    have h9 := bI_0.mp c_38
                    rw [h9] at hf
                    cases hf) ls (lv_sub hl [2, 3, 4, 5, 6, 0] rfl)
          · rcases Nat.lt_or_ge b (F 24 0) with hb9 | hb9
            · rw [rfU_lt hb9] at hl
              have hl : lv_has ls 7 [(6, .ref (AD 0 j)), (0, .ref (AD 5 0)), (1, .int (nI p0)), (2, .ref (AD 0 b)), (3, .ref (AD 5 1)), (4, .int 8), (5, .int (nI j))] := hl
              refine lv_aload_n hx hb dX6_longestThatFits_41 rfl (lv_at hl 3 rfl) ?_
              refine lv_ifnull hx hb dX6_longestThatFits_42 ?_
              refine lv_aload hx hb dX6_longestThatFits_45 (lv_at hl 0 rfl) ?_
              refine wl_getN (T := TX5) C0 hP (wSys.ro hs h_25) hi_RX5 rfl 1 (by decide) hf_283 rfl dX6_longestThatFits_47 ?_
              refine lv_aload_n hx hb dX6_longestThatFits_50 rfl (lv_at hl 3 rfl) ?_
              refine wl_getN (T := TX5) C0 hP (wSys.ro hs hb9) hi_RX5 rfl 1 (by decide) hf_283 rfl dX6_longestThatFits_51 ?_
              refine lv_icmp_le (tgt := 60) hx hb dX6_longestThatFits_54 (by decide) (fun c_54 => ?_) (fun c_54 => ?_)
              · have h8 := hI.ro h_25
                have h7 := hI.ro hb9
                have q54 : F 0 j ≤ F 0 b := (nI_leI (by omega) (by omega)).mp c_54
                refine lv_iinc (v := nI (j + 1)) (lv' := [(5, .int (nI (j + 1))), (6, .ref (AD 0 j)), (0, .ref (AD 5 0)), (1, .int (nI p0)), (2, .ref (AD 0 b)), (3, .ref (AD 5 1)), (4, .int 8)]) hx hb dX6_longestThatFits_60 hl (k := 6) rfl (nI_1 _) (by decide) rfl (fun ls hl => ?_)
                refine lv_goto (tgt := 14) hx hb dX6_longestThatFits_63 (by decide) ?_
                exact ih (j + 1) b _ _ hP hS (by omega) (by omega) (i2) (fun h => ⟨by have := (i3 h).1; omega, (i3 h).2⟩) (fun t ht hr hf => by
                      rcases Nat.lt_or_ge t j with q | q
                      · exact i4 t q hr hf
                      · have e : t = j := by omega
                        subst e
                        exact ⟨hb9, q54⟩) ls (by rw [rfU_lt hb9]; exact lv_sub hl [2, 3, 4, 5, 6, 0] rfl)
              · have h8 := hI.ro h_25
                have h7 := hI.ro hb9
                have q54 : ¬ F 0 j ≤ F 0 b := fun q => c_54 ((nI_leI (by omega) (by omega)).mpr q)
                refine lv_aload hx hb dX6_longestThatFits_57 (lv_at hl 0 rfl) ?_
                refine lv_astore_n (lv' := [(2, .ref (AD 0 j)), (6, .ref (AD 0 j)), (0, .ref (AD 5 0)), (1, .int (nI p0)), (3, .ref (AD 5 1)), (4, .int 8), (5, .int (nI j))]) hx hb dX6_longestThatFits_59 rfl hl (by decide) rfl (fun ls hl => ?_)
                refine lv_iinc (v := nI (j + 1)) (lv' := [(5, .int (nI (j + 1))), (2, .ref (AD 0 j)), (6, .ref (AD 0 j)), (0, .ref (AD 5 0)), (1, .int (nI p0)), (3, .ref (AD 5 1)), (4, .int 8)]) hx hb dX6_longestThatFits_60 hl (k := 6) rfl (nI_1 _) (by decide) rfl (fun ls hl => ?_)
                refine lv_goto (tgt := 14) hx hb dX6_longestThatFits_63 (by decide) ?_
                exact ih (j + 1) j _ _ hP hS (by omega) (by omega) (Nat.le_of_lt h_25) (fun _ => ⟨by omega, bI_n.mp c_38⟩) (fun t ht hr hf => by
                      rcases Nat.lt_or_ge t j with q | q
                      · have h3 := i4 t q hr hf
                        omega
                      · have e : t = j := by omega
                        subst e
                        exact ⟨h_25, Nat.le_refl _⟩) ls (by rw [rfU_lt h_25]; exact lv_sub hl [3, 4, 1, 5, 6, 0] rfl)
            · rw [rfU_ge hb9] at hl
              have hl : lv_has ls 7 [(6, .ref (AD 0 j)), (0, .ref (AD 5 0)), (1, .int (nI p0)), (2, .null), (3, .ref (AD 5 1)), (4, .int 8), (5, .int (nI j))] := hl
              refine lv_aload_nN hx hb dX6_longestThatFits_41 rfl (lv_at hl 3 rfl) ?_
              refine lv_ifnullN (tgt := 57) hx hb dX6_longestThatFits_42 (by decide) ?_
              refine lv_aload hx hb dX6_longestThatFits_57 (lv_at hl 0 rfl) ?_
              refine lv_astore_n (lv' := [(2, .ref (AD 0 j)), (6, .ref (AD 0 j)), (0, .ref (AD 5 0)), (1, .int (nI p0)), (3, .ref (AD 5 1)), (4, .int 8), (5, .int (nI j))]) hx hb dX6_longestThatFits_59 rfl hl (by decide) rfl (fun ls hl => ?_)
              refine lv_iinc (v := nI (j + 1)) (lv' := [(5, .int (nI (j + 1))), (2, .ref (AD 0 j)), (6, .ref (AD 0 j)), (0, .ref (AD 5 0)), (1, .int (nI p0)), (3, .ref (AD 5 1)), (4, .int 8)]) hx hb dX6_longestThatFits_60 hl (k := 6) rfl (nI_1 _) (by decide) rfl (fun ls hl => ?_)
              refine lv_goto (tgt := 14) hx hb dX6_longestThatFits_63 (by decide) ?_
              exact ih (j + 1) j _ _ hP hS (by omega) (by omega) (Nat.le_of_lt h_25) (fun _ => ⟨by omega, bI_n.mp c_38⟩) (fun t ht hr hf => by
                    rcases Nat.lt_or_ge t j with q | q
                    · have h3 := i4 t q hr hf
                      omega
                    · have e : t = j := by omega
                      subst e
                      exact ⟨h_25, Nat.le_refl _⟩) ls (by rw [rfU_lt h_25]; exact lv_sub hl [3, 4, 1, 5, 6, 0] rfl)
        · refine lv_astoreN (lv' := [(6, .null), (0, .ref (AD 5 0)), (1, .int (nI p0)), (2, va_rf (rfU (AD 0) (F 24 0) b)), (3, .ref (AD 5 1)), (4, .int 8), (5, .int (nI j))]) hx hb dX6_longestThatFits_25 hl (by decide) rfl (fun ls hl => ?_)
          refine lv_aloadN hx hb dX6_longestThatFits_27 (lv_at hl 0 rfl) ?_
          refine lv_ifnullN (tgt := 60) hx hb dX6_longestThatFits_29 (by decide) ?_
          refine lv_iinc (v := nI (j + 1)) (lv' := [(5, .int (nI (j + 1))), (6, .null), (0, .ref (AD 5 0)), (1, .int (nI p0)), (2, va_rf (rfU (AD 0) (F 24 0) b)), (3, .ref (AD 5 1)), (4, .int 8)]) hx hb dX6_longestThatFits_60 hl (k := 6) rfl (nI_1 _) (by decide) rfl (fun ls hl => ?_)
          refine lv_goto (tgt := 14) hx hb dX6_longestThatFits_63 (by decide) ?_
          exact ih (j + 1) b _ _ hP hS (by omega) (by omega) (i2) (fun h => ⟨by have := (i3 h).1; omega, (i3 h).2⟩) (fun t ht hr hf => by
                rcases Nat.lt_or_ge t j with q | q
                · exact i4 t q hr hf
                · have e : t = j := by omega
                  subst e
                  omega) ls (lv_sub hl [2, 3, 4, 5, 6, 0] rfl)
  exact LP _ 0 (F 24 0) _ _ hP hS (Nat.lt_succ_self _) (by omega) (Nat.le_refl _) (fun h => absurd h (Nat.lt_irrefl _)) (fun t ht => absurd ht (Nat.not_lt_zero _)) ls (by rw [rfU_ge (Nat.le_refl _)]; exact lv_sub hl [4, 5, 3, 2, 1, 0] rfl)

set_option maxHeartbeats 4000000 in
set_option maxRecDepth 100000 in
theorem k_X6_numberOfCanaries (l : Launch) (hst : l.stackTraces = false) (E : wEn) (w : wW) (sz : Nat) (F : FF) (AD : AT) (hs : wSys E F AD w) (hn8 : F 24 0 ≤ 8) : wM l yX6_numberOfCanaries wsX6_numberOfCanaries 0 0 0 E w sz [.ref (AD 5 0)] (fun v w2 => v = some (.int (nI (ncan F))) ∧ w2 = w) (fun _ _ => False) := by
  refine wm_start (own := RX6) (cc := cX6_numberOfCanaries) (maxL := 6) (ret := (some .int)) rfl (by decide) rfl (Nat.le_of_ble_eq_true rfl) ?_
  intro p e s m args below meth c ls C0 hr hin ht hP hS hl
  have hx := C0.1
  have hb := C0.2.1
  have hts := C0.2.2.2.2.1
  have hown := C0.2.2.2.1
  have hl : lv_has ls 6 [(0, .ref (AD 5 0))] := hl
  have hf_11 : (Cond.fieldLink RX6 11 "CallGateway" "routes" "[LCallGateway$Route;").before args s = true := hts _ (by decide +kernel)
  have hf_104 : va_Nw (.fieldLinkNest RX6 104 "CallGateway$Route" "canary" "LCallGateway$Canary;" "CallGateway") s := C0.2.2.2.2.2.2.2.1.1 _ (by decide +kernel)
  have hi_RX5 : ∀ w ∈ u_ws RX5 TX5 7, w ∈ wsX6_numberOfCanaries := fun _ h => List.mem_cons_of_mem _ (List.mem_append_right _ h)
  have hi_RX6 : ∀ w ∈ u_ws RX6 TX6 8, w ∈ wsX6_numberOfCanaries := fun _ h => List.mem_cons_of_mem _ (List.mem_append_left _ (List.mem_append_right _ h))
  refine lv_iconst (v := 0) hx hb dX6_numberOfCanaries_0 (by decide) ?_
  refine lv_istore_n (lv' := [(1, .int 0), (0, .ref (AD 5 0))]) hx hb dX6_numberOfCanaries_1 rfl hl (by decide) rfl (fun ls hl => ?_)
  refine lv_aload_n hx hb dX6_numberOfCanaries_2 rfl (lv_at hl 1 rfl) ?_
  refine wl_get (T := TX6) C0 hP hs.x hi_RX6 rfl 0 (by decide) hf_11 rfl dX6_numberOfCanaries_3 ?_
  refine lv_astore_n (lv' := [(2, .ref (AD 5 1)), (1, .int 0), (0, .ref (AD 5 0))]) hx hb dX6_numberOfCanaries_6 rfl hl (by decide) rfl (fun ls hl => ?_)
  refine lv_aload_n hx hb dX6_numberOfCanaries_7 rfl (lv_at hl 0 rfl) ?_
  refine wl_alen (v := 8) C0 hP hs.aR 4 rfl rfl dX6_numberOfCanaries_8 ?_
  refine lv_istore_n (lv' := [(3, .int 8), (2, .ref (AD 5 1)), (1, .int 0), (0, .ref (AD 5 0))]) hx hb dX6_numberOfCanaries_9 rfl hl (by decide) rfl (fun ls hl => ?_)
  refine lv_iconst (v := 0) hx hb dX6_numberOfCanaries_10 (by decide) ?_
  refine lv_istore (lv' := [(4, .int 0), (3, .int 8), (2, .ref (AD 5 1)), (1, .int 0), (0, .ref (AD 5 0))]) hx hb dX6_numberOfCanaries_11 hl (by decide) rfl (fun ls hl => ?_)
  have LP : ∀ (nF : Nat) (j k : Nat), 8 - j < nF → (j ≤ 8) → (k = ct (fun i => decide (F 5 i ≠ 0)) (Nat.min j (F 24 0))) → ∀ (ls : Array Slot), lv_has ls 6 [(0, .ref (AD 5 0)), (1, .int (nI k)), (2, .ref (AD 5 1)), (3, .int 8), (4, .int (nI j))] → W p l e (wRm 0 0 0) s m args below meth c s.heap [] 0 0 (vx_MQ below (wQ E (wA w sz) (fun v w2 => v = some (.int (nI (ncan F))) ∧ w2 = w)) (wX E (wA w sz) (fun _ _ => False)) args s 0 0 (wA w sz)) (F0 m 13 ls []) := by
    intro nF
    induction nF with
    | zero => intro j k hn; exact absurd hn (Nat.not_lt_zero _)
    | succ nF ih =>
      intro j k hn i1 i2 ls hl
      refine lv_iload hx hb dX6_numberOfCanaries_13 (lv_at hl 4 rfl) ?_
      refine lv_iload_n hx hb dX6_numberOfCanaries_15 rfl (lv_at hl 3 rfl) ?_
      refine lv_icmp_ge (tgt := 47) hx hb dX6_numberOfCanaries_16 (by decide) (fun c_16 => ?_) (fun c_16 => ?_)
      · have q16 : 8 ≤ j := (nI_leI (a := 8) (b := j) (by omega) (by omega)).mp c_16
        refine lv_iload_n hx hb dX6_numberOfCanaries_47 rfl (lv_at hl 1 rfl) ?_
        exact wl_iret C0 hr rfl hP hS dX6_numberOfCanaries_48 (Nat.le_of_ble_eq_true rfl) (Nat.le_of_ble_eq_true rfl) (⟨by rw [i2, min_ge (by omega)]; rfl, rfl⟩)
      · have q16 : j < 8 := Nat.not_le.mp (fun q => c_16 ((nI_leI (a := 8) (b := j) (by omega) (by omega)).mpr q))
        refine lv_aload_n hx hb dX6_numberOfCanaries_19 rfl (lv_at hl 2 rfl) ?_
        refine lv_iload hx hb dX6_numberOfCanaries_20 (lv_at hl 4 rfl) ?_
        refine wl_aldq (t0 := 4) C0 hP rfl hs.aR (vp_in_nI q16 (by omega)) dX6_numberOfCanaries_22 ?_
        rw [show (nI j).toNatClampNeg = j from nI_clamp (by omega)]
        refine wl_rfU (fun h_23 => ?_) (fun h_23 => ?_)
        · refine lv_astore (lv' := [(5, .ref (AD 0 j)), (0, .ref (AD 5 0)), (1, .int (nI k)), (2, .ref (AD 5 1)), (3, .int 8), (4, .int (nI j))]) hx hb dX6_numberOfCanaries_23 hl (by decide) rfl (fun ls hl => ?_)
          refine lv_aload hx hb dX6_numberOfCanaries_25 (lv_at hl 0 rfl) ?_
          refine lv_ifnull hx hb dX6_numberOfCanaries_27 ?_
          refine lv_aload hx hb dX6_numberOfCanaries_30 (lv_at hl 0 rfl) ?_
          refine wl_getN (T := TX5) C0 hP (wSys.ro hs h_23) hi_RX5 rfl 6 (by decide) hf_104 rfl dX6_numberOfCanaries_32 ?_
          refine wl_rfC (fun h_35 => ?_) (fun h_35 => ?_)
          · refine lv_ifnullN (tgt := 41) hx hb dX6_numberOfCanaries_35 (by decide) ?_
            refine lv_iinc (v := nI (j + 1)) (lv' := [(4, .int (nI (j + 1))), (5, .ref (AD 0 j)), (0, .ref (AD 5 0)), (1, .int (nI k)), (2, .ref (AD 5 1)), (3, .int 8)]) hx hb dX6_numberOfCanaries_41 hl (k := 5) rfl (nI_1 _) (by decide) rfl (fun ls hl => ?_)
            refine lv_goto (tgt := 13) hx hb dX6_numberOfCanaries_44 (by decide) ?_
            exact ih (j + 1) k (by omega) (by omega) (by rw [i2, min_in h_23, min_lt h_23, ct_n (by simp [h_35])]) ls (lv_sub hl [2, 3, 4, 5, 0] rfl)
          · refine lv_ifnull hx hb dX6_numberOfCanaries_35 ?_
            refine lv_iinc (v := nI (k + 1)) (lv' := [(1, .int (nI (k + 1))), (5, .ref (AD 0 j)), (0, .ref (AD 5 0)), (2, .ref (AD 5 1)), (3, .int 8), (4, .int (nI j))]) hx hb dX6_numberOfCanaries_38 hl (k := 2) rfl (nI_1 _) (by decide) rfl (fun ls hl => ?_)
            refine lv_iinc (v := nI (j + 1)) (lv' := [(4, .int (nI (j + 1))), (1, .int (nI (k + 1))), (5, .ref (AD 0 j)), (0, .ref (AD 5 0)), (2, .ref (AD 5 1)), (3, .int 8)]) hx hb dX6_numberOfCanaries_41 hl (k := 5) rfl (nI_1 _) (by decide) rfl (fun ls hl => ?_)
            refine lv_goto (tgt := 13) hx hb dX6_numberOfCanaries_44 (by decide) ?_
            exact ih (j + 1) (k + 1) (by omega) (by omega) (by rw [i2, min_in h_23, min_lt h_23, ct_s (by simp [h_35])]) ls (lv_sub hl [3, 1, 4, 5, 0] rfl)
        · refine lv_astoreN (lv' := [(5, .null), (0, .ref (AD 5 0)), (1, .int (nI k)), (2, .ref (AD 5 1)), (3, .int 8), (4, .int (nI j))]) hx hb dX6_numberOfCanaries_23 hl (by decide) rfl (fun ls hl => ?_)
          refine lv_aloadN hx hb dX6_numberOfCanaries_25 (lv_at hl 0 rfl) ?_
          refine lv_ifnullN (tgt := 41) hx hb dX6_numberOfCanaries_27 (by decide) ?_
          refine lv_iinc (v := nI (j + 1)) (lv' := [(4, .int (nI (j + 1))), (5, .null), (0, .ref (AD 5 0)), (1, .int (nI k)), (2, .ref (AD 5 1)), (3, .int 8)]) hx hb dX6_numberOfCanaries_41 hl (k := 5) rfl (nI_1 _) (by decide) rfl (fun ls hl => ?_)
          refine lv_goto (tgt := 13) hx hb dX6_numberOfCanaries_44 (by decide) ?_
          exact ih (j + 1) k (by omega) (by omega) (by rw [i2, min_up (by omega)]) ls (lv_sub hl [2, 3, 4, 5, 0] rfl)
  exact LP _ 0 0 (Nat.lt_succ_self _) (by omega) (by rw [show Nat.min 0 (F 24 0) = 0 from Nat.min_eq_left (Nat.zero_le _)]; rfl) ls (lv_sub hl [4, 3, 2, 1, 0] rfl)
