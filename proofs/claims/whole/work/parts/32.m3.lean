theorem sp_0 {a b : Nat} (h : a ≤ b) : nI (a - b) = 0 := by
  rw [Nat.sub_eq_zero_of_le h]
  exact nI_0
set_option maxHeartbeats 4000000 in
set_option maxRecDepth 100000 in
theorem k_X7_addPlan (l : Launch) (hst : l.stackTraces = false) (E : wEn) (w : wW) (sz : Nat) (F : FF) (MA : Nat → Nat) (mo : Nat) (cd : Int32) (N : Nat) (hI : wInv F N) (hm : wMod E F MA mo cd w) (r1 b1 p1 : Int32) : wM l yX7_addPlan wsX7_addPlan 2 0 0 E w sz [.ref mo, .int r1, .int b1, .int p1] (fun v w2 => v = some (.int (s_addPlan F r1 b1 p1).2.1) ∧ wMod E (s_addPlan F r1 b1 p1).2.2 MA mo (nI (s_addPlan F r1 b1 p1).1) w2 ∧ wKm mo MA w w2) (fun _ _ => False) := by
  refine wm_start (own := RX7) (cc := cX7_addPlan) (maxL := 4) (ret := (some .int)) rfl (by decide) rfl (Nat.le_of_ble_eq_true rfl) ?_
  intro p e s m args below meth c ls C0 hr hin ht hP hS hl
  have hx := C0.1
  have hb := C0.2.1
  have hts := C0.2.2.2.2.1
  have hown := C0.2.2.2.1
  have hl : lv_has ls 4 [(0, .ref mo), (1, .int r1), (2, .int b1), (3, .int p1)] := hl
  have hf_79 : (Cond.fieldLink RX7 79 "CallGatewayModel" "code" "I").before args s = true := hts _ (by decide +kernel)
  have hf_127 : (Cond.fieldLink RX7 127 "CallGatewayModel" "plans" "I").before args s = true := hts _ (by decide +kernel)
  have hf_41 : (Cond.fieldLink RX7 41 "CallGatewayModel" "rates" "[I").before args s = true := hts _ (by decide +kernel)
  have hf_44 : (Cond.fieldLink RX7 44 "CallGatewayModel" "bursts" "[I").before args s = true := hts _ (by decide +kernel)
  have hf_47 : (Cond.fieldLink RX7 47 "CallGatewayModel" "prices" "[I").before args s = true := hts _ (by decide +kernel)
  have hi_RX7 : ∀ w ∈ u_ws RX7 TX7 27, w ∈ wsX7_addPlan := fun _ h => List.mem_cons_of_mem _ (List.mem_append_left _ (List.mem_append_right _ h))
  have hn := hI.n
  have hn9 := hI.n
  refine lv_aload_n hx hb dX7_addPlan_0 rfl (lv_at hl 0 rfl) ?_
  refine lv_iconst (v := 0) hx hb dX7_addPlan_1 (by decide) ?_
  refine wl_put (T := TX7) (ty0 := tyX7) (fs2 := [.int 0, .int (nI (F 24 0)), .ref (MA 0), .ref (MA 1), .ref (MA 2), .ref (MA 3), .ref (MA 4), .ref (MA 5), .ref (MA 6), .ref (MA 7), .ref (MA 8), .ref (MA 9), .int (nI (F 24 1)), .ref (MA 10), .ref (MA 11), .ref (MA 12), .int (nI (F 24 2)), .ref (MA 13), .ref (MA 14), .ref (MA 15), .int (nI (F 24 3)), .ref (MA 16), .ref (MA 17), .ref (MA 18), .ref (MA 19), .ref (MA 20), .ref (MA 21)]) C0 hP hS (show w mo = some (.inr (7, [.int cd, .int (nI (F 24 0)), .ref (MA 0), .ref (MA 1), .ref (MA 2), .ref (MA 3), .ref (MA 4), .ref (MA 5), .ref (MA 6), .ref (MA 7), .ref (MA 8), .ref (MA 9), .int (nI (F 24 1)), .ref (MA 10), .ref (MA 11), .ref (MA 12), .int (nI (F 24 2)), .ref (MA 13), .ref (MA 14), .ref (MA 15), .int (nI (F 24 3)), .ref (MA 16), .ref (MA 17), .ref (MA 18), .ref (MA 19), .ref (MA 20), .ref (MA 21)])) from hm.x) hi_RX7 tyX7_ok nmX7 rfl 0 (by decide) hf_79 rfl rfl rfl rfl (Nat.le_of_ble_eq_true rfl) rfl dX7_addPlan_2 (fun H locs hP hS => ?_)
  obtain ⟨w_2_0, hw9, hm_2_0, hk_2_0⟩ : ∃ wz : wW, wz = wU w mo (.inr (7, [.int 0, .int (nI (F 24 0)), .ref (MA 0), .ref (MA 1), .ref (MA 2), .ref (MA 3), .ref (MA 4), .ref (MA 5), .ref (MA 6), .ref (MA 7), .ref (MA 8), .ref (MA 9), .int (nI (F 24 1)), .ref (MA 10), .ref (MA 11), .ref (MA 12), .int (nI (F 24 2)), .ref (MA 13), .ref (MA 14), .ref (MA 15), .int (nI (F 24 3)), .ref (MA 16), .ref (MA 17), .ref (MA 18), .ref (MA 19), .ref (MA 20), .ref (MA 21)])) ∧ wMod E F MA mo (nI 0) wz ∧ wKm mo MA w wz := ⟨_, rfl, M_o (F := F) (G := F) (cd2 := nI 0) hm (fun a b h => rfl), wKm.rf.tr wKm.o⟩
  rw [← hw9] at hP
  refine lv_iload_n hx hb dX7_addPlan_5 rfl (lv_at hl 1 rfl) ?_
  refine lv_iconst (v := 1) hx hb dX7_addPlan_6 (by decide) ?_
  refine lv_bipush (v := 20) hx hb dX7_addPlan_7 (by decide) ?_
  refine wl_on C0 ht hP hS (wl_runS (As := [.int r1, .int 1, .int 20]) (rest := []) C0 hP hS (k_X7_in l hst E w_2_0 H.size r1 1 20) (va_cwS 3 hts gX7_addPlan_X7_in rfl rfl rfl (by decide +kernel) ⟨(Nat.le_of_ble_eq_true rfl), (Nat.le_of_ble_eq_true rfl)⟩) rfl rfl hl.1 (Nat.le_of_ble_eq_true rfl) dX7_addPlan_9 ⟨(Nat.le_of_ble_eq_true rfl), (Nat.le_of_ble_eq_true rfl)⟩) (Nat.le_of_ble_eq_true rfl) (Nat.le_of_ble_eq_true rfl) (fun _ _ h => h.elim) (fun v_9 w_9 H locs hq hP hS => ?_)
  obtain ⟨rfl, hw9⟩ := hq
  rw [hw9] at hP
  refine W.eq (g2 := F0 m 12 ls [.int (bI (wi r1 1 20))]) rfl ?_
  refine lv_if_eq (tgt := 35) hx hb dX7_addPlan_12 (by decide) (fun c_12 => ?_) (fun c_12 => ?_)
  · have q12 : wi r1 1 20 = false := bI_0.mp c_12
    refine lv_aload_n hx hb dX7_addPlan_35 rfl (lv_at hl 0 rfl) ?_
    refine lv_iconst (v := 1) hx hb dX7_addPlan_36 (by decide) ?_
    refine wl_on C0 ht hP hS (wl_runV (As := [.int 1]) (rest := []) C0 hP hS (k_X7_fails l hst E w_2_0 H.size F MA mo (nI 0) 1 hm_2_0) (cwV 1 hts gX7_addPlan_X7_fails rfl rfl rfl (by decide +kernel) ⟨(Nat.le_of_ble_eq_true rfl), (Nat.le_of_ble_eq_true rfl)⟩) (show w_2_0 mo = some (.inr (7, [.int (nI 0), .int (nI (F 24 0)), .ref (MA 0), .ref (MA 1), .ref (MA 2), .ref (MA 3), .ref (MA 4), .ref (MA 5), .ref (MA 6), .ref (MA 7), .ref (MA 8), .ref (MA 9), .int (nI (F 24 1)), .ref (MA 10), .ref (MA 11), .ref (MA 12), .int (nI (F 24 2)), .ref (MA 13), .ref (MA 14), .ref (MA 15), .int (nI (F 24 3)), .ref (MA 16), .ref (MA 17), .ref (MA 18), .ref (MA 19), .ref (MA 20), .ref (MA 21)])) from hm_2_0.x) rfl rfl rfl hl.1 (Nat.le_of_ble_eq_true rfl) dX7_addPlan_37 ⟨(Nat.le_of_ble_eq_true rfl), (Nat.le_of_ble_eq_true rfl)⟩) (Nat.le_of_ble_eq_true rfl) (Nat.le_of_ble_eq_true rfl) (fun _ _ h => h.elim) (fun v_37 w_37 H locs hq hP hS => ?_)
    obtain ⟨rfl, hm_37_1, hk2_37_1⟩ := hq
    have hk_37_1 := hk_2_0.tr hk2_37_1
    refine W.eq (g2 := F0 m 40 ls [.int 0]) rfl ?_
    have hev : s_addPlan F r1 b1 p1 = (1, 0, F) := by simp [s_addPlan, q12]
    exact wl_iret C0 hr rfl hP hS dX7_addPlan_40 (Nat.le_of_ble_eq_true rfl) (Nat.le_of_ble_eq_true rfl) (⟨by rw [hev], by rw [hev]; exact hm_37_1, hk_37_1⟩)
  · have q12 : wi r1 1 20 = true := bI_n.mp c_12
    have hrt := wi_tn (lo := 1) (hi := 20) q12 (by omega) (by omega)
    have hl : lv_has ls 4 [(0, .ref mo), (1, .int (nI (tn r1))), (2, .int b1), (3, .int p1)] := by
      rw [hrt.1]
      exact hl
    refine lv_iload_n hx hb dX7_addPlan_15 rfl (lv_at hl 2 rfl) ?_
    refine lv_iconst (v := 1) hx hb dX7_addPlan_16 (by decide) ?_
    refine lv_bipush (v := 100) hx hb dX7_addPlan_17 (by decide) ?_
    refine wl_on C0 ht hP hS (wl_runS (As := [.int b1, .int 1, .int 100]) (rest := []) C0 hP hS (k_X7_in l hst E w_2_0 H.size b1 1 100) (va_cwS 3 hts gX7_addPlan_X7_in rfl rfl rfl (by decide +kernel) ⟨(Nat.le_of_ble_eq_true rfl), (Nat.le_of_ble_eq_true rfl)⟩) rfl rfl hl.1 (Nat.le_of_ble_eq_true rfl) dX7_addPlan_19 ⟨(Nat.le_of_ble_eq_true rfl), (Nat.le_of_ble_eq_true rfl)⟩) (Nat.le_of_ble_eq_true rfl) (Nat.le_of_ble_eq_true rfl) (fun _ _ h => h.elim) (fun v_19 w_19 H locs hq hP hS => ?_)
    obtain ⟨rfl, hw9⟩ := hq
    rw [hw9] at hP
    refine W.eq (g2 := F0 m 22 ls [.int (bI (wi b1 1 100))]) rfl ?_
    refine lv_if_eq (tgt := 35) hx hb dX7_addPlan_22 (by decide) (fun c_22 => ?_) (fun c_22 => ?_)
    · have q22 : wi b1 1 100 = false := bI_0.mp c_22
      refine lv_aload_n hx hb dX7_addPlan_35 rfl (lv_at hl 0 rfl) ?_
      refine lv_iconst (v := 1) hx hb dX7_addPlan_36 (by decide) ?_
      refine wl_on C0 ht hP hS (wl_runV (As := [.int 1]) (rest := []) C0 hP hS (k_X7_fails l hst E w_2_0 H.size F MA mo (nI 0) 1 hm_2_0) (cwV 1 hts gX7_addPlan_X7_fails rfl rfl rfl (by decide +kernel) ⟨(Nat.le_of_ble_eq_true rfl), (Nat.le_of_ble_eq_true rfl)⟩) (show w_2_0 mo = some (.inr (7, [.int (nI 0), .int (nI (F 24 0)), .ref (MA 0), .ref (MA 1), .ref (MA 2), .ref (MA 3), .ref (MA 4), .ref (MA 5), .ref (MA 6), .ref (MA 7), .ref (MA 8), .ref (MA 9), .int (nI (F 24 1)), .ref (MA 10), .ref (MA 11), .ref (MA 12), .int (nI (F 24 2)), .ref (MA 13), .ref (MA 14), .ref (MA 15), .int (nI (F 24 3)), .ref (MA 16), .ref (MA 17), .ref (MA 18), .ref (MA 19), .ref (MA 20), .ref (MA 21)])) from hm_2_0.x) rfl rfl rfl hl.1 (Nat.le_of_ble_eq_true rfl) dX7_addPlan_37 ⟨(Nat.le_of_ble_eq_true rfl), (Nat.le_of_ble_eq_true rfl)⟩) (Nat.le_of_ble_eq_true rfl) (Nat.le_of_ble_eq_true rfl) (fun _ _ h => h.elim) (fun v_37 w_37 H locs hq hP hS => ?_)
      obtain ⟨rfl, hm_37_2, hk2_37_2⟩ := hq
      have hk_37_2 := hk_2_0.tr hk2_37_2
      refine W.eq (g2 := F0 m 40 ls [.int 0]) rfl ?_
      have hev : s_addPlan F r1 b1 p1 = (1, 0, F) := by simp [s_addPlan, q12, q22]
      exact wl_iret C0 hr rfl hP hS dX7_addPlan_40 (Nat.le_of_ble_eq_true rfl) (Nat.le_of_ble_eq_true rfl) (⟨by rw [hev], by rw [hev]; exact hm_37_2, hk_37_2⟩)
    · have q22 : wi b1 1 100 = true := bI_n.mp c_22
      have hbt := wi_tn (lo := 1) (hi := 100) q22 (by omega) (by omega)
      have hl : lv_has ls 4 [(0, .ref mo), (1, .int (nI (tn r1))), (2, .int (nI (tn b1))), (3, .int p1)] := by
        rw [hbt.1]
        exact hl
      refine lv_iload_n hx hb dX7_addPlan_25 rfl (lv_at hl 3 rfl) ?_
      refine lv_iconst (v := 0) hx hb dX7_addPlan_26 (by decide) ?_
      refine lv_bipush (v := 99) hx hb dX7_addPlan_27 (by decide) ?_
      refine wl_on C0 ht hP hS (wl_runS (As := [.int p1, .int 0, .int 99]) (rest := []) C0 hP hS (k_X7_in l hst E w_2_0 H.size p1 0 99) (va_cwS 3 hts gX7_addPlan_X7_in rfl rfl rfl (by decide +kernel) ⟨(Nat.le_of_ble_eq_true rfl), (Nat.le_of_ble_eq_true rfl)⟩) rfl rfl hl.1 (Nat.le_of_ble_eq_true rfl) dX7_addPlan_29 ⟨(Nat.le_of_ble_eq_true rfl), (Nat.le_of_ble_eq_true rfl)⟩) (Nat.le_of_ble_eq_true rfl) (Nat.le_of_ble_eq_true rfl) (fun _ _ h => h.elim) (fun v_29 w_29 H locs hq hP hS => ?_)
      obtain ⟨rfl, hw9⟩ := hq
      rw [hw9] at hP
      refine W.eq (g2 := F0 m 32 ls [.int (bI (wi p1 0 99))]) rfl ?_
      refine lv_if_ne (tgt := 41) hx hb dX7_addPlan_32 (by decide) (fun c_32 => ?_) (fun c_32 => ?_)
      · have q32 : wi p1 0 99 = true := bI_n.mp c_32
        have hpt := wi_tn (lo := 0) (hi := 99) q32 (by omega) (by omega)
        have hl : lv_has ls 4 [(0, .ref mo), (1, .int (nI (tn r1))), (2, .int (nI (tn b1))), (3, .int (nI (tn p1)))] := by
          rw [hpt.1]
          exact hl
        refine lv_aload_n hx hb dX7_addPlan_41 rfl (lv_at hl 0 rfl) ?_
        refine wl_get (T := TX7) C0 hP (show w_2_0 mo = some (.inr (7, [.int (nI 0), .int (nI (F 24 0)), .ref (MA 0), .ref (MA 1), .ref (MA 2), .ref (MA 3), .ref (MA 4), .ref (MA 5), .ref (MA 6), .ref (MA 7), .ref (MA 8), .ref (MA 9), .int (nI (F 24 1)), .ref (MA 10), .ref (MA 11), .ref (MA 12), .int (nI (F 24 2)), .ref (MA 13), .ref (MA 14), .ref (MA 15), .int (nI (F 24 3)), .ref (MA 16), .ref (MA 17), .ref (MA 18), .ref (MA 19), .ref (MA 20), .ref (MA 21)])) from hm_2_0.x) hi_RX7 rfl 12 (by decide) hf_127 rfl dX7_addPlan_42 ?_
        refine lv_iconst (v := 3) hx hb dX7_addPlan_45 (by decide) ?_
        refine lv_icmp_ne (tgt := 55) hx hb dX7_addPlan_46 (by decide) (fun c_46 => ?_) (fun c_46 => ?_)
        · have q46 : ¬ F 24 1 = 3 := fun q => c_46 ((nI_eq (b := 3) (by omega) (by omega)).mpr q)
          refine lv_aload_n hx hb dX7_addPlan_55 rfl (lv_at hl 0 rfl) ?_
          refine wl_get (T := TX7) C0 hP (show w_2_0 mo = some (.inr (7, [.int (nI 0), .int (nI (F 24 0)), .ref (MA 0), .ref (MA 1), .ref (MA 2), .ref (MA 3), .ref (MA 4), .ref (MA 5), .ref (MA 6), .ref (MA 7), .ref (MA 8), .ref (MA 9), .int (nI (F 24 1)), .ref (MA 10), .ref (MA 11), .ref (MA 12), .int (nI (F 24 2)), .ref (MA 13), .ref (MA 14), .ref (MA 15), .int (nI (F 24 3)), .ref (MA 16), .ref (MA 17), .ref (MA 18), .ref (MA 19), .ref (MA 20), .ref (MA 21)])) from hm_2_0.x) hi_RX7 rfl 13 (by decide) hf_41 rfl dX7_addPlan_56 ?_
          refine lv_aload_n hx hb dX7_addPlan_59 rfl (lv_at hl 0 rfl) ?_
          refine wl_get (T := TX7) C0 hP (show w_2_0 mo = some (.inr (7, [.int (nI 0), .int (nI (F 24 0)), .ref (MA 0), .ref (MA 1), .ref (MA 2), .ref (MA 3), .ref (MA 4), .ref (MA 5), .ref (MA 6), .ref (MA 7), .ref (MA 8), .ref (MA 9), .int (nI (F 24 1)), .ref (MA 10), .ref (MA 11), .ref (MA 12), .int (nI (F 24 2)), .ref (MA 13), .ref (MA 14), .ref (MA 15), .int (nI (F 24 3)), .ref (MA 16), .ref (MA 17), .ref (MA 18), .ref (MA 19), .ref (MA 20), .ref (MA 21)])) from hm_2_0.x) hi_RX7 rfl 12 (by decide) hf_127 rfl dX7_addPlan_60 ?_
          refine lv_iload_n hx hb dX7_addPlan_63 rfl (lv_at hl 1 rfl) ?_
          refine wl_iast C0 hP hS (show w_2_0 (MA 10) = some (.inl (E.2.1 0, 3, .inl (fun i => nI (F 10 i)))) from hm_2_0.i 10 (by decide) rfl rfl rfl) (vp_in_nI (by omega) (by omega)) dX7_addPlan_64 (fun H locs hP hS => ?_)
          obtain ⟨w_64_3, hw9, hm_64_3, hk_64_3⟩ : ∃ wz : wW, wz = wU w_2_0 (MA 10) (.inl (E.2.1 0, 3, .inl (upd (fun i => nI (F 10 i)) (nI (F 24 1)).toNatClampNeg (nI (tn r1))))) ∧ wMod E (fU F 10 (F 24 1) (tn r1)) MA mo (nI 0) wz ∧ wKm mo MA w wz := ⟨_, rfl, M_s (F := F) hm_2_0 10 (F 24 1) (tn r1) (by decide) (by rw [show (nI (F 24 1)).toNatClampNeg = (F 24 1) from nI_clamp (by omega), upd_nI]; rfl), hk_2_0.tr (wKm.s (by decide))⟩
          rw [← hw9] at hP
          refine lv_aload_n hx hb dX7_addPlan_65 rfl (lv_at hl 0 rfl) ?_
          refine wl_get (T := TX7) C0 hP (show w_64_3 mo = some (.inr (7, [.int (nI 0), .int (nI (F 24 0)), .ref (MA 0), .ref (MA 1), .ref (MA 2), .ref (MA 3), .ref (MA 4), .ref (MA 5), .ref (MA 6), .ref (MA 7), .ref (MA 8), .ref (MA 9), .int (nI (F 24 1)), .ref (MA 10), .ref (MA 11), .ref (MA 12), .int (nI (F 24 2)), .ref (MA 13), .ref (MA 14), .ref (MA 15), .int (nI (F 24 3)), .ref (MA 16), .ref (MA 17), .ref (MA 18), .ref (MA 19), .ref (MA 20), .ref (MA 21)])) from hm_64_3.x) hi_RX7 rfl 14 (by decide) hf_44 rfl dX7_addPlan_66 ?_
          refine lv_aload_n hx hb dX7_addPlan_69 rfl (lv_at hl 0 rfl) ?_
          refine wl_get (T := TX7) C0 hP (show w_64_3 mo = some (.inr (7, [.int (nI 0), .int (nI (F 24 0)), .ref (MA 0), .ref (MA 1), .ref (MA 2), .ref (MA 3), .ref (MA 4), .ref (MA 5), .ref (MA 6), .ref (MA 7), .ref (MA 8), .ref (MA 9), .int (nI (F 24 1)), .ref (MA 10), .ref (MA 11), .ref (MA 12), .int (nI (F 24 2)), .ref (MA 13), .ref (MA 14), .ref (MA 15), .int (nI (F 24 3)), .ref (MA 16), .ref (MA 17), .ref (MA 18), .ref (MA 19), .ref (MA 20), .ref (MA 21)])) from hm_64_3.x) hi_RX7 rfl 12 (by decide) hf_127 rfl dX7_addPlan_70 ?_
          refine lv_iload_n hx hb dX7_addPlan_73 rfl (lv_at hl 2 rfl) ?_
          refine wl_iast C0 hP hS (show w_64_3 (MA 11) = some (.inl (E.2.1 0, 3, .inl (fun i => nI (F 11 i)))) from hm_64_3.i 11 (by decide) rfl rfl rfl) (vp_in_nI (by omega) (by omega)) dX7_addPlan_74 (fun H locs hP hS => ?_)
          obtain ⟨w_74_4, hw9, hm_74_4, hk_74_4⟩ : ∃ wz : wW, wz = wU w_64_3 (MA 11) (.inl (E.2.1 0, 3, .inl (upd (fun i => nI (F 11 i)) (nI (F 24 1)).toNatClampNeg (nI (tn b1))))) ∧ wMod E (fU (fU F 10 (F 24 1) (tn r1)) 11 (F 24 1) (tn b1)) MA mo (nI 0) wz ∧ wKm mo MA w wz := ⟨_, rfl, M_s (F := fU F 10 (F 24 1) (tn r1)) hm_64_3 11 (F 24 1) (tn b1) (by decide) (by rw [show (nI (F 24 1)).toNatClampNeg = (F 24 1) from nI_clamp (by omega), upd_nI]; rfl), hk_64_3.tr (wKm.s (by decide))⟩
          rw [← hw9] at hP
          refine lv_aload_n hx hb dX7_addPlan_75 rfl (lv_at hl 0 rfl) ?_
          refine wl_get (T := TX7) C0 hP (show w_74_4 mo = some (.inr (7, [.int (nI 0), .int (nI (F 24 0)), .ref (MA 0), .ref (MA 1), .ref (MA 2), .ref (MA 3), .ref (MA 4), .ref (MA 5), .ref (MA 6), .ref (MA 7), .ref (MA 8), .ref (MA 9), .int (nI (F 24 1)), .ref (MA 10), .ref (MA 11), .ref (MA 12), .int (nI (F 24 2)), .ref (MA 13), .ref (MA 14), .ref (MA 15), .int (nI (F 24 3)), .ref (MA 16), .ref (MA 17), .ref (MA 18), .ref (MA 19), .ref (MA 20), .ref (MA 21)])) from hm_74_4.x) hi_RX7 rfl 15 (by decide) hf_47 rfl dX7_addPlan_76 ?_
          refine lv_aload_n hx hb dX7_addPlan_79 rfl (lv_at hl 0 rfl) ?_
          refine wl_get (T := TX7) C0 hP (show w_74_4 mo = some (.inr (7, [.int (nI 0), .int (nI (F 24 0)), .ref (MA 0), .ref (MA 1), .ref (MA 2), .ref (MA 3), .ref (MA 4), .ref (MA 5), .ref (MA 6), .ref (MA 7), .ref (MA 8), .ref (MA 9), .int (nI (F 24 1)), .ref (MA 10), .ref (MA 11), .ref (MA 12), .int (nI (F 24 2)), .ref (MA 13), .ref (MA 14), .ref (MA 15), .int (nI (F 24 3)), .ref (MA 16), .ref (MA 17), .ref (MA 18), .ref (MA 19), .ref (MA 20), .ref (MA 21)])) from hm_74_4.x) hi_RX7 rfl 12 (by decide) hf_127 rfl dX7_addPlan_80 ?_
          refine lv_iload_n hx hb dX7_addPlan_83 rfl (lv_at hl 3 rfl) ?_
          refine wl_iast C0 hP hS (show w_74_4 (MA 12) = some (.inl (E.2.1 0, 3, .inl (fun i => nI (F 12 i)))) from hm_74_4.i 12 (by decide) rfl rfl rfl) (vp_in_nI (by omega) (by omega)) dX7_addPlan_84 (fun H locs hP hS => ?_)
          obtain ⟨w_84_5, hw9, hm_84_5, hk_84_5⟩ : ∃ wz : wW, wz = wU w_74_4 (MA 12) (.inl (E.2.1 0, 3, .inl (upd (fun i => nI (F 12 i)) (nI (F 24 1)).toNatClampNeg (nI (tn p1))))) ∧ wMod E (fU (fU (fU F 10 (F 24 1) (tn r1)) 11 (F 24 1) (tn b1)) 12 (F 24 1) (tn p1)) MA mo (nI 0) wz ∧ wKm mo MA w wz := ⟨_, rfl, M_s (F := fU (fU F 10 (F 24 1) (tn r1)) 11 (F 24 1) (tn b1)) hm_74_4 12 (F 24 1) (tn p1) (by decide) (by rw [show (nI (F 24 1)).toNatClampNeg = (F 24 1) from nI_clamp (by omega), upd_nI]; rfl), hk_74_4.tr (wKm.s (by decide))⟩
          rw [← hw9] at hP
          refine lv_aload_n hx hb dX7_addPlan_85 rfl (lv_at hl 0 rfl) ?_
          refine lv_dup hx hb dX7_addPlan_86 rfl ?_
          refine wl_get (T := TX7) C0 hP (show w_84_5 mo = some (.inr (7, [.int (nI 0), .int (nI (F 24 0)), .ref (MA 0), .ref (MA 1), .ref (MA 2), .ref (MA 3), .ref (MA 4), .ref (MA 5), .ref (MA 6), .ref (MA 7), .ref (MA 8), .ref (MA 9), .int (nI (F 24 1)), .ref (MA 10), .ref (MA 11), .ref (MA 12), .int (nI (F 24 2)), .ref (MA 13), .ref (MA 14), .ref (MA 15), .int (nI (F 24 3)), .ref (MA 16), .ref (MA 17), .ref (MA 18), .ref (MA 19), .ref (MA 20), .ref (MA 21)])) from hm_84_5.x) hi_RX7 rfl 12 (by decide) hf_127 rfl dX7_addPlan_87 ?_
          refine lv_iconst (v := 1) hx hb dX7_addPlan_90 (by decide) ?_
          refine lv_iadd hx hb dX7_addPlan_91 ?_
          rw [show ((nI (F 24 1)) + 1) = (nI (F 24 1 + 1)) from nI_1 _]
          refine wl_put (T := TX7) (ty0 := tyX7) (fs2 := [.int (nI 0), .int (nI (F 24 0)), .ref (MA 0), .ref (MA 1), .ref (MA 2), .ref (MA 3), .ref (MA 4), .ref (MA 5), .ref (MA 6), .ref (MA 7), .ref (MA 8), .ref (MA 9), .int (nI (F 24 1 + 1)), .ref (MA 10), .ref (MA 11), .ref (MA 12), .int (nI (F 24 2)), .ref (MA 13), .ref (MA 14), .ref (MA 15), .int (nI (F 24 3)), .ref (MA 16), .ref (MA 17), .ref (MA 18), .ref (MA 19), .ref (MA 20), .ref (MA 21)]) C0 hP hS (show w_84_5 mo = some (.inr (7, [.int (nI 0), .int (nI (F 24 0)), .ref (MA 0), .ref (MA 1), .ref (MA 2), .ref (MA 3), .ref (MA 4), .ref (MA 5), .ref (MA 6), .ref (MA 7), .ref (MA 8), .ref (MA 9), .int (nI (F 24 1)), .ref (MA 10), .ref (MA 11), .ref (MA 12), .int (nI (F 24 2)), .ref (MA 13), .ref (MA 14), .ref (MA 15), .int (nI (F 24 3)), .ref (MA 16), .ref (MA 17), .ref (MA 18), .ref (MA 19), .ref (MA 20), .ref (MA 21)])) from hm_84_5.x) hi_RX7 tyX7_ok nmX7 rfl 12 (by decide) hf_127 rfl rfl rfl rfl (Nat.le_of_ble_eq_true rfl) rfl dX7_addPlan_92 (fun H locs hP hS => ?_)
          obtain ⟨w_92_6, hw9, hm_92_6, hk_92_6⟩ : ∃ wz : wW, wz = wU w_84_5 mo (.inr (7, [.int (nI 0), .int (nI (F 24 0)), .ref (MA 0), .ref (MA 1), .ref (MA 2), .ref (MA 3), .ref (MA 4), .ref (MA 5), .ref (MA 6), .ref (MA 7), .ref (MA 8), .ref (MA 9), .int (nI (F 24 1 + 1)), .ref (MA 10), .ref (MA 11), .ref (MA 12), .int (nI (F 24 2)), .ref (MA 13), .ref (MA 14), .ref (MA 15), .int (nI (F 24 3)), .ref (MA 16), .ref (MA 17), .ref (MA 18), .ref (MA 19), .ref (MA 20), .ref (MA 21)])) ∧ wMod E (fU (fU (fU (fU F 10 (F 24 1) (tn r1)) 11 (F 24 1) (tn b1)) 12 (F 24 1) (tn p1)) 24 1 (F 24 1 + 1)) MA mo (nI 0) wz ∧ wKm mo MA w wz := ⟨_, rfl, M_o (F := fU (fU (fU F 10 (F 24 1) (tn r1)) 11 (F 24 1) (tn b1)) 12 (F 24 1) (tn p1)) (G := fU (fU (fU (fU F 10 (F 24 1) (tn r1)) 11 (F 24 1) (tn b1)) 12 (F 24 1) (tn p1)) 24 1 (F 24 1 + 1)) (cd2 := nI 0) hm_84_5 (fun a b h => fU_k (by omega)), hk_84_5.tr wKm.o⟩
          rw [← hw9] at hP
          refine lv_aload_n hx hb dX7_addPlan_95 rfl (lv_at hl 0 rfl) ?_
          refine wl_get (T := TX7) C0 hP (show w_92_6 mo = some (.inr (7, [.int (nI 0), .int (nI (F 24 0)), .ref (MA 0), .ref (MA 1), .ref (MA 2), .ref (MA 3), .ref (MA 4), .ref (MA 5), .ref (MA 6), .ref (MA 7), .ref (MA 8), .ref (MA 9), .int (nI ((F 24 1 + 1))), .ref (MA 10), .ref (MA 11), .ref (MA 12), .int (nI (F 24 2)), .ref (MA 13), .ref (MA 14), .ref (MA 15), .int (nI (F 24 3)), .ref (MA 16), .ref (MA 17), .ref (MA 18), .ref (MA 19), .ref (MA 20), .ref (MA 21)])) from hm_92_6.x) hi_RX7 rfl 12 (by decide) hf_127 rfl dX7_addPlan_96 ?_
          refine lv_iconst (v := 1) hx hb dX7_addPlan_99 (by decide) ?_
          refine lv_isub hx hb dX7_addPlan_100 ?_
          rw [show ((nI ((F 24 1 + 1))) - 1) = (nI (F 24 1)) from nI_pred _]
          have hev : s_addPlan F r1 b1 p1 = (0, nI (F 24 1), f_addPlan F (tn r1) (tn b1) (tn p1)) := by simp [s_addPlan, q12, q22, q32, q46]
          exact wl_iret C0 hr rfl hP hS dX7_addPlan_101 (Nat.le_of_ble_eq_true rfl) (Nat.le_of_ble_eq_true rfl) (⟨by rw [hev], by rw [hev]; exact M_ext hm_92_6 (fun a b h => by first | (simp only [f_addPlan, fU]; done) | (simp only [f_addPlan, fU]; (repeat' split) <;> first | rfl | omega)) (by simp [f_addPlan, fU]) (by simp [f_addPlan, fU]) (by simp [f_addPlan, fU]) (by simp [f_addPlan, fU]), hk_92_6⟩)
        · have q46 : F 24 1 = 3 := (nI_eq (b := 3) (by omega) (by omega)).mp c_46
          refine lv_aload_n hx hb dX7_addPlan_49 rfl (lv_at hl 0 rfl) ?_
          refine lv_iconst (v := 2) hx hb dX7_addPlan_50 (by decide) ?_
          refine wl_on C0 ht hP hS (wl_runV (As := [.int 2]) (rest := []) C0 hP hS (k_X7_fails l hst E w_2_0 H.size F MA mo (nI 0) 2 hm_2_0) (cwV 1 hts gX7_addPlan_X7_fails rfl rfl rfl (by decide +kernel) ⟨(Nat.le_of_ble_eq_true rfl), (Nat.le_of_ble_eq_true rfl)⟩) (show w_2_0 mo = some (.inr (7, [.int (nI 0), .int (nI (F 24 0)), .ref (MA 0), .ref (MA 1), .ref (MA 2), .ref (MA 3), .ref (MA 4), .ref (MA 5), .ref (MA 6), .ref (MA 7), .ref (MA 8), .ref (MA 9), .int (nI (F 24 1)), .ref (MA 10), .ref (MA 11), .ref (MA 12), .int (nI (F 24 2)), .ref (MA 13), .ref (MA 14), .ref (MA 15), .int (nI (F 24 3)), .ref (MA 16), .ref (MA 17), .ref (MA 18), .ref (MA 19), .ref (MA 20), .ref (MA 21)])) from hm_2_0.x) rfl rfl rfl hl.1 (Nat.le_of_ble_eq_true rfl) dX7_addPlan_51 ⟨(Nat.le_of_ble_eq_true rfl), (Nat.le_of_ble_eq_true rfl)⟩) (Nat.le_of_ble_eq_true rfl) (Nat.le_of_ble_eq_true rfl) (fun _ _ h => h.elim) (fun v_51 w_51 H locs hq hP hS => ?_)
          obtain ⟨rfl, hm_51_7, hk2_51_7⟩ := hq
          have hk_51_7 := hk_2_0.tr hk2_51_7
          refine W.eq (g2 := F0 m 54 ls [.int 0]) rfl ?_
          have hev : s_addPlan F r1 b1 p1 = (2, 0, F) := by simp [s_addPlan, q12, q22, q32, q46]
          exact wl_iret C0 hr rfl hP hS dX7_addPlan_54 (Nat.le_of_ble_eq_true rfl) (Nat.le_of_ble_eq_true rfl) (⟨by rw [hev], by rw [hev]; exact hm_51_7, hk_51_7⟩)
      · have q32 : wi p1 0 99 = false := bI_0.mp c_32
        refine lv_aload_n hx hb dX7_addPlan_35 rfl (lv_at hl 0 rfl) ?_
        refine lv_iconst (v := 1) hx hb dX7_addPlan_36 (by decide) ?_
        refine wl_on C0 ht hP hS (wl_runV (As := [.int 1]) (rest := []) C0 hP hS (k_X7_fails l hst E w_2_0 H.size F MA mo (nI 0) 1 hm_2_0) (cwV 1 hts gX7_addPlan_X7_fails rfl rfl rfl (by decide +kernel) ⟨(Nat.le_of_ble_eq_true rfl), (Nat.le_of_ble_eq_true rfl)⟩) (show w_2_0 mo = some (.inr (7, [.int (nI 0), .int (nI (F 24 0)), .ref (MA 0), .ref (MA 1), .ref (MA 2), .ref (MA 3), .ref (MA 4), .ref (MA 5), .ref (MA 6), .ref (MA 7), .ref (MA 8), .ref (MA 9), .int (nI (F 24 1)), .ref (MA 10), .ref (MA 11), .ref (MA 12), .int (nI (F 24 2)), .ref (MA 13), .ref (MA 14), .ref (MA 15), .int (nI (F 24 3)), .ref (MA 16), .ref (MA 17), .ref (MA 18), .ref (MA 19), .ref (MA 20), .ref (MA 21)])) from hm_2_0.x) rfl rfl rfl hl.1 (Nat.le_of_ble_eq_true rfl) dX7_addPlan_37 ⟨(Nat.le_of_ble_eq_true rfl), (Nat.le_of_ble_eq_true rfl)⟩) (Nat.le_of_ble_eq_true rfl) (Nat.le_of_ble_eq_true rfl) (fun _ _ h => h.elim) (fun v_37 w_37 H locs hq hP hS => ?_)
        obtain ⟨rfl, hm_37_8, hk2_37_8⟩ := hq
        have hk_37_8 := hk_2_0.tr hk2_37_8
        refine W.eq (g2 := F0 m 40 ls [.int 0]) rfl ?_
        have hev : s_addPlan F r1 b1 p1 = (1, 0, F) := by simp [s_addPlan, q12, q22, q32]
        exact wl_iret C0 hr rfl hP hS dX7_addPlan_40 (Nat.le_of_ble_eq_true rfl) (Nat.le_of_ble_eq_true rfl) (⟨by rw [hev], by rw [hev]; exact hm_37_8, hk_37_8⟩)

set_option maxHeartbeats 4000000 in
set_option maxRecDepth 100000 in
theorem k_X7_addCaller (l : Launch) (hst : l.stackTraces = false) (E : wEn) (w : wW) (sz : Nat) (F : FF) (MA : Nat → Nat) (mo : Nat) (cd : Int32) (N : Nat) (hI : wInv F N) (hm : wMod E F MA mo cd w) (p1 : Int32) : wM l yX7_addCaller wsX7_addCaller 2 0 0 E w sz [.ref mo, .int p1] (fun v w2 => v = some (.int (s_addCaller F p1).2.1) ∧ wMod E (s_addCaller F p1).2.2 MA mo (nI (s_addCaller F p1).1) w2 ∧ wKm mo MA w w2) (fun _ _ => False) := by
  refine wm_start (own := RX7) (cc := cX7_addCaller) (maxL := 2) (ret := (some .int)) rfl (by decide) rfl (Nat.le_of_ble_eq_true rfl) ?_
  intro p e s m args below meth c ls C0 hr hin ht hP hS hl
  have hx := C0.1
  have hb := C0.2.1
  have hts := C0.2.2.2.2.1
  have hown := C0.2.2.2.1
  have hl : lv_has ls 2 [(0, .ref mo), (1, .int p1)] := hl
  have hf_79 : (Cond.fieldLink RX7 79 "CallGatewayModel" "code" "I").before args s = true := hts _ (by decide +kernel)
  have hf_127 : (Cond.fieldLink RX7 127 "CallGatewayModel" "plans" "I").before args s = true := hts _ (by decide +kernel)
  have hf_90 : (Cond.fieldLink RX7 90 "CallGatewayModel" "callers" "I").before args s = true := hts _ (by decide +kernel)
  have hf_50 : (Cond.fieldLink RX7 50 "CallGatewayModel" "planOf" "[I").before args s = true := hts _ (by decide +kernel)
  have hf_53 : (Cond.fieldLink RX7 53 "CallGatewayModel" "tokens" "[I").before args s = true := hts _ (by decide +kernel)
  have hf_44 : (Cond.fieldLink RX7 44 "CallGatewayModel" "bursts" "[I").before args s = true := hts _ (by decide +kernel)
  have hi_RX7 : ∀ w ∈ u_ws RX7 TX7 27, w ∈ wsX7_addCaller := fun _ h => List.mem_cons_of_mem _ (List.mem_append_left _ (List.mem_append_right _ h))
  have hn := hI.n
  have hn9 := hI.n
  refine lv_aload_n hx hb dX7_addCaller_0 rfl (lv_at hl 0 rfl) ?_
  refine lv_iconst (v := 0) hx hb dX7_addCaller_1 (by decide) ?_
  refine wl_put (T := TX7) (ty0 := tyX7) (fs2 := [.int 0, .int (nI (F 24 0)), .ref (MA 0), .ref (MA 1), .ref (MA 2), .ref (MA 3), .ref (MA 4), .ref (MA 5), .ref (MA 6), .ref (MA 7), .ref (MA 8), .ref (MA 9), .int (nI (F 24 1)), .ref (MA 10), .ref (MA 11), .ref (MA 12), .int (nI (F 24 2)), .ref (MA 13), .ref (MA 14), .ref (MA 15), .int (nI (F 24 3)), .ref (MA 16), .ref (MA 17), .ref (MA 18), .ref (MA 19), .ref (MA 20), .ref (MA 21)]) C0 hP hS (show w mo = some (.inr (7, [.int cd, .int (nI (F 24 0)), .ref (MA 0), .ref (MA 1), .ref (MA 2), .ref (MA 3), .ref (MA 4), .ref (MA 5), .ref (MA 6), .ref (MA 7), .ref (MA 8), .ref (MA 9), .int (nI (F 24 1)), .ref (MA 10), .ref (MA 11), .ref (MA 12), .int (nI (F 24 2)), .ref (MA 13), .ref (MA 14), .ref (MA 15), .int (nI (F 24 3)), .ref (MA 16), .ref (MA 17), .ref (MA 18), .ref (MA 19), .ref (MA 20), .ref (MA 21)])) from hm.x) hi_RX7 tyX7_ok nmX7 rfl 0 (by decide) hf_79 rfl rfl rfl rfl (Nat.le_of_ble_eq_true rfl) rfl dX7_addCaller_2 (fun H locs hP hS => ?_)
  obtain ⟨w_2_0, hw9, hm_2_0, hk_2_0⟩ : ∃ wz : wW, wz = wU w mo (.inr (7, [.int 0, .int (nI (F 24 0)), .ref (MA 0), .ref (MA 1), .ref (MA 2), .ref (MA 3), .ref (MA 4), .ref (MA 5), .ref (MA 6), .ref (MA 7), .ref (MA 8), .ref (MA 9), .int (nI (F 24 1)), .ref (MA 10), .ref (MA 11), .ref (MA 12), .int (nI (F 24 2)), .ref (MA 13), .ref (MA 14), .ref (MA 15), .int (nI (F 24 3)), .ref (MA 16), .ref (MA 17), .ref (MA 18), .ref (MA 19), .ref (MA 20), .ref (MA 21)])) ∧ wMod E F MA mo (nI 0) wz ∧ wKm mo MA w wz := ⟨_, rfl, M_o (F := F) (G := F) (cd2 := nI 0) hm (fun a b h => rfl), wKm.rf.tr wKm.o⟩
  rw [← hw9] at hP
  refine lv_iload_n hx hb dX7_addCaller_5 rfl (lv_at hl 1 rfl) ?_
  refine lv_iconst (v := 0) hx hb dX7_addCaller_6 (by decide) ?_
  refine lv_aload_n hx hb dX7_addCaller_7 rfl (lv_at hl 0 rfl) ?_
  refine wl_get (T := TX7) C0 hP (show w_2_0 mo = some (.inr (7, [.int (nI 0), .int (nI (F 24 0)), .ref (MA 0), .ref (MA 1), .ref (MA 2), .ref (MA 3), .ref (MA 4), .ref (MA 5), .ref (MA 6), .ref (MA 7), .ref (MA 8), .ref (MA 9), .int (nI (F 24 1)), .ref (MA 10), .ref (MA 11), .ref (MA 12), .int (nI (F 24 2)), .ref (MA 13), .ref (MA 14), .ref (MA 15), .int (nI (F 24 3)), .ref (MA 16), .ref (MA 17), .ref (MA 18), .ref (MA 19), .ref (MA 20), .ref (MA 21)])) from hm_2_0.x) hi_RX7 rfl 12 (by decide) hf_127 rfl dX7_addCaller_8 ?_
  refine lv_iconst (v := 1) hx hb dX7_addCaller_11 (by decide) ?_
  refine lv_isub hx hb dX7_addCaller_12 ?_
  refine wl_on C0 ht hP hS (wl_runS (As := [.int p1, .int 0, .int ((nI (F 24 1)) - 1)]) (rest := []) C0 hP hS (k_X7_in l hst E w_2_0 H.size p1 0 ((nI (F 24 1)) - 1)) (va_cwS 3 hts gX7_addCaller_X7_in rfl rfl rfl (by decide +kernel) ⟨(Nat.le_of_ble_eq_true rfl), (Nat.le_of_ble_eq_true rfl)⟩) rfl rfl hl.1 (Nat.le_of_ble_eq_true rfl) dX7_addCaller_13 ⟨(Nat.le_of_ble_eq_true rfl), (Nat.le_of_ble_eq_true rfl)⟩) (Nat.le_of_ble_eq_true rfl) (Nat.le_of_ble_eq_true rfl) (fun _ _ h => h.elim) (fun v_13 w_13 H locs hq hP hS => ?_)
  obtain ⟨rfl, hw9⟩ := hq
  rw [hw9] at hP
  refine W.eq (g2 := F0 m 16 ls [.int (bI (wi p1 0 ((nI (F 24 1)) - 1)))]) rfl ?_
  rw [show (bI (wi p1 0 ((nI (F 24 1)) - 1))) = (bI (vpb p1 (F 24 1))) from by rw [wi_vpb (by omega)]]
  refine lv_if_ne (tgt := 25) hx hb dX7_addCaller_16 (by decide) (fun c_16 => ?_) (fun c_16 => ?_)
  · have q16 : vpb p1 (F 24 1) = true := bI_n.mp c_16
    have hp9 := vpb_tn q16
    have hpt := vpb_nt q16
    have h8 := hI.pl hp9
    have hl : lv_has ls 2 [(0, .ref mo), (1, .int (nI (tn p1)))] := by
      rw [hpt]
      exact hl
    refine lv_aload_n hx hb dX7_addCaller_25 rfl (lv_at hl 0 rfl) ?_
    refine wl_get (T := TX7) C0 hP (show w_2_0 mo = some (.inr (7, [.int (nI 0), .int (nI (F 24 0)), .ref (MA 0), .ref (MA 1), .ref (MA 2), .ref (MA 3), .ref (MA 4), .ref (MA 5), .ref (MA 6), .ref (MA 7), .ref (MA 8), .ref (MA 9), .int (nI (F 24 1)), .ref (MA 10), .ref (MA 11), .ref (MA 12), .int (nI (F 24 2)), .ref (MA 13), .ref (MA 14), .ref (MA 15), .int (nI (F 24 3)), .ref (MA 16), .ref (MA 17), .ref (MA 18), .ref (MA 19), .ref (MA 20), .ref (MA 21)])) from hm_2_0.x) hi_RX7 rfl 16 (by decide) hf_90 rfl dX7_addCaller_26 ?_
    refine lv_bipush (v := 6) hx hb dX7_addCaller_29 (by decide) ?_
    refine lv_icmp_ne (tgt := 40) hx hb dX7_addCaller_31 (by decide) (fun c_31 => ?_) (fun c_31 => ?_)
    · have q31 : ¬ F 24 2 = 6 := fun q => c_31 ((nI_eq (b := 6) (by omega) (by omega)).mpr q)
      refine lv_aload_n hx hb dX7_addCaller_40 rfl (lv_at hl 0 rfl) ?_
      refine wl_get (T := TX7) C0 hP (show w_2_0 mo = some (.inr (7, [.int (nI 0), .int (nI (F 24 0)), .ref (MA 0), .ref (MA 1), .ref (MA 2), .ref (MA 3), .ref (MA 4), .ref (MA 5), .ref (MA 6), .ref (MA 7), .ref (MA 8), .ref (MA 9), .int (nI (F 24 1)), .ref (MA 10), .ref (MA 11), .ref (MA 12), .int (nI (F 24 2)), .ref (MA 13), .ref (MA 14), .ref (MA 15), .int (nI (F 24 3)), .ref (MA 16), .ref (MA 17), .ref (MA 18), .ref (MA 19), .ref (MA 20), .ref (MA 21)])) from hm_2_0.x) hi_RX7 rfl 17 (by decide) hf_50 rfl dX7_addCaller_41 ?_
      refine lv_aload_n hx hb dX7_addCaller_44 rfl (lv_at hl 0 rfl) ?_
      refine wl_get (T := TX7) C0 hP (show w_2_0 mo = some (.inr (7, [.int (nI 0), .int (nI (F 24 0)), .ref (MA 0), .ref (MA 1), .ref (MA 2), .ref (MA 3), .ref (MA 4), .ref (MA 5), .ref (MA 6), .ref (MA 7), .ref (MA 8), .ref (MA 9), .int (nI (F 24 1)), .ref (MA 10), .ref (MA 11), .ref (MA 12), .int (nI (F 24 2)), .ref (MA 13), .ref (MA 14), .ref (MA 15), .int (nI (F 24 3)), .ref (MA 16), .ref (MA 17), .ref (MA 18), .ref (MA 19), .ref (MA 20), .ref (MA 21)])) from hm_2_0.x) hi_RX7 rfl 16 (by decide) hf_90 rfl dX7_addCaller_45 ?_
      refine lv_iload_n hx hb dX7_addCaller_48 rfl (lv_at hl 1 rfl) ?_
      refine wl_iast C0 hP hS (show w_2_0 (MA 13) = some (.inl (E.2.1 0, 6, .inl (fun i => nI (F 13 i)))) from hm_2_0.i 13 (by decide) rfl rfl rfl) (vp_in_nI (by omega) (by omega)) dX7_addCaller_49 (fun H locs hP hS => ?_)
      obtain ⟨w_49_1, hw9, hm_49_1, hk_49_1⟩ : ∃ wz : wW, wz = wU w_2_0 (MA 13) (.inl (E.2.1 0, 6, .inl (upd (fun i => nI (F 13 i)) (nI (F 24 2)).toNatClampNeg (nI (tn p1))))) ∧ wMod E (fU F 13 (F 24 2) (tn p1)) MA mo (nI 0) wz ∧ wKm mo MA w wz := ⟨_, rfl, M_s (F := F) hm_2_0 13 (F 24 2) (tn p1) (by decide) (by rw [show (nI (F 24 2)).toNatClampNeg = (F 24 2) from nI_clamp (by omega), upd_nI]; rfl), hk_2_0.tr (wKm.s (by decide))⟩
      rw [← hw9] at hP
      refine lv_aload_n hx hb dX7_addCaller_50 rfl (lv_at hl 0 rfl) ?_
      refine wl_get (T := TX7) C0 hP (show w_49_1 mo = some (.inr (7, [.int (nI 0), .int (nI (F 24 0)), .ref (MA 0), .ref (MA 1), .ref (MA 2), .ref (MA 3), .ref (MA 4), .ref (MA 5), .ref (MA 6), .ref (MA 7), .ref (MA 8), .ref (MA 9), .int (nI (F 24 1)), .ref (MA 10), .ref (MA 11), .ref (MA 12), .int (nI (F 24 2)), .ref (MA 13), .ref (MA 14), .ref (MA 15), .int (nI (F 24 3)), .ref (MA 16), .ref (MA 17), .ref (MA 18), .ref (MA 19), .ref (MA 20), .ref (MA 21)])) from hm_49_1.x) hi_RX7 rfl 18 (by decide) hf_53 rfl dX7_addCaller_51 ?_
      refine lv_aload_n hx hb dX7_addCaller_54 rfl (lv_at hl 0 rfl) ?_
      refine wl_get (T := TX7) C0 hP (show w_49_1 mo = some (.inr (7, [.int (nI 0), .int (nI (F 24 0)), .ref (MA 0), .ref (MA 1), .ref (MA 2), .ref (MA 3), .ref (MA 4), .ref (MA 5), .ref (MA 6), .ref (MA 7), .ref (MA 8), .ref (MA 9), .int (nI (F 24 1)), .ref (MA 10), .ref (MA 11), .ref (MA 12), .int (nI (F 24 2)), .ref (MA 13), .ref (MA 14), .ref (MA 15), .int (nI (F 24 3)), .ref (MA 16), .ref (MA 17), .ref (MA 18), .ref (MA 19), .ref (MA 20), .ref (MA 21)])) from hm_49_1.x) hi_RX7 rfl 16 (by decide) hf_90 rfl dX7_addCaller_55 ?_
      refine lv_aload_n hx hb dX7_addCaller_58 rfl (lv_at hl 0 rfl) ?_
      refine wl_get (T := TX7) C0 hP (show w_49_1 mo = some (.inr (7, [.int (nI 0), .int (nI (F 24 0)), .ref (MA 0), .ref (MA 1), .ref (MA 2), .ref (MA 3), .ref (MA 4), .ref (MA 5), .ref (MA 6), .ref (MA 7), .ref (MA 8), .ref (MA 9), .int (nI (F 24 1)), .ref (MA 10), .ref (MA 11), .ref (MA 12), .int (nI (F 24 2)), .ref (MA 13), .ref (MA 14), .ref (MA 15), .int (nI (F 24 3)), .ref (MA 16), .ref (MA 17), .ref (MA 18), .ref (MA 19), .ref (MA 20), .ref (MA 21)])) from hm_49_1.x) hi_RX7 rfl 14 (by decide) hf_44 rfl dX7_addCaller_59 ?_
      refine lv_iload_n hx hb dX7_addCaller_62 rfl (lv_at hl 1 rfl) ?_
      refine wl_iald C0 hP (show w_49_1 (MA 11) = some (.inl (E.2.1 0, 3, .inl (fun i => nI (F 11 i)))) from hm_49_1.i 11 (by decide) rfl rfl rfl) (vp_in_nI (by omega) (by omega)) dX7_addCaller_63 ?_
      refine W.eq (g2 := F0 m 64 ls [.int (nI (F 11 (tn p1))), .int (nI (F 24 2)), .ref (MA 14)]) (by rw [show (nI (tn p1)).toNatClampNeg = (tn p1) from nI_clamp (by omega)]) ?_
      refine wl_iast C0 hP hS (show w_49_1 (MA 14) = some (.inl (E.2.1 0, 6, .inl (fun i => nI (F 14 i)))) from hm_49_1.i 14 (by decide) rfl rfl rfl) (vp_in_nI (by omega) (by omega)) dX7_addCaller_64 (fun H locs hP hS => ?_)
      obtain ⟨w_64_2, hw9, hm_64_2, hk_64_2⟩ : ∃ wz : wW, wz = wU w_49_1 (MA 14) (.inl (E.2.1 0, 6, .inl (upd (fun i => nI (F 14 i)) (nI (F 24 2)).toNatClampNeg (nI (F 11 (tn p1)))))) ∧ wMod E (fU (fU F 13 (F 24 2) (tn p1)) 14 (F 24 2) (F 11 (tn p1))) MA mo (nI 0) wz ∧ wKm mo MA w wz := ⟨_, rfl, M_s (F := fU F 13 (F 24 2) (tn p1)) hm_49_1 14 (F 24 2) (F 11 (tn p1)) (by decide) (by rw [show (nI (F 24 2)).toNatClampNeg = (F 24 2) from nI_clamp (by omega), upd_nI]; rfl), hk_49_1.tr (wKm.s (by decide))⟩
      rw [← hw9] at hP
      refine lv_aload_n hx hb dX7_addCaller_65 rfl (lv_at hl 0 rfl) ?_
      refine lv_dup hx hb dX7_addCaller_66 rfl ?_
      refine wl_get (T := TX7) C0 hP (show w_64_2 mo = some (.inr (7, [.int (nI 0), .int (nI (F 24 0)), .ref (MA 0), .ref (MA 1), .ref (MA 2), .ref (MA 3), .ref (MA 4), .ref (MA 5), .ref (MA 6), .ref (MA 7), .ref (MA 8), .ref (MA 9), .int (nI (F 24 1)), .ref (MA 10), .ref (MA 11), .ref (MA 12), .int (nI (F 24 2)), .ref (MA 13), .ref (MA 14), .ref (MA 15), .int (nI (F 24 3)), .ref (MA 16), .ref (MA 17), .ref (MA 18), .ref (MA 19), .ref (MA 20), .ref (MA 21)])) from hm_64_2.x) hi_RX7 rfl 16 (by decide) hf_90 rfl dX7_addCaller_67 ?_
      refine lv_iconst (v := 1) hx hb dX7_addCaller_70 (by decide) ?_
      refine lv_iadd hx hb dX7_addCaller_71 ?_
      rw [show ((nI (F 24 2)) + 1) = (nI (F 24 2 + 1)) from nI_1 _]
      refine wl_put (T := TX7) (ty0 := tyX7) (fs2 := [.int (nI 0), .int (nI (F 24 0)), .ref (MA 0), .ref (MA 1), .ref (MA 2), .ref (MA 3), .ref (MA 4), .ref (MA 5), .ref (MA 6), .ref (MA 7), .ref (MA 8), .ref (MA 9), .int (nI (F 24 1)), .ref (MA 10), .ref (MA 11), .ref (MA 12), .int (nI (F 24 2 + 1)), .ref (MA 13), .ref (MA 14), .ref (MA 15), .int (nI (F 24 3)), .ref (MA 16), .ref (MA 17), .ref (MA 18), .ref (MA 19), .ref (MA 20), .ref (MA 21)]) C0 hP hS (show w_64_2 mo = some (.inr (7, [.int (nI 0), .int (nI (F 24 0)), .ref (MA 0), .ref (MA 1), .ref (MA 2), .ref (MA 3), .ref (MA 4), .ref (MA 5), .ref (MA 6), .ref (MA 7), .ref (MA 8), .ref (MA 9), .int (nI (F 24 1)), .ref (MA 10), .ref (MA 11), .ref (MA 12), .int (nI (F 24 2)), .ref (MA 13), .ref (MA 14), .ref (MA 15), .int (nI (F 24 3)), .ref (MA 16), .ref (MA 17), .ref (MA 18), .ref (MA 19), .ref (MA 20), .ref (MA 21)])) from hm_64_2.x) hi_RX7 tyX7_ok nmX7 rfl 16 (by decide) hf_90 rfl rfl rfl rfl (Nat.le_of_ble_eq_true rfl) rfl dX7_addCaller_72 (fun H locs hP hS => ?_)
      obtain ⟨w_72_3, hw9, hm_72_3, hk_72_3⟩ : ∃ wz : wW, wz = wU w_64_2 mo (.inr (7, [.int (nI 0), .int (nI (F 24 0)), .ref (MA 0), .ref (MA 1), .ref (MA 2), .ref (MA 3), .ref (MA 4), .ref (MA 5), .ref (MA 6), .ref (MA 7), .ref (MA 8), .ref (MA 9), .int (nI (F 24 1)), .ref (MA 10), .ref (MA 11), .ref (MA 12), .int (nI (F 24 2 + 1)), .ref (MA 13), .ref (MA 14), .ref (MA 15), .int (nI (F 24 3)), .ref (MA 16), .ref (MA 17), .ref (MA 18), .ref (MA 19), .ref (MA 20), .ref (MA 21)])) ∧ wMod E (fU (fU (fU F 13 (F 24 2) (tn p1)) 14 (F 24 2) (F 11 (tn p1))) 24 2 (F 24 2 + 1)) MA mo (nI 0) wz ∧ wKm mo MA w wz := ⟨_, rfl, M_o (F := fU (fU F 13 (F 24 2) (tn p1)) 14 (F 24 2) (F 11 (tn p1))) (G := fU (fU (fU F 13 (F 24 2) (tn p1)) 14 (F 24 2) (F 11 (tn p1))) 24 2 (F 24 2 + 1)) (cd2 := nI 0) hm_64_2 (fun a b h => fU_k (by omega)), hk_64_2.tr wKm.o⟩
      rw [← hw9] at hP
      refine lv_aload_n hx hb dX7_addCaller_75 rfl (lv_at hl 0 rfl) ?_
      refine wl_get (T := TX7) C0 hP (show w_72_3 mo = some (.inr (7, [.int (nI 0), .int (nI (F 24 0)), .ref (MA 0), .ref (MA 1), .ref (MA 2), .ref (MA 3), .ref (MA 4), .ref (MA 5), .ref (MA 6), .ref (MA 7), .ref (MA 8), .ref (MA 9), .int (nI (F 24 1)), .ref (MA 10), .ref (MA 11), .ref (MA 12), .int (nI ((F 24 2 + 1))), .ref (MA 13), .ref (MA 14), .ref (MA 15), .int (nI (F 24 3)), .ref (MA 16), .ref (MA 17), .ref (MA 18), .ref (MA 19), .ref (MA 20), .ref (MA 21)])) from hm_72_3.x) hi_RX7 rfl 16 (by decide) hf_90 rfl dX7_addCaller_76 ?_
      refine lv_iconst (v := 1) hx hb dX7_addCaller_79 (by decide) ?_
      refine lv_isub hx hb dX7_addCaller_80 ?_
      rw [show ((nI ((F 24 2 + 1))) - 1) = (nI (F 24 2)) from nI_pred _]
      have hev : s_addCaller F p1 = (0, nI (F 24 2), f_addCaller F (tn p1)) := by simp [s_addCaller, q16, q31]
      exact wl_iret C0 hr rfl hP hS dX7_addCaller_81 (Nat.le_of_ble_eq_true rfl) (Nat.le_of_ble_eq_true rfl) (⟨by rw [hev], by rw [hev]; exact M_ext hm_72_3 (fun a b h => by first | (simp only [f_addCaller, fU]; done) | (simp only [f_addCaller, fU]; (repeat' split) <;> first | rfl | omega)) (by simp [f_addCaller, fU]) (by simp [f_addCaller, fU]) (by simp [f_addCaller, fU]) (by simp [f_addCaller, fU]), hk_72_3⟩)
    · have q31 : F 24 2 = 6 := (nI_eq (b := 6) (by omega) (by omega)).mp c_31
      refine lv_aload_n hx hb dX7_addCaller_34 rfl (lv_at hl 0 rfl) ?_
      refine lv_iconst (v := 2) hx hb dX7_addCaller_35 (by decide) ?_
      refine wl_on C0 ht hP hS (wl_runV (As := [.int 2]) (rest := []) C0 hP hS (k_X7_fails l hst E w_2_0 H.size F MA mo (nI 0) 2 hm_2_0) (cwV 1 hts gX7_addCaller_X7_fails rfl rfl rfl (by decide +kernel) ⟨(Nat.le_of_ble_eq_true rfl), (Nat.le_of_ble_eq_true rfl)⟩) (show w_2_0 mo = some (.inr (7, [.int (nI 0), .int (nI (F 24 0)), .ref (MA 0), .ref (MA 1), .ref (MA 2), .ref (MA 3), .ref (MA 4), .ref (MA 5), .ref (MA 6), .ref (MA 7), .ref (MA 8), .ref (MA 9), .int (nI (F 24 1)), .ref (MA 10), .ref (MA 11), .ref (MA 12), .int (nI (F 24 2)), .ref (MA 13), .ref (MA 14), .ref (MA 15), .int (nI (F 24 3)), .ref (MA 16), .ref (MA 17), .ref (MA 18), .ref (MA 19), .ref (MA 20), .ref (MA 21)])) from hm_2_0.x) rfl rfl rfl hl.1 (Nat.le_of_ble_eq_true rfl) dX7_addCaller_36 ⟨(Nat.le_of_ble_eq_true rfl), (Nat.le_of_ble_eq_true rfl)⟩) (Nat.le_of_ble_eq_true rfl) (Nat.le_of_ble_eq_true rfl) (fun _ _ h => h.elim) (fun v_36 w_36 H locs hq hP hS => ?_)
      obtain ⟨rfl, hm_36_4, hk2_36_4⟩ := hq
      have hk_36_4 := hk_2_0.tr hk2_36_4
      refine W.eq (g2 := F0 m 39 ls [.int 0]) rfl ?_
      have hev : s_addCaller F p1 = (2, 0, F) := by simp [s_addCaller, q16, q31]
      exact wl_iret C0 hr rfl hP hS dX7_addCaller_39 (Nat.le_of_ble_eq_true rfl) (Nat.le_of_ble_eq_true rfl) (⟨by rw [hev], by rw [hev]; exact hm_36_4, hk_36_4⟩)
  · have q16 : vpb p1 (F 24 1) = false := bI_0.mp c_16
    refine lv_aload_n hx hb dX7_addCaller_19 rfl (lv_at hl 0 rfl) ?_
    refine lv_iconst (v := 1) hx hb dX7_addCaller_20 (by decide) ?_
    refine wl_on C0 ht hP hS (wl_runV (As := [.int 1]) (rest := []) C0 hP hS (k_X7_fails l hst E w_2_0 H.size F MA mo (nI 0) 1 hm_2_0) (cwV 1 hts gX7_addCaller_X7_fails rfl rfl rfl (by decide +kernel) ⟨(Nat.le_of_ble_eq_true rfl), (Nat.le_of_ble_eq_true rfl)⟩) (show w_2_0 mo = some (.inr (7, [.int (nI 0), .int (nI (F 24 0)), .ref (MA 0), .ref (MA 1), .ref (MA 2), .ref (MA 3), .ref (MA 4), .ref (MA 5), .ref (MA 6), .ref (MA 7), .ref (MA 8), .ref (MA 9), .int (nI (F 24 1)), .ref (MA 10), .ref (MA 11), .ref (MA 12), .int (nI (F 24 2)), .ref (MA 13), .ref (MA 14), .ref (MA 15), .int (nI (F 24 3)), .ref (MA 16), .ref (MA 17), .ref (MA 18), .ref (MA 19), .ref (MA 20), .ref (MA 21)])) from hm_2_0.x) rfl rfl rfl hl.1 (Nat.le_of_ble_eq_true rfl) dX7_addCaller_21 ⟨(Nat.le_of_ble_eq_true rfl), (Nat.le_of_ble_eq_true rfl)⟩) (Nat.le_of_ble_eq_true rfl) (Nat.le_of_ble_eq_true rfl) (fun _ _ h => h.elim) (fun v_21 w_21 H locs hq hP hS => ?_)
    obtain ⟨rfl, hm_21_5, hk2_21_5⟩ := hq
    have hk_21_5 := hk_2_0.tr hk2_21_5
    refine W.eq (g2 := F0 m 24 ls [.int 0]) rfl ?_
    have hev : s_addCaller F p1 = (1, 0, F) := by simp [s_addCaller, q16]
    exact wl_iret C0 hr rfl hP hS dX7_addCaller_24 (Nat.le_of_ble_eq_true rfl) (Nat.le_of_ble_eq_true rfl) (⟨by rw [hev], by rw [hev]; exact hm_21_5, hk_21_5⟩)

set_option maxHeartbeats 4000000 in
set_option maxRecDepth 100000 in
theorem k_X7_setPlan (l : Launch) (hst : l.stackTraces = false) (E : wEn) (w : wW) (sz : Nat) (F : FF) (MA : Nat → Nat) (mo : Nat) (cd : Int32) (N : Nat) (hI : wInv F N) (hm : wMod E F MA mo cd w) (c1 p1 : Int32) : wM l yX7_setPlan wsX7_setPlan 2 0 0 E w sz [.ref mo, .int c1, .int p1] (fun v w2 => v = some (.int (s_setPlan F c1 p1).2.1) ∧ wMod E (s_setPlan F c1 p1).2.2 MA mo (nI (s_setPlan F c1 p1).1) w2 ∧ wKm mo MA w w2) (fun _ _ => False) := by
  refine wm_start (own := RX7) (cc := cX7_setPlan) (maxL := 4) (ret := (some .int)) rfl (by decide) rfl (Nat.le_of_ble_eq_true rfl) ?_
  intro p e s m args below meth c ls C0 hr hin ht hP hS hl
  have hx := C0.1
  have hb := C0.2.1
  have hts := C0.2.2.2.2.1
  have hown := C0.2.2.2.1
  have hl : lv_has ls 4 [(0, .ref mo), (1, .int c1), (2, .int p1)] := hl
  have hf_79 : (Cond.fieldLink RX7 79 "CallGatewayModel" "code" "I").before args s = true := hts _ (by decide +kernel)
  have hf_127 : (Cond.fieldLink RX7 127 "CallGatewayModel" "plans" "I").before args s = true := hts _ (by decide +kernel)
  have hf_50 : (Cond.fieldLink RX7 50 "CallGatewayModel" "planOf" "[I").before args s = true := hts _ (by decide +kernel)
  have hf_53 : (Cond.fieldLink RX7 53 "CallGatewayModel" "tokens" "[I").before args s = true := hts _ (by decide +kernel)
  have hf_44 : (Cond.fieldLink RX7 44 "CallGatewayModel" "bursts" "[I").before args s = true := hts _ (by decide +kernel)
  have hi_RX7 : ∀ w ∈ u_ws RX7 TX7 27, w ∈ wsX7_setPlan := fun _ h => List.mem_cons_of_mem _ (List.mem_append_left _ (List.mem_append_right _ h))
  have hn := hI.n
  have hn9 := hI.n
  refine lv_aload_n hx hb dX7_setPlan_0 rfl (lv_at hl 0 rfl) ?_
  refine lv_iconst (v := 0) hx hb dX7_setPlan_1 (by decide) ?_
  refine wl_put (T := TX7) (ty0 := tyX7) (fs2 := [.int 0, .int (nI (F 24 0)), .ref (MA 0), .ref (MA 1), .ref (MA 2), .ref (MA 3), .ref (MA 4), .ref (MA 5), .ref (MA 6), .ref (MA 7), .ref (MA 8), .ref (MA 9), .int (nI (F 24 1)), .ref (MA 10), .ref (MA 11), .ref (MA 12), .int (nI (F 24 2)), .ref (MA 13), .ref (MA 14), .ref (MA 15), .int (nI (F 24 3)), .ref (MA 16), .ref (MA 17), .ref (MA 18), .ref (MA 19), .ref (MA 20), .ref (MA 21)]) C0 hP hS (show w mo = some (.inr (7, [.int cd, .int (nI (F 24 0)), .ref (MA 0), .ref (MA 1), .ref (MA 2), .ref (MA 3), .ref (MA 4), .ref (MA 5), .ref (MA 6), .ref (MA 7), .ref (MA 8), .ref (MA 9), .int (nI (F 24 1)), .ref (MA 10), .ref (MA 11), .ref (MA 12), .int (nI (F 24 2)), .ref (MA 13), .ref (MA 14), .ref (MA 15), .int (nI (F 24 3)), .ref (MA 16), .ref (MA 17), .ref (MA 18), .ref (MA 19), .ref (MA 20), .ref (MA 21)])) from hm.x) hi_RX7 tyX7_ok nmX7 rfl 0 (by decide) hf_79 rfl rfl rfl rfl (Nat.le_of_ble_eq_true rfl) rfl dX7_setPlan_2 (fun H locs hP hS => ?_)
  obtain ⟨w_2_0, hw9, hm_2_0, hk_2_0⟩ : ∃ wz : wW, wz = wU w mo (.inr (7, [.int 0, .int (nI (F 24 0)), .ref (MA 0), .ref (MA 1), .ref (MA 2), .ref (MA 3), .ref (MA 4), .ref (MA 5), .ref (MA 6), .ref (MA 7), .ref (MA 8), .ref (MA 9), .int (nI (F 24 1)), .ref (MA 10), .ref (MA 11), .ref (MA 12), .int (nI (F 24 2)), .ref (MA 13), .ref (MA 14), .ref (MA 15), .int (nI (F 24 3)), .ref (MA 16), .ref (MA 17), .ref (MA 18), .ref (MA 19), .ref (MA 20), .ref (MA 21)])) ∧ wMod E F MA mo (nI 0) wz ∧ wKm mo MA w wz := ⟨_, rfl, M_o (F := F) (G := F) (cd2 := nI 0) hm (fun a b h => rfl), wKm.rf.tr wKm.o⟩
  rw [← hw9] at hP
  refine lv_aload_n hx hb dX7_setPlan_5 rfl (lv_at hl 0 rfl) ?_
  refine lv_iload_n hx hb dX7_setPlan_6 rfl (lv_at hl 1 rfl) ?_
  refine wl_on C0 ht hP hS (wl_runV (As := [.int c1]) (rest := []) C0 hP hS (k_X7_isCaller l hst E w_2_0 H.size F MA mo (nI 0) N hI hm_2_0 c1) (cwV 1 hts gX7_setPlan_X7_isCaller rfl rfl rfl (by decide +kernel) ⟨(Nat.le_of_ble_eq_true rfl), (Nat.le_of_ble_eq_true rfl)⟩) (show w_2_0 mo = some (.inr (7, [.int (nI 0), .int (nI (F 24 0)), .ref (MA 0), .ref (MA 1), .ref (MA 2), .ref (MA 3), .ref (MA 4), .ref (MA 5), .ref (MA 6), .ref (MA 7), .ref (MA 8), .ref (MA 9), .int (nI (F 24 1)), .ref (MA 10), .ref (MA 11), .ref (MA 12), .int (nI (F 24 2)), .ref (MA 13), .ref (MA 14), .ref (MA 15), .int (nI (F 24 3)), .ref (MA 16), .ref (MA 17), .ref (MA 18), .ref (MA 19), .ref (MA 20), .ref (MA 21)])) from hm_2_0.x) rfl rfl rfl hl.1 (Nat.le_of_ble_eq_true rfl) dX7_setPlan_7 ⟨(Nat.le_of_ble_eq_true rfl), (Nat.le_of_ble_eq_true rfl)⟩) (Nat.le_of_ble_eq_true rfl) (Nat.le_of_ble_eq_true rfl) (fun _ _ h => h.elim) (fun v_7 w_7 H locs hq hP hS => ?_)
  obtain ⟨rfl, hw9⟩ := hq
  rw [hw9] at hP
  refine W.eq (g2 := F0 m 10 ls [.int (bI (vpb c1 (F 24 2)))]) rfl ?_
  refine lv_if_eq (tgt := 27) hx hb dX7_setPlan_10 (by decide) (fun c_10 => ?_) (fun c_10 => ?_)
  · have q10 : vpb c1 (F 24 2) = false := bI_0.mp c_10
    refine lv_aload_n hx hb dX7_setPlan_27 rfl (lv_at hl 0 rfl) ?_
    refine lv_iconst (v := 1) hx hb dX7_setPlan_28 (by decide) ?_
    refine wl_on C0 ht hP hS (wl_runV (As := [.int 1]) (rest := []) C0 hP hS (k_X7_fails l hst E w_2_0 H.size F MA mo (nI 0) 1 hm_2_0) (cwV 1 hts gX7_setPlan_X7_fails rfl rfl rfl (by decide +kernel) ⟨(Nat.le_of_ble_eq_true rfl), (Nat.le_of_ble_eq_true rfl)⟩) (show w_2_0 mo = some (.inr (7, [.int (nI 0), .int (nI (F 24 0)), .ref (MA 0), .ref (MA 1), .ref (MA 2), .ref (MA 3), .ref (MA 4), .ref (MA 5), .ref (MA 6), .ref (MA 7), .ref (MA 8), .ref (MA 9), .int (nI (F 24 1)), .ref (MA 10), .ref (MA 11), .ref (MA 12), .int (nI (F 24 2)), .ref (MA 13), .ref (MA 14), .ref (MA 15), .int (nI (F 24 3)), .ref (MA 16), .ref (MA 17), .ref (MA 18), .ref (MA 19), .ref (MA 20), .ref (MA 21)])) from hm_2_0.x) rfl rfl rfl hl.1 (Nat.le_of_ble_eq_true rfl) dX7_setPlan_29 ⟨(Nat.le_of_ble_eq_true rfl), (Nat.le_of_ble_eq_true rfl)⟩) (Nat.le_of_ble_eq_true rfl) (Nat.le_of_ble_eq_true rfl) (fun _ _ h => h.elim) (fun v_29 w_29 H locs hq hP hS => ?_)
    obtain ⟨rfl, hm_29_1, hk2_29_1⟩ := hq
    have hk_29_1 := hk_2_0.tr hk2_29_1
    refine W.eq (g2 := F0 m 32 ls [.int 0]) rfl ?_
    have hev : s_setPlan F c1 p1 = (1, 0, F) := by simp [s_setPlan, q10]
    exact wl_iret C0 hr rfl hP hS dX7_setPlan_32 (Nat.le_of_ble_eq_true rfl) (Nat.le_of_ble_eq_true rfl) (⟨by rw [hev], by rw [hev]; exact hm_29_1, hk_29_1⟩)
  · have q10 : vpb c1 (F 24 2) = true := bI_n.mp c_10
    have hc9 := vpb_tn q10
    have hct := vpb_nt q10
    have h8 := hI.cl hc9
    have h7 := hI.pl h8.1
    have hl : lv_has ls 4 [(0, .ref mo), (1, .int (nI (tn c1))), (2, .int p1)] := by
      rw [hct]
      exact hl
    refine lv_iload_n hx hb dX7_setPlan_13 rfl (lv_at hl 2 rfl) ?_
    refine lv_iconst (v := 0) hx hb dX7_setPlan_14 (by decide) ?_
    refine lv_aload_n hx hb dX7_setPlan_15 rfl (lv_at hl 0 rfl) ?_
    refine wl_get (T := TX7) C0 hP (show w_2_0 mo = some (.inr (7, [.int (nI 0), .int (nI (F 24 0)), .ref (MA 0), .ref (MA 1), .ref (MA 2), .ref (MA 3), .ref (MA 4), .ref (MA 5), .ref (MA 6), .ref (MA 7), .ref (MA 8), .ref (MA 9), .int (nI (F 24 1)), .ref (MA 10), .ref (MA 11), .ref (MA 12), .int (nI (F 24 2)), .ref (MA 13), .ref (MA 14), .ref (MA 15), .int (nI (F 24 3)), .ref (MA 16), .ref (MA 17), .ref (MA 18), .ref (MA 19), .ref (MA 20), .ref (MA 21)])) from hm_2_0.x) hi_RX7 rfl 12 (by decide) hf_127 rfl dX7_setPlan_16 ?_
    refine lv_iconst (v := 1) hx hb dX7_setPlan_19 (by decide) ?_
    refine lv_isub hx hb dX7_setPlan_20 ?_
    refine wl_on C0 ht hP hS (wl_runS (As := [.int p1, .int 0, .int ((nI (F 24 1)) - 1)]) (rest := []) C0 hP hS (k_X7_in l hst E w_2_0 H.size p1 0 ((nI (F 24 1)) - 1)) (va_cwS 3 hts gX7_setPlan_X7_in rfl rfl rfl (by decide +kernel) ⟨(Nat.le_of_ble_eq_true rfl), (Nat.le_of_ble_eq_true rfl)⟩) rfl rfl hl.1 (Nat.le_of_ble_eq_true rfl) dX7_setPlan_21 ⟨(Nat.le_of_ble_eq_true rfl), (Nat.le_of_ble_eq_true rfl)⟩) (Nat.le_of_ble_eq_true rfl) (Nat.le_of_ble_eq_true rfl) (fun _ _ h => h.elim) (fun v_21 w_21 H locs hq hP hS => ?_)
    obtain ⟨rfl, hw9⟩ := hq
    rw [hw9] at hP
    refine W.eq (g2 := F0 m 24 ls [.int (bI (wi p1 0 ((nI (F 24 1)) - 1)))]) rfl ?_
    rw [show (bI (wi p1 0 ((nI (F 24 1)) - 1))) = (bI (vpb p1 (F 24 1))) from by rw [wi_vpb (by omega)]]
    refine lv_if_ne (tgt := 33) hx hb dX7_setPlan_24 (by decide) (fun c_24 => ?_) (fun c_24 => ?_)
    · have q24 : vpb p1 (F 24 1) = true := bI_n.mp c_24
      have hp9 := vpb_tn q24
      have hpt := vpb_nt q24
      have h6 := hI.pl hp9
      have hl : lv_has ls 4 [(0, .ref mo), (1, .int (nI (tn c1))), (2, .int (nI (tn p1)))] := by
        rw [hpt]
        exact hl
      refine lv_aload_n hx hb dX7_setPlan_33 rfl (lv_at hl 0 rfl) ?_
      refine wl_get (T := TX7) C0 hP (show w_2_0 mo = some (.inr (7, [.int (nI 0), .int (nI (F 24 0)), .ref (MA 0), .ref (MA 1), .ref (MA 2), .ref (MA 3), .ref (MA 4), .ref (MA 5), .ref (MA 6), .ref (MA 7), .ref (MA 8), .ref (MA 9), .int (nI (F 24 1)), .ref (MA 10), .ref (MA 11), .ref (MA 12), .int (nI (F 24 2)), .ref (MA 13), .ref (MA 14), .ref (MA 15), .int (nI (F 24 3)), .ref (MA 16), .ref (MA 17), .ref (MA 18), .ref (MA 19), .ref (MA 20), .ref (MA 21)])) from hm_2_0.x) hi_RX7 rfl 17 (by decide) hf_50 rfl dX7_setPlan_34 ?_
      refine lv_iload_n hx hb dX7_setPlan_37 rfl (lv_at hl 1 rfl) ?_
      refine lv_iload_n hx hb dX7_setPlan_38 rfl (lv_at hl 2 rfl) ?_
      refine wl_iast C0 hP hS (show w_2_0 (MA 13) = some (.inl (E.2.1 0, 6, .inl (fun i => nI (F 13 i)))) from hm_2_0.i 13 (by decide) rfl rfl rfl) (vp_in_nI (by omega) (by omega)) dX7_setPlan_39 (fun H locs hP hS => ?_)
      obtain ⟨w_39_2, hw9, hm_39_2, hk_39_2⟩ : ∃ wz : wW, wz = wU w_2_0 (MA 13) (.inl (E.2.1 0, 6, .inl (upd (fun i => nI (F 13 i)) (nI (tn c1)).toNatClampNeg (nI (tn p1))))) ∧ wMod E (fU F 13 (tn c1) (tn p1)) MA mo (nI 0) wz ∧ wKm mo MA w wz := ⟨_, rfl, M_s (F := F) hm_2_0 13 (tn c1) (tn p1) (by decide) (by rw [show (nI (tn c1)).toNatClampNeg = (tn c1) from nI_clamp (by omega), upd_nI]; rfl), hk_2_0.tr (wKm.s (by decide))⟩
      rw [← hw9] at hP
      refine lv_aload_n hx hb dX7_setPlan_40 rfl (lv_at hl 0 rfl) ?_
      refine wl_get (T := TX7) C0 hP (show w_39_2 mo = some (.inr (7, [.int (nI 0), .int (nI (F 24 0)), .ref (MA 0), .ref (MA 1), .ref (MA 2), .ref (MA 3), .ref (MA 4), .ref (MA 5), .ref (MA 6), .ref (MA 7), .ref (MA 8), .ref (MA 9), .int (nI (F 24 1)), .ref (MA 10), .ref (MA 11), .ref (MA 12), .int (nI (F 24 2)), .ref (MA 13), .ref (MA 14), .ref (MA 15), .int (nI (F 24 3)), .ref (MA 16), .ref (MA 17), .ref (MA 18), .ref (MA 19), .ref (MA 20), .ref (MA 21)])) from hm_39_2.x) hi_RX7 rfl 18 (by decide) hf_53 rfl dX7_setPlan_41 ?_
      refine lv_iload_n hx hb dX7_setPlan_44 rfl (lv_at hl 1 rfl) ?_
      refine wl_iald C0 hP (show w_39_2 (MA 14) = some (.inl (E.2.1 0, 6, .inl (fun i => nI (F 14 i)))) from hm_39_2.i 14 (by decide) rfl rfl rfl) (vp_in_nI (by omega) (by omega)) dX7_setPlan_45 ?_
      refine W.eq (g2 := F0 m 46 ls [.int (nI (F 14 (tn c1)))]) (by rw [show (nI (tn c1)).toNatClampNeg = (tn c1) from nI_clamp (by omega)]) ?_
      refine lv_aload_n hx hb dX7_setPlan_46 rfl (lv_at hl 0 rfl) ?_
      refine wl_get (T := TX7) C0 hP (show w_39_2 mo = some (.inr (7, [.int (nI 0), .int (nI (F 24 0)), .ref (MA 0), .ref (MA 1), .ref (MA 2), .ref (MA 3), .ref (MA 4), .ref (MA 5), .ref (MA 6), .ref (MA 7), .ref (MA 8), .ref (MA 9), .int (nI (F 24 1)), .ref (MA 10), .ref (MA 11), .ref (MA 12), .int (nI (F 24 2)), .ref (MA 13), .ref (MA 14), .ref (MA 15), .int (nI (F 24 3)), .ref (MA 16), .ref (MA 17), .ref (MA 18), .ref (MA 19), .ref (MA 20), .ref (MA 21)])) from hm_39_2.x) hi_RX7 rfl 14 (by decide) hf_44 rfl dX7_setPlan_47 ?_
      refine lv_iload_n hx hb dX7_setPlan_50 rfl (lv_at hl 2 rfl) ?_
      refine wl_iald C0 hP (show w_39_2 (MA 11) = some (.inl (E.2.1 0, 3, .inl (fun i => nI (F 11 i)))) from hm_39_2.i 11 (by decide) rfl rfl rfl) (vp_in_nI (by omega) (by omega)) dX7_setPlan_51 ?_
      refine W.eq (g2 := F0 m 52 ls [.int (nI (F 11 (tn p1))), .int (nI (F 14 (tn c1)))]) (by rw [show (nI (tn p1)).toNatClampNeg = (tn p1) from nI_clamp (by omega)]) ?_
      refine lv_icmp_le (tgt := 71) hx hb dX7_setPlan_52 (by decide) (fun c_52 => ?_) (fun c_52 => ?_)
      · have q52 : F 14 (tn c1) ≤ F 11 (tn p1) := (nI_leI (by omega) (by omega)).mp c_52
        refine lv_iconst (v := 0) hx hb dX7_setPlan_71 (by decide) ?_
        refine W.eq (g2 := F0 m 72 ls [.int (nI (F 14 (tn c1) - F 11 (tn p1)))]) (by rw [sp_0 q52]) ?_
        refine lv_istore_n (lv' := [(3, .int (nI (F 14 (tn c1) - F 11 (tn p1)))), (0, .ref mo), (1, .int (nI (tn c1))), (2, .int (nI (tn p1)))]) hx hb dX7_setPlan_72 rfl hl (by decide) rfl (fun ls hl => ?_)
        refine lv_aload_n hx hb dX7_setPlan_73 rfl (lv_at hl 1 rfl) ?_
        refine wl_get (T := TX7) C0 hP (show w_39_2 mo = some (.inr (7, [.int (nI 0), .int (nI (F 24 0)), .ref (MA 0), .ref (MA 1), .ref (MA 2), .ref (MA 3), .ref (MA 4), .ref (MA 5), .ref (MA 6), .ref (MA 7), .ref (MA 8), .ref (MA 9), .int (nI (F 24 1)), .ref (MA 10), .ref (MA 11), .ref (MA 12), .int (nI (F 24 2)), .ref (MA 13), .ref (MA 14), .ref (MA 15), .int (nI (F 24 3)), .ref (MA 16), .ref (MA 17), .ref (MA 18), .ref (MA 19), .ref (MA 20), .ref (MA 21)])) from hm_39_2.x) hi_RX7 rfl 18 (by decide) hf_53 rfl dX7_setPlan_74 ?_
        refine lv_iload_n hx hb dX7_setPlan_77 rfl (lv_at hl 2 rfl) ?_
        refine lv_dup2_11 hx hb dX7_setPlan_78 rfl rfl ?_
        refine wl_iald C0 hP (show w_39_2 (MA 14) = some (.inl (E.2.1 0, 6, .inl (fun i => nI (F 14 i)))) from hm_39_2.i 14 (by decide) rfl rfl rfl) (vp_in_nI (by omega) (by omega)) dX7_setPlan_79 ?_
        refine W.eq (g2 := F0 m 80 ls [.int (nI (F 14 (tn c1))), .int (nI (tn c1)), .ref (MA 14)]) (by rw [show (nI (tn c1)).toNatClampNeg = (tn c1) from nI_clamp (by omega)]) ?_
        refine lv_iload_n hx hb dX7_setPlan_80 rfl (lv_at hl 0 rfl) ?_
        refine lv_isub hx hb dX7_setPlan_81 ?_
        rw [show ((nI (F 14 (tn c1))) - (nI (F 14 (tn c1) - F 11 (tn p1)))) = (nI (F 14 (tn c1) - (F 14 (tn c1) - F 11 (tn p1)))) from pk_sub (by omega)]
        refine wl_iast C0 hP hS (show w_39_2 (MA 14) = some (.inl (E.2.1 0, 6, .inl (fun i => nI (F 14 i)))) from hm_39_2.i 14 (by decide) rfl rfl rfl) (vp_in_nI (by omega) (by omega)) dX7_setPlan_82 (fun H locs hP hS => ?_)
        obtain ⟨w_82_3, hw9, hm_82_3, hk_82_3⟩ : ∃ wz : wW, wz = wU w_39_2 (MA 14) (.inl (E.2.1 0, 6, .inl (upd (fun i => nI (F 14 i)) (nI (tn c1)).toNatClampNeg (nI (F 14 (tn c1) - (F 14 (tn c1) - F 11 (tn p1))))))) ∧ wMod E (fU (fU F 13 (tn c1) (tn p1)) 14 (tn c1) (F 14 (tn c1) - (F 14 (tn c1) - F 11 (tn p1)))) MA mo (nI 0) wz ∧ wKm mo MA w wz := ⟨_, rfl, M_s (F := fU F 13 (tn c1) (tn p1)) hm_39_2 14 (tn c1) (F 14 (tn c1) - (F 14 (tn c1) - F 11 (tn p1))) (by decide) (by rw [show (nI (tn c1)).toNatClampNeg = (tn c1) from nI_clamp (by omega), upd_nI]; rfl), hk_39_2.tr (wKm.s (by decide))⟩
        rw [← hw9] at hP
        refine lv_iload_n hx hb dX7_setPlan_83 rfl (lv_at hl 0 rfl) ?_
        have hev : s_setPlan F c1 p1 = (0, nI (F 14 (tn c1) - F 11 (tn p1)), fU (fU F 13 (tn c1) (tn p1)) 14 (tn c1) (F 14 (tn c1) - (F 14 (tn c1) - F 11 (tn p1)))) := by simp [s_setPlan, q10, q24]
        exact wl_iret C0 hr rfl hP hS dX7_setPlan_84 (Nat.le_of_ble_eq_true rfl) (Nat.le_of_ble_eq_true rfl) (⟨by rw [hev], by rw [hev]; exact hm_82_3, hk_82_3⟩)
      · have q52 : ¬ F 14 (tn c1) ≤ F 11 (tn p1) := fun q => c_52 ((nI_leI (by omega) (by omega)).mpr q)
        refine lv_aload_n hx hb dX7_setPlan_55 rfl (lv_at hl 0 rfl) ?_
        refine wl_get (T := TX7) C0 hP (show w_39_2 mo = some (.inr (7, [.int (nI 0), .int (nI (F 24 0)), .ref (MA 0), .ref (MA 1), .ref (MA 2), .ref (MA 3), .ref (MA 4), .ref (MA 5), .ref (MA 6), .ref (MA 7), .ref (MA 8), .ref (MA 9), .int (nI (F 24 1)), .ref (MA 10), .ref (MA 11), .ref (MA 12), .int (nI (F 24 2)), .ref (MA 13), .ref (MA 14), .ref (MA 15), .int (nI (F 24 3)), .ref (MA 16), .ref (MA 17), .ref (MA 18), .ref (MA 19), .ref (MA 20), .ref (MA 21)])) from hm_39_2.x) hi_RX7 rfl 18 (by decide) hf_53 rfl dX7_setPlan_56 ?_
        refine lv_iload_n hx hb dX7_setPlan_59 rfl (lv_at hl 1 rfl) ?_
        refine wl_iald C0 hP (show w_39_2 (MA 14) = some (.inl (E.2.1 0, 6, .inl (fun i => nI (F 14 i)))) from hm_39_2.i 14 (by decide) rfl rfl rfl) (vp_in_nI (by omega) (by omega)) dX7_setPlan_60 ?_
        refine W.eq (g2 := F0 m 61 ls [.int (nI (F 14 (tn c1)))]) (by rw [show (nI (tn c1)).toNatClampNeg = (tn c1) from nI_clamp (by omega)]) ?_
        refine lv_aload_n hx hb dX7_setPlan_61 rfl (lv_at hl 0 rfl) ?_
        refine wl_get (T := TX7) C0 hP (show w_39_2 mo = some (.inr (7, [.int (nI 0), .int (nI (F 24 0)), .ref (MA 0), .ref (MA 1), .ref (MA 2), .ref (MA 3), .ref (MA 4), .ref (MA 5), .ref (MA 6), .ref (MA 7), .ref (MA 8), .ref (MA 9), .int (nI (F 24 1)), .ref (MA 10), .ref (MA 11), .ref (MA 12), .int (nI (F 24 2)), .ref (MA 13), .ref (MA 14), .ref (MA 15), .int (nI (F 24 3)), .ref (MA 16), .ref (MA 17), .ref (MA 18), .ref (MA 19), .ref (MA 20), .ref (MA 21)])) from hm_39_2.x) hi_RX7 rfl 14 (by decide) hf_44 rfl dX7_setPlan_62 ?_
        refine lv_iload_n hx hb dX7_setPlan_65 rfl (lv_at hl 2 rfl) ?_
        refine wl_iald C0 hP (show w_39_2 (MA 11) = some (.inl (E.2.1 0, 3, .inl (fun i => nI (F 11 i)))) from hm_39_2.i 11 (by decide) rfl rfl rfl) (vp_in_nI (by omega) (by omega)) dX7_setPlan_66 ?_
        refine W.eq (g2 := F0 m 67 ls [.int (nI (F 11 (tn p1))), .int (nI (F 14 (tn c1)))]) (by rw [show (nI (tn p1)).toNatClampNeg = (tn p1) from nI_clamp (by omega)]) ?_
        refine lv_isub hx hb dX7_setPlan_67 ?_
        rw [show ((nI (F 14 (tn c1))) - (nI (F 11 (tn p1)))) = (nI (F 14 (tn c1) - F 11 (tn p1))) from pk_sub (by omega)]
        refine lv_goto (tgt := 72) hx hb dX7_setPlan_68 (by decide) ?_
        refine lv_istore_n (lv' := [(3, .int (nI (F 14 (tn c1) - F 11 (tn p1)))), (0, .ref mo), (1, .int (nI (tn c1))), (2, .int (nI (tn p1)))]) hx hb dX7_setPlan_72 rfl hl (by decide) rfl (fun ls hl => ?_)
        refine lv_aload_n hx hb dX7_setPlan_73 rfl (lv_at hl 1 rfl) ?_
        refine wl_get (T := TX7) C0 hP (show w_39_2 mo = some (.inr (7, [.int (nI 0), .int (nI (F 24 0)), .ref (MA 0), .ref (MA 1), .ref (MA 2), .ref (MA 3), .ref (MA 4), .ref (MA 5), .ref (MA 6), .ref (MA 7), .ref (MA 8), .ref (MA 9), .int (nI (F 24 1)), .ref (MA 10), .ref (MA 11), .ref (MA 12), .int (nI (F 24 2)), .ref (MA 13), .ref (MA 14), .ref (MA 15), .int (nI (F 24 3)), .ref (MA 16), .ref (MA 17), .ref (MA 18), .ref (MA 19), .ref (MA 20), .ref (MA 21)])) from hm_39_2.x) hi_RX7 rfl 18 (by decide) hf_53 rfl dX7_setPlan_74 ?_
        refine lv_iload_n hx hb dX7_setPlan_77 rfl (lv_at hl 2 rfl) ?_
        refine lv_dup2_11 hx hb dX7_setPlan_78 rfl rfl ?_
        refine wl_iald C0 hP (show w_39_2 (MA 14) = some (.inl (E.2.1 0, 6, .inl (fun i => nI (F 14 i)))) from hm_39_2.i 14 (by decide) rfl rfl rfl) (vp_in_nI (by omega) (by omega)) dX7_setPlan_79 ?_
        refine W.eq (g2 := F0 m 80 ls [.int (nI (F 14 (tn c1))), .int (nI (tn c1)), .ref (MA 14)]) (by rw [show (nI (tn c1)).toNatClampNeg = (tn c1) from nI_clamp (by omega)]) ?_
        refine lv_iload_n hx hb dX7_setPlan_80 rfl (lv_at hl 0 rfl) ?_
        refine lv_isub hx hb dX7_setPlan_81 ?_
        rw [show ((nI (F 14 (tn c1))) - (nI (F 14 (tn c1) - F 11 (tn p1)))) = (nI (F 14 (tn c1) - (F 14 (tn c1) - F 11 (tn p1)))) from pk_sub (by omega)]
        refine wl_iast C0 hP hS (show w_39_2 (MA 14) = some (.inl (E.2.1 0, 6, .inl (fun i => nI (F 14 i)))) from hm_39_2.i 14 (by decide) rfl rfl rfl) (vp_in_nI (by omega) (by omega)) dX7_setPlan_82 (fun H locs hP hS => ?_)
        obtain ⟨w_82_4, hw9, hm_82_4, hk_82_4⟩ : ∃ wz : wW, wz = wU w_39_2 (MA 14) (.inl (E.2.1 0, 6, .inl (upd (fun i => nI (F 14 i)) (nI (tn c1)).toNatClampNeg (nI (F 14 (tn c1) - (F 14 (tn c1) - F 11 (tn p1))))))) ∧ wMod E (fU (fU F 13 (tn c1) (tn p1)) 14 (tn c1) (F 14 (tn c1) - (F 14 (tn c1) - F 11 (tn p1)))) MA mo (nI 0) wz ∧ wKm mo MA w wz := ⟨_, rfl, M_s (F := fU F 13 (tn c1) (tn p1)) hm_39_2 14 (tn c1) (F 14 (tn c1) - (F 14 (tn c1) - F 11 (tn p1))) (by decide) (by rw [show (nI (tn c1)).toNatClampNeg = (tn c1) from nI_clamp (by omega), upd_nI]; rfl), hk_39_2.tr (wKm.s (by decide))⟩
        rw [← hw9] at hP
        refine lv_iload_n hx hb dX7_setPlan_83 rfl (lv_at hl 0 rfl) ?_
        have hev : s_setPlan F c1 p1 = (0, nI (F 14 (tn c1) - F 11 (tn p1)), fU (fU F 13 (tn c1) (tn p1)) 14 (tn c1) (F 14 (tn c1) - (F 14 (tn c1) - F 11 (tn p1)))) := by simp [s_setPlan, q10, q24]
        exact wl_iret C0 hr rfl hP hS dX7_setPlan_84 (Nat.le_of_ble_eq_true rfl) (Nat.le_of_ble_eq_true rfl) (⟨by rw [hev], by rw [hev]; exact hm_82_4, hk_82_4⟩)
    · have q24 : vpb p1 (F 24 1) = false := bI_0.mp c_24
      refine lv_aload_n hx hb dX7_setPlan_27 rfl (lv_at hl 0 rfl) ?_
      refine lv_iconst (v := 1) hx hb dX7_setPlan_28 (by decide) ?_
      refine wl_on C0 ht hP hS (wl_runV (As := [.int 1]) (rest := []) C0 hP hS (k_X7_fails l hst E w_2_0 H.size F MA mo (nI 0) 1 hm_2_0) (cwV 1 hts gX7_setPlan_X7_fails rfl rfl rfl (by decide +kernel) ⟨(Nat.le_of_ble_eq_true rfl), (Nat.le_of_ble_eq_true rfl)⟩) (show w_2_0 mo = some (.inr (7, [.int (nI 0), .int (nI (F 24 0)), .ref (MA 0), .ref (MA 1), .ref (MA 2), .ref (MA 3), .ref (MA 4), .ref (MA 5), .ref (MA 6), .ref (MA 7), .ref (MA 8), .ref (MA 9), .int (nI (F 24 1)), .ref (MA 10), .ref (MA 11), .ref (MA 12), .int (nI (F 24 2)), .ref (MA 13), .ref (MA 14), .ref (MA 15), .int (nI (F 24 3)), .ref (MA 16), .ref (MA 17), .ref (MA 18), .ref (MA 19), .ref (MA 20), .ref (MA 21)])) from hm_2_0.x) rfl rfl rfl hl.1 (Nat.le_of_ble_eq_true rfl) dX7_setPlan_29 ⟨(Nat.le_of_ble_eq_true rfl), (Nat.le_of_ble_eq_true rfl)⟩) (Nat.le_of_ble_eq_true rfl) (Nat.le_of_ble_eq_true rfl) (fun _ _ h => h.elim) (fun v_29 w_29 H locs hq hP hS => ?_)
      obtain ⟨rfl, hm_29_5, hk2_29_5⟩ := hq
      have hk_29_5 := hk_2_0.tr hk2_29_5
      refine W.eq (g2 := F0 m 32 ls [.int 0]) rfl ?_
      have hev : s_setPlan F c1 p1 = (1, 0, F) := by simp [s_setPlan, q10, q24]
      exact wl_iret C0 hr rfl hP hS dX7_setPlan_32 (Nat.le_of_ble_eq_true rfl) (Nat.le_of_ble_eq_true rfl) (⟨by rw [hev], by rw [hev]; exact hm_29_5, hk_29_5⟩)

set_option maxHeartbeats 4000000 in
set_option maxRecDepth 100000 in
theorem k_X7_tokens (l : Launch) (hst : l.stackTraces = false) (E : wEn) (w : wW) (sz : Nat) (F : FF) (MA : Nat → Nat) (mo : Nat) (cd : Int32) (N : Nat) (hI : wInv F N) (hm : wMod E F MA mo cd w) (c1 : Int32) : wM l yX7_tokens wsX7_tokens 2 0 0 E w sz [.ref mo, .int c1] (fun v w2 => v = some (.int (s_tokens F c1).2.1) ∧ wMod E (s_tokens F c1).2.2 MA mo (nI (s_tokens F c1).1) w2 ∧ wKm mo MA w w2) (fun _ _ => False) := by
  refine wm_start (own := RX7) (cc := cX7_tokens) (maxL := 2) (ret := (some .int)) rfl (by decide) rfl (Nat.le_of_ble_eq_true rfl) ?_
  intro p e s m args below meth c ls C0 hr hin ht hP hS hl
  have hx := C0.1
  have hb := C0.2.1
  have hts := C0.2.2.2.2.1
  have hown := C0.2.2.2.1
  have hl : lv_has ls 2 [(0, .ref mo), (1, .int c1)] := hl
  have hf_79 : (Cond.fieldLink RX7 79 "CallGatewayModel" "code" "I").before args s = true := hts _ (by decide +kernel)
  have hf_53 : (Cond.fieldLink RX7 53 "CallGatewayModel" "tokens" "[I").before args s = true := hts _ (by decide +kernel)
  have hi_RX7 : ∀ w ∈ u_ws RX7 TX7 27, w ∈ wsX7_tokens := fun _ h => List.mem_cons_of_mem _ (List.mem_append_left _ (List.mem_append_right _ h))
  have hn := hI.n
  have hn9 := hI.n
  refine lv_aload_n hx hb dX7_tokens_0 rfl (lv_at hl 0 rfl) ?_
  refine lv_iconst (v := 0) hx hb dX7_tokens_1 (by decide) ?_
  refine wl_put (T := TX7) (ty0 := tyX7) (fs2 := [.int 0, .int (nI (F 24 0)), .ref (MA 0), .ref (MA 1), .ref (MA 2), .ref (MA 3), .ref (MA 4), .ref (MA 5), .ref (MA 6), .ref (MA 7), .ref (MA 8), .ref (MA 9), .int (nI (F 24 1)), .ref (MA 10), .ref (MA 11), .ref (MA 12), .int (nI (F 24 2)), .ref (MA 13), .ref (MA 14), .ref (MA 15), .int (nI (F 24 3)), .ref (MA 16), .ref (MA 17), .ref (MA 18), .ref (MA 19), .ref (MA 20), .ref (MA 21)]) C0 hP hS (show w mo = some (.inr (7, [.int cd, .int (nI (F 24 0)), .ref (MA 0), .ref (MA 1), .ref (MA 2), .ref (MA 3), .ref (MA 4), .ref (MA 5), .ref (MA 6), .ref (MA 7), .ref (MA 8), .ref (MA 9), .int (nI (F 24 1)), .ref (MA 10), .ref (MA 11), .ref (MA 12), .int (nI (F 24 2)), .ref (MA 13), .ref (MA 14), .ref (MA 15), .int (nI (F 24 3)), .ref (MA 16), .ref (MA 17), .ref (MA 18), .ref (MA 19), .ref (MA 20), .ref (MA 21)])) from hm.x) hi_RX7 tyX7_ok nmX7 rfl 0 (by decide) hf_79 rfl rfl rfl rfl (Nat.le_of_ble_eq_true rfl) rfl dX7_tokens_2 (fun H locs hP hS => ?_)
  obtain ⟨w_2_0, hw9, hm_2_0, hk_2_0⟩ : ∃ wz : wW, wz = wU w mo (.inr (7, [.int 0, .int (nI (F 24 0)), .ref (MA 0), .ref (MA 1), .ref (MA 2), .ref (MA 3), .ref (MA 4), .ref (MA 5), .ref (MA 6), .ref (MA 7), .ref (MA 8), .ref (MA 9), .int (nI (F 24 1)), .ref (MA 10), .ref (MA 11), .ref (MA 12), .int (nI (F 24 2)), .ref (MA 13), .ref (MA 14), .ref (MA 15), .int (nI (F 24 3)), .ref (MA 16), .ref (MA 17), .ref (MA 18), .ref (MA 19), .ref (MA 20), .ref (MA 21)])) ∧ wMod E F MA mo (nI 0) wz ∧ wKm mo MA w wz := ⟨_, rfl, M_o (F := F) (G := F) (cd2 := nI 0) hm (fun a b h => rfl), wKm.rf.tr wKm.o⟩
  rw [← hw9] at hP
  refine lv_aload_n hx hb dX7_tokens_5 rfl (lv_at hl 0 rfl) ?_
  refine lv_iload_n hx hb dX7_tokens_6 rfl (lv_at hl 1 rfl) ?_
  refine wl_on C0 ht hP hS (wl_runV (As := [.int c1]) (rest := []) C0 hP hS (k_X7_isCaller l hst E w_2_0 H.size F MA mo (nI 0) N hI hm_2_0 c1) (cwV 1 hts gX7_tokens_X7_isCaller rfl rfl rfl (by decide +kernel) ⟨(Nat.le_of_ble_eq_true rfl), (Nat.le_of_ble_eq_true rfl)⟩) (show w_2_0 mo = some (.inr (7, [.int (nI 0), .int (nI (F 24 0)), .ref (MA 0), .ref (MA 1), .ref (MA 2), .ref (MA 3), .ref (MA 4), .ref (MA 5), .ref (MA 6), .ref (MA 7), .ref (MA 8), .ref (MA 9), .int (nI (F 24 1)), .ref (MA 10), .ref (MA 11), .ref (MA 12), .int (nI (F 24 2)), .ref (MA 13), .ref (MA 14), .ref (MA 15), .int (nI (F 24 3)), .ref (MA 16), .ref (MA 17), .ref (MA 18), .ref (MA 19), .ref (MA 20), .ref (MA 21)])) from hm_2_0.x) rfl rfl rfl hl.1 (Nat.le_of_ble_eq_true rfl) dX7_tokens_7 ⟨(Nat.le_of_ble_eq_true rfl), (Nat.le_of_ble_eq_true rfl)⟩) (Nat.le_of_ble_eq_true rfl) (Nat.le_of_ble_eq_true rfl) (fun _ _ h => h.elim) (fun v_7 w_7 H locs hq hP hS => ?_)
  obtain ⟨rfl, hw9⟩ := hq
  rw [hw9] at hP
  refine W.eq (g2 := F0 m 10 ls [.int (bI (vpb c1 (F 24 2)))]) rfl ?_
  refine lv_if_eq (tgt := 22) hx hb dX7_tokens_10 (by decide) (fun c_10 => ?_) (fun c_10 => ?_)
  · have q10 : vpb c1 (F 24 2) = false := bI_0.mp c_10
    refine lv_aload_n hx hb dX7_tokens_22 rfl (lv_at hl 0 rfl) ?_
    refine lv_iconst (v := 1) hx hb dX7_tokens_23 (by decide) ?_
    refine wl_on C0 ht hP hS (wl_runV (As := [.int 1]) (rest := []) C0 hP hS (k_X7_fails l hst E w_2_0 H.size F MA mo (nI 0) 1 hm_2_0) (cwV 1 hts gX7_tokens_X7_fails rfl rfl rfl (by decide +kernel) ⟨(Nat.le_of_ble_eq_true rfl), (Nat.le_of_ble_eq_true rfl)⟩) (show w_2_0 mo = some (.inr (7, [.int (nI 0), .int (nI (F 24 0)), .ref (MA 0), .ref (MA 1), .ref (MA 2), .ref (MA 3), .ref (MA 4), .ref (MA 5), .ref (MA 6), .ref (MA 7), .ref (MA 8), .ref (MA 9), .int (nI (F 24 1)), .ref (MA 10), .ref (MA 11), .ref (MA 12), .int (nI (F 24 2)), .ref (MA 13), .ref (MA 14), .ref (MA 15), .int (nI (F 24 3)), .ref (MA 16), .ref (MA 17), .ref (MA 18), .ref (MA 19), .ref (MA 20), .ref (MA 21)])) from hm_2_0.x) rfl rfl rfl hl.1 (Nat.le_of_ble_eq_true rfl) dX7_tokens_24 ⟨(Nat.le_of_ble_eq_true rfl), (Nat.le_of_ble_eq_true rfl)⟩) (Nat.le_of_ble_eq_true rfl) (Nat.le_of_ble_eq_true rfl) (fun _ _ h => h.elim) (fun v_24 w_24 H locs hq hP hS => ?_)
    obtain ⟨rfl, hm_24_1, hk2_24_1⟩ := hq
    have hk_24_1 := hk_2_0.tr hk2_24_1
    refine W.eq (g2 := F0 m 27 ls [.int 0]) rfl ?_
    have hev : s_tokens F c1 = (1, 0, F) := by simp [s_tokens, q10]
    exact wl_iret C0 hr rfl hP hS dX7_tokens_27 (Nat.le_of_ble_eq_true rfl) (Nat.le_of_ble_eq_true rfl) (⟨by rw [hev], by rw [hev]; exact hm_24_1, hk_24_1⟩)
  · have q10 : vpb c1 (F 24 2) = true := bI_n.mp c_10
    have hc9 := vpb_tn q10
    have hct := vpb_nt q10
    have hl : lv_has ls 2 [(0, .ref mo), (1, .int (nI (tn c1)))] := by
      rw [hct]
      exact hl
    refine lv_aload_n hx hb dX7_tokens_13 rfl (lv_at hl 0 rfl) ?_
    refine wl_get (T := TX7) C0 hP (show w_2_0 mo = some (.inr (7, [.int (nI 0), .int (nI (F 24 0)), .ref (MA 0), .ref (MA 1), .ref (MA 2), .ref (MA 3), .ref (MA 4), .ref (MA 5), .ref (MA 6), .ref (MA 7), .ref (MA 8), .ref (MA 9), .int (nI (F 24 1)), .ref (MA 10), .ref (MA 11), .ref (MA 12), .int (nI (F 24 2)), .ref (MA 13), .ref (MA 14), .ref (MA 15), .int (nI (F 24 3)), .ref (MA 16), .ref (MA 17), .ref (MA 18), .ref (MA 19), .ref (MA 20), .ref (MA 21)])) from hm_2_0.x) hi_RX7 rfl 18 (by decide) hf_53 rfl dX7_tokens_14 ?_
    refine lv_iload_n hx hb dX7_tokens_17 rfl (lv_at hl 1 rfl) ?_
    refine wl_iald C0 hP (show w_2_0 (MA 14) = some (.inl (E.2.1 0, 6, .inl (fun i => nI (F 14 i)))) from hm_2_0.i 14 (by decide) rfl rfl rfl) (vp_in_nI (by omega) (by omega)) dX7_tokens_18 ?_
    refine W.eq (g2 := F0 m 19 ls [.int (nI (F 14 (tn c1)))]) (by rw [show (nI (tn c1)).toNatClampNeg = (tn c1) from nI_clamp (by omega)]) ?_
    refine lv_goto (tgt := 27) hx hb dX7_tokens_19 (by decide) ?_
    have hev : s_tokens F c1 = (0, nI (F 14 (tn c1)), F) := by simp [s_tokens, q10]
    exact wl_iret C0 hr rfl hP hS dX7_tokens_27 (Nat.le_of_ble_eq_true rfl) (Nat.le_of_ble_eq_true rfl) (⟨by rw [hev], by rw [hev]; exact hm_2_0, hk_2_0⟩)

set_option maxHeartbeats 4000000 in
set_option maxRecDepth 100000 in
theorem k_X7_ticksUntil (l : Launch) (hst : l.stackTraces = false) (E : wEn) (w : wW) (sz : Nat) (F : FF) (MA : Nat → Nat) (mo : Nat) (cd : Int32) (N : Nat) (hI : wInv F N) (hm : wMod E F MA mo cd w) (c1 r1 : Int32) : wM l yX7_ticksUntil wsX7_ticksUntil 2 0 0 E w sz [.ref mo, .int c1, .int r1] (fun v w2 => v = some (.int (s_ticksUntil F c1 r1).2.1) ∧ wMod E (s_ticksUntil F c1 r1).2.2 MA mo (nI (s_ticksUntil F c1 r1).1) w2 ∧ wKm mo MA w w2) (fun _ _ => False) := by
  refine wm_start (own := RX7) (cc := cX7_ticksUntil) (maxL := 5) (ret := (some .int)) rfl (by decide) rfl (Nat.le_of_ble_eq_true rfl) ?_
  intro p e s m args below meth c ls C0 hr hin ht hP hS hl
  have hx := C0.1
  have hb := C0.2.1
  have hts := C0.2.2.2.2.1
  have hown := C0.2.2.2.1
  have hl : lv_has ls 5 [(0, .ref mo), (1, .int c1), (2, .int r1)] := hl
  have hf_79 : (Cond.fieldLink RX7 79 "CallGatewayModel" "code" "I").before args s = true := hts _ (by decide +kernel)
  have hf_13 : (Cond.fieldLink RX7 13 "CallGatewayModel" "costs" "[I").before args s = true := hts _ (by decide +kernel)
  have hf_44 : (Cond.fieldLink RX7 44 "CallGatewayModel" "bursts" "[I").before args s = true := hts _ (by decide +kernel)
  have hf_50 : (Cond.fieldLink RX7 50 "CallGatewayModel" "planOf" "[I").before args s = true := hts _ (by decide +kernel)
  have hf_53 : (Cond.fieldLink RX7 53 "CallGatewayModel" "tokens" "[I").before args s = true := hts _ (by decide +kernel)
  have hf_41 : (Cond.fieldLink RX7 41 "CallGatewayModel" "rates" "[I").before args s = true := hts _ (by decide +kernel)
  have hi_RX7 : ∀ w ∈ u_ws RX7 TX7 27, w ∈ wsX7_ticksUntil := fun _ h => List.mem_cons_of_mem _ (List.mem_append_left _ (List.mem_append_right _ h))
  have hn := hI.n
  have hn9 := hI.n
  refine lv_aload_n hx hb dX7_ticksUntil_0 rfl (lv_at hl 0 rfl) ?_
  refine lv_iconst (v := 0) hx hb dX7_ticksUntil_1 (by decide) ?_
  refine wl_put (T := TX7) (ty0 := tyX7) (fs2 := [.int 0, .int (nI (F 24 0)), .ref (MA 0), .ref (MA 1), .ref (MA 2), .ref (MA 3), .ref (MA 4), .ref (MA 5), .ref (MA 6), .ref (MA 7), .ref (MA 8), .ref (MA 9), .int (nI (F 24 1)), .ref (MA 10), .ref (MA 11), .ref (MA 12), .int (nI (F 24 2)), .ref (MA 13), .ref (MA 14), .ref (MA 15), .int (nI (F 24 3)), .ref (MA 16), .ref (MA 17), .ref (MA 18), .ref (MA 19), .ref (MA 20), .ref (MA 21)]) C0 hP hS (show w mo = some (.inr (7, [.int cd, .int (nI (F 24 0)), .ref (MA 0), .ref (MA 1), .ref (MA 2), .ref (MA 3), .ref (MA 4), .ref (MA 5), .ref (MA 6), .ref (MA 7), .ref (MA 8), .ref (MA 9), .int (nI (F 24 1)), .ref (MA 10), .ref (MA 11), .ref (MA 12), .int (nI (F 24 2)), .ref (MA 13), .ref (MA 14), .ref (MA 15), .int (nI (F 24 3)), .ref (MA 16), .ref (MA 17), .ref (MA 18), .ref (MA 19), .ref (MA 20), .ref (MA 21)])) from hm.x) hi_RX7 tyX7_ok nmX7 rfl 0 (by decide) hf_79 rfl rfl rfl rfl (Nat.le_of_ble_eq_true rfl) rfl dX7_ticksUntil_2 (fun H locs hP hS => ?_)
  obtain ⟨w_2_0, hw9, hm_2_0, hk_2_0⟩ : ∃ wz : wW, wz = wU w mo (.inr (7, [.int 0, .int (nI (F 24 0)), .ref (MA 0), .ref (MA 1), .ref (MA 2), .ref (MA 3), .ref (MA 4), .ref (MA 5), .ref (MA 6), .ref (MA 7), .ref (MA 8), .ref (MA 9), .int (nI (F 24 1)), .ref (MA 10), .ref (MA 11), .ref (MA 12), .int (nI (F 24 2)), .ref (MA 13), .ref (MA 14), .ref (MA 15), .int (nI (F 24 3)), .ref (MA 16), .ref (MA 17), .ref (MA 18), .ref (MA 19), .ref (MA 20), .ref (MA 21)])) ∧ wMod E F MA mo (nI 0) wz ∧ wKm mo MA w wz := ⟨_, rfl, M_o (F := F) (G := F) (cd2 := nI 0) hm (fun a b h => rfl), wKm.rf.tr wKm.o⟩
  rw [← hw9] at hP
  refine lv_aload_n hx hb dX7_ticksUntil_5 rfl (lv_at hl 0 rfl) ?_
  refine lv_iload_n hx hb dX7_ticksUntil_6 rfl (lv_at hl 1 rfl) ?_
  refine wl_on C0 ht hP hS (wl_runV (As := [.int c1]) (rest := []) C0 hP hS (k_X7_isCaller l hst E w_2_0 H.size F MA mo (nI 0) N hI hm_2_0 c1) (cwV 1 hts gX7_ticksUntil_X7_isCaller rfl rfl rfl (by decide +kernel) ⟨(Nat.le_of_ble_eq_true rfl), (Nat.le_of_ble_eq_true rfl)⟩) (show w_2_0 mo = some (.inr (7, [.int (nI 0), .int (nI (F 24 0)), .ref (MA 0), .ref (MA 1), .ref (MA 2), .ref (MA 3), .ref (MA 4), .ref (MA 5), .ref (MA 6), .ref (MA 7), .ref (MA 8), .ref (MA 9), .int (nI (F 24 1)), .ref (MA 10), .ref (MA 11), .ref (MA 12), .int (nI (F 24 2)), .ref (MA 13), .ref (MA 14), .ref (MA 15), .int (nI (F 24 3)), .ref (MA 16), .ref (MA 17), .ref (MA 18), .ref (MA 19), .ref (MA 20), .ref (MA 21)])) from hm_2_0.x) rfl rfl rfl hl.1 (Nat.le_of_ble_eq_true rfl) dX7_ticksUntil_7 ⟨(Nat.le_of_ble_eq_true rfl), (Nat.le_of_ble_eq_true rfl)⟩) (Nat.le_of_ble_eq_true rfl) (Nat.le_of_ble_eq_true rfl) (fun _ _ h => h.elim) (fun v_7 w_7 H locs hq hP hS => ?_)
  obtain ⟨rfl, hw9⟩ := hq
  rw [hw9] at hP
  refine W.eq (g2 := F0 m 10 ls [.int (bI (vpb c1 (F 24 2)))]) rfl ?_
  refine lv_if_eq (tgt := 21) hx hb dX7_ticksUntil_10 (by decide) (fun c_10 => ?_) (fun c_10 => ?_)
  · have q10 : vpb c1 (F 24 2) = false := bI_0.mp c_10
    refine lv_aload_n hx hb dX7_ticksUntil_21 rfl (lv_at hl 0 rfl) ?_
    refine lv_iconst (v := 1) hx hb dX7_ticksUntil_22 (by decide) ?_
    refine wl_on C0 ht hP hS (wl_runV (As := [.int 1]) (rest := []) C0 hP hS (k_X7_fails l hst E w_2_0 H.size F MA mo (nI 0) 1 hm_2_0) (cwV 1 hts gX7_ticksUntil_X7_fails rfl rfl rfl (by decide +kernel) ⟨(Nat.le_of_ble_eq_true rfl), (Nat.le_of_ble_eq_true rfl)⟩) (show w_2_0 mo = some (.inr (7, [.int (nI 0), .int (nI (F 24 0)), .ref (MA 0), .ref (MA 1), .ref (MA 2), .ref (MA 3), .ref (MA 4), .ref (MA 5), .ref (MA 6), .ref (MA 7), .ref (MA 8), .ref (MA 9), .int (nI (F 24 1)), .ref (MA 10), .ref (MA 11), .ref (MA 12), .int (nI (F 24 2)), .ref (MA 13), .ref (MA 14), .ref (MA 15), .int (nI (F 24 3)), .ref (MA 16), .ref (MA 17), .ref (MA 18), .ref (MA 19), .ref (MA 20), .ref (MA 21)])) from hm_2_0.x) rfl rfl rfl hl.1 (Nat.le_of_ble_eq_true rfl) dX7_ticksUntil_23 ⟨(Nat.le_of_ble_eq_true rfl), (Nat.le_of_ble_eq_true rfl)⟩) (Nat.le_of_ble_eq_true rfl) (Nat.le_of_ble_eq_true rfl) (fun _ _ h => h.elim) (fun v_23 w_23 H locs hq hP hS => ?_)
    obtain ⟨rfl, hm_23_1, hk2_23_1⟩ := hq
    have hk_23_1 := hk_2_0.tr hk2_23_1
    refine W.eq (g2 := F0 m 26 ls [.int 0]) rfl ?_
    have hev : s_ticksUntil F c1 r1 = (1, 0, F) := by simp [s_ticksUntil, q10]
    exact wl_iret C0 hr rfl hP hS dX7_ticksUntil_26 (Nat.le_of_ble_eq_true rfl) (Nat.le_of_ble_eq_true rfl) (⟨by rw [hev], by rw [hev]; exact hm_23_1, hk_23_1⟩)
  · have q10 : vpb c1 (F 24 2) = true := bI_n.mp c_10
    have hc9 := vpb_tn q10
    have hct := vpb_nt q10
    have h8 := hI.cl hc9
    have h7 := hI.pl h8.1
    have hl : lv_has ls 5 [(0, .ref mo), (1, .int (nI (tn c1))), (2, .int r1)] := by
      rw [hct]
      exact hl
    refine lv_aload_n hx hb dX7_ticksUntil_13 rfl (lv_at hl 0 rfl) ?_
    refine lv_iload_n hx hb dX7_ticksUntil_14 rfl (lv_at hl 2 rfl) ?_
    refine wl_on C0 ht hP hS (wl_runV (As := [.int r1]) (rest := []) C0 hP hS (k_X7_isRoute l hst E w_2_0 H.size F MA mo (nI 0) N hI hm_2_0 r1) (cwV 1 hts gX7_ticksUntil_X7_isRoute rfl rfl rfl (by decide +kernel) ⟨(Nat.le_of_ble_eq_true rfl), (Nat.le_of_ble_eq_true rfl)⟩) (show w_2_0 mo = some (.inr (7, [.int (nI 0), .int (nI (F 24 0)), .ref (MA 0), .ref (MA 1), .ref (MA 2), .ref (MA 3), .ref (MA 4), .ref (MA 5), .ref (MA 6), .ref (MA 7), .ref (MA 8), .ref (MA 9), .int (nI (F 24 1)), .ref (MA 10), .ref (MA 11), .ref (MA 12), .int (nI (F 24 2)), .ref (MA 13), .ref (MA 14), .ref (MA 15), .int (nI (F 24 3)), .ref (MA 16), .ref (MA 17), .ref (MA 18), .ref (MA 19), .ref (MA 20), .ref (MA 21)])) from hm_2_0.x) rfl rfl rfl hl.1 (Nat.le_of_ble_eq_true rfl) dX7_ticksUntil_15 ⟨(Nat.le_of_ble_eq_true rfl), (Nat.le_of_ble_eq_true rfl)⟩) (Nat.le_of_ble_eq_true rfl) (Nat.le_of_ble_eq_true rfl) (fun _ _ h => h.elim) (fun v_15 w_15 H locs hq hP hS => ?_)
    obtain ⟨rfl, hw9⟩ := hq
    rw [hw9] at hP
    refine W.eq (g2 := F0 m 18 ls [.int (bI (vpb r1 (F 24 0)))]) rfl ?_
    refine lv_if_ne (tgt := 27) hx hb dX7_ticksUntil_18 (by decide) (fun c_18 => ?_) (fun c_18 => ?_)
    · have q18 : vpb r1 (F 24 0) = true := bI_n.mp c_18
      have hr9 := vpb_tn q18
      have hrt := vpb_nt q18
      have h6 := hI.ro hr9
      have hl : lv_has ls 5 [(0, .ref mo), (1, .int (nI (tn c1))), (2, .int (nI (tn r1)))] := by
        rw [hrt]
        exact hl
      refine lv_aload_n hx hb dX7_ticksUntil_27 rfl (lv_at hl 0 rfl) ?_
      refine wl_get (T := TX7) C0 hP (show w_2_0 mo = some (.inr (7, [.int (nI 0), .int (nI (F 24 0)), .ref (MA 0), .ref (MA 1), .ref (MA 2), .ref (MA 3), .ref (MA 4), .ref (MA 5), .ref (MA 6), .ref (MA 7), .ref (MA 8), .ref (MA 9), .int (nI (F 24 1)), .ref (MA 10), .ref (MA 11), .ref (MA 12), .int (nI (F 24 2)), .ref (MA 13), .ref (MA 14), .ref (MA 15), .int (nI (F 24 3)), .ref (MA 16), .ref (MA 17), .ref (MA 18), .ref (MA 19), .ref (MA 20), .ref (MA 21)])) from hm_2_0.x) hi_RX7 rfl 3 (by decide) hf_13 rfl dX7_ticksUntil_28 ?_
      refine lv_iload_n hx hb dX7_ticksUntil_31 rfl (lv_at hl 2 rfl) ?_
      refine wl_iald C0 hP (show w_2_0 (MA 1) = some (.inl (E.2.1 0, 8, .inl (fun i => nI (F 1 i)))) from hm_2_0.i 1 (by decide) rfl rfl rfl) (vp_in_nI (by omega) (by omega)) dX7_ticksUntil_32 ?_
      refine W.eq (g2 := F0 m 33 ls [.int (nI (F 1 (tn r1)))]) (by rw [show (nI (tn r1)).toNatClampNeg = (tn r1) from nI_clamp (by omega)]) ?_
      refine lv_aload_n hx hb dX7_ticksUntil_33 rfl (lv_at hl 0 rfl) ?_
      refine wl_get (T := TX7) C0 hP (show w_2_0 mo = some (.inr (7, [.int (nI 0), .int (nI (F 24 0)), .ref (MA 0), .ref (MA 1), .ref (MA 2), .ref (MA 3), .ref (MA 4), .ref (MA 5), .ref (MA 6), .ref (MA 7), .ref (MA 8), .ref (MA 9), .int (nI (F 24 1)), .ref (MA 10), .ref (MA 11), .ref (MA 12), .int (nI (F 24 2)), .ref (MA 13), .ref (MA 14), .ref (MA 15), .int (nI (F 24 3)), .ref (MA 16), .ref (MA 17), .ref (MA 18), .ref (MA 19), .ref (MA 20), .ref (MA 21)])) from hm_2_0.x) hi_RX7 rfl 14 (by decide) hf_44 rfl dX7_ticksUntil_34 ?_
      refine lv_aload_n hx hb dX7_ticksUntil_37 rfl (lv_at hl 0 rfl) ?_
      refine wl_get (T := TX7) C0 hP (show w_2_0 mo = some (.inr (7, [.int (nI 0), .int (nI (F 24 0)), .ref (MA 0), .ref (MA 1), .ref (MA 2), .ref (MA 3), .ref (MA 4), .ref (MA 5), .ref (MA 6), .ref (MA 7), .ref (MA 8), .ref (MA 9), .int (nI (F 24 1)), .ref (MA 10), .ref (MA 11), .ref (MA 12), .int (nI (F 24 2)), .ref (MA 13), .ref (MA 14), .ref (MA 15), .int (nI (F 24 3)), .ref (MA 16), .ref (MA 17), .ref (MA 18), .ref (MA 19), .ref (MA 20), .ref (MA 21)])) from hm_2_0.x) hi_RX7 rfl 17 (by decide) hf_50 rfl dX7_ticksUntil_38 ?_
      refine lv_iload_n hx hb dX7_ticksUntil_41 rfl (lv_at hl 1 rfl) ?_
      refine wl_iald C0 hP (show w_2_0 (MA 13) = some (.inl (E.2.1 0, 6, .inl (fun i => nI (F 13 i)))) from hm_2_0.i 13 (by decide) rfl rfl rfl) (vp_in_nI (by omega) (by omega)) dX7_ticksUntil_42 ?_
      refine W.eq (g2 := F0 m 43 ls [.int (nI (F 13 (tn c1))), .ref (MA 11), .int (nI (F 1 (tn r1)))]) (by rw [show (nI (tn c1)).toNatClampNeg = (tn c1) from nI_clamp (by omega)]) ?_
      refine wl_iald C0 hP (show w_2_0 (MA 11) = some (.inl (E.2.1 0, 3, .inl (fun i => nI (F 11 i)))) from hm_2_0.i 11 (by decide) rfl rfl rfl) (vp_in_nI (by omega) (by omega)) dX7_ticksUntil_43 ?_
      refine W.eq (g2 := F0 m 44 ls [.int (nI (F 11 (F 13 (tn c1)))), .int (nI (F 1 (tn r1)))]) (by rw [show (nI (F 13 (tn c1))).toNatClampNeg = (F 13 (tn c1)) from nI_clamp (by omega)]) ?_
      refine lv_icmp_le (tgt := 53) hx hb dX7_ticksUntil_44 (by decide) (fun c_44 => ?_) (fun c_44 => ?_)
      · have q44 : ¬ F 11 (F 13 (tn c1)) < F 1 (tn r1) := Nat.not_lt.mpr ((nI_leI (by omega) (by omega)).mp c_44)
        refine lv_iconst (v := 0) hx hb dX7_ticksUntil_53 (by decide) ?_
        refine lv_istore_n (lv' := [(3, .int 0), (0, .ref mo), (1, .int (nI (tn c1))), (2, .int (nI (tn r1)))]) hx hb dX7_ticksUntil_54 rfl hl (by decide) rfl (fun ls hl => ?_)
        refine lv_aload_n hx hb dX7_ticksUntil_55 rfl (lv_at hl 1 rfl) ?_
        refine wl_get (T := TX7) C0 hP (show w_2_0 mo = some (.inr (7, [.int (nI 0), .int (nI (F 24 0)), .ref (MA 0), .ref (MA 1), .ref (MA 2), .ref (MA 3), .ref (MA 4), .ref (MA 5), .ref (MA 6), .ref (MA 7), .ref (MA 8), .ref (MA 9), .int (nI (F 24 1)), .ref (MA 10), .ref (MA 11), .ref (MA 12), .int (nI (F 24 2)), .ref (MA 13), .ref (MA 14), .ref (MA 15), .int (nI (F 24 3)), .ref (MA 16), .ref (MA 17), .ref (MA 18), .ref (MA 19), .ref (MA 20), .ref (MA 21)])) from hm_2_0.x) hi_RX7 rfl 18 (by decide) hf_53 rfl dX7_ticksUntil_56 ?_
        refine lv_iload_n hx hb dX7_ticksUntil_59 rfl (lv_at hl 2 rfl) ?_
        refine wl_iald C0 hP (show w_2_0 (MA 14) = some (.inl (E.2.1 0, 6, .inl (fun i => nI (F 14 i)))) from hm_2_0.i 14 (by decide) rfl rfl rfl) (vp_in_nI (by omega) (by omega)) dX7_ticksUntil_60 ?_
        refine W.eq (g2 := F0 m 61 ls [.int (nI (F 14 (tn c1)))]) (by rw [show (nI (tn c1)).toNatClampNeg = (tn c1) from nI_clamp (by omega)]) ?_
        refine lv_istore (lv' := [(4, .int (nI (F 14 (tn c1)))), (3, .int 0), (0, .ref mo), (1, .int (nI (tn c1))), (2, .int (nI (tn r1)))]) hx hb dX7_ticksUntil_61 hl (by decide) rfl (fun ls hl => ?_)
        have LP : ∀ (nF : Nat) (n t : Nat), F 1 (tn r1) - t < nF → (t = F 14 (tn c1) + n * F 10 (F 13 (tn c1))) → (n = 0 ∨ F 14 (tn c1) + (n - 1) * F 10 (F 13 (tn c1)) < F 1 (tn r1)) → (t ≤ 200) → ∀ (ls : Array Slot), lv_has ls 5 [(0, .ref mo), (1, .int (nI (tn c1))), (2, .int (nI (tn r1))), (3, .int (nI n)), (4, .int (nI t))] → W p l e (wRm 2 0 0) s m args below meth c H locs 0 0 (vx_MQ below (wQ E (wA w sz) (fun v w2 => v = some (.int (s_ticksUntil F c1 r1).2.1) ∧ wMod E (s_ticksUntil F c1 r1).2.2 MA mo (nI (s_ticksUntil F c1 r1).1) w2 ∧ wKm mo MA w w2)) (wX E (wA w sz) (fun _ _ => False)) args s 0 0 (wA w sz)) (F0 m 63 ls []) := by
          intro nF
          induction nF with
          | zero => intro n t hn; exact absurd hn (Nat.not_lt_zero _)
          | succ nF ih =>
            intro n t hn i1 i2 i3 ls hl
            refine lv_iload hx hb dX7_ticksUntil_63 (lv_at hl 4 rfl) ?_
            refine lv_aload_n hx hb dX7_ticksUntil_65 rfl (lv_at hl 0 rfl) ?_
            refine wl_get (T := TX7) C0 hP (show w_2_0 mo = some (.inr (7, [.int (nI 0), .int (nI (F 24 0)), .ref (MA 0), .ref (MA 1), .ref (MA 2), .ref (MA 3), .ref (MA 4), .ref (MA 5), .ref (MA 6), .ref (MA 7), .ref (MA 8), .ref (MA 9), .int (nI (F 24 1)), .ref (MA 10), .ref (MA 11), .ref (MA 12), .int (nI (F 24 2)), .ref (MA 13), .ref (MA 14), .ref (MA 15), .int (nI (F 24 3)), .ref (MA 16), .ref (MA 17), .ref (MA 18), .ref (MA 19), .ref (MA 20), .ref (MA 21)])) from hm_2_0.x) hi_RX7 rfl 3 (by decide) hf_13 rfl dX7_ticksUntil_66 ?_
            refine lv_iload_n hx hb dX7_ticksUntil_69 rfl (lv_at hl 2 rfl) ?_
            refine wl_iald C0 hP (show w_2_0 (MA 1) = some (.inl (E.2.1 0, 8, .inl (fun i => nI (F 1 i)))) from hm_2_0.i 1 (by decide) rfl rfl rfl) (vp_in_nI (by omega) (by omega)) dX7_ticksUntil_70 ?_
            refine W.eq (g2 := F0 m 71 ls [.int (nI (F 1 (tn r1))), .int (nI t)]) (by rw [show (nI (tn r1)).toNatClampNeg = (tn r1) from nI_clamp (by omega)]) ?_
            refine lv_icmp_ge (tgt := 96) hx hb dX7_ticksUntil_71 (by decide) (fun c_71 => ?_) (fun c_71 => ?_)
            · have q71 : F 1 (tn r1) ≤ t := (nI_leI (by omega) (by omega)).mp c_71
              refine lv_iload_n hx hb dX7_ticksUntil_96 rfl (lv_at hl 3 rfl) ?_
              have he9 := tick_eq (n := n) (R := F 10 (F 13 (tn c1))) (T := F 14 (tn c1)) (C := F 1 (tn r1)) (by omega) (by rw [← i1]; exact q71) i2
              have hev : s_ticksUntil F c1 r1 = (0, nI n, F) := by simp [s_ticksUntil, q10, q18, q44, ← he9]
              exact wl_iret C0 hr rfl hP hS dX7_ticksUntil_97 (Nat.le_of_ble_eq_true rfl) (Nat.le_of_ble_eq_true rfl) (⟨by rw [hev], by rw [hev]; exact hm_2_0, hk_2_0⟩)
            · have q71 : t < F 1 (tn r1) := Nat.not_le.mp (fun q => c_71 ((nI_leI (by omega) (by omega)).mpr q))
              refine lv_iinc (v := nI (n + 1)) (lv' := [(3, .int (nI (n + 1))), (0, .ref mo), (1, .int (nI (tn c1))), (2, .int (nI (tn r1))), (4, .int (nI t))]) hx hb dX7_ticksUntil_74 hl (k := 3) rfl (nI_1 _) (by decide) rfl (fun ls hl => ?_)
              refine lv_iload hx hb dX7_ticksUntil_77 (lv_at hl 4 rfl) ?_
              refine lv_aload_n hx hb dX7_ticksUntil_79 rfl (lv_at hl 1 rfl) ?_
              refine wl_get (T := TX7) C0 hP (show w_2_0 mo = some (.inr (7, [.int (nI 0), .int (nI (F 24 0)), .ref (MA 0), .ref (MA 1), .ref (MA 2), .ref (MA 3), .ref (MA 4), .ref (MA 5), .ref (MA 6), .ref (MA 7), .ref (MA 8), .ref (MA 9), .int (nI (F 24 1)), .ref (MA 10), .ref (MA 11), .ref (MA 12), .int (nI (F 24 2)), .ref (MA 13), .ref (MA 14), .ref (MA 15), .int (nI (F 24 3)), .ref (MA 16), .ref (MA 17), .ref (MA 18), .ref (MA 19), .ref (MA 20), .ref (MA 21)])) from hm_2_0.x) hi_RX7 rfl 13 (by decide) hf_41 rfl dX7_ticksUntil_80 ?_
              refine lv_aload_n hx hb dX7_ticksUntil_83 rfl (lv_at hl 1 rfl) ?_
              refine wl_get (T := TX7) C0 hP (show w_2_0 mo = some (.inr (7, [.int (nI 0), .int (nI (F 24 0)), .ref (MA 0), .ref (MA 1), .ref (MA 2), .ref (MA 3), .ref (MA 4), .ref (MA 5), .ref (MA 6), .ref (MA 7), .ref (MA 8), .ref (MA 9), .int (nI (F 24 1)), .ref (MA 10), .ref (MA 11), .ref (MA 12), .int (nI (F 24 2)), .ref (MA 13), .ref (MA 14), .ref (MA 15), .int (nI (F 24 3)), .ref (MA 16), .ref (MA 17), .ref (MA 18), .ref (MA 19), .ref (MA 20), .ref (MA 21)])) from hm_2_0.x) hi_RX7 rfl 17 (by decide) hf_50 rfl dX7_ticksUntil_84 ?_
              refine lv_iload_n hx hb dX7_ticksUntil_87 rfl (lv_at hl 2 rfl) ?_
              refine wl_iald C0 hP (show w_2_0 (MA 13) = some (.inl (E.2.1 0, 6, .inl (fun i => nI (F 13 i)))) from hm_2_0.i 13 (by decide) rfl rfl rfl) (vp_in_nI (by omega) (by omega)) dX7_ticksUntil_88 ?_
              refine W.eq (g2 := F0 m 89 ls [.int (nI (F 13 (tn c1))), .ref (MA 10), .int (nI t)]) (by rw [show (nI (tn c1)).toNatClampNeg = (tn c1) from nI_clamp (by omega)]) ?_
              refine wl_iald C0 hP (show w_2_0 (MA 10) = some (.inl (E.2.1 0, 3, .inl (fun i => nI (F 10 i)))) from hm_2_0.i 10 (by decide) rfl rfl rfl) (vp_in_nI (by omega) (by omega)) dX7_ticksUntil_89 ?_
              refine W.eq (g2 := F0 m 90 ls [.int (nI (F 10 (F 13 (tn c1)))), .int (nI t)]) (by rw [show (nI (F 13 (tn c1))).toNatClampNeg = (F 13 (tn c1)) from nI_clamp (by omega)]) ?_
              refine lv_iadd hx hb dX7_ticksUntil_90 ?_
              rw [show ((nI t) + (nI (F 10 (F 13 (tn c1))))) = (nI (t + F 10 (F 13 (tn c1)))) from nI_add _ _]
              refine lv_istore (lv' := [(4, .int (nI (t + F 10 (F 13 (tn c1))))), (3, .int (nI (n + 1))), (0, .ref mo), (1, .int (nI (tn c1))), (2, .int (nI (tn r1)))]) hx hb dX7_ticksUntil_91 hl (by decide) rfl (fun ls hl => ?_)
              refine lv_goto (tgt := 63) hx hb dX7_ticksUntil_93 (by decide) ?_
              exact ih (n + 1) (t + F 10 (F 13 (tn c1))) (by omega) (by rw [i1, Nat.succ_mul, Nat.add_assoc]) (Or.inr (by rw [Nat.add_sub_cancel, ← i1]; exact q71)) (by omega) ls (lv_sub hl [2, 3, 4, 1, 0] rfl)
        exact LP _ 0 (F 14 (tn c1)) (Nat.lt_succ_self _) (by omega) (Or.inl rfl) (by omega) ls (lv_sub hl [2, 3, 4, 1, 0] rfl)
      · have q44 : F 11 (F 13 (tn c1)) < F 1 (tn r1) := Nat.not_le.mp (fun q => c_44 ((nI_leI (by omega) (by omega)).mpr q))
        refine lv_aload_n hx hb dX7_ticksUntil_47 rfl (lv_at hl 0 rfl) ?_
        refine lv_iconst (v := 2) hx hb dX7_ticksUntil_48 (by decide) ?_
        refine wl_on C0 ht hP hS (wl_runV (As := [.int 2]) (rest := []) C0 hP hS (k_X7_fails l hst E w_2_0 H.size F MA mo (nI 0) 2 hm_2_0) (cwV 1 hts gX7_ticksUntil_X7_fails rfl rfl rfl (by decide +kernel) ⟨(Nat.le_of_ble_eq_true rfl), (Nat.le_of_ble_eq_true rfl)⟩) (show w_2_0 mo = some (.inr (7, [.int (nI 0), .int (nI (F 24 0)), .ref (MA 0), .ref (MA 1), .ref (MA 2), .ref (MA 3), .ref (MA 4), .ref (MA 5), .ref (MA 6), .ref (MA 7), .ref (MA 8), .ref (MA 9), .int (nI (F 24 1)), .ref (MA 10), .ref (MA 11), .ref (MA 12), .int (nI (F 24 2)), .ref (MA 13), .ref (MA 14), .ref (MA 15), .int (nI (F 24 3)), .ref (MA 16), .ref (MA 17), .ref (MA 18), .ref (MA 19), .ref (MA 20), .ref (MA 21)])) from hm_2_0.x) rfl rfl rfl hl.1 (Nat.le_of_ble_eq_true rfl) dX7_ticksUntil_49 ⟨(Nat.le_of_ble_eq_true rfl), (Nat.le_of_ble_eq_true rfl)⟩) (Nat.le_of_ble_eq_true rfl) (Nat.le_of_ble_eq_true rfl) (fun _ _ h => h.elim) (fun v_49 w_49 H locs hq hP hS => ?_)
        obtain ⟨rfl, hm_49_2, hk2_49_2⟩ := hq
        have hk_49_2 := hk_2_0.tr hk2_49_2
        refine W.eq (g2 := F0 m 52 ls [.int 0]) rfl ?_
        have hev : s_ticksUntil F c1 r1 = (2, 0, F) := by simp [s_ticksUntil, q10, q18, q44]
        exact wl_iret C0 hr rfl hP hS dX7_ticksUntil_52 (Nat.le_of_ble_eq_true rfl) (Nat.le_of_ble_eq_true rfl) (⟨by rw [hev], by rw [hev]; exact hm_49_2, hk_49_2⟩)
    · have q18 : vpb r1 (F 24 0) = false := bI_0.mp c_18
      refine lv_aload_n hx hb dX7_ticksUntil_21 rfl (lv_at hl 0 rfl) ?_
      refine lv_iconst (v := 1) hx hb dX7_ticksUntil_22 (by decide) ?_
      refine wl_on C0 ht hP hS (wl_runV (As := [.int 1]) (rest := []) C0 hP hS (k_X7_fails l hst E w_2_0 H.size F MA mo (nI 0) 1 hm_2_0) (cwV 1 hts gX7_ticksUntil_X7_fails rfl rfl rfl (by decide +kernel) ⟨(Nat.le_of_ble_eq_true rfl), (Nat.le_of_ble_eq_true rfl)⟩) (show w_2_0 mo = some (.inr (7, [.int (nI 0), .int (nI (F 24 0)), .ref (MA 0), .ref (MA 1), .ref (MA 2), .ref (MA 3), .ref (MA 4), .ref (MA 5), .ref (MA 6), .ref (MA 7), .ref (MA 8), .ref (MA 9), .int (nI (F 24 1)), .ref (MA 10), .ref (MA 11), .ref (MA 12), .int (nI (F 24 2)), .ref (MA 13), .ref (MA 14), .ref (MA 15), .int (nI (F 24 3)), .ref (MA 16), .ref (MA 17), .ref (MA 18), .ref (MA 19), .ref (MA 20), .ref (MA 21)])) from hm_2_0.x) rfl rfl rfl hl.1 (Nat.le_of_ble_eq_true rfl) dX7_ticksUntil_23 ⟨(Nat.le_of_ble_eq_true rfl), (Nat.le_of_ble_eq_true rfl)⟩) (Nat.le_of_ble_eq_true rfl) (Nat.le_of_ble_eq_true rfl) (fun _ _ h => h.elim) (fun v_23 w_23 H locs hq hP hS => ?_)
      obtain ⟨rfl, hm_23_3, hk2_23_3⟩ := hq
      have hk_23_3 := hk_2_0.tr hk2_23_3
      refine W.eq (g2 := F0 m 26 ls [.int 0]) rfl ?_
      have hev : s_ticksUntil F c1 r1 = (1, 0, F) := by simp [s_ticksUntil, q10, q18]
      exact wl_iret C0 hr rfl hP hS dX7_ticksUntil_26 (Nat.le_of_ble_eq_true rfl) (Nat.le_of_ble_eq_true rfl) (⟨by rw [hev], by rw [hev]; exact hm_23_3, hk_23_3⟩)

set_option maxHeartbeats 4000000 in
set_option maxRecDepth 100000 in
theorem k_X7_bill (l : Launch) (hst : l.stackTraces = false) (E : wEn) (w : wW) (sz : Nat) (F : FF) (MA : Nat → Nat) (mo : Nat) (cd : Int32) (N : Nat) (hI : wInv F N) (hm : wMod E F MA mo cd w) (c1 : Int32) : wM l yX7_bill wsX7_bill 2 0 0 E w sz [.ref mo, .int c1] (fun v w2 => v = some (.long (s_bill F c1).2.1) ∧ wMod E (s_bill F c1).2.2 MA mo (nI (s_bill F c1).1) w2 ∧ wKm mo MA w w2) (fun _ _ => False) := by
  refine wm_start (own := RX7) (cc := cX7_bill) (maxL := 2) (ret := (some .long)) rfl (by decide) rfl (Nat.le_of_ble_eq_true rfl) ?_
  intro p e s m args below meth c ls C0 hr hin ht hP hS hl
  have hx := C0.1
  have hb := C0.2.1
  have hts := C0.2.2.2.2.1
  have hown := C0.2.2.2.1
  have hl : lv_has ls 2 [(0, .ref mo), (1, .int c1)] := hl
  have hf_79 : (Cond.fieldLink RX7 79 "CallGatewayModel" "code" "I").before args s = true := hts _ (by decide +kernel)
  have hf_56 : (Cond.fieldLink RX7 56 "CallGatewayModel" "bills" "[J").before args s = true := hts _ (by decide +kernel)
  have hi_RX7 : ∀ w ∈ u_ws RX7 TX7 27, w ∈ wsX7_bill := fun _ h => List.mem_cons_of_mem _ (List.mem_append_left _ (List.mem_append_right _ h))
  have hn := hI.n
  have hn9 := hI.n
  refine lv_aload_n hx hb dX7_bill_0 rfl (lv_at hl 0 rfl) ?_
  refine lv_aload_n hx hb dX7_bill_1 rfl (lv_at hl 0 rfl) ?_
  refine lv_iload_n hx hb dX7_bill_2 rfl (lv_at hl 1 rfl) ?_
  refine wl_on C0 ht hP hS (wl_runV (As := [.int c1]) (rest := [.ref mo]) C0 hP hS (k_X7_isCaller l hst E w s.heap.size F MA mo cd N hI hm c1) (cwV 1 hts gX7_bill_X7_isCaller rfl rfl rfl (by decide +kernel) ⟨(Nat.le_of_ble_eq_true rfl), (Nat.le_of_ble_eq_true rfl)⟩) (show w mo = some (.inr (7, [.int cd, .int (nI (F 24 0)), .ref (MA 0), .ref (MA 1), .ref (MA 2), .ref (MA 3), .ref (MA 4), .ref (MA 5), .ref (MA 6), .ref (MA 7), .ref (MA 8), .ref (MA 9), .int (nI (F 24 1)), .ref (MA 10), .ref (MA 11), .ref (MA 12), .int (nI (F 24 2)), .ref (MA 13), .ref (MA 14), .ref (MA 15), .int (nI (F 24 3)), .ref (MA 16), .ref (MA 17), .ref (MA 18), .ref (MA 19), .ref (MA 20), .ref (MA 21)])) from hm.x) rfl rfl rfl hl.1 (Nat.le_of_ble_eq_true rfl) dX7_bill_3 ⟨(Nat.le_of_ble_eq_true rfl), (Nat.le_of_ble_eq_true rfl)⟩) (Nat.le_of_ble_eq_true rfl) (Nat.le_of_ble_eq_true rfl) (fun _ _ h => h.elim) (fun v_3 w_3 H locs hq hP hS => ?_)
  obtain ⟨rfl, hw9⟩ := hq
  rw [hw9] at hP
  refine W.eq (g2 := F0 m 6 ls [.int (bI (vpb c1 (F 24 2))), .ref mo]) rfl ?_
  refine lv_if_eq (tgt := 13) hx hb dX7_bill_6 (by decide) (fun c_6 => ?_) (fun c_6 => ?_)
  · have q6 : vpb c1 (F 24 2) = false := bI_0.mp c_6
    refine lv_iconst (v := 1) hx hb dX7_bill_13 (by decide) ?_
    refine wl_put (T := TX7) (ty0 := tyX7) (fs2 := [.int 1, .int (nI (F 24 0)), .ref (MA 0), .ref (MA 1), .ref (MA 2), .ref (MA 3), .ref (MA 4), .ref (MA 5), .ref (MA 6), .ref (MA 7), .ref (MA 8), .ref (MA 9), .int (nI (F 24 1)), .ref (MA 10), .ref (MA 11), .ref (MA 12), .int (nI (F 24 2)), .ref (MA 13), .ref (MA 14), .ref (MA 15), .int (nI (F 24 3)), .ref (MA 16), .ref (MA 17), .ref (MA 18), .ref (MA 19), .ref (MA 20), .ref (MA 21)]) C0 hP hS (show w mo = some (.inr (7, [.int cd, .int (nI (F 24 0)), .ref (MA 0), .ref (MA 1), .ref (MA 2), .ref (MA 3), .ref (MA 4), .ref (MA 5), .ref (MA 6), .ref (MA 7), .ref (MA 8), .ref (MA 9), .int (nI (F 24 1)), .ref (MA 10), .ref (MA 11), .ref (MA 12), .int (nI (F 24 2)), .ref (MA 13), .ref (MA 14), .ref (MA 15), .int (nI (F 24 3)), .ref (MA 16), .ref (MA 17), .ref (MA 18), .ref (MA 19), .ref (MA 20), .ref (MA 21)])) from hm.x) hi_RX7 tyX7_ok nmX7 rfl 0 (by decide) hf_79 rfl rfl rfl rfl (Nat.le_of_ble_eq_true rfl) rfl dX7_bill_14 (fun H locs hP hS => ?_)
    obtain ⟨w_14_0, hw9, hm_14_0, hk_14_0⟩ : ∃ wz : wW, wz = wU w mo (.inr (7, [.int 1, .int (nI (F 24 0)), .ref (MA 0), .ref (MA 1), .ref (MA 2), .ref (MA 3), .ref (MA 4), .ref (MA 5), .ref (MA 6), .ref (MA 7), .ref (MA 8), .ref (MA 9), .int (nI (F 24 1)), .ref (MA 10), .ref (MA 11), .ref (MA 12), .int (nI (F 24 2)), .ref (MA 13), .ref (MA 14), .ref (MA 15), .int (nI (F 24 3)), .ref (MA 16), .ref (MA 17), .ref (MA 18), .ref (MA 19), .ref (MA 20), .ref (MA 21)])) ∧ wMod E F MA mo (nI 1) wz ∧ wKm mo MA w wz := ⟨_, rfl, M_o (F := F) (G := F) (cd2 := nI 1) hm (fun a b h => rfl), wKm.rf.tr wKm.o⟩
    rw [← hw9] at hP
    refine lv_aload_n hx hb dX7_bill_17 rfl (lv_at hl 0 rfl) ?_
    refine wl_get (T := TX7) C0 hP (show w_14_0 mo = some (.inr (7, [.int (nI 1), .int (nI (F 24 0)), .ref (MA 0), .ref (MA 1), .ref (MA 2), .ref (MA 3), .ref (MA 4), .ref (MA 5), .ref (MA 6), .ref (MA 7), .ref (MA 8), .ref (MA 9), .int (nI (F 24 1)), .ref (MA 10), .ref (MA 11), .ref (MA 12), .int (nI (F 24 2)), .ref (MA 13), .ref (MA 14), .ref (MA 15), .int (nI (F 24 3)), .ref (MA 16), .ref (MA 17), .ref (MA 18), .ref (MA 19), .ref (MA 20), .ref (MA 21)])) from hm_14_0.x) hi_RX7 rfl 0 (by decide) hf_79 rfl dX7_bill_18 ?_
    refine lv_if_le (tgt := 28) hx hb dX7_bill_21 (by decide) (fun c_21 => ?_) (fun c_21 => ?_)
    · exact absurd c_21 (by decide)
    · refine lv_lconst (v := 0) hx hb dX7_bill_24 (by decide) ?_
      refine lv_goto (tgt := 34) hx hb dX7_bill_25 (by decide) ?_
      have hev : s_bill F c1 = (1, 0, F) := by simp [s_bill, q6]
      exact wl_lret C0 hr hP hS dX7_bill_34 (Nat.le_of_ble_eq_true rfl) (Nat.le_of_ble_eq_true rfl) (⟨by rw [hev], by rw [hev]; exact hm_14_0, hk_14_0⟩)
  · have q6 : vpb c1 (F 24 2) = true := bI_n.mp c_6
    have hc9 := vpb_tn q6
    have hct := vpb_nt q6
    have hl : lv_has ls 2 [(0, .ref mo), (1, .int (nI (tn c1)))] := by
      rw [hct]
      exact hl
    refine lv_iconst (v := 0) hx hb dX7_bill_9 (by decide) ?_
    refine lv_goto (tgt := 14) hx hb dX7_bill_10 (by decide) ?_
    refine wl_put (T := TX7) (ty0 := tyX7) (fs2 := [.int 0, .int (nI (F 24 0)), .ref (MA 0), .ref (MA 1), .ref (MA 2), .ref (MA 3), .ref (MA 4), .ref (MA 5), .ref (MA 6), .ref (MA 7), .ref (MA 8), .ref (MA 9), .int (nI (F 24 1)), .ref (MA 10), .ref (MA 11), .ref (MA 12), .int (nI (F 24 2)), .ref (MA 13), .ref (MA 14), .ref (MA 15), .int (nI (F 24 3)), .ref (MA 16), .ref (MA 17), .ref (MA 18), .ref (MA 19), .ref (MA 20), .ref (MA 21)]) C0 hP hS (show w mo = some (.inr (7, [.int cd, .int (nI (F 24 0)), .ref (MA 0), .ref (MA 1), .ref (MA 2), .ref (MA 3), .ref (MA 4), .ref (MA 5), .ref (MA 6), .ref (MA 7), .ref (MA 8), .ref (MA 9), .int (nI (F 24 1)), .ref (MA 10), .ref (MA 11), .ref (MA 12), .int (nI (F 24 2)), .ref (MA 13), .ref (MA 14), .ref (MA 15), .int (nI (F 24 3)), .ref (MA 16), .ref (MA 17), .ref (MA 18), .ref (MA 19), .ref (MA 20), .ref (MA 21)])) from hm.x) hi_RX7 tyX7_ok nmX7 rfl 0 (by decide) hf_79 rfl rfl rfl rfl (Nat.le_of_ble_eq_true rfl) rfl dX7_bill_14 (fun H locs hP hS => ?_)
    obtain ⟨w_14_1, hw9, hm_14_1, hk_14_1⟩ : ∃ wz : wW, wz = wU w mo (.inr (7, [.int 0, .int (nI (F 24 0)), .ref (MA 0), .ref (MA 1), .ref (MA 2), .ref (MA 3), .ref (MA 4), .ref (MA 5), .ref (MA 6), .ref (MA 7), .ref (MA 8), .ref (MA 9), .int (nI (F 24 1)), .ref (MA 10), .ref (MA 11), .ref (MA 12), .int (nI (F 24 2)), .ref (MA 13), .ref (MA 14), .ref (MA 15), .int (nI (F 24 3)), .ref (MA 16), .ref (MA 17), .ref (MA 18), .ref (MA 19), .ref (MA 20), .ref (MA 21)])) ∧ wMod E F MA mo (nI 0) wz ∧ wKm mo MA w wz := ⟨_, rfl, M_o (F := F) (G := F) (cd2 := nI 0) hm (fun a b h => rfl), wKm.rf.tr wKm.o⟩
    rw [← hw9] at hP
    refine lv_aload_n hx hb dX7_bill_17 rfl (lv_at hl 0 rfl) ?_
    refine wl_get (T := TX7) C0 hP (show w_14_1 mo = some (.inr (7, [.int (nI 0), .int (nI (F 24 0)), .ref (MA 0), .ref (MA 1), .ref (MA 2), .ref (MA 3), .ref (MA 4), .ref (MA 5), .ref (MA 6), .ref (MA 7), .ref (MA 8), .ref (MA 9), .int (nI (F 24 1)), .ref (MA 10), .ref (MA 11), .ref (MA 12), .int (nI (F 24 2)), .ref (MA 13), .ref (MA 14), .ref (MA 15), .int (nI (F 24 3)), .ref (MA 16), .ref (MA 17), .ref (MA 18), .ref (MA 19), .ref (MA 20), .ref (MA 21)])) from hm_14_1.x) hi_RX7 rfl 0 (by decide) hf_79 rfl dX7_bill_18 ?_
    refine lv_if_le (tgt := 28) hx hb dX7_bill_21 (by decide) (fun c_21 => ?_) (fun c_21 => ?_)
    · refine lv_aload_n hx hb dX7_bill_28 rfl (lv_at hl 0 rfl) ?_
      refine wl_get (T := TX7) C0 hP (show w_14_1 mo = some (.inr (7, [.int (nI 0), .int (nI (F 24 0)), .ref (MA 0), .ref (MA 1), .ref (MA 2), .ref (MA 3), .ref (MA 4), .ref (MA 5), .ref (MA 6), .ref (MA 7), .ref (MA 8), .ref (MA 9), .int (nI (F 24 1)), .ref (MA 10), .ref (MA 11), .ref (MA 12), .int (nI (F 24 2)), .ref (MA 13), .ref (MA 14), .ref (MA 15), .int (nI (F 24 3)), .ref (MA 16), .ref (MA 17), .ref (MA 18), .ref (MA 19), .ref (MA 20), .ref (MA 21)])) from hm_14_1.x) hi_RX7 rfl 19 (by decide) hf_56 rfl dX7_bill_29 ?_
      refine lv_iload_n hx hb dX7_bill_32 rfl (lv_at hl 1 rfl) ?_
      refine wl_lald C0 hP (show w_14_1 (MA 15) = some (.inl (E.2.1 1, 6, .inr (.inl (fun i => lN (F 15 i))))) from hm_14_1.l) (vp_in_nI (by omega) (by omega)) dX7_bill_33 ?_
      refine W.eq (g2 := F0 m 34 ls [.long (lN (F 15 (tn c1)))]) (by rw [show (nI (tn c1)).toNatClampNeg = (tn c1) from nI_clamp (by omega)]) ?_
      have hev : s_bill F c1 = (0, lN (F 15 (tn c1)), F) := by simp [s_bill, q6]
      exact wl_lret C0 hr hP hS dX7_bill_34 (Nat.le_of_ble_eq_true rfl) (Nat.le_of_ble_eq_true rfl) (⟨by rw [hev], by rw [hev]; exact hm_14_1, hk_14_1⟩)
    · exact absurd (by decide) c_21

set_option maxHeartbeats 4000000 in
set_option maxRecDepth 100000 in
theorem k_X7_billByLog (l : Launch) (hst : l.stackTraces = false) (E : wEn) (w : wW) (sz : Nat) (F : FF) (MA : Nat → Nat) (mo : Nat) (cd : Int32) (N : Nat) (hI : wInv F N) (hm : wMod E F MA mo cd w) (c1 : Int32) : wM l yX7_billByLog wsX7_billByLog 3 0 0 E w sz [.ref mo, .int c1] (fun v w2 => v = some (.long (s_bill F c1).2.1) ∧ wMod E (s_bill F c1).2.2 MA mo (nI (s_bill F c1).1) w2 ∧ wKm mo MA w w2) (fun _ _ => False) := by
  refine wm_start (own := RX7) (cc := cX7_billByLog) (maxL := 2) (ret := (some .long)) rfl (by decide) rfl (Nat.le_of_ble_eq_true rfl) ?_
  intro p e s m args below meth c ls C0 hr hin ht hP hS hl
  have hx := C0.1
  have hb := C0.2.1
  have hts := C0.2.2.2.2.1
  have hown := C0.2.2.2.1
  have hl : lv_has ls 2 [(0, .ref mo), (1, .int c1)] := hl
  have hn := hI.n
  have hn9 := hI.n
  refine lv_aload_n hx hb dX7_billByLog_0 rfl (lv_at hl 0 rfl) ?_
  refine lv_iload_n hx hb dX7_billByLog_1 rfl (lv_at hl 1 rfl) ?_
  refine wl_on C0 ht hP hS (wl_runV (As := [.int c1]) (rest := []) C0 hP hS (k_X7_bill l hst E w s.heap.size F MA mo cd N hI hm c1) (cwV 1 hts gX7_billByLog_X7_bill rfl rfl rfl (by decide +kernel) ⟨(Nat.le_of_ble_eq_true rfl), (Nat.le_of_ble_eq_true rfl)⟩) (show w mo = some (.inr (7, [.int cd, .int (nI (F 24 0)), .ref (MA 0), .ref (MA 1), .ref (MA 2), .ref (MA 3), .ref (MA 4), .ref (MA 5), .ref (MA 6), .ref (MA 7), .ref (MA 8), .ref (MA 9), .int (nI (F 24 1)), .ref (MA 10), .ref (MA 11), .ref (MA 12), .int (nI (F 24 2)), .ref (MA 13), .ref (MA 14), .ref (MA 15), .int (nI (F 24 3)), .ref (MA 16), .ref (MA 17), .ref (MA 18), .ref (MA 19), .ref (MA 20), .ref (MA 21)])) from hm.x) rfl rfl rfl hl.1 (Nat.le_of_ble_eq_true rfl) dX7_billByLog_2 ⟨(Nat.le_of_ble_eq_true rfl), (Nat.le_of_ble_eq_true rfl)⟩) (Nat.le_of_ble_eq_true rfl) (Nat.le_of_ble_eq_true rfl) (fun _ _ h => h.elim) (fun v_2 w_2 H locs hq hP hS => ?_)
  obtain ⟨rfl, hm9, hk9⟩ := hq
  refine W.eq (g2 := F0 m 5 ls [.long ((s_bill F c1).2.1)]) rfl ?_
  exact wl_lret C0 hr hP hS dX7_billByLog_5 (Nat.le_of_ble_eq_true rfl) (Nat.le_of_ble_eq_true rfl) (⟨rfl, hm9, hk9⟩)

set_option maxHeartbeats 4000000 in
set_option maxRecDepth 100000 in
theorem k_X7_calls (l : Launch) (hst : l.stackTraces = false) (E : wEn) (w : wW) (sz : Nat) (F : FF) (MA : Nat → Nat) (mo : Nat) (cd : Int32) (N : Nat) (hI : wInv F N) (hm : wMod E F MA mo cd w) : wM l yX7_calls wsX7_calls 0 0 0 E w sz [.ref mo] (fun v w2 => v = some (.int (nI (F 24 3))) ∧ wMod E F MA mo (nI 0) w2 ∧ wKm mo MA w w2) (fun _ _ => False) := by
  refine wm_start (own := RX7) (cc := cX7_calls) (maxL := 1) (ret := (some .int)) rfl (by decide) rfl (Nat.le_of_ble_eq_true rfl) ?_
  intro p e s m args below meth c ls C0 hr hin ht hP hS hl
  have hx := C0.1
  have hb := C0.2.1
  have hts := C0.2.2.2.2.1
  have hown := C0.2.2.2.1
  have hl : lv_has ls 1 [(0, .ref mo)] := hl
  have hf_79 : (Cond.fieldLink RX7 79 "CallGatewayModel" "code" "I").before args s = true := hts _ (by decide +kernel)
  have hf_120 : (Cond.fieldLink RX7 120 "CallGatewayModel" "calls" "I").before args s = true := hts _ (by decide +kernel)
  have hi_RX7 : ∀ w ∈ u_ws RX7 TX7 27, w ∈ wsX7_calls := fun _ h => List.mem_cons_of_mem _ (List.mem_append_right _ h)
  have hn := hI.n
  have hn9 := hI.n
  refine lv_aload_n hx hb dX7_calls_0 rfl (lv_at hl 0 rfl) ?_
  refine lv_iconst (v := 0) hx hb dX7_calls_1 (by decide) ?_
  refine wl_put (T := TX7) (ty0 := tyX7) (fs2 := [.int 0, .int (nI (F 24 0)), .ref (MA 0), .ref (MA 1), .ref (MA 2), .ref (MA 3), .ref (MA 4), .ref (MA 5), .ref (MA 6), .ref (MA 7), .ref (MA 8), .ref (MA 9), .int (nI (F 24 1)), .ref (MA 10), .ref (MA 11), .ref (MA 12), .int (nI (F 24 2)), .ref (MA 13), .ref (MA 14), .ref (MA 15), .int (nI (F 24 3)), .ref (MA 16), .ref (MA 17), .ref (MA 18), .ref (MA 19), .ref (MA 20), .ref (MA 21)]) C0 hP hS (show w mo = some (.inr (7, [.int cd, .int (nI (F 24 0)), .ref (MA 0), .ref (MA 1), .ref (MA 2), .ref (MA 3), .ref (MA 4), .ref (MA 5), .ref (MA 6), .ref (MA 7), .ref (MA 8), .ref (MA 9), .int (nI (F 24 1)), .ref (MA 10), .ref (MA 11), .ref (MA 12), .int (nI (F 24 2)), .ref (MA 13), .ref (MA 14), .ref (MA 15), .int (nI (F 24 3)), .ref (MA 16), .ref (MA 17), .ref (MA 18), .ref (MA 19), .ref (MA 20), .ref (MA 21)])) from hm.x) hi_RX7 tyX7_ok nmX7 rfl 0 (by decide) hf_79 rfl rfl rfl rfl (Nat.le_of_ble_eq_true rfl) rfl dX7_calls_2 (fun H locs hP hS => ?_)
  obtain ⟨w_2_0, hw9, hm_2_0, hk_2_0⟩ : ∃ wz : wW, wz = wU w mo (.inr (7, [.int 0, .int (nI (F 24 0)), .ref (MA 0), .ref (MA 1), .ref (MA 2), .ref (MA 3), .ref (MA 4), .ref (MA 5), .ref (MA 6), .ref (MA 7), .ref (MA 8), .ref (MA 9), .int (nI (F 24 1)), .ref (MA 10), .ref (MA 11), .ref (MA 12), .int (nI (F 24 2)), .ref (MA 13), .ref (MA 14), .ref (MA 15), .int (nI (F 24 3)), .ref (MA 16), .ref (MA 17), .ref (MA 18), .ref (MA 19), .ref (MA 20), .ref (MA 21)])) ∧ wMod E F MA mo (nI 0) wz ∧ wKm mo MA w wz := ⟨_, rfl, M_o (F := F) (G := F) (cd2 := nI 0) hm (fun a b h => rfl), wKm.rf.tr wKm.o⟩
  rw [← hw9] at hP
  refine lv_aload_n hx hb dX7_calls_5 rfl (lv_at hl 0 rfl) ?_
  refine wl_get (T := TX7) C0 hP (show w_2_0 mo = some (.inr (7, [.int (nI 0), .int (nI (F 24 0)), .ref (MA 0), .ref (MA 1), .ref (MA 2), .ref (MA 3), .ref (MA 4), .ref (MA 5), .ref (MA 6), .ref (MA 7), .ref (MA 8), .ref (MA 9), .int (nI (F 24 1)), .ref (MA 10), .ref (MA 11), .ref (MA 12), .int (nI (F 24 2)), .ref (MA 13), .ref (MA 14), .ref (MA 15), .int (nI (F 24 3)), .ref (MA 16), .ref (MA 17), .ref (MA 18), .ref (MA 19), .ref (MA 20), .ref (MA 21)])) from hm_2_0.x) hi_RX7 rfl 20 (by decide) hf_120 rfl dX7_calls_6 ?_
  exact wl_iret C0 hr rfl hP hS dX7_calls_9 (Nat.le_of_ble_eq_true rfl) (Nat.le_of_ble_eq_true rfl) (⟨rfl, hm_2_0, hk_2_0⟩)

set_option maxHeartbeats 4000000 in
set_option maxRecDepth 100000 in
theorem k_X7_count (l : Launch) (hst : l.stackTraces = false) (E : wEn) (w : wW) (sz : Nat) (F : FF) (MA : Nat → Nat) (mo : Nat) (cd : Int32) (N : Nat) (hI : wInv F N) (hm : wMod E F MA mo cd w) (c1 k1 : Int32) : wM l yX7_count wsX7_count 2 0 0 E w sz [.ref mo, .int c1, .int k1] (fun v w2 => v = some (.int (s_count F c1 k1).2.1) ∧ wMod E (s_count F c1 k1).2.2 MA mo (nI (s_count F c1 k1).1) w2 ∧ wKm mo MA w w2) (fun _ _ => False) := by
  refine wm_start (own := RX7) (cc := cX7_count) (maxL := 5) (ret := (some .int)) rfl (by decide) rfl (Nat.le_of_ble_eq_true rfl) ?_
  intro p e s m args below meth c ls C0 hr hin ht hP hS hl
  have hx := C0.1
  have hb := C0.2.1
  have hts := C0.2.2.2.2.1
  have hown := C0.2.2.2.1
  have hl : lv_has ls 5 [(0, .ref mo), (1, .int c1), (2, .int k1)] := hl
  have hf_79 : (Cond.fieldLink RX7 79 "CallGatewayModel" "code" "I").before args s = true := hts _ (by decide +kernel)
  have hf_120 : (Cond.fieldLink RX7 120 "CallGatewayModel" "calls" "I").before args s = true := hts _ (by decide +kernel)
  have hf_60 : (Cond.fieldLink RX7 60 "CallGatewayModel" "callCaller" "[I").before args s = true := hts _ (by decide +kernel)
  have hf_63 : (Cond.fieldLink RX7 63 "CallGatewayModel" "callKind" "[C").before args s = true := hts _ (by decide +kernel)
  have hi_RX7 : ∀ w ∈ u_ws RX7 TX7 27, w ∈ wsX7_count := fun _ h => List.mem_cons_of_mem _ (List.mem_append_left _ (List.mem_append_right _ h))
  have hn := hI.n
  have hn9 := hI.n
  refine lv_aload_n hx hb dX7_count_0 rfl (lv_at hl 0 rfl) ?_
  refine lv_iconst (v := 0) hx hb dX7_count_1 (by decide) ?_
  refine wl_put (T := TX7) (ty0 := tyX7) (fs2 := [.int 0, .int (nI (F 24 0)), .ref (MA 0), .ref (MA 1), .ref (MA 2), .ref (MA 3), .ref (MA 4), .ref (MA 5), .ref (MA 6), .ref (MA 7), .ref (MA 8), .ref (MA 9), .int (nI (F 24 1)), .ref (MA 10), .ref (MA 11), .ref (MA 12), .int (nI (F 24 2)), .ref (MA 13), .ref (MA 14), .ref (MA 15), .int (nI (F 24 3)), .ref (MA 16), .ref (MA 17), .ref (MA 18), .ref (MA 19), .ref (MA 20), .ref (MA 21)]) C0 hP hS (show w mo = some (.inr (7, [.int cd, .int (nI (F 24 0)), .ref (MA 0), .ref (MA 1), .ref (MA 2), .ref (MA 3), .ref (MA 4), .ref (MA 5), .ref (MA 6), .ref (MA 7), .ref (MA 8), .ref (MA 9), .int (nI (F 24 1)), .ref (MA 10), .ref (MA 11), .ref (MA 12), .int (nI (F 24 2)), .ref (MA 13), .ref (MA 14), .ref (MA 15), .int (nI (F 24 3)), .ref (MA 16), .ref (MA 17), .ref (MA 18), .ref (MA 19), .ref (MA 20), .ref (MA 21)])) from hm.x) hi_RX7 tyX7_ok nmX7 rfl 0 (by decide) hf_79 rfl rfl rfl rfl (Nat.le_of_ble_eq_true rfl) rfl dX7_count_2 (fun H locs hP hS => ?_)
  obtain ⟨w_2_0, hw9, hm_2_0, hk_2_0⟩ : ∃ wz : wW, wz = wU w mo (.inr (7, [.int 0, .int (nI (F 24 0)), .ref (MA 0), .ref (MA 1), .ref (MA 2), .ref (MA 3), .ref (MA 4), .ref (MA 5), .ref (MA 6), .ref (MA 7), .ref (MA 8), .ref (MA 9), .int (nI (F 24 1)), .ref (MA 10), .ref (MA 11), .ref (MA 12), .int (nI (F 24 2)), .ref (MA 13), .ref (MA 14), .ref (MA 15), .int (nI (F 24 3)), .ref (MA 16), .ref (MA 17), .ref (MA 18), .ref (MA 19), .ref (MA 20), .ref (MA 21)])) ∧ wMod E F MA mo (nI 0) wz ∧ wKm mo MA w wz := ⟨_, rfl, M_o (F := F) (G := F) (cd2 := nI 0) hm (fun a b h => rfl), wKm.rf.tr wKm.o⟩
  rw [← hw9] at hP
  refine lv_aload_n hx hb dX7_count_5 rfl (lv_at hl 0 rfl) ?_
  refine lv_iload_n hx hb dX7_count_6 rfl (lv_at hl 1 rfl) ?_
  refine wl_on C0 ht hP hS (wl_runV (As := [.int c1]) (rest := []) C0 hP hS (k_X7_isCaller l hst E w_2_0 H.size F MA mo (nI 0) N hI hm_2_0 c1) (cwV 1 hts gX7_count_X7_isCaller rfl rfl rfl (by decide +kernel) ⟨(Nat.le_of_ble_eq_true rfl), (Nat.le_of_ble_eq_true rfl)⟩) (show w_2_0 mo = some (.inr (7, [.int (nI 0), .int (nI (F 24 0)), .ref (MA 0), .ref (MA 1), .ref (MA 2), .ref (MA 3), .ref (MA 4), .ref (MA 5), .ref (MA 6), .ref (MA 7), .ref (MA 8), .ref (MA 9), .int (nI (F 24 1)), .ref (MA 10), .ref (MA 11), .ref (MA 12), .int (nI (F 24 2)), .ref (MA 13), .ref (MA 14), .ref (MA 15), .int (nI (F 24 3)), .ref (MA 16), .ref (MA 17), .ref (MA 18), .ref (MA 19), .ref (MA 20), .ref (MA 21)])) from hm_2_0.x) rfl rfl rfl hl.1 (Nat.le_of_ble_eq_true rfl) dX7_count_7 ⟨(Nat.le_of_ble_eq_true rfl), (Nat.le_of_ble_eq_true rfl)⟩) (Nat.le_of_ble_eq_true rfl) (Nat.le_of_ble_eq_true rfl) (fun _ _ h => h.elim) (fun v_7 w_7 H locs hq hP hS => ?_)
  obtain ⟨rfl, hw9⟩ := hq
  rw [hw9] at hP
  refine W.eq (g2 := F0 m 10 ls [.int (bI (vpb c1 (F 24 2)))]) rfl ?_
  refine lv_if_ne (tgt := 19) hx hb dX7_count_10 (by decide) (fun c_10 => ?_) (fun c_10 => ?_)
  · have q10 : vpb c1 (F 24 2) = true := bI_n.mp c_10
    have hc9 := vpb_tn q10
    have hct := vpb_nt q10
    have hl : lv_has ls 5 [(0, .ref mo), (1, .int (nI (tn c1))), (2, .int k1)] := by
      rw [hct]
      exact hl
    refine lv_iload_n hx hb dX7_count_19 rfl (lv_at hl 2 rfl) ?_
    refine lv_bipush (v := 110) hx hb dX7_count_20 (by decide) ?_
    refine lv_icmp_eq (tgt := 55) hx hb dX7_count_22 (by decide) (fun c_22 => ?_) (fun c_22 => ?_)
    · have hik : isK k1 = true := by simp [isK, c_22]
      refine lv_iconst (v := 0) hx hb dX7_count_55 (by decide) ?_
      refine lv_istore_n (lv' := [(3, .int 0), (0, .ref mo), (1, .int (nI (tn c1))), (2, .int k1)]) hx hb dX7_count_56 rfl hl (by decide) rfl (fun ls hl => ?_)
      refine lv_iconst (v := 0) hx hb dX7_count_57 (by decide) ?_
      refine lv_istore (lv' := [(4, .int 0), (3, .int 0), (0, .ref mo), (1, .int (nI (tn c1))), (2, .int k1)]) hx hb dX7_count_58 hl (by decide) rfl (fun ls hl => ?_)
      have LP : ∀ (nF : Nat) (j k : Nat), F 24 3 - j < nF → (j ≤ F 24 3) → (k = ct (fun i => decide (F 16 i = tn c1) && decide (nI (F 17 i) = k1)) j) → ∀ (ls : Array Slot), lv_has ls 5 [(0, .ref mo), (1, .int (nI (tn c1))), (2, .int k1), (3, .int (nI k)), (4, .int (nI j))] → W p l e (wRm 2 0 0) s m args below meth c H locs 0 0 (vx_MQ below (wQ E (wA w sz) (fun v w2 => v = some (.int (s_count F c1 k1).2.1) ∧ wMod E (s_count F c1 k1).2.2 MA mo (nI (s_count F c1 k1).1) w2 ∧ wKm mo MA w w2)) (wX E (wA w sz) (fun _ _ => False)) args s 0 0 (wA w sz)) (F0 m 60 ls []) := by
        intro nF
        induction nF with
        | zero => intro j k hn; exact absurd hn (Nat.not_lt_zero _)
        | succ nF ih =>
          intro j k hn i1 i2 ls hl
          refine lv_iload hx hb dX7_count_60 (lv_at hl 4 rfl) ?_
          refine lv_aload_n hx hb dX7_count_62 rfl (lv_at hl 0 rfl) ?_
          refine wl_get (T := TX7) C0 hP (show w_2_0 mo = some (.inr (7, [.int (nI 0), .int (nI (F 24 0)), .ref (MA 0), .ref (MA 1), .ref (MA 2), .ref (MA 3), .ref (MA 4), .ref (MA 5), .ref (MA 6), .ref (MA 7), .ref (MA 8), .ref (MA 9), .int (nI (F 24 1)), .ref (MA 10), .ref (MA 11), .ref (MA 12), .int (nI (F 24 2)), .ref (MA 13), .ref (MA 14), .ref (MA 15), .int (nI (F 24 3)), .ref (MA 16), .ref (MA 17), .ref (MA 18), .ref (MA 19), .ref (MA 20), .ref (MA 21)])) from hm_2_0.x) hi_RX7 rfl 20 (by decide) hf_120 rfl dX7_count_63 ?_
          refine lv_icmp_ge (tgt := 105) hx hb dX7_count_66 (by decide) (fun c_66 => ?_) (fun c_66 => ?_)
          · have q66 : F 24 3 ≤ j := (nI_leI (by omega) (by omega)).mp c_66
            refine lv_iload_n hx hb dX7_count_105 rfl (lv_at hl 3 rfl) ?_
            have hke := i2
            rw [show j = F 24 3 by omega] at hke
            have hev : s_count F c1 k1 = (0, nI k, F) := by simp [s_count, q10, hik, ← hke]
            exact wl_iret C0 hr rfl hP hS dX7_count_106 (Nat.le_of_ble_eq_true rfl) (Nat.le_of_ble_eq_true rfl) (⟨by rw [hev], by rw [hev]; exact hm_2_0, hk_2_0⟩)
          · have q66 : j < F 24 3 := Nat.not_le.mp (fun q => c_66 ((nI_leI (by omega) (by omega)).mpr q))
            have hej := hI.en q66
            refine lv_iload_n hx hb dX7_count_69 rfl (lv_at hl 3 rfl) ?_
            refine lv_aload_n hx hb dX7_count_70 rfl (lv_at hl 0 rfl) ?_
            refine wl_get (T := TX7) C0 hP (show w_2_0 mo = some (.inr (7, [.int (nI 0), .int (nI (F 24 0)), .ref (MA 0), .ref (MA 1), .ref (MA 2), .ref (MA 3), .ref (MA 4), .ref (MA 5), .ref (MA 6), .ref (MA 7), .ref (MA 8), .ref (MA 9), .int (nI (F 24 1)), .ref (MA 10), .ref (MA 11), .ref (MA 12), .int (nI (F 24 2)), .ref (MA 13), .ref (MA 14), .ref (MA 15), .int (nI (F 24 3)), .ref (MA 16), .ref (MA 17), .ref (MA 18), .ref (MA 19), .ref (MA 20), .ref (MA 21)])) from hm_2_0.x) hi_RX7 rfl 21 (by decide) hf_60 rfl dX7_count_71 ?_
            refine lv_iload hx hb dX7_count_74 (lv_at hl 4 rfl) ?_
            refine wl_iald C0 hP (show w_2_0 (MA 16) = some (.inl (E.2.1 0, 700, .inl (fun i => nI (F 16 i)))) from hm_2_0.i 16 (by decide) rfl rfl rfl) (vp_in_nI (by omega) (by omega)) dX7_count_76 ?_
            refine W.eq (g2 := F0 m 77 ls [.int (nI (F 16 j)), .int (nI k)]) (by rw [show (nI j).toNatClampNeg = j from nI_clamp (by omega)]) ?_
            refine lv_iload_n hx hb dX7_count_77 rfl (lv_at hl 1 rfl) ?_
            refine lv_icmp_ne (tgt := 96) hx hb dX7_count_78 (by decide) (fun c_78 => ?_) (fun c_78 => ?_)
            · have q78 : ¬ F 16 j = tn c1 := fun q => c_78 ((nI_eq (b := tn c1) (by omega) (by omega)).mpr q)
              refine lv_iconst (v := 0) hx hb dX7_count_96 (by decide) ?_
              refine lv_iadd hx hb dX7_count_97 ?_
              rw [show ((nI k) + 0) = (nI k) from Int32.add_zero _]
              refine lv_istore_n (lv' := [(3, .int (nI k)), (0, .ref mo), (1, .int (nI (tn c1))), (2, .int k1), (4, .int (nI j))]) hx hb dX7_count_98 rfl hl (by decide) rfl (fun ls hl => ?_)
              refine lv_iinc (v := nI (j + 1)) (lv' := [(4, .int (nI (j + 1))), (3, .int (nI k)), (0, .ref mo), (1, .int (nI (tn c1))), (2, .int k1)]) hx hb dX7_count_99 hl (k := 4) rfl (nI_1 _) (by decide) rfl (fun ls hl => ?_)
              refine lv_goto (tgt := 60) hx hb dX7_count_102 (by decide) ?_
              exact ih (j + 1) k (by omega) (by omega) (by rw [i2, ct_n (by simp [q78])]) ls (lv_sub hl [2, 3, 4, 1, 0] rfl)
            · have q78 : F 16 j = tn c1 := (nI_eq (b := tn c1) (by omega) (by omega)).mp c_78
              refine lv_aload_n hx hb dX7_count_81 rfl (lv_at hl 0 rfl) ?_
              refine wl_get (T := TX7) C0 hP (show w_2_0 mo = some (.inr (7, [.int (nI 0), .int (nI (F 24 0)), .ref (MA 0), .ref (MA 1), .ref (MA 2), .ref (MA 3), .ref (MA 4), .ref (MA 5), .ref (MA 6), .ref (MA 7), .ref (MA 8), .ref (MA 9), .int (nI (F 24 1)), .ref (MA 10), .ref (MA 11), .ref (MA 12), .int (nI (F 24 2)), .ref (MA 13), .ref (MA 14), .ref (MA 15), .int (nI (F 24 3)), .ref (MA 16), .ref (MA 17), .ref (MA 18), .ref (MA 19), .ref (MA 20), .ref (MA 21)])) from hm_2_0.x) hi_RX7 rfl 22 (by decide) hf_63 rfl dX7_count_82 ?_
              refine lv_iload hx hb dX7_count_85 (lv_at hl 4 rfl) ?_
              refine wl_cald C0 hP (show w_2_0 (MA 17) = some (.inl (E.2.1 2, 700, .inl (fun i => nI (F 17 i)))) from hm_2_0.i 17 (by decide) rfl rfl rfl) (vp_in_nI (by omega) (by omega)) dX7_count_87 ?_
              refine W.eq (g2 := F0 m 88 ls [.int (nI (F 17 j)), .int (nI k)]) (by rw [show (nI j).toNatClampNeg = j from nI_clamp (by omega)]) ?_
              refine lv_iload_n hx hb dX7_count_88 rfl (lv_at hl 2 rfl) ?_
              refine lv_icmp_ne (tgt := 96) hx hb dX7_count_89 (by decide) (fun c_89 => ?_) (fun c_89 => ?_)
              · refine lv_iconst (v := 0) hx hb dX7_count_96 (by decide) ?_
                refine lv_iadd hx hb dX7_count_97 ?_
                rw [show ((nI k) + 0) = (nI k) from Int32.add_zero _]
                refine lv_istore_n (lv' := [(3, .int (nI k)), (0, .ref mo), (1, .int (nI (tn c1))), (2, .int k1), (4, .int (nI j))]) hx hb dX7_count_98 rfl hl (by decide) rfl (fun ls hl => ?_)
                refine lv_iinc (v := nI (j + 1)) (lv' := [(4, .int (nI (j + 1))), (3, .int (nI k)), (0, .ref mo), (1, .int (nI (tn c1))), (2, .int k1)]) hx hb dX7_count_99 hl (k := 4) rfl (nI_1 _) (by decide) rfl (fun ls hl => ?_)
                refine lv_goto (tgt := 60) hx hb dX7_count_102 (by decide) ?_
                exact ih (j + 1) k (by omega) (by omega) (by rw [i2, ct_n (by simp [c_89])]) ls (lv_sub hl [2, 3, 4, 1, 0] rfl)
              · refine lv_iconst (v := 1) hx hb dX7_count_92 (by decide) ?_
                refine lv_goto (tgt := 97) hx hb dX7_count_93 (by decide) ?_
                refine lv_iadd hx hb dX7_count_97 ?_
                rw [show ((nI k) + 1) = (nI (k + 1)) from nI_1 _]
                refine lv_istore_n (lv' := [(3, .int (nI (k + 1))), (0, .ref mo), (1, .int (nI (tn c1))), (2, .int k1), (4, .int (nI j))]) hx hb dX7_count_98 rfl hl (by decide) rfl (fun ls hl => ?_)
                refine lv_iinc (v := nI (j + 1)) (lv' := [(4, .int (nI (j + 1))), (3, .int (nI (k + 1))), (0, .ref mo), (1, .int (nI (tn c1))), (2, .int k1)]) hx hb dX7_count_99 hl (k := 4) rfl (nI_1 _) (by decide) rfl (fun ls hl => ?_)
                refine lv_goto (tgt := 60) hx hb dX7_count_102 (by decide) ?_
                exact ih (j + 1) (k + 1) (by omega) (by omega) (by rw [i2, ct_s (by simp [q78, c_89])]) ls (lv_sub hl [2, 3, 4, 1, 0] rfl)
      exact LP _ 0 0 (Nat.lt_succ_self _) (Nat.zero_le _) (rfl) ls (lv_sub hl [2, 3, 4, 1, 0] rfl)
    · refine lv_iload_n hx hb dX7_count_25 rfl (lv_at hl 2 rfl) ?_
      refine lv_bipush (v := 108) hx hb dX7_count_26 (by decide) ?_
      refine lv_icmp_eq (tgt := 55) hx hb dX7_count_28 (by decide) (fun c_28 => ?_) (fun c_28 => ?_)
      · have hik : isK k1 = true := by simp [isK, c_28]
        refine lv_iconst (v := 0) hx hb dX7_count_55 (by decide) ?_
        refine lv_istore_n (lv' := [(3, .int 0), (0, .ref mo), (1, .int (nI (tn c1))), (2, .int k1)]) hx hb dX7_count_56 rfl hl (by decide) rfl (fun ls hl => ?_)
        refine lv_iconst (v := 0) hx hb dX7_count_57 (by decide) ?_
        refine lv_istore (lv' := [(4, .int 0), (3, .int 0), (0, .ref mo), (1, .int (nI (tn c1))), (2, .int k1)]) hx hb dX7_count_58 hl (by decide) rfl (fun ls hl => ?_)
        have LP : ∀ (nF : Nat) (j k : Nat), F 24 3 - j < nF → (j ≤ F 24 3) → (k = ct (fun i => decide (F 16 i = tn c1) && decide (nI (F 17 i) = k1)) j) → ∀ (ls : Array Slot), lv_has ls 5 [(0, .ref mo), (1, .int (nI (tn c1))), (2, .int k1), (3, .int (nI k)), (4, .int (nI j))] → W p l e (wRm 2 0 0) s m args below meth c H locs 0 0 (vx_MQ below (wQ E (wA w sz) (fun v w2 => v = some (.int (s_count F c1 k1).2.1) ∧ wMod E (s_count F c1 k1).2.2 MA mo (nI (s_count F c1 k1).1) w2 ∧ wKm mo MA w w2)) (wX E (wA w sz) (fun _ _ => False)) args s 0 0 (wA w sz)) (F0 m 60 ls []) := by
          intro nF
          induction nF with
          | zero => intro j k hn; exact absurd hn (Nat.not_lt_zero _)
          | succ nF ih =>
            intro j k hn i1 i2 ls hl
            refine lv_iload hx hb dX7_count_60 (lv_at hl 4 rfl) ?_
            refine lv_aload_n hx hb dX7_count_62 rfl (lv_at hl 0 rfl) ?_
            refine wl_get (T := TX7) C0 hP (show w_2_0 mo = some (.inr (7, [.int (nI 0), .int (nI (F 24 0)), .ref (MA 0), .ref (MA 1), .ref (MA 2), .ref (MA 3), .ref (MA 4), .ref (MA 5), .ref (MA 6), .ref (MA 7), .ref (MA 8), .ref (MA 9), .int (nI (F 24 1)), .ref (MA 10), .ref (MA 11), .ref (MA 12), .int (nI (F 24 2)), .ref (MA 13), .ref (MA 14), .ref (MA 15), .int (nI (F 24 3)), .ref (MA 16), .ref (MA 17), .ref (MA 18), .ref (MA 19), .ref (MA 20), .ref (MA 21)])) from hm_2_0.x) hi_RX7 rfl 20 (by decide) hf_120 rfl dX7_count_63 ?_
            refine lv_icmp_ge (tgt := 105) hx hb dX7_count_66 (by decide) (fun c_66 => ?_) (fun c_66 => ?_)
            · have q66 : F 24 3 ≤ j := (nI_leI (by omega) (by omega)).mp c_66
              refine lv_iload_n hx hb dX7_count_105 rfl (lv_at hl 3 rfl) ?_
              have hke := i2
              rw [show j = F 24 3 by omega] at hke
              have hev : s_count F c1 k1 = (0, nI k, F) := by simp [s_count, q10, hik, ← hke]
              exact wl_iret C0 hr rfl hP hS dX7_count_106 (Nat.le_of_ble_eq_true rfl) (Nat.le_of_ble_eq_true rfl) (⟨by rw [hev], by rw [hev]; exact hm_2_0, hk_2_0⟩)
            · have q66 : j < F 24 3 := Nat.not_le.mp (fun q => c_66 ((nI_leI (by omega) (by omega)).mpr q))
              have hej := hI.en q66
              refine lv_iload_n hx hb dX7_count_69 rfl (lv_at hl 3 rfl) ?_
              refine lv_aload_n hx hb dX7_count_70 rfl (lv_at hl 0 rfl) ?_
              refine wl_get (T := TX7) C0 hP (show w_2_0 mo = some (.inr (7, [.int (nI 0), .int (nI (F 24 0)), .ref (MA 0), .ref (MA 1), .ref (MA 2), .ref (MA 3), .ref (MA 4), .ref (MA 5), .ref (MA 6), .ref (MA 7), .ref (MA 8), .ref (MA 9), .int (nI (F 24 1)), .ref (MA 10), .ref (MA 11), .ref (MA 12), .int (nI (F 24 2)), .ref (MA 13), .ref (MA 14), .ref (MA 15), .int (nI (F 24 3)), .ref (MA 16), .ref (MA 17), .ref (MA 18), .ref (MA 19), .ref (MA 20), .ref (MA 21)])) from hm_2_0.x) hi_RX7 rfl 21 (by decide) hf_60 rfl dX7_count_71 ?_
              refine lv_iload hx hb dX7_count_74 (lv_at hl 4 rfl) ?_
              refine wl_iald C0 hP (show w_2_0 (MA 16) = some (.inl (E.2.1 0, 700, .inl (fun i => nI (F 16 i)))) from hm_2_0.i 16 (by decide) rfl rfl rfl) (vp_in_nI (by omega) (by omega)) dX7_count_76 ?_
              refine W.eq (g2 := F0 m 77 ls [.int (nI (F 16 j)), .int (nI k)]) (by rw [show (nI j).toNatClampNeg = j from nI_clamp (by omega)]) ?_
              refine lv_iload_n hx hb dX7_count_77 rfl (lv_at hl 1 rfl) ?_
              refine lv_icmp_ne (tgt := 96) hx hb dX7_count_78 (by decide) (fun c_78 => ?_) (fun c_78 => ?_)
              · have q78 : ¬ F 16 j = tn c1 := fun q => c_78 ((nI_eq (b := tn c1) (by omega) (by omega)).mpr q)
                refine lv_iconst (v := 0) hx hb dX7_count_96 (by decide) ?_
                refine lv_iadd hx hb dX7_count_97 ?_
                rw [show ((nI k) + 0) = (nI k) from Int32.add_zero _]
                refine lv_istore_n (lv' := [(3, .int (nI k)), (0, .ref mo), (1, .int (nI (tn c1))), (2, .int k1), (4, .int (nI j))]) hx hb dX7_count_98 rfl hl (by decide) rfl (fun ls hl => ?_)
                refine lv_iinc (v := nI (j + 1)) (lv' := [(4, .int (nI (j + 1))), (3, .int (nI k)), (0, .ref mo), (1, .int (nI (tn c1))), (2, .int k1)]) hx hb dX7_count_99 hl (k := 4) rfl (nI_1 _) (by decide) rfl (fun ls hl => ?_)
                refine lv_goto (tgt := 60) hx hb dX7_count_102 (by decide) ?_
                exact ih (j + 1) k (by omega) (by omega) (by rw [i2, ct_n (by simp [q78])]) ls (lv_sub hl [2, 3, 4, 1, 0] rfl)
              · have q78 : F 16 j = tn c1 := (nI_eq (b := tn c1) (by omega) (by omega)).mp c_78
                refine lv_aload_n hx hb dX7_count_81 rfl (lv_at hl 0 rfl) ?_
                refine wl_get (T := TX7) C0 hP (show w_2_0 mo = some (.inr (7, [.int (nI 0), .int (nI (F 24 0)), .ref (MA 0), .ref (MA 1), .ref (MA 2), .ref (MA 3), .ref (MA 4), .ref (MA 5), .ref (MA 6), .ref (MA 7), .ref (MA 8), .ref (MA 9), .int (nI (F 24 1)), .ref (MA 10), .ref (MA 11), .ref (MA 12), .int (nI (F 24 2)), .ref (MA 13), .ref (MA 14), .ref (MA 15), .int (nI (F 24 3)), .ref (MA 16), .ref (MA 17), .ref (MA 18), .ref (MA 19), .ref (MA 20), .ref (MA 21)])) from hm_2_0.x) hi_RX7 rfl 22 (by decide) hf_63 rfl dX7_count_82 ?_
                refine lv_iload hx hb dX7_count_85 (lv_at hl 4 rfl) ?_
                refine wl_cald C0 hP (show w_2_0 (MA 17) = some (.inl (E.2.1 2, 700, .inl (fun i => nI (F 17 i)))) from hm_2_0.i 17 (by decide) rfl rfl rfl) (vp_in_nI (by omega) (by omega)) dX7_count_87 ?_
                refine W.eq (g2 := F0 m 88 ls [.int (nI (F 17 j)), .int (nI k)]) (by rw [show (nI j).toNatClampNeg = j from nI_clamp (by omega)]) ?_
                refine lv_iload_n hx hb dX7_count_88 rfl (lv_at hl 2 rfl) ?_
                refine lv_icmp_ne (tgt := 96) hx hb dX7_count_89 (by decide) (fun c_89 => ?_) (fun c_89 => ?_)
                · refine lv_iconst (v := 0) hx hb dX7_count_96 (by decide) ?_
                  refine lv_iadd hx hb dX7_count_97 ?_
                  rw [show ((nI k) + 0) = (nI k) from Int32.add_zero _]
                  refine lv_istore_n (lv' := [(3, .int (nI k)), (0, .ref mo), (1, .int (nI (tn c1))), (2, .int k1), (4, .int (nI j))]) hx hb dX7_count_98 rfl hl (by decide) rfl (fun ls hl => ?_)
                  refine lv_iinc (v := nI (j + 1)) (lv' := [(4, .int (nI (j + 1))), (3, .int (nI k)), (0, .ref mo), (1, .int (nI (tn c1))), (2, .int k1)]) hx hb dX7_count_99 hl (k := 4) rfl (nI_1 _) (by decide) rfl (fun ls hl => ?_)
                  refine lv_goto (tgt := 60) hx hb dX7_count_102 (by decide) ?_
                  exact ih (j + 1) k (by omega) (by omega) (by rw [i2, ct_n (by simp [c_89])]) ls (lv_sub hl [2, 3, 4, 1, 0] rfl)
                · refine lv_iconst (v := 1) hx hb dX7_count_92 (by decide) ?_
                  refine lv_goto (tgt := 97) hx hb dX7_count_93 (by decide) ?_
                  refine lv_iadd hx hb dX7_count_97 ?_
                  rw [show ((nI k) + 1) = (nI (k + 1)) from nI_1 _]
                  refine lv_istore_n (lv' := [(3, .int (nI (k + 1))), (0, .ref mo), (1, .int (nI (tn c1))), (2, .int k1), (4, .int (nI j))]) hx hb dX7_count_98 rfl hl (by decide) rfl (fun ls hl => ?_)
                  refine lv_iinc (v := nI (j + 1)) (lv' := [(4, .int (nI (j + 1))), (3, .int (nI (k + 1))), (0, .ref mo), (1, .int (nI (tn c1))), (2, .int k1)]) hx hb dX7_count_99 hl (k := 4) rfl (nI_1 _) (by decide) rfl (fun ls hl => ?_)
                  refine lv_goto (tgt := 60) hx hb dX7_count_102 (by decide) ?_
                  exact ih (j + 1) (k + 1) (by omega) (by omega) (by rw [i2, ct_s (by simp [q78, c_89])]) ls (lv_sub hl [2, 3, 4, 1, 0] rfl)
        exact LP _ 0 0 (Nat.lt_succ_self _) (Nat.zero_le _) (rfl) ls (lv_sub hl [2, 3, 4, 1, 0] rfl)
      · refine lv_iload_n hx hb dX7_count_31 rfl (lv_at hl 2 rfl) ?_
        refine lv_bipush (v := 115) hx hb dX7_count_32 (by decide) ?_
        refine lv_icmp_eq (tgt := 55) hx hb dX7_count_34 (by decide) (fun c_34 => ?_) (fun c_34 => ?_)
        · have hik : isK k1 = true := by simp [isK, c_34]
          refine lv_iconst (v := 0) hx hb dX7_count_55 (by decide) ?_
          refine lv_istore_n (lv' := [(3, .int 0), (0, .ref mo), (1, .int (nI (tn c1))), (2, .int k1)]) hx hb dX7_count_56 rfl hl (by decide) rfl (fun ls hl => ?_)
          refine lv_iconst (v := 0) hx hb dX7_count_57 (by decide) ?_
          refine lv_istore (lv' := [(4, .int 0), (3, .int 0), (0, .ref mo), (1, .int (nI (tn c1))), (2, .int k1)]) hx hb dX7_count_58 hl (by decide) rfl (fun ls hl => ?_)
          have LP : ∀ (nF : Nat) (j k : Nat), F 24 3 - j < nF → (j ≤ F 24 3) → (k = ct (fun i => decide (F 16 i = tn c1) && decide (nI (F 17 i) = k1)) j) → ∀ (ls : Array Slot), lv_has ls 5 [(0, .ref mo), (1, .int (nI (tn c1))), (2, .int k1), (3, .int (nI k)), (4, .int (nI j))] → W p l e (wRm 2 0 0) s m args below meth c H locs 0 0 (vx_MQ below (wQ E (wA w sz) (fun v w2 => v = some (.int (s_count F c1 k1).2.1) ∧ wMod E (s_count F c1 k1).2.2 MA mo (nI (s_count F c1 k1).1) w2 ∧ wKm mo MA w w2)) (wX E (wA w sz) (fun _ _ => False)) args s 0 0 (wA w sz)) (F0 m 60 ls []) := by
            intro nF
            induction nF with
            | zero => intro j k hn; exact absurd hn (Nat.not_lt_zero _)
            | succ nF ih =>
              intro j k hn i1 i2 ls hl
              refine lv_iload hx hb dX7_count_60 (lv_at hl 4 rfl) ?_
              refine lv_aload_n hx hb dX7_count_62 rfl (lv_at hl 0 rfl) ?_
              refine wl_get (T := TX7) C0 hP (show w_2_0 mo = some (.inr (7, [.int (nI 0), .int (nI (F 24 0)), .ref (MA 0), .ref (MA 1), .ref (MA 2), .ref (MA 3), .ref (MA 4), .ref (MA 5), .ref (MA 6), .ref (MA 7), .ref (MA 8), .ref (MA 9), .int (nI (F 24 1)), .ref (MA 10), .ref (MA 11), .ref (MA 12), .int (nI (F 24 2)), .ref (MA 13), .ref (MA 14), .ref (MA 15), .int (nI (F 24 3)), .ref (MA 16), .ref (MA 17), .ref (MA 18), .ref (MA 19), .ref (MA 20), .ref (MA 21)])) from hm_2_0.x) hi_RX7 rfl 20 (by decide) hf_120 rfl dX7_count_63 ?_
              refine lv_icmp_ge (tgt := 105) hx hb dX7_count_66 (by decide) (fun c_66 => ?_) (fun c_66 => ?_)
              · have q66 : F 24 3 ≤ j := (nI_leI (by omega) (by omega)).mp c_66
                refine lv_iload_n hx hb dX7_count_105 rfl (lv_at hl 3 rfl) ?_
                have hke := i2
                rw [show j = F 24 3 by omega] at hke
                have hev : s_count F c1 k1 = (0, nI k, F) := by simp [s_count, q10, hik, ← hke]
                exact wl_iret C0 hr rfl hP hS dX7_count_106 (Nat.le_of_ble_eq_true rfl) (Nat.le_of_ble_eq_true rfl) (⟨by rw [hev], by rw [hev]; exact hm_2_0, hk_2_0⟩)
              · have q66 : j < F 24 3 := Nat.not_le.mp (fun q => c_66 ((nI_leI (by omega) (by omega)).mpr q))
                have hej := hI.en q66
                refine lv_iload_n hx hb dX7_count_69 rfl (lv_at hl 3 rfl) ?_
                refine lv_aload_n hx hb dX7_count_70 rfl (lv_at hl 0 rfl) ?_
                refine wl_get (T := TX7) C0 hP (show w_2_0 mo = some (.inr (7, [.int (nI 0), .int (nI (F 24 0)), .ref (MA 0), .ref (MA 1), .ref (MA 2), .ref (MA 3), .ref (MA 4), .ref (MA 5), .ref (MA 6), .ref (MA 7), .ref (MA 8), .ref (MA 9), .int (nI (F 24 1)), .ref (MA 10), .ref (MA 11), .ref (MA 12), .int (nI (F 24 2)), .ref (MA 13), .ref (MA 14), .ref (MA 15), .int (nI (F 24 3)), .ref (MA 16), .ref (MA 17), .ref (MA 18), .ref (MA 19), .ref (MA 20), .ref (MA 21)])) from hm_2_0.x) hi_RX7 rfl 21 (by decide) hf_60 rfl dX7_count_71 ?_
                refine lv_iload hx hb dX7_count_74 (lv_at hl 4 rfl) ?_
                refine wl_iald C0 hP (show w_2_0 (MA 16) = some (.inl (E.2.1 0, 700, .inl (fun i => nI (F 16 i)))) from hm_2_0.i 16 (by decide) rfl rfl rfl) (vp_in_nI (by omega) (by omega)) dX7_count_76 ?_
                refine W.eq (g2 := F0 m 77 ls [.int (nI (F 16 j)), .int (nI k)]) (by rw [show (nI j).toNatClampNeg = j from nI_clamp (by omega)]) ?_
                refine lv_iload_n hx hb dX7_count_77 rfl (lv_at hl 1 rfl) ?_
                refine lv_icmp_ne (tgt := 96) hx hb dX7_count_78 (by decide) (fun c_78 => ?_) (fun c_78 => ?_)
                · have q78 : ¬ F 16 j = tn c1 := fun q => c_78 ((nI_eq (b := tn c1) (by omega) (by omega)).mpr q)
                  refine lv_iconst (v := 0) hx hb dX7_count_96 (by decide) ?_
                  refine lv_iadd hx hb dX7_count_97 ?_
                  rw [show ((nI k) + 0) = (nI k) from Int32.add_zero _]
                  refine lv_istore_n (lv' := [(3, .int (nI k)), (0, .ref mo), (1, .int (nI (tn c1))), (2, .int k1), (4, .int (nI j))]) hx hb dX7_count_98 rfl hl (by decide) rfl (fun ls hl => ?_)
                  refine lv_iinc (v := nI (j + 1)) (lv' := [(4, .int (nI (j + 1))), (3, .int (nI k)), (0, .ref mo), (1, .int (nI (tn c1))), (2, .int k1)]) hx hb dX7_count_99 hl (k := 4) rfl (nI_1 _) (by decide) rfl (fun ls hl => ?_)
                  refine lv_goto (tgt := 60) hx hb dX7_count_102 (by decide) ?_
                  exact ih (j + 1) k (by omega) (by omega) (by rw [i2, ct_n (by simp [q78])]) ls (lv_sub hl [2, 3, 4, 1, 0] rfl)
                · have q78 : F 16 j = tn c1 := (nI_eq (b := tn c1) (by omega) (by omega)).mp c_78
                  refine lv_aload_n hx hb dX7_count_81 rfl (lv_at hl 0 rfl) ?_
                  refine wl_get (T := TX7) C0 hP (show w_2_0 mo = some (.inr (7, [.int (nI 0), .int (nI (F 24 0)), .ref (MA 0), .ref (MA 1), .ref (MA 2), .ref (MA 3), .ref (MA 4), .ref (MA 5), .ref (MA 6), .ref (MA 7), .ref (MA 8), .ref (MA 9), .int (nI (F 24 1)), .ref (MA 10), .ref (MA 11), .ref (MA 12), .int (nI (F 24 2)), .ref (MA 13), .ref (MA 14), .ref (MA 15), .int (nI (F 24 3)), .ref (MA 16), .ref (MA 17), .ref (MA 18), .ref (MA 19), .ref (MA 20), .ref (MA 21)])) from hm_2_0.x) hi_RX7 rfl 22 (by decide) hf_63 rfl dX7_count_82 ?_
                  refine lv_iload hx hb dX7_count_85 (lv_at hl 4 rfl) ?_
                  refine wl_cald C0 hP (show w_2_0 (MA 17) = some (.inl (E.2.1 2, 700, .inl (fun i => nI (F 17 i)))) from hm_2_0.i 17 (by decide) rfl rfl rfl) (vp_in_nI (by omega) (by omega)) dX7_count_87 ?_
                  refine W.eq (g2 := F0 m 88 ls [.int (nI (F 17 j)), .int (nI k)]) (by rw [show (nI j).toNatClampNeg = j from nI_clamp (by omega)]) ?_
                  refine lv_iload_n hx hb dX7_count_88 rfl (lv_at hl 2 rfl) ?_
                  refine lv_icmp_ne (tgt := 96) hx hb dX7_count_89 (by decide) (fun c_89 => ?_) (fun c_89 => ?_)
                  · refine lv_iconst (v := 0) hx hb dX7_count_96 (by decide) ?_
                    refine lv_iadd hx hb dX7_count_97 ?_
                    rw [show ((nI k) + 0) = (nI k) from Int32.add_zero _]
                    refine lv_istore_n (lv' := [(3, .int (nI k)), (0, .ref mo), (1, .int (nI (tn c1))), (2, .int k1), (4, .int (nI j))]) hx hb dX7_count_98 rfl hl (by decide) rfl (fun ls hl => ?_)
                    refine lv_iinc (v := nI (j + 1)) (lv' := [(4, .int (nI (j + 1))), (3, .int (nI k)), (0, .ref mo), (1, .int (nI (tn c1))), (2, .int k1)]) hx hb dX7_count_99 hl (k := 4) rfl (nI_1 _) (by decide) rfl (fun ls hl => ?_)
                    refine lv_goto (tgt := 60) hx hb dX7_count_102 (by decide) ?_
                    exact ih (j + 1) k (by omega) (by omega) (by rw [i2, ct_n (by simp [c_89])]) ls (lv_sub hl [2, 3, 4, 1, 0] rfl)
                  · refine lv_iconst (v := 1) hx hb dX7_count_92 (by decide) ?_
                    refine lv_goto (tgt := 97) hx hb dX7_count_93 (by decide) ?_
                    refine lv_iadd hx hb dX7_count_97 ?_
                    rw [show ((nI k) + 1) = (nI (k + 1)) from nI_1 _]
                    refine lv_istore_n (lv' := [(3, .int (nI (k + 1))), (0, .ref mo), (1, .int (nI (tn c1))), (2, .int k1), (4, .int (nI j))]) hx hb dX7_count_98 rfl hl (by decide) rfl (fun ls hl => ?_)
                    refine lv_iinc (v := nI (j + 1)) (lv' := [(4, .int (nI (j + 1))), (3, .int (nI (k + 1))), (0, .ref mo), (1, .int (nI (tn c1))), (2, .int k1)]) hx hb dX7_count_99 hl (k := 4) rfl (nI_1 _) (by decide) rfl (fun ls hl => ?_)
                    refine lv_goto (tgt := 60) hx hb dX7_count_102 (by decide) ?_
                    exact ih (j + 1) (k + 1) (by omega) (by omega) (by rw [i2, ct_s (by simp [q78, c_89])]) ls (lv_sub hl [2, 3, 4, 1, 0] rfl)
          exact LP _ 0 0 (Nat.lt_succ_self _) (Nat.zero_le _) (rfl) ls (lv_sub hl [2, 3, 4, 1, 0] rfl)
        · refine lv_iload_n hx hb dX7_count_37 rfl (lv_at hl 2 rfl) ?_
          refine lv_bipush (v := 99) hx hb dX7_count_38 (by decide) ?_
          refine lv_icmp_eq (tgt := 55) hx hb dX7_count_40 (by decide) (fun c_40 => ?_) (fun c_40 => ?_)
          · have hik : isK k1 = true := by simp [isK, c_40]
            refine lv_iconst (v := 0) hx hb dX7_count_55 (by decide) ?_
            refine lv_istore_n (lv' := [(3, .int 0), (0, .ref mo), (1, .int (nI (tn c1))), (2, .int k1)]) hx hb dX7_count_56 rfl hl (by decide) rfl (fun ls hl => ?_)
            refine lv_iconst (v := 0) hx hb dX7_count_57 (by decide) ?_
            refine lv_istore (lv' := [(4, .int 0), (3, .int 0), (0, .ref mo), (1, .int (nI (tn c1))), (2, .int k1)]) hx hb dX7_count_58 hl (by decide) rfl (fun ls hl => ?_)
            have LP : ∀ (nF : Nat) (j k : Nat), F 24 3 - j < nF → (j ≤ F 24 3) → (k = ct (fun i => decide (F 16 i = tn c1) && decide (nI (F 17 i) = k1)) j) → ∀ (ls : Array Slot), lv_has ls 5 [(0, .ref mo), (1, .int (nI (tn c1))), (2, .int k1), (3, .int (nI k)), (4, .int (nI j))] → W p l e (wRm 2 0 0) s m args below meth c H locs 0 0 (vx_MQ below (wQ E (wA w sz) (fun v w2 => v = some (.int (s_count F c1 k1).2.1) ∧ wMod E (s_count F c1 k1).2.2 MA mo (nI (s_count F c1 k1).1) w2 ∧ wKm mo MA w w2)) (wX E (wA w sz) (fun _ _ => False)) args s 0 0 (wA w sz)) (F0 m 60 ls []) := by
              intro nF
              induction nF with
              | zero => intro j k hn; exact absurd hn (Nat.not_lt_zero _)
              | succ nF ih =>
                intro j k hn i1 i2 ls hl
                refine lv_iload hx hb dX7_count_60 (lv_at hl 4 rfl) ?_
                refine lv_aload_n hx hb dX7_count_62 rfl (lv_at hl 0 rfl) ?_
                refine wl_get (T := TX7) C0 hP (show w_2_0 mo = some (.inr (7, [.int (nI 0), .int (nI (F 24 0)), .ref (MA 0), .ref (MA 1), .ref (MA 2), .ref (MA 3), .ref (MA 4), .ref (MA 5), .ref (MA 6), .ref (MA 7), .ref (MA 8), .ref (MA 9), .int (nI (F 24 1)), .ref (MA 10), .ref (MA 11), .ref (MA 12), .int (nI (F 24 2)), .ref (MA 13), .ref (MA 14), .ref (MA 15), .int (nI (F 24 3)), .ref (MA 16), .ref (MA 17), .ref (MA 18), .ref (MA 19), .ref (MA 20), .ref (MA 21)])) from hm_2_0.x) hi_RX7 rfl 20 (by decide) hf_120 rfl dX7_count_63 ?_
                refine lv_icmp_ge (tgt := 105) hx hb dX7_count_66 (by decide) (fun c_66 => ?_) (fun c_66 => ?_)
                · have q66 : F 24 3 ≤ j := (nI_leI (by omega) (by omega)).mp c_66
                  refine lv_iload_n hx hb dX7_count_105 rfl (lv_at hl 3 rfl) ?_
                  have hke := i2
                  rw [show j = F 24 3 by omega] at hke
                  have hev : s_count F c1 k1 = (0, nI k, F) := by simp [s_count, q10, hik, ← hke]
                  exact wl_iret C0 hr rfl hP hS dX7_count_106 (Nat.le_of_ble_eq_true rfl) (Nat.le_of_ble_eq_true rfl) (⟨by rw [hev], by rw [hev]; exact hm_2_0, hk_2_0⟩)
                · have q66 : j < F 24 3 := Nat.not_le.mp (fun q => c_66 ((nI_leI (by omega) (by omega)).mpr q))
                  have hej := hI.en q66
                  refine lv_iload_n hx hb dX7_count_69 rfl (lv_at hl 3 rfl) ?_
                  refine lv_aload_n hx hb dX7_count_70 rfl (lv_at hl 0 rfl) ?_
                  refine wl_get (T := TX7) C0 hP (show w_2_0 mo = some (.inr (7, [.int (nI 0), .int (nI (F 24 0)), .ref (MA 0), .ref (MA 1), .ref (MA 2), .ref (MA 3), .ref (MA 4), .ref (MA 5), .ref (MA 6), .ref (MA 7), .ref (MA 8), .ref (MA 9), .int (nI (F 24 1)), .ref (MA 10), .ref (MA 11), .ref (MA 12), .int (nI (F 24 2)), .ref (MA 13), .ref (MA 14), .ref (MA 15), .int (nI (F 24 3)), .ref (MA 16), .ref (MA 17), .ref (MA 18), .ref (MA 19), .ref (MA 20), .ref (MA 21)])) from hm_2_0.x) hi_RX7 rfl 21 (by decide) hf_60 rfl dX7_count_71 ?_
                  refine lv_iload hx hb dX7_count_74 (lv_at hl 4 rfl) ?_
                  refine wl_iald C0 hP (show w_2_0 (MA 16) = some (.inl (E.2.1 0, 700, .inl (fun i => nI (F 16 i)))) from hm_2_0.i 16 (by decide) rfl rfl rfl) (vp_in_nI (by omega) (by omega)) dX7_count_76 ?_
                  refine W.eq (g2 := F0 m 77 ls [.int (nI (F 16 j)), .int (nI k)]) (by rw [show (nI j).toNatClampNeg = j from nI_clamp (by omega)]) ?_
                  refine lv_iload_n hx hb dX7_count_77 rfl (lv_at hl 1 rfl) ?_
                  refine lv_icmp_ne (tgt := 96) hx hb dX7_count_78 (by decide) (fun c_78 => ?_) (fun c_78 => ?_)
                  · have q78 : ¬ F 16 j = tn c1 := fun q => c_78 ((nI_eq (b := tn c1) (by omega) (by omega)).mpr q)
                    refine lv_iconst (v := 0) hx hb dX7_count_96 (by decide) ?_
                    refine lv_iadd hx hb dX7_count_97 ?_
                    rw [show ((nI k) + 0) = (nI k) from Int32.add_zero _]
                    refine lv_istore_n (lv' := [(3, .int (nI k)), (0, .ref mo), (1, .int (nI (tn c1))), (2, .int k1), (4, .int (nI j))]) hx hb dX7_count_98 rfl hl (by decide) rfl (fun ls hl => ?_)
                    refine lv_iinc (v := nI (j + 1)) (lv' := [(4, .int (nI (j + 1))), (3, .int (nI k)), (0, .ref mo), (1, .int (nI (tn c1))), (2, .int k1)]) hx hb dX7_count_99 hl (k := 4) rfl (nI_1 _) (by decide) rfl (fun ls hl => ?_)
                    refine lv_goto (tgt := 60) hx hb dX7_count_102 (by decide) ?_
                    exact ih (j + 1) k (by omega) (by omega) (by rw [i2, ct_n (by simp [q78])]) ls (lv_sub hl [2, 3, 4, 1, 0] rfl)
                  · have q78 : F 16 j = tn c1 := (nI_eq (b := tn c1) (by omega) (by omega)).mp c_78
                    refine lv_aload_n hx hb dX7_count_81 rfl (lv_at hl 0 rfl) ?_
                    refine wl_get (T := TX7) C0 hP (show w_2_0 mo = some (.inr (7, [.int (nI 0), .int (nI (F 24 0)), .ref (MA 0), .ref (MA 1), .ref (MA 2), .ref (MA 3), .ref (MA 4), .ref (MA 5), .ref (MA 6), .ref (MA 7), .ref (MA 8), .ref (MA 9), .int (nI (F 24 1)), .ref (MA 10), .ref (MA 11), .ref (MA 12), .int (nI (F 24 2)), .ref (MA 13), .ref (MA 14), .ref (MA 15), .int (nI (F 24 3)), .ref (MA 16), .ref (MA 17), .ref (MA 18), .ref (MA 19), .ref (MA 20), .ref (MA 21)])) from hm_2_0.x) hi_RX7 rfl 22 (by decide) hf_63 rfl dX7_count_82 ?_
                    refine lv_iload hx hb dX7_count_85 (lv_at hl 4 rfl) ?_
                    refine wl_cald C0 hP (show w_2_0 (MA 17) = some (.inl (E.2.1 2, 700, .inl (fun i => nI (F 17 i)))) from hm_2_0.i 17 (by decide) rfl rfl rfl) (vp_in_nI (by omega) (by omega)) dX7_count_87 ?_
                    refine W.eq (g2 := F0 m 88 ls [.int (nI (F 17 j)), .int (nI k)]) (by rw [show (nI j).toNatClampNeg = j from nI_clamp (by omega)]) ?_
                    refine lv_iload_n hx hb dX7_count_88 rfl (lv_at hl 2 rfl) ?_
                    refine lv_icmp_ne (tgt := 96) hx hb dX7_count_89 (by decide) (fun c_89 => ?_) (fun c_89 => ?_)
                    · refine lv_iconst (v := 0) hx hb dX7_count_96 (by decide) ?_
                      refine lv_iadd hx hb dX7_count_97 ?_
                      rw [show ((nI k) + 0) = (nI k) from Int32.add_zero _]
                      refine lv_istore_n (lv' := [(3, .int (nI k)), (0, .ref mo), (1, .int (nI (tn c1))), (2, .int k1), (4, .int (nI j))]) hx hb dX7_count_98 rfl hl (by decide) rfl (fun ls hl => ?_)
                      refine lv_iinc (v := nI (j + 1)) (lv' := [(4, .int (nI (j + 1))), (3, .int (nI k)), (0, .ref mo), (1, .int (nI (tn c1))), (2, .int k1)]) hx hb dX7_count_99 hl (k := 4) rfl (nI_1 _) (by decide) rfl (fun ls hl => ?_)
                      refine lv_goto (tgt := 60) hx hb dX7_count_102 (by decide) ?_
                      exact ih (j + 1) k (by omega) (by omega) (by rw [i2, ct_n (by simp [c_89])]) ls (lv_sub hl [2, 3, 4, 1, 0] rfl)
                    · refine lv_iconst (v := 1) hx hb dX7_count_92 (by decide) ?_
                      refine lv_goto (tgt := 97) hx hb dX7_count_93 (by decide) ?_
                      refine lv_iadd hx hb dX7_count_97 ?_
                      rw [show ((nI k) + 1) = (nI (k + 1)) from nI_1 _]
                      refine lv_istore_n (lv' := [(3, .int (nI (k + 1))), (0, .ref mo), (1, .int (nI (tn c1))), (2, .int k1), (4, .int (nI j))]) hx hb dX7_count_98 rfl hl (by decide) rfl (fun ls hl => ?_)
                      refine lv_iinc (v := nI (j + 1)) (lv' := [(4, .int (nI (j + 1))), (3, .int (nI (k + 1))), (0, .ref mo), (1, .int (nI (tn c1))), (2, .int k1)]) hx hb dX7_count_99 hl (k := 4) rfl (nI_1 _) (by decide) rfl (fun ls hl => ?_)
                      refine lv_goto (tgt := 60) hx hb dX7_count_102 (by decide) ?_
                      exact ih (j + 1) (k + 1) (by omega) (by omega) (by rw [i2, ct_s (by simp [q78, c_89])]) ls (lv_sub hl [2, 3, 4, 1, 0] rfl)
            exact LP _ 0 0 (Nat.lt_succ_self _) (Nat.zero_le _) (rfl) ls (lv_sub hl [2, 3, 4, 1, 0] rfl)
          · refine lv_iload_n hx hb dX7_count_43 rfl (lv_at hl 2 rfl) ?_
            refine lv_bipush (v := 102) hx hb dX7_count_44 (by decide) ?_
            refine lv_icmp_eq (tgt := 55) hx hb dX7_count_46 (by decide) (fun c_46 => ?_) (fun c_46 => ?_)
            · have hik : isK k1 = true := by simp [isK, c_46]
              refine lv_iconst (v := 0) hx hb dX7_count_55 (by decide) ?_
              refine lv_istore_n (lv' := [(3, .int 0), (0, .ref mo), (1, .int (nI (tn c1))), (2, .int k1)]) hx hb dX7_count_56 rfl hl (by decide) rfl (fun ls hl => ?_)
              refine lv_iconst (v := 0) hx hb dX7_count_57 (by decide) ?_
              refine lv_istore (lv' := [(4, .int 0), (3, .int 0), (0, .ref mo), (1, .int (nI (tn c1))), (2, .int k1)]) hx hb dX7_count_58 hl (by decide) rfl (fun ls hl => ?_)
              have LP : ∀ (nF : Nat) (j k : Nat), F 24 3 - j < nF → (j ≤ F 24 3) → (k = ct (fun i => decide (F 16 i = tn c1) && decide (nI (F 17 i) = k1)) j) → ∀ (ls : Array Slot), lv_has ls 5 [(0, .ref mo), (1, .int (nI (tn c1))), (2, .int k1), (3, .int (nI k)), (4, .int (nI j))] → W p l e (wRm 2 0 0) s m args below meth c H locs 0 0 (vx_MQ below (wQ E (wA w sz) (fun v w2 => v = some (.int (s_count F c1 k1).2.1) ∧ wMod E (s_count F c1 k1).2.2 MA mo (nI (s_count F c1 k1).1) w2 ∧ wKm mo MA w w2)) (wX E (wA w sz) (fun _ _ => False)) args s 0 0 (wA w sz)) (F0 m 60 ls []) := by
                intro nF
                induction nF with
                | zero => intro j k hn; exact absurd hn (Nat.not_lt_zero _)
                | succ nF ih =>
                  intro j k hn i1 i2 ls hl
                  refine lv_iload hx hb dX7_count_60 (lv_at hl 4 rfl) ?_
                  refine lv_aload_n hx hb dX7_count_62 rfl (lv_at hl 0 rfl) ?_
                  refine wl_get (T := TX7) C0 hP (show w_2_0 mo = some (.inr (7, [.int (nI 0), .int (nI (F 24 0)), .ref (MA 0), .ref (MA 1), .ref (MA 2), .ref (MA 3), .ref (MA 4), .ref (MA 5), .ref (MA 6), .ref (MA 7), .ref (MA 8), .ref (MA 9), .int (nI (F 24 1)), .ref (MA 10), .ref (MA 11), .ref (MA 12), .int (nI (F 24 2)), .ref (MA 13), .ref (MA 14), .ref (MA 15), .int (nI (F 24 3)), .ref (MA 16), .ref (MA 17), .ref (MA 18), .ref (MA 19), .ref (MA 20), .ref (MA 21)])) from hm_2_0.x) hi_RX7 rfl 20 (by decide) hf_120 rfl dX7_count_63 ?_
                  refine lv_icmp_ge (tgt := 105) hx hb dX7_count_66 (by decide) (fun c_66 => ?_) (fun c_66 => ?_)
                  · have q66 : F 24 3 ≤ j := (nI_leI (by omega) (by omega)).mp c_66
                    refine lv_iload_n hx hb dX7_count_105 rfl (lv_at hl 3 rfl) ?_
                    have hke := i2
                    rw [show j = F 24 3 by omega] at hke
                    have hev : s_count F c1 k1 = (0, nI k, F) := by simp [s_count, q10, hik, ← hke]
                    exact wl_iret C0 hr rfl hP hS dX7_count_106 (Nat.le_of_ble_eq_true rfl) (Nat.le_of_ble_eq_true rfl) (⟨by rw [hev], by rw [hev]; exact hm_2_0, hk_2_0⟩)
                  · have q66 : j < F 24 3 := Nat.not_le.mp (fun q => c_66 ((nI_leI (by omega) (by omega)).mpr q))
                    have hej := hI.en q66
                    refine lv_iload_n hx hb dX7_count_69 rfl (lv_at hl 3 rfl) ?_
                    refine lv_aload_n hx hb dX7_count_70 rfl (lv_at hl 0 rfl) ?_
                    refine wl_get (T := TX7) C0 hP (show w_2_0 mo = some (.inr (7, [.int (nI 0), .int (nI (F 24 0)), .ref (MA 0), .ref (MA 1), .ref (MA 2), .ref (MA 3), .ref (MA 4), .ref (MA 5), .ref (MA 6), .ref (MA 7), .ref (MA 8), .ref (MA 9), .int (nI (F 24 1)), .ref (MA 10), .ref (MA 11), .ref (MA 12), .int (nI (F 24 2)), .ref (MA 13), .ref (MA 14), .ref (MA 15), .int (nI (F 24 3)), .ref (MA 16), .ref (MA 17), .ref (MA 18), .ref (MA 19), .ref (MA 20), .ref (MA 21)])) from hm_2_0.x) hi_RX7 rfl 21 (by decide) hf_60 rfl dX7_count_71 ?_
                    refine lv_iload hx hb dX7_count_74 (lv_at hl 4 rfl) ?_
                    refine wl_iald C0 hP (show w_2_0 (MA 16) = some (.inl (E.2.1 0, 700, .inl (fun i => nI (F 16 i)))) from hm_2_0.i 16 (by decide) rfl rfl rfl) (vp_in_nI (by omega) (by omega)) dX7_count_76 ?_
                    refine W.eq (g2 := F0 m 77 ls [.int (nI (F 16 j)), .int (nI k)]) (by rw [show (nI j).toNatClampNeg = j from nI_clamp (by omega)]) ?_
                    refine lv_iload_n hx hb dX7_count_77 rfl (lv_at hl 1 rfl) ?_
                    refine lv_icmp_ne (tgt := 96) hx hb dX7_count_78 (by decide) (fun c_78 => ?_) (fun c_78 => ?_)
                    · have q78 : ¬ F 16 j = tn c1 := fun q => c_78 ((nI_eq (b := tn c1) (by omega) (by omega)).mpr q)
                      refine lv_iconst (v := 0) hx hb dX7_count_96 (by decide) ?_
                      refine lv_iadd hx hb dX7_count_97 ?_
                      rw [show ((nI k) + 0) = (nI k) from Int32.add_zero _]
                      refine lv_istore_n (lv' := [(3, .int (nI k)), (0, .ref mo), (1, .int (nI (tn c1))), (2, .int k1), (4, .int (nI j))]) hx hb dX7_count_98 rfl hl (by decide) rfl (fun ls hl => ?_)
                      refine lv_iinc (v := nI (j + 1)) (lv' := [(4, .int (nI (j + 1))), (3, .int (nI k)), (0, .ref mo), (1, .int (nI (tn c1))), (2, .int k1)]) hx hb dX7_count_99 hl (k := 4) rfl (nI_1 _) (by decide) rfl (fun ls hl => ?_)
                      refine lv_goto (tgt := 60) hx hb dX7_count_102 (by decide) ?_
                      exact ih (j + 1) k (by omega) (by omega) (by rw [i2, ct_n (by simp [q78])]) ls (lv_sub hl [2, 3, 4, 1, 0] rfl)
                    · have q78 : F 16 j = tn c1 := (nI_eq (b := tn c1) (by omega) (by omega)).mp c_78
                      refine lv_aload_n hx hb dX7_count_81 rfl (lv_at hl 0 rfl) ?_
                      refine wl_get (T := TX7) C0 hP (show w_2_0 mo = some (.inr (7, [.int (nI 0), .int (nI (F 24 0)), .ref (MA 0), .ref (MA 1), .ref (MA 2), .ref (MA 3), .ref (MA 4), .ref (MA 5), .ref (MA 6), .ref (MA 7), .ref (MA 8), .ref (MA 9), .int (nI (F 24 1)), .ref (MA 10), .ref (MA 11), .ref (MA 12), .int (nI (F 24 2)), .ref (MA 13), .ref (MA 14), .ref (MA 15), .int (nI (F 24 3)), .ref (MA 16), .ref (MA 17), .ref (MA 18), .ref (MA 19), .ref (MA 20), .ref (MA 21)])) from hm_2_0.x) hi_RX7 rfl 22 (by decide) hf_63 rfl dX7_count_82 ?_
                      refine lv_iload hx hb dX7_count_85 (lv_at hl 4 rfl) ?_
                      refine wl_cald C0 hP (show w_2_0 (MA 17) = some (.inl (E.2.1 2, 700, .inl (fun i => nI (F 17 i)))) from hm_2_0.i 17 (by decide) rfl rfl rfl) (vp_in_nI (by omega) (by omega)) dX7_count_87 ?_
                      refine W.eq (g2 := F0 m 88 ls [.int (nI (F 17 j)), .int (nI k)]) (by rw [show (nI j).toNatClampNeg = j from nI_clamp (by omega)]) ?_
                      refine lv_iload_n hx hb dX7_count_88 rfl (lv_at hl 2 rfl) ?_
                      refine lv_icmp_ne (tgt := 96) hx hb dX7_count_89 (by decide) (fun c_89 => ?_) (fun c_89 => ?_)
                      · refine lv_iconst (v := 0) hx hb dX7_count_96 (by decide) ?_
                        refine lv_iadd hx hb dX7_count_97 ?_
                        rw [show ((nI k) + 0) = (nI k) from Int32.add_zero _]
                        refine lv_istore_n (lv' := [(3, .int (nI k)), (0, .ref mo), (1, .int (nI (tn c1))), (2, .int k1), (4, .int (nI j))]) hx hb dX7_count_98 rfl hl (by decide) rfl (fun ls hl => ?_)
                        refine lv_iinc (v := nI (j + 1)) (lv' := [(4, .int (nI (j + 1))), (3, .int (nI k)), (0, .ref mo), (1, .int (nI (tn c1))), (2, .int k1)]) hx hb dX7_count_99 hl (k := 4) rfl (nI_1 _) (by decide) rfl (fun ls hl => ?_)
                        refine lv_goto (tgt := 60) hx hb dX7_count_102 (by decide) ?_
                        exact ih (j + 1) k (by omega) (by omega) (by rw [i2, ct_n (by simp [c_89])]) ls (lv_sub hl [2, 3, 4, 1, 0] rfl)
                      · refine lv_iconst (v := 1) hx hb dX7_count_92 (by decide) ?_
                        refine lv_goto (tgt := 97) hx hb dX7_count_93 (by decide) ?_
                        refine lv_iadd hx hb dX7_count_97 ?_
                        rw [show ((nI k) + 1) = (nI (k + 1)) from nI_1 _]
                        refine lv_istore_n (lv' := [(3, .int (nI (k + 1))), (0, .ref mo), (1, .int (nI (tn c1))), (2, .int k1), (4, .int (nI j))]) hx hb dX7_count_98 rfl hl (by decide) rfl (fun ls hl => ?_)
                        refine lv_iinc (v := nI (j + 1)) (lv' := [(4, .int (nI (j + 1))), (3, .int (nI (k + 1))), (0, .ref mo), (1, .int (nI (tn c1))), (2, .int k1)]) hx hb dX7_count_99 hl (k := 4) rfl (nI_1 _) (by decide) rfl (fun ls hl => ?_)
                        refine lv_goto (tgt := 60) hx hb dX7_count_102 (by decide) ?_
                        exact ih (j + 1) (k + 1) (by omega) (by omega) (by rw [i2, ct_s (by simp [q78, c_89])]) ls (lv_sub hl [2, 3, 4, 1, 0] rfl)
              exact LP _ 0 0 (Nat.lt_succ_self _) (Nat.zero_le _) (rfl) ls (lv_sub hl [2, 3, 4, 1, 0] rfl)
            · refine lv_aload_n hx hb dX7_count_49 rfl (lv_at hl 0 rfl) ?_
              refine lv_iconst (v := 2) hx hb dX7_count_50 (by decide) ?_
              refine wl_on C0 ht hP hS (wl_runV (As := [.int 2]) (rest := []) C0 hP hS (k_X7_fails l hst E w_2_0 H.size F MA mo (nI 0) 2 hm_2_0) (cwV 1 hts gX7_count_X7_fails rfl rfl rfl (by decide +kernel) ⟨(Nat.le_of_ble_eq_true rfl), (Nat.le_of_ble_eq_true rfl)⟩) (show w_2_0 mo = some (.inr (7, [.int (nI 0), .int (nI (F 24 0)), .ref (MA 0), .ref (MA 1), .ref (MA 2), .ref (MA 3), .ref (MA 4), .ref (MA 5), .ref (MA 6), .ref (MA 7), .ref (MA 8), .ref (MA 9), .int (nI (F 24 1)), .ref (MA 10), .ref (MA 11), .ref (MA 12), .int (nI (F 24 2)), .ref (MA 13), .ref (MA 14), .ref (MA 15), .int (nI (F 24 3)), .ref (MA 16), .ref (MA 17), .ref (MA 18), .ref (MA 19), .ref (MA 20), .ref (MA 21)])) from hm_2_0.x) rfl rfl rfl hl.1 (Nat.le_of_ble_eq_true rfl) dX7_count_51 ⟨(Nat.le_of_ble_eq_true rfl), (Nat.le_of_ble_eq_true rfl)⟩) (Nat.le_of_ble_eq_true rfl) (Nat.le_of_ble_eq_true rfl) (fun _ _ h => h.elim) (fun v_51 w_51 H locs hq hP hS => ?_)
              obtain ⟨rfl, hm_51_1, hk2_51_1⟩ := hq
              have hk_51_1 := hk_2_0.tr hk2_51_1
              refine W.eq (g2 := F0 m 54 ls [.int 0]) rfl ?_
              have hik : isK k1 = false := by simp [isK, c_22, c_28, c_34, c_40, c_46]
              have hev : s_count F c1 k1 = (2, 0, F) := by simp [s_count, q10, hik]
              exact wl_iret C0 hr rfl hP hS dX7_count_54 (Nat.le_of_ble_eq_true rfl) (Nat.le_of_ble_eq_true rfl) (⟨by rw [hev], by rw [hev]; exact hm_51_1, hk_51_1⟩)
  · have q10 : vpb c1 (F 24 2) = false := bI_0.mp c_10
    refine lv_aload_n hx hb dX7_count_13 rfl (lv_at hl 0 rfl) ?_
    refine lv_iconst (v := 1) hx hb dX7_count_14 (by decide) ?_
    refine wl_on C0 ht hP hS (wl_runV (As := [.int 1]) (rest := []) C0 hP hS (k_X7_fails l hst E w_2_0 H.size F MA mo (nI 0) 1 hm_2_0) (cwV 1 hts gX7_count_X7_fails rfl rfl rfl (by decide +kernel) ⟨(Nat.le_of_ble_eq_true rfl), (Nat.le_of_ble_eq_true rfl)⟩) (show w_2_0 mo = some (.inr (7, [.int (nI 0), .int (nI (F 24 0)), .ref (MA 0), .ref (MA 1), .ref (MA 2), .ref (MA 3), .ref (MA 4), .ref (MA 5), .ref (MA 6), .ref (MA 7), .ref (MA 8), .ref (MA 9), .int (nI (F 24 1)), .ref (MA 10), .ref (MA 11), .ref (MA 12), .int (nI (F 24 2)), .ref (MA 13), .ref (MA 14), .ref (MA 15), .int (nI (F 24 3)), .ref (MA 16), .ref (MA 17), .ref (MA 18), .ref (MA 19), .ref (MA 20), .ref (MA 21)])) from hm_2_0.x) rfl rfl rfl hl.1 (Nat.le_of_ble_eq_true rfl) dX7_count_15 ⟨(Nat.le_of_ble_eq_true rfl), (Nat.le_of_ble_eq_true rfl)⟩) (Nat.le_of_ble_eq_true rfl) (Nat.le_of_ble_eq_true rfl) (fun _ _ h => h.elim) (fun v_15 w_15 H locs hq hP hS => ?_)
    obtain ⟨rfl, hm_15_2, hk2_15_2⟩ := hq
    have hk_15_2 := hk_2_0.tr hk2_15_2
    refine W.eq (g2 := F0 m 18 ls [.int 0]) rfl ?_
    have hev : s_count F c1 k1 = (1, 0, F) := by simp [s_count, q10]
    exact wl_iret C0 hr rfl hP hS dX7_count_18 (Nat.le_of_ble_eq_true rfl) (Nat.le_of_ble_eq_true rfl) (⟨by rw [hev], by rw [hev]; exact hm_15_2, hk_15_2⟩)

set_option maxHeartbeats 4000000 in
set_option maxRecDepth 100000 in
theorem k_X7_isUndone (l : Launch) (hst : l.stackTraces = false) (E : wEn) (w : wW) (sz : Nat) (F : FF) (MA : Nat → Nat) (mo : Nat) (cd : Int32) (N : Nat) (hI : wInv F N) (hm : wMod E F MA mo cd w) (k1 : Int32) : wM l yX7_isUndone wsX7_isUndone 1 0 0 E w sz [.ref mo, .int k1] (fun v w2 => v = some (.int (s_isUndone F k1).2.1) ∧ wMod E (s_isUndone F k1).2.2 MA mo (nI (s_isUndone F k1).1) w2 ∧ wKm mo MA w w2) (fun _ _ => False) := by
  refine wm_start (own := RX7) (cc := cX7_isUndone) (maxL := 2) (ret := (some .boolean)) rfl (by decide) rfl (Nat.le_of_ble_eq_true rfl) ?_
  intro p e s m args below meth c ls C0 hr hin ht hP hS hl
  have hx := C0.1
  have hb := C0.2.1
  have hts := C0.2.2.2.2.1
  have hown := C0.2.2.2.1
  have hl : lv_has ls 2 [(0, .ref mo), (1, .int k1)] := hl
  have hf_120 : (Cond.fieldLink RX7 120 "CallGatewayModel" "calls" "I").before args s = true := hts _ (by decide +kernel)
  have hf_79 : (Cond.fieldLink RX7 79 "CallGatewayModel" "code" "I").before args s = true := hts _ (by decide +kernel)
  have hf_73 : (Cond.fieldLink RX7 73 "CallGatewayModel" "undone" "[Z").before args s = true := hts _ (by decide +kernel)
  have hi_RX7 : ∀ w ∈ u_ws RX7 TX7 27, w ∈ wsX7_isUndone := fun _ h => List.mem_cons_of_mem _ (List.mem_append_left _ (List.mem_append_right _ h))
  have hn := hI.n
  have hn9 := hI.n
  refine lv_aload_n hx hb dX7_isUndone_0 rfl (lv_at hl 0 rfl) ?_
  refine lv_iload_n hx hb dX7_isUndone_1 rfl (lv_at hl 1 rfl) ?_
  refine lv_iconst (v := 0) hx hb dX7_isUndone_2 (by decide) ?_
  refine lv_aload_n hx hb dX7_isUndone_3 rfl (lv_at hl 0 rfl) ?_
  refine wl_get (T := TX7) C0 hP (show w mo = some (.inr (7, [.int cd, .int (nI (F 24 0)), .ref (MA 0), .ref (MA 1), .ref (MA 2), .ref (MA 3), .ref (MA 4), .ref (MA 5), .ref (MA 6), .ref (MA 7), .ref (MA 8), .ref (MA 9), .int (nI (F 24 1)), .ref (MA 10), .ref (MA 11), .ref (MA 12), .int (nI (F 24 2)), .ref (MA 13), .ref (MA 14), .ref (MA 15), .int (nI (F 24 3)), .ref (MA 16), .ref (MA 17), .ref (MA 18), .ref (MA 19), .ref (MA 20), .ref (MA 21)])) from hm.x) hi_RX7 rfl 20 (by decide) hf_120 rfl dX7_isUndone_4 ?_
  refine lv_iconst (v := 1) hx hb dX7_isUndone_7 (by decide) ?_
  refine lv_isub hx hb dX7_isUndone_8 ?_
  refine wl_on C0 ht hP hS (wl_runS (As := [.int k1, .int 0, .int ((nI (F 24 3)) - 1)]) (rest := [.ref mo]) C0 hP hS (k_X7_in l hst E w s.heap.size k1 0 ((nI (F 24 3)) - 1)) (va_cwS 3 hts gX7_isUndone_X7_in rfl rfl rfl (by decide +kernel) ⟨(Nat.le_of_ble_eq_true rfl), (Nat.le_of_ble_eq_true rfl)⟩) rfl rfl hl.1 (Nat.le_of_ble_eq_true rfl) dX7_isUndone_9 ⟨(Nat.le_of_ble_eq_true rfl), (Nat.le_of_ble_eq_true rfl)⟩) (Nat.le_of_ble_eq_true rfl) (Nat.le_of_ble_eq_true rfl) (fun _ _ h => h.elim) (fun v_9 w_9 H locs hq hP hS => ?_)
  obtain ⟨rfl, hw9⟩ := hq
  rw [hw9] at hP
  refine W.eq (g2 := F0 m 12 ls [.int (bI (wi k1 0 ((nI (F 24 3)) - 1))), .ref mo]) rfl ?_
  rw [show (bI (wi k1 0 ((nI (F 24 3)) - 1))) = (bI (vpb k1 (F 24 3))) from by rw [wi_vpb (by omega)]]
  refine lv_if_eq (tgt := 19) hx hb dX7_isUndone_12 (by decide) (fun c_12 => ?_) (fun c_12 => ?_)
  · have q12 : vpb k1 (F 24 3) = false := bI_0.mp c_12
    refine lv_iconst (v := 1) hx hb dX7_isUndone_19 (by decide) ?_
    refine wl_put (T := TX7) (ty0 := tyX7) (fs2 := [.int 1, .int (nI (F 24 0)), .ref (MA 0), .ref (MA 1), .ref (MA 2), .ref (MA 3), .ref (MA 4), .ref (MA 5), .ref (MA 6), .ref (MA 7), .ref (MA 8), .ref (MA 9), .int (nI (F 24 1)), .ref (MA 10), .ref (MA 11), .ref (MA 12), .int (nI (F 24 2)), .ref (MA 13), .ref (MA 14), .ref (MA 15), .int (nI (F 24 3)), .ref (MA 16), .ref (MA 17), .ref (MA 18), .ref (MA 19), .ref (MA 20), .ref (MA 21)]) C0 hP hS (show w mo = some (.inr (7, [.int cd, .int (nI (F 24 0)), .ref (MA 0), .ref (MA 1), .ref (MA 2), .ref (MA 3), .ref (MA 4), .ref (MA 5), .ref (MA 6), .ref (MA 7), .ref (MA 8), .ref (MA 9), .int (nI (F 24 1)), .ref (MA 10), .ref (MA 11), .ref (MA 12), .int (nI (F 24 2)), .ref (MA 13), .ref (MA 14), .ref (MA 15), .int (nI (F 24 3)), .ref (MA 16), .ref (MA 17), .ref (MA 18), .ref (MA 19), .ref (MA 20), .ref (MA 21)])) from hm.x) hi_RX7 tyX7_ok nmX7 rfl 0 (by decide) hf_79 rfl rfl rfl rfl (Nat.le_of_ble_eq_true rfl) rfl dX7_isUndone_20 (fun H locs hP hS => ?_)
    obtain ⟨w_20_0, hw9, hm_20_0, hk_20_0⟩ : ∃ wz : wW, wz = wU w mo (.inr (7, [.int 1, .int (nI (F 24 0)), .ref (MA 0), .ref (MA 1), .ref (MA 2), .ref (MA 3), .ref (MA 4), .ref (MA 5), .ref (MA 6), .ref (MA 7), .ref (MA 8), .ref (MA 9), .int (nI (F 24 1)), .ref (MA 10), .ref (MA 11), .ref (MA 12), .int (nI (F 24 2)), .ref (MA 13), .ref (MA 14), .ref (MA 15), .int (nI (F 24 3)), .ref (MA 16), .ref (MA 17), .ref (MA 18), .ref (MA 19), .ref (MA 20), .ref (MA 21)])) ∧ wMod E F MA mo (nI 1) wz ∧ wKm mo MA w wz := ⟨_, rfl, M_o (F := F) (G := F) (cd2 := nI 1) hm (fun a b h => rfl), wKm.rf.tr wKm.o⟩
    rw [← hw9] at hP
    refine lv_aload_n hx hb dX7_isUndone_23 rfl (lv_at hl 0 rfl) ?_
    refine wl_get (T := TX7) C0 hP (show w_20_0 mo = some (.inr (7, [.int (nI 1), .int (nI (F 24 0)), .ref (MA 0), .ref (MA 1), .ref (MA 2), .ref (MA 3), .ref (MA 4), .ref (MA 5), .ref (MA 6), .ref (MA 7), .ref (MA 8), .ref (MA 9), .int (nI (F 24 1)), .ref (MA 10), .ref (MA 11), .ref (MA 12), .int (nI (F 24 2)), .ref (MA 13), .ref (MA 14), .ref (MA 15), .int (nI (F 24 3)), .ref (MA 16), .ref (MA 17), .ref (MA 18), .ref (MA 19), .ref (MA 20), .ref (MA 21)])) from hm_20_0.x) hi_RX7 rfl 0 (by decide) hf_79 rfl dX7_isUndone_24 ?_
    refine lv_if_ne (tgt := 43) hx hb dX7_isUndone_27 (by decide) (fun c_27 => ?_) (fun c_27 => ?_)
    · refine lv_iconst (v := 0) hx hb dX7_isUndone_43 (by decide) ?_
      have hev : s_isUndone F k1 = (1, 0, F) := by simp [s_isUndone, q12]
      exact wl_iret C0 hr (by decide) hP hS dX7_isUndone_44 (Nat.le_of_ble_eq_true rfl) (Nat.le_of_ble_eq_true rfl) (⟨by rw [hev], by rw [hev]; exact hm_20_0, hk_20_0⟩)
    · exact absurd c_27 (by decide)
  · have q12 : vpb k1 (F 24 3) = true := bI_n.mp c_12
    have hk9 := vpb_tn q12
    have hkt := vpb_nt q12
    have h8 := hI.en hk9
    have hl : lv_has ls 2 [(0, .ref mo), (1, .int (nI (tn k1)))] := by
      rw [hkt]
      exact hl
    refine lv_iconst (v := 0) hx hb dX7_isUndone_15 (by decide) ?_
    refine lv_goto (tgt := 20) hx hb dX7_isUndone_16 (by decide) ?_
    refine wl_put (T := TX7) (ty0 := tyX7) (fs2 := [.int 0, .int (nI (F 24 0)), .ref (MA 0), .ref (MA 1), .ref (MA 2), .ref (MA 3), .ref (MA 4), .ref (MA 5), .ref (MA 6), .ref (MA 7), .ref (MA 8), .ref (MA 9), .int (nI (F 24 1)), .ref (MA 10), .ref (MA 11), .ref (MA 12), .int (nI (F 24 2)), .ref (MA 13), .ref (MA 14), .ref (MA 15), .int (nI (F 24 3)), .ref (MA 16), .ref (MA 17), .ref (MA 18), .ref (MA 19), .ref (MA 20), .ref (MA 21)]) C0 hP hS (show w mo = some (.inr (7, [.int cd, .int (nI (F 24 0)), .ref (MA 0), .ref (MA 1), .ref (MA 2), .ref (MA 3), .ref (MA 4), .ref (MA 5), .ref (MA 6), .ref (MA 7), .ref (MA 8), .ref (MA 9), .int (nI (F 24 1)), .ref (MA 10), .ref (MA 11), .ref (MA 12), .int (nI (F 24 2)), .ref (MA 13), .ref (MA 14), .ref (MA 15), .int (nI (F 24 3)), .ref (MA 16), .ref (MA 17), .ref (MA 18), .ref (MA 19), .ref (MA 20), .ref (MA 21)])) from hm.x) hi_RX7 tyX7_ok nmX7 rfl 0 (by decide) hf_79 rfl rfl rfl rfl (Nat.le_of_ble_eq_true rfl) rfl dX7_isUndone_20 (fun H locs hP hS => ?_)
    obtain ⟨w_20_1, hw9, hm_20_1, hk_20_1⟩ : ∃ wz : wW, wz = wU w mo (.inr (7, [.int 0, .int (nI (F 24 0)), .ref (MA 0), .ref (MA 1), .ref (MA 2), .ref (MA 3), .ref (MA 4), .ref (MA 5), .ref (MA 6), .ref (MA 7), .ref (MA 8), .ref (MA 9), .int (nI (F 24 1)), .ref (MA 10), .ref (MA 11), .ref (MA 12), .int (nI (F 24 2)), .ref (MA 13), .ref (MA 14), .ref (MA 15), .int (nI (F 24 3)), .ref (MA 16), .ref (MA 17), .ref (MA 18), .ref (MA 19), .ref (MA 20), .ref (MA 21)])) ∧ wMod E F MA mo (nI 0) wz ∧ wKm mo MA w wz := ⟨_, rfl, M_o (F := F) (G := F) (cd2 := nI 0) hm (fun a b h => rfl), wKm.rf.tr wKm.o⟩
    rw [← hw9] at hP
    refine lv_aload_n hx hb dX7_isUndone_23 rfl (lv_at hl 0 rfl) ?_
    refine wl_get (T := TX7) C0 hP (show w_20_1 mo = some (.inr (7, [.int (nI 0), .int (nI (F 24 0)), .ref (MA 0), .ref (MA 1), .ref (MA 2), .ref (MA 3), .ref (MA 4), .ref (MA 5), .ref (MA 6), .ref (MA 7), .ref (MA 8), .ref (MA 9), .int (nI (F 24 1)), .ref (MA 10), .ref (MA 11), .ref (MA 12), .int (nI (F 24 2)), .ref (MA 13), .ref (MA 14), .ref (MA 15), .int (nI (F 24 3)), .ref (MA 16), .ref (MA 17), .ref (MA 18), .ref (MA 19), .ref (MA 20), .ref (MA 21)])) from hm_20_1.x) hi_RX7 rfl 0 (by decide) hf_79 rfl dX7_isUndone_24 ?_
    refine lv_if_ne (tgt := 43) hx hb dX7_isUndone_27 (by decide) (fun c_27 => ?_) (fun c_27 => ?_)
    · exact absurd (by decide) c_27
    · refine lv_aload_n hx hb dX7_isUndone_30 rfl (lv_at hl 0 rfl) ?_
      refine wl_get (T := TX7) C0 hP (show w_20_1 mo = some (.inr (7, [.int (nI 0), .int (nI (F 24 0)), .ref (MA 0), .ref (MA 1), .ref (MA 2), .ref (MA 3), .ref (MA 4), .ref (MA 5), .ref (MA 6), .ref (MA 7), .ref (MA 8), .ref (MA 9), .int (nI (F 24 1)), .ref (MA 10), .ref (MA 11), .ref (MA 12), .int (nI (F 24 2)), .ref (MA 13), .ref (MA 14), .ref (MA 15), .int (nI (F 24 3)), .ref (MA 16), .ref (MA 17), .ref (MA 18), .ref (MA 19), .ref (MA 20), .ref (MA 21)])) from hm_20_1.x) hi_RX7 rfl 25 (by decide) hf_73 rfl dX7_isUndone_31 ?_
      refine lv_iload_n hx hb dX7_isUndone_34 rfl (lv_at hl 1 rfl) ?_
      refine wl_zald C0 hP (show w_20_1 (MA 20) = some (.inl (E.2.1 3, 700, .inl (fun i => nI (F 20 i)))) from hm_20_1.i 20 (by decide) rfl rfl rfl) (vp_in_nI (by omega) (by omega)) dX7_isUndone_35 ?_
      refine W.eq (g2 := F0 m 36 ls [.int (nI (F 20 (tn k1)))]) (by rw [show (nI (tn k1)).toNatClampNeg = (tn k1) from nI_clamp (by omega)]) ?_
      refine lv_if_eq (tgt := 43) hx hb dX7_isUndone_36 (by decide) (fun c_36 => ?_) (fun c_36 => ?_)
      · have q36 : F 20 (tn k1) = 0 := (nI_e0 (by omega)).mp c_36
        refine lv_iconst (v := 0) hx hb dX7_isUndone_43 (by decide) ?_
        have hev : s_isUndone F k1 = (0, 0, F) := by simp [s_isUndone, q12, q36, bI]
        exact wl_iret C0 hr (by decide) hP hS dX7_isUndone_44 (Nat.le_of_ble_eq_true rfl) (Nat.le_of_ble_eq_true rfl) (⟨by rw [hev], by rw [hev]; exact hm_20_1, hk_20_1⟩)
      · have q36 : ¬ F 20 (tn k1) = 0 := fun q => c_36 ((nI_e0 (by omega)).mpr q)
        refine lv_iconst (v := 1) hx hb dX7_isUndone_39 (by decide) ?_
        refine lv_goto (tgt := 44) hx hb dX7_isUndone_40 (by decide) ?_
        have hev : s_isUndone F k1 = (0, 1, F) := by simp [s_isUndone, q12, q36, bI]
        exact wl_iret C0 hr (by decide) hP hS dX7_isUndone_44 (Nat.le_of_ble_eq_true rfl) (Nat.le_of_ble_eq_true rfl) (⟨by rw [hev], by rw [hev]; exact hm_20_1, hk_20_1⟩)

set_option maxHeartbeats 4000000 in
set_option maxRecDepth 100000 in
theorem k_X7_greatest (l : Launch) (hst : l.stackTraces = false) (E : wEn) (w : wW) (sz : Nat) (F : FF) (MA : Nat → Nat) (mo : Nat) (cd : Int32) (N : Nat) (hI : wInv F N) (hm : wMod E F MA mo cd w) : wM l yX7_greatest wsX7_greatest 1 0 0 E w sz [.ref mo] (fun v w2 => v = some (.int (s_greatest F).2.1) ∧ wMod E (s_greatest F).2.2 MA mo (nI (s_greatest F).1) w2 ∧ wKm mo MA w w2) (fun _ _ => False) := by
  refine wm_start (own := RX7) (cc := cX7_greatest) (maxL := 3) (ret := (some .int)) rfl (by decide) rfl (Nat.le_of_ble_eq_true rfl) ?_
  intro p e s m args below meth c ls C0 hr hin ht hP hS hl
  have hx := C0.1
  have hb := C0.2.1
  have hts := C0.2.2.2.2.1
  have hown := C0.2.2.2.1
  have hl : lv_has ls 3 [(0, .ref mo)] := hl
  have hf_79 : (Cond.fieldLink RX7 79 "CallGatewayModel" "code" "I").before args s = true := hts _ (by decide +kernel)
  have hf_90 : (Cond.fieldLink RX7 90 "CallGatewayModel" "callers" "I").before args s = true := hts _ (by decide +kernel)
  have hf_56 : (Cond.fieldLink RX7 56 "CallGatewayModel" "bills" "[J").before args s = true := hts _ (by decide +kernel)
  have hi_RX7 : ∀ w ∈ u_ws RX7 TX7 27, w ∈ wsX7_greatest := fun _ h => List.mem_cons_of_mem _ (List.mem_append_left _ (List.mem_append_right _ h))
  have hn := hI.n
  have hn9 := hI.n
  refine lv_aload_n hx hb dX7_greatest_0 rfl (lv_at hl 0 rfl) ?_
  refine lv_iconst (v := 0) hx hb dX7_greatest_1 (by decide) ?_
  refine wl_put (T := TX7) (ty0 := tyX7) (fs2 := [.int 0, .int (nI (F 24 0)), .ref (MA 0), .ref (MA 1), .ref (MA 2), .ref (MA 3), .ref (MA 4), .ref (MA 5), .ref (MA 6), .ref (MA 7), .ref (MA 8), .ref (MA 9), .int (nI (F 24 1)), .ref (MA 10), .ref (MA 11), .ref (MA 12), .int (nI (F 24 2)), .ref (MA 13), .ref (MA 14), .ref (MA 15), .int (nI (F 24 3)), .ref (MA 16), .ref (MA 17), .ref (MA 18), .ref (MA 19), .ref (MA 20), .ref (MA 21)]) C0 hP hS (show w mo = some (.inr (7, [.int cd, .int (nI (F 24 0)), .ref (MA 0), .ref (MA 1), .ref (MA 2), .ref (MA 3), .ref (MA 4), .ref (MA 5), .ref (MA 6), .ref (MA 7), .ref (MA 8), .ref (MA 9), .int (nI (F 24 1)), .ref (MA 10), .ref (MA 11), .ref (MA 12), .int (nI (F 24 2)), .ref (MA 13), .ref (MA 14), .ref (MA 15), .int (nI (F 24 3)), .ref (MA 16), .ref (MA 17), .ref (MA 18), .ref (MA 19), .ref (MA 20), .ref (MA 21)])) from hm.x) hi_RX7 tyX7_ok nmX7 rfl 0 (by decide) hf_79 rfl rfl rfl rfl (Nat.le_of_ble_eq_true rfl) rfl dX7_greatest_2 (fun H locs hP hS => ?_)
  obtain ⟨w_2_0, hw9, hm_2_0, hk_2_0⟩ : ∃ wz : wW, wz = wU w mo (.inr (7, [.int 0, .int (nI (F 24 0)), .ref (MA 0), .ref (MA 1), .ref (MA 2), .ref (MA 3), .ref (MA 4), .ref (MA 5), .ref (MA 6), .ref (MA 7), .ref (MA 8), .ref (MA 9), .int (nI (F 24 1)), .ref (MA 10), .ref (MA 11), .ref (MA 12), .int (nI (F 24 2)), .ref (MA 13), .ref (MA 14), .ref (MA 15), .int (nI (F 24 3)), .ref (MA 16), .ref (MA 17), .ref (MA 18), .ref (MA 19), .ref (MA 20), .ref (MA 21)])) ∧ wMod E F MA mo (nI 0) wz ∧ wKm mo MA w wz := ⟨_, rfl, M_o (F := F) (G := F) (cd2 := nI 0) hm (fun a b h => rfl), wKm.rf.tr wKm.o⟩
  rw [← hw9] at hP
  refine lv_aload_n hx hb dX7_greatest_5 rfl (lv_at hl 0 rfl) ?_
  refine wl_get (T := TX7) C0 hP (show w_2_0 mo = some (.inr (7, [.int (nI 0), .int (nI (F 24 0)), .ref (MA 0), .ref (MA 1), .ref (MA 2), .ref (MA 3), .ref (MA 4), .ref (MA 5), .ref (MA 6), .ref (MA 7), .ref (MA 8), .ref (MA 9), .int (nI (F 24 1)), .ref (MA 10), .ref (MA 11), .ref (MA 12), .int (nI (F 24 2)), .ref (MA 13), .ref (MA 14), .ref (MA 15), .int (nI (F 24 3)), .ref (MA 16), .ref (MA 17), .ref (MA 18), .ref (MA 19), .ref (MA 20), .ref (MA 21)])) from hm_2_0.x) hi_RX7 rfl 16 (by decide) hf_90 rfl dX7_greatest_6 ?_
  refine lv_if_ne (tgt := 18) hx hb dX7_greatest_9 (by decide) (fun c_9 => ?_) (fun c_9 => ?_)
  · have q9 : ¬ F 24 2 = 0 := fun q => c_9 ((nI_e0 (by omega)).mpr q)
    refine lv_iconst (v := 0) hx hb dX7_greatest_18 (by decide) ?_
    refine lv_istore_n (lv' := [(1, .int 0), (0, .ref mo)]) hx hb dX7_greatest_19 rfl hl (by decide) rfl (fun ls hl => ?_)
    refine lv_iconst (v := 1) hx hb dX7_greatest_20 (by decide) ?_
    refine lv_istore_n (lv' := [(2, .int 1), (1, .int 0), (0, .ref mo)]) hx hb dX7_greatest_21 rfl hl (by decide) rfl (fun ls hl => ?_)
    have LP : ∀ (nF : Nat) (j : Nat), F 24 2 - j < nF → (1 ≤ j) → (j ≤ F 24 2) → ∀ (ls : Array Slot), lv_has ls 3 [(0, .ref mo), (1, .int (nI (g_best F j))), (2, .int (nI j))] → W p l e (wRm 1 0 0) s m args below meth c H locs 0 0 (vx_MQ below (wQ E (wA w sz) (fun v w2 => v = some (.int (s_greatest F).2.1) ∧ wMod E (s_greatest F).2.2 MA mo (nI (s_greatest F).1) w2 ∧ wKm mo MA w w2)) (wX E (wA w sz) (fun _ _ => False)) args s 0 0 (wA w sz)) (F0 m 22 ls []) := by
      intro nF
      induction nF with
      | zero => intro j hn; exact absurd hn (Nat.not_lt_zero _)
      | succ nF ih =>
        intro j hn i1 i2 ls hl
        refine lv_iload_n hx hb dX7_greatest_22 rfl (lv_at hl 2 rfl) ?_
        refine lv_aload_n hx hb dX7_greatest_23 rfl (lv_at hl 0 rfl) ?_
        refine wl_get (T := TX7) C0 hP (show w_2_0 mo = some (.inr (7, [.int (nI 0), .int (nI (F 24 0)), .ref (MA 0), .ref (MA 1), .ref (MA 2), .ref (MA 3), .ref (MA 4), .ref (MA 5), .ref (MA 6), .ref (MA 7), .ref (MA 8), .ref (MA 9), .int (nI (F 24 1)), .ref (MA 10), .ref (MA 11), .ref (MA 12), .int (nI (F 24 2)), .ref (MA 13), .ref (MA 14), .ref (MA 15), .int (nI (F 24 3)), .ref (MA 16), .ref (MA 17), .ref (MA 18), .ref (MA 19), .ref (MA 20), .ref (MA 21)])) from hm_2_0.x) hi_RX7 rfl 16 (by decide) hf_90 rfl dX7_greatest_24 ?_
        refine lv_icmp_ge (tgt := 58) hx hb dX7_greatest_27 (by decide) (fun c_27 => ?_) (fun c_27 => ?_)
        · have q27 : F 24 2 ≤ j := (nI_leI (by omega) (by omega)).mp c_27
          refine lv_iload_n hx hb dX7_greatest_58 rfl (lv_at hl 1 rfl) ?_
          have hje : j = F 24 2 := by omega
          have hev : s_greatest F = (0, nI (g_best F j), F) := by simp [s_greatest, q9, hje]
          exact wl_iret C0 hr rfl hP hS dX7_greatest_59 (Nat.le_of_ble_eq_true rfl) (Nat.le_of_ble_eq_true rfl) (⟨by rw [hev], by rw [hev]; exact hm_2_0, hk_2_0⟩)
        · have q27 : j < F 24 2 := Nat.not_le.mp (fun q => c_27 ((nI_leI (by omega) (by omega)).mpr q))
          have hbj : g_best F j < F 24 2 := Nat.lt_of_lt_of_le (best_lt i1) i2
          refine lv_aload_n hx hb dX7_greatest_30 rfl (lv_at hl 0 rfl) ?_
          refine wl_get (T := TX7) C0 hP (show w_2_0 mo = some (.inr (7, [.int (nI 0), .int (nI (F 24 0)), .ref (MA 0), .ref (MA 1), .ref (MA 2), .ref (MA 3), .ref (MA 4), .ref (MA 5), .ref (MA 6), .ref (MA 7), .ref (MA 8), .ref (MA 9), .int (nI (F 24 1)), .ref (MA 10), .ref (MA 11), .ref (MA 12), .int (nI (F 24 2)), .ref (MA 13), .ref (MA 14), .ref (MA 15), .int (nI (F 24 3)), .ref (MA 16), .ref (MA 17), .ref (MA 18), .ref (MA 19), .ref (MA 20), .ref (MA 21)])) from hm_2_0.x) hi_RX7 rfl 19 (by decide) hf_56 rfl dX7_greatest_31 ?_
          refine lv_iload_n hx hb dX7_greatest_34 rfl (lv_at hl 2 rfl) ?_
          refine wl_lald C0 hP (show w_2_0 (MA 15) = some (.inl (E.2.1 1, 6, .inr (.inl (fun i => lN (F 15 i))))) from hm_2_0.l) (vp_in_nI (by omega) (by omega)) dX7_greatest_35 ?_
          refine W.eq (g2 := F0 m 36 ls [.long (lN (F 15 j))]) (by rw [show (nI j).toNatClampNeg = j from nI_clamp (by omega)]) ?_
          refine lv_aload_n hx hb dX7_greatest_36 rfl (lv_at hl 0 rfl) ?_
          refine wl_get (T := TX7) C0 hP (show w_2_0 mo = some (.inr (7, [.int (nI 0), .int (nI (F 24 0)), .ref (MA 0), .ref (MA 1), .ref (MA 2), .ref (MA 3), .ref (MA 4), .ref (MA 5), .ref (MA 6), .ref (MA 7), .ref (MA 8), .ref (MA 9), .int (nI (F 24 1)), .ref (MA 10), .ref (MA 11), .ref (MA 12), .int (nI (F 24 2)), .ref (MA 13), .ref (MA 14), .ref (MA 15), .int (nI (F 24 3)), .ref (MA 16), .ref (MA 17), .ref (MA 18), .ref (MA 19), .ref (MA 20), .ref (MA 21)])) from hm_2_0.x) hi_RX7 rfl 19 (by decide) hf_56 rfl dX7_greatest_37 ?_
          refine lv_iload_n hx hb dX7_greatest_40 rfl (lv_at hl 1 rfl) ?_
          refine wl_lald C0 hP (show w_2_0 (MA 15) = some (.inl (E.2.1 1, 6, .inr (.inl (fun i => lN (F 15 i))))) from hm_2_0.l) (vp_in_nI (by omega) (by omega)) dX7_greatest_41 ?_
          refine W.eq (g2 := F0 m 42 ls [.long (lN (F 15 (g_best F j))), .long (lN (F 15 j))]) (by rw [show (nI (g_best F j)).toNatClampNeg = (g_best F j) from nI_clamp (by omega)]) ?_
          refine W.lcmp hx hb dX7_greatest_42 ?_
          refine lv_if_le (tgt := 50) hx hb dX7_greatest_43 (by decide) (fun c_43 => ?_) (fun c_43 => ?_)
          · have q43 : ¬ F 15 (g_best F j) < F 15 j := fun q => lcmp_no (by have := hI.bl q27; omega) (by have := hI.bl hbj; omega) q c_43
            refine lv_iload_n hx hb dX7_greatest_50 rfl (lv_at hl 1 rfl) ?_
            refine lv_istore_n (lv' := [(1, .int (nI (g_best F j))), (0, .ref mo), (2, .int (nI j))]) hx hb dX7_greatest_51 rfl hl (by decide) rfl (fun ls hl => ?_)
            refine lv_iinc (v := nI (j + 1)) (lv' := [(2, .int (nI (j + 1))), (1, .int (nI (g_best F j))), (0, .ref mo)]) hx hb dX7_greatest_52 hl (k := 2) rfl (nI_1 _) (by decide) rfl (fun ls hl => ?_)
            refine lv_goto (tgt := 22) hx hb dX7_greatest_55 (by decide) ?_
            exact ih (j + 1) (by omega) (by omega) (by omega) ls (by rw [show g_best F (j + 1) = g_best F j from if_neg q43]; exact lv_sub hl [2, 1, 0] rfl)
          · have q43 : F 15 (g_best F j) < F 15 j := lcmp_yes (by have := hI.bl q27; omega) (by have := hI.bl hbj; omega) c_43
            refine lv_iload_n hx hb dX7_greatest_46 rfl (lv_at hl 2 rfl) ?_
            refine lv_goto (tgt := 51) hx hb dX7_greatest_47 (by decide) ?_
            refine lv_istore_n (lv' := [(1, .int (nI j)), (0, .ref mo), (2, .int (nI j))]) hx hb dX7_greatest_51 rfl hl (by decide) rfl (fun ls hl => ?_)
            refine lv_iinc (v := nI (j + 1)) (lv' := [(2, .int (nI (j + 1))), (1, .int (nI j)), (0, .ref mo)]) hx hb dX7_greatest_52 hl (k := 2) rfl (nI_1 _) (by decide) rfl (fun ls hl => ?_)
            refine lv_goto (tgt := 22) hx hb dX7_greatest_55 (by decide) ?_
            exact ih (j + 1) (by omega) (by omega) (by omega) ls (by rw [show g_best F (j + 1) = j from if_pos q43]; exact lv_sub hl [2, 1, 0] rfl)
    exact LP _ 1 (Nat.lt_succ_self _) (Nat.le_refl _) (by omega) ls (by rw [show g_best F 1 = 0 by simp [g_best]]; exact lv_sub hl [2, 1, 0] rfl)
  · have q9 : F 24 2 = 0 := (nI_e0 (by omega)).mp c_9
    refine lv_aload_n hx hb dX7_greatest_12 rfl (lv_at hl 0 rfl) ?_
    refine lv_iconst (v := 1) hx hb dX7_greatest_13 (by decide) ?_
    refine wl_on C0 ht hP hS (wl_runV (As := [.int 1]) (rest := []) C0 hP hS (k_X7_fails l hst E w_2_0 H.size F MA mo (nI 0) 1 hm_2_0) (cwV 1 hts gX7_greatest_X7_fails rfl rfl rfl (by decide +kernel) ⟨(Nat.le_of_ble_eq_true rfl), (Nat.le_of_ble_eq_true rfl)⟩) (show w_2_0 mo = some (.inr (7, [.int (nI 0), .int (nI (F 24 0)), .ref (MA 0), .ref (MA 1), .ref (MA 2), .ref (MA 3), .ref (MA 4), .ref (MA 5), .ref (MA 6), .ref (MA 7), .ref (MA 8), .ref (MA 9), .int (nI (F 24 1)), .ref (MA 10), .ref (MA 11), .ref (MA 12), .int (nI (F 24 2)), .ref (MA 13), .ref (MA 14), .ref (MA 15), .int (nI (F 24 3)), .ref (MA 16), .ref (MA 17), .ref (MA 18), .ref (MA 19), .ref (MA 20), .ref (MA 21)])) from hm_2_0.x) rfl rfl rfl hl.1 (Nat.le_of_ble_eq_true rfl) dX7_greatest_14 ⟨(Nat.le_of_ble_eq_true rfl), (Nat.le_of_ble_eq_true rfl)⟩) (Nat.le_of_ble_eq_true rfl) (Nat.le_of_ble_eq_true rfl) (fun _ _ h => h.elim) (fun v_14 w_14 H locs hq hP hS => ?_)
    obtain ⟨rfl, hm_14_1, hk2_14_1⟩ := hq
    have hk_14_1 := hk_2_0.tr hk2_14_1
    refine W.eq (g2 := F0 m 17 ls [.int 0]) rfl ?_
    have hev : s_greatest F = (1, 0, F) := by simp [s_greatest, q9]
    exact wl_iret C0 hr rfl hP hS dX7_greatest_17 (Nat.le_of_ble_eq_true rfl) (Nat.le_of_ble_eq_true rfl) (⟨by rw [hev], by rw [hev]; exact hm_14_1, hk_14_1⟩)

set_option maxHeartbeats 4000000 in
set_option maxRecDepth 100000 in
theorem k_X7_canaryShare (l : Launch) (hst : l.stackTraces = false) (E : wEn) (w : wW) (sz : Nat) (F : FF) (MA : Nat → Nat) (mo : Nat) (cd : Int32) (N : Nat) (hI : wInv F N) (hm : wMod E F MA mo cd w) : wM l yX7_canaryShare wsX7_canaryShare 0 0 0 E w sz [.ref mo] (fun v w2 => (F 24 3 = 0 ∧ v = some (.float 0) ∧ wMod E F MA mo (nI 1) w2 ∧ wKm mo MA w w2) ∨ (F 24 3 ≠ 0 ∧ v = some (.float (v_share F)) ∧ wMod E F MA mo (nI 0) w2 ∧ wKm mo MA w w2)) (fun _ _ => False) := by
  refine wm_start (own := RX7) (cc := cX7_canaryShare) (maxL := 3) (ret := (some .float)) rfl (by decide) rfl (Nat.le_of_ble_eq_true rfl) ?_
  intro p e s m args below meth c ls C0 hr hin ht hP hS hl
  have hx := C0.1
  have hb := C0.2.1
  have hts := C0.2.2.2.2.1
  have hown := C0.2.2.2.1
  have hl : lv_has ls 3 [(0, .ref mo)] := hl
  have hf_120 : (Cond.fieldLink RX7 120 "CallGatewayModel" "calls" "I").before args s = true := hts _ (by decide +kernel)
  have hf_79 : (Cond.fieldLink RX7 79 "CallGatewayModel" "code" "I").before args s = true := hts _ (by decide +kernel)
  have hf_63 : (Cond.fieldLink RX7 63 "CallGatewayModel" "callKind" "[C").before args s = true := hts _ (by decide +kernel)
  have hf_73 : (Cond.fieldLink RX7 73 "CallGatewayModel" "undone" "[Z").before args s = true := hts _ (by decide +kernel)
  have hi_RX7 : ∀ w ∈ u_ws RX7 TX7 27, w ∈ wsX7_canaryShare := fun _ h => List.mem_cons_of_mem _ (List.mem_append_left _ (List.mem_append_right _ h))
  have hn := hI.n
  have hn9 := hI.n
  refine lv_aload_n hx hb dX7_canaryShare_0 rfl (lv_at hl 0 rfl) ?_
  refine lv_aload_n hx hb dX7_canaryShare_1 rfl (lv_at hl 0 rfl) ?_
  refine wl_get (T := TX7) C0 hP (show w mo = some (.inr (7, [.int cd, .int (nI (F 24 0)), .ref (MA 0), .ref (MA 1), .ref (MA 2), .ref (MA 3), .ref (MA 4), .ref (MA 5), .ref (MA 6), .ref (MA 7), .ref (MA 8), .ref (MA 9), .int (nI (F 24 1)), .ref (MA 10), .ref (MA 11), .ref (MA 12), .int (nI (F 24 2)), .ref (MA 13), .ref (MA 14), .ref (MA 15), .int (nI (F 24 3)), .ref (MA 16), .ref (MA 17), .ref (MA 18), .ref (MA 19), .ref (MA 20), .ref (MA 21)])) from hm.x) hi_RX7 rfl 20 (by decide) hf_120 rfl dX7_canaryShare_2 ?_
  refine lv_if_ne (tgt := 12) hx hb dX7_canaryShare_5 (by decide) (fun c_5 => ?_) (fun c_5 => ?_)
  · have q5 : ¬ F 24 3 = 0 := fun q => c_5 ((nI_e0 (by omega)).mpr q)
    refine lv_iconst (v := 0) hx hb dX7_canaryShare_12 (by decide) ?_
    refine wl_put (T := TX7) (ty0 := tyX7) (fs2 := [.int 0, .int (nI (F 24 0)), .ref (MA 0), .ref (MA 1), .ref (MA 2), .ref (MA 3), .ref (MA 4), .ref (MA 5), .ref (MA 6), .ref (MA 7), .ref (MA 8), .ref (MA 9), .int (nI (F 24 1)), .ref (MA 10), .ref (MA 11), .ref (MA 12), .int (nI (F 24 2)), .ref (MA 13), .ref (MA 14), .ref (MA 15), .int (nI (F 24 3)), .ref (MA 16), .ref (MA 17), .ref (MA 18), .ref (MA 19), .ref (MA 20), .ref (MA 21)]) C0 hP hS (show w mo = some (.inr (7, [.int cd, .int (nI (F 24 0)), .ref (MA 0), .ref (MA 1), .ref (MA 2), .ref (MA 3), .ref (MA 4), .ref (MA 5), .ref (MA 6), .ref (MA 7), .ref (MA 8), .ref (MA 9), .int (nI (F 24 1)), .ref (MA 10), .ref (MA 11), .ref (MA 12), .int (nI (F 24 2)), .ref (MA 13), .ref (MA 14), .ref (MA 15), .int (nI (F 24 3)), .ref (MA 16), .ref (MA 17), .ref (MA 18), .ref (MA 19), .ref (MA 20), .ref (MA 21)])) from hm.x) hi_RX7 tyX7_ok nmX7 rfl 0 (by decide) hf_79 rfl rfl rfl rfl (Nat.le_of_ble_eq_true rfl) rfl dX7_canaryShare_13 (fun H locs hP hS => ?_)
    obtain ⟨w_13_0, hw9, hm_13_0, hk_13_0⟩ : ∃ wz : wW, wz = wU w mo (.inr (7, [.int 0, .int (nI (F 24 0)), .ref (MA 0), .ref (MA 1), .ref (MA 2), .ref (MA 3), .ref (MA 4), .ref (MA 5), .ref (MA 6), .ref (MA 7), .ref (MA 8), .ref (MA 9), .int (nI (F 24 1)), .ref (MA 10), .ref (MA 11), .ref (MA 12), .int (nI (F 24 2)), .ref (MA 13), .ref (MA 14), .ref (MA 15), .int (nI (F 24 3)), .ref (MA 16), .ref (MA 17), .ref (MA 18), .ref (MA 19), .ref (MA 20), .ref (MA 21)])) ∧ wMod E F MA mo (nI 0) wz ∧ wKm mo MA w wz := ⟨_, rfl, M_o (F := F) (G := F) (cd2 := nI 0) hm (fun a b h => rfl), wKm.rf.tr wKm.o⟩
    rw [← hw9] at hP
    refine lv_iconst (v := 0) hx hb dX7_canaryShare_16 (by decide) ?_
    refine lv_istore_n (lv' := [(1, .int 0), (0, .ref mo)]) hx hb dX7_canaryShare_17 rfl hl (by decide) rfl (fun ls hl => ?_)
    refine lv_iconst (v := 0) hx hb dX7_canaryShare_18 (by decide) ?_
    refine lv_istore_n (lv' := [(2, .int 0), (1, .int 0), (0, .ref mo)]) hx hb dX7_canaryShare_19 rfl hl (by decide) rfl (fun ls hl => ?_)
    have LP : ∀ (nF : Nat) (j k : Nat), F 24 3 - j < nF → (j ≤ F 24 3) → (k = ct (fun k => decide (F 17 k = 99) && decide (F 20 k = 0)) j) → ∀ (ls : Array Slot), lv_has ls 3 [(0, .ref mo), (1, .int (nI k)), (2, .int (nI j))] → W p l e (wRm 0 0 0) s m args below meth c H locs 0 0 (vx_MQ below (wQ E (wA w sz) (fun v w2 => (F 24 3 = 0 ∧ v = some (.float 0) ∧ wMod E F MA mo (nI 1) w2 ∧ wKm mo MA w w2) ∨ (F 24 3 ≠ 0 ∧ v = some (.float (v_share F)) ∧ wMod E F MA mo (nI 0) w2 ∧ wKm mo MA w w2))) (wX E (wA w sz) (fun _ _ => False)) args s 0 0 (wA w sz)) (F0 m 20 ls []) := by
      intro nF
      induction nF with
      | zero => intro j k hn; exact absurd hn (Nat.not_lt_zero _)
      | succ nF ih =>
        intro j k hn i1 i2 ls hl
        refine lv_iload_n hx hb dX7_canaryShare_20 rfl (lv_at hl 2 rfl) ?_
        refine lv_aload_n hx hb dX7_canaryShare_21 rfl (lv_at hl 0 rfl) ?_
        refine wl_get (T := TX7) C0 hP (show w_13_0 mo = some (.inr (7, [.int (nI 0), .int (nI (F 24 0)), .ref (MA 0), .ref (MA 1), .ref (MA 2), .ref (MA 3), .ref (MA 4), .ref (MA 5), .ref (MA 6), .ref (MA 7), .ref (MA 8), .ref (MA 9), .int (nI (F 24 1)), .ref (MA 10), .ref (MA 11), .ref (MA 12), .int (nI (F 24 2)), .ref (MA 13), .ref (MA 14), .ref (MA 15), .int (nI (F 24 3)), .ref (MA 16), .ref (MA 17), .ref (MA 18), .ref (MA 19), .ref (MA 20), .ref (MA 21)])) from hm_13_0.x) hi_RX7 rfl 20 (by decide) hf_120 rfl dX7_canaryShare_22 ?_
        refine lv_icmp_ge (tgt := 62) hx hb dX7_canaryShare_25 (by decide) (fun c_25 => ?_) (fun c_25 => ?_)
        · have q25 : F 24 3 ≤ j := (nI_leI (by omega) (by omega)).mp c_25
          have hkc : k ≤ j := by rw [i2]; exact ct_le _ _
          refine lv_aload_n hx hb dX7_canaryShare_62 rfl (lv_at hl 0 rfl) ?_
          refine wl_get (T := TX7) C0 hP (show w_13_0 mo = some (.inr (7, [.int (nI 0), .int (nI (F 24 0)), .ref (MA 0), .ref (MA 1), .ref (MA 2), .ref (MA 3), .ref (MA 4), .ref (MA 5), .ref (MA 6), .ref (MA 7), .ref (MA 8), .ref (MA 9), .int (nI (F 24 1)), .ref (MA 10), .ref (MA 11), .ref (MA 12), .int (nI (F 24 2)), .ref (MA 13), .ref (MA 14), .ref (MA 15), .int (nI (F 24 3)), .ref (MA 16), .ref (MA 17), .ref (MA 18), .ref (MA 19), .ref (MA 20), .ref (MA 21)])) from hm_13_0.x) hi_RX7 rfl 0 (by decide) hf_79 rfl dX7_canaryShare_63 ?_
          refine lv_if_le (tgt := 73) hx hb dX7_canaryShare_66 (by decide) (fun c_66 => ?_) (fun c_66 => ?_)
          · refine lv_iload_n hx hb dX7_canaryShare_73 rfl (lv_at hl 1 rfl) ?_
            refine lv_i2f hx hb dX7_canaryShare_74 ?_
            refine lv_aload_n hx hb dX7_canaryShare_75 rfl (lv_at hl 0 rfl) ?_
            refine wl_get (T := TX7) C0 hP (show w_13_0 mo = some (.inr (7, [.int (nI 0), .int (nI (F 24 0)), .ref (MA 0), .ref (MA 1), .ref (MA 2), .ref (MA 3), .ref (MA 4), .ref (MA 5), .ref (MA 6), .ref (MA 7), .ref (MA 8), .ref (MA 9), .int (nI (F 24 1)), .ref (MA 10), .ref (MA 11), .ref (MA 12), .int (nI (F 24 2)), .ref (MA 13), .ref (MA 14), .ref (MA 15), .int (nI (F 24 3)), .ref (MA 16), .ref (MA 17), .ref (MA 18), .ref (MA 19), .ref (MA 20), .ref (MA 21)])) from hm_13_0.x) hi_RX7 rfl 20 (by decide) hf_120 rfl dX7_canaryShare_76 ?_
            refine lv_i2f hx hb dX7_canaryShare_79 ?_
            refine lv_fdiv hx hb dX7_canaryShare_80 (fp_fdiv (by omega) (by omega) q5) ?_
            exact wl_fret C0 hr hP hS dX7_canaryShare_81 (Nat.le_of_ble_eq_true rfl) (Nat.le_of_ble_eq_true rfl) (Or.inr ⟨q5, by rw [v_share, show n_can F = k by rw [i2, show j = F 24 3 by omega]; rfl], hm_13_0, hk_13_0⟩)
          · exact absurd (by decide) c_66
        · have q25 : j < F 24 3 := Nat.not_le.mp (fun q => c_25 ((nI_leI (by omega) (by omega)).mpr q))
          have hej := hI.en q25
          refine lv_iload_n hx hb dX7_canaryShare_28 rfl (lv_at hl 1 rfl) ?_
          refine lv_aload_n hx hb dX7_canaryShare_29 rfl (lv_at hl 0 rfl) ?_
          refine wl_get (T := TX7) C0 hP (show w_13_0 mo = some (.inr (7, [.int (nI 0), .int (nI (F 24 0)), .ref (MA 0), .ref (MA 1), .ref (MA 2), .ref (MA 3), .ref (MA 4), .ref (MA 5), .ref (MA 6), .ref (MA 7), .ref (MA 8), .ref (MA 9), .int (nI (F 24 1)), .ref (MA 10), .ref (MA 11), .ref (MA 12), .int (nI (F 24 2)), .ref (MA 13), .ref (MA 14), .ref (MA 15), .int (nI (F 24 3)), .ref (MA 16), .ref (MA 17), .ref (MA 18), .ref (MA 19), .ref (MA 20), .ref (MA 21)])) from hm_13_0.x) hi_RX7 rfl 22 (by decide) hf_63 rfl dX7_canaryShare_30 ?_
          refine lv_iload_n hx hb dX7_canaryShare_33 rfl (lv_at hl 2 rfl) ?_
          refine wl_cald C0 hP (show w_13_0 (MA 17) = some (.inl (E.2.1 2, 700, .inl (fun i => nI (F 17 i)))) from hm_13_0.i 17 (by decide) rfl rfl rfl) (vp_in_nI (by omega) (by omega)) dX7_canaryShare_34 ?_
          refine W.eq (g2 := F0 m 35 ls [.int (nI (F 17 j)), .int (nI k)]) (by rw [show (nI j).toNatClampNeg = j from nI_clamp (by omega)]) ?_
          refine lv_bipush (v := 99) hx hb dX7_canaryShare_35 (by decide) ?_
          refine lv_icmp_ne (tgt := 53) hx hb dX7_canaryShare_37 (by decide) (fun c_37 => ?_) (fun c_37 => ?_)
          · have q37 : ¬ F 17 j = 99 := fun q => c_37 ((nI_eq (b := 99) (by omega) (by omega)).mpr q)
            refine lv_iconst (v := 0) hx hb dX7_canaryShare_53 (by decide) ?_
            refine lv_iadd hx hb dX7_canaryShare_54 ?_
            rw [show ((nI k) + 0) = (nI k) from Int32.add_zero _]
            refine lv_istore_n (lv' := [(1, .int (nI k)), (0, .ref mo), (2, .int (nI j))]) hx hb dX7_canaryShare_55 rfl hl (by decide) rfl (fun ls hl => ?_)
            refine lv_iinc (v := nI (j + 1)) (lv' := [(2, .int (nI (j + 1))), (1, .int (nI k)), (0, .ref mo)]) hx hb dX7_canaryShare_56 hl (k := 2) rfl (nI_1 _) (by decide) rfl (fun ls hl => ?_)
            refine lv_goto (tgt := 20) hx hb dX7_canaryShare_59 (by decide) ?_
            exact ih (j + 1) k (by omega) (by omega) (by rw [i2, ct_n (by simp [q37])]) ls (lv_sub hl [2, 1, 0] rfl)
          · have q37 : F 17 j = 99 := (nI_eq (b := 99) (by omega) (by omega)).mp c_37
            refine lv_aload_n hx hb dX7_canaryShare_40 rfl (lv_at hl 0 rfl) ?_
            refine wl_get (T := TX7) C0 hP (show w_13_0 mo = some (.inr (7, [.int (nI 0), .int (nI (F 24 0)), .ref (MA 0), .ref (MA 1), .ref (MA 2), .ref (MA 3), .ref (MA 4), .ref (MA 5), .ref (MA 6), .ref (MA 7), .ref (MA 8), .ref (MA 9), .int (nI (F 24 1)), .ref (MA 10), .ref (MA 11), .ref (MA 12), .int (nI (F 24 2)), .ref (MA 13), .ref (MA 14), .ref (MA 15), .int (nI (F 24 3)), .ref (MA 16), .ref (MA 17), .ref (MA 18), .ref (MA 19), .ref (MA 20), .ref (MA 21)])) from hm_13_0.x) hi_RX7 rfl 25 (by decide) hf_73 rfl dX7_canaryShare_41 ?_
            refine lv_iload_n hx hb dX7_canaryShare_44 rfl (lv_at hl 2 rfl) ?_
            refine wl_zald C0 hP (show w_13_0 (MA 20) = some (.inl (E.2.1 3, 700, .inl (fun i => nI (F 20 i)))) from hm_13_0.i 20 (by decide) rfl rfl rfl) (vp_in_nI (by omega) (by omega)) dX7_canaryShare_45 ?_
            refine W.eq (g2 := F0 m 46 ls [.int (nI (F 20 j)), .int (nI k)]) (by rw [show (nI j).toNatClampNeg = j from nI_clamp (by omega)]) ?_
            refine lv_if_ne (tgt := 53) hx hb dX7_canaryShare_46 (by decide) (fun c_46 => ?_) (fun c_46 => ?_)
            · have q46 : ¬ F 20 j = 0 := fun q => c_46 ((nI_e0 (by omega)).mpr q)
              refine lv_iconst (v := 0) hx hb dX7_canaryShare_53 (by decide) ?_
              refine lv_iadd hx hb dX7_canaryShare_54 ?_
              rw [show ((nI k) + 0) = (nI k) from Int32.add_zero _]
              refine lv_istore_n (lv' := [(1, .int (nI k)), (0, .ref mo), (2, .int (nI j))]) hx hb dX7_canaryShare_55 rfl hl (by decide) rfl (fun ls hl => ?_)
              refine lv_iinc (v := nI (j + 1)) (lv' := [(2, .int (nI (j + 1))), (1, .int (nI k)), (0, .ref mo)]) hx hb dX7_canaryShare_56 hl (k := 2) rfl (nI_1 _) (by decide) rfl (fun ls hl => ?_)
              refine lv_goto (tgt := 20) hx hb dX7_canaryShare_59 (by decide) ?_
              exact ih (j + 1) k (by omega) (by omega) (by rw [i2, ct_n (by simp [q46])]) ls (lv_sub hl [2, 1, 0] rfl)
            · have q46 : F 20 j = 0 := (nI_e0 (by omega)).mp c_46
              refine lv_iconst (v := 1) hx hb dX7_canaryShare_49 (by decide) ?_
              refine lv_goto (tgt := 54) hx hb dX7_canaryShare_50 (by decide) ?_
              refine lv_iadd hx hb dX7_canaryShare_54 ?_
              rw [show ((nI k) + 1) = (nI (k + 1)) from nI_1 _]
              refine lv_istore_n (lv' := [(1, .int (nI (k + 1))), (0, .ref mo), (2, .int (nI j))]) hx hb dX7_canaryShare_55 rfl hl (by decide) rfl (fun ls hl => ?_)
              refine lv_iinc (v := nI (j + 1)) (lv' := [(2, .int (nI (j + 1))), (1, .int (nI (k + 1))), (0, .ref mo)]) hx hb dX7_canaryShare_56 hl (k := 2) rfl (nI_1 _) (by decide) rfl (fun ls hl => ?_)
              refine lv_goto (tgt := 20) hx hb dX7_canaryShare_59 (by decide) ?_
              exact ih (j + 1) (k + 1) (by omega) (by omega) (by rw [i2, ct_s (by simp [q37, q46])]) ls (lv_sub hl [2, 1, 0] rfl)
    exact LP _ 0 0 (Nat.lt_succ_self _) (Nat.zero_le _) (rfl) ls (lv_sub hl [2, 1, 0] rfl)
  · have q5 : F 24 3 = 0 := (nI_e0 (by omega)).mp c_5
    refine lv_iconst (v := 1) hx hb dX7_canaryShare_8 (by decide) ?_
    refine lv_goto (tgt := 13) hx hb dX7_canaryShare_9 (by decide) ?_
    refine wl_put (T := TX7) (ty0 := tyX7) (fs2 := [.int 1, .int (nI (F 24 0)), .ref (MA 0), .ref (MA 1), .ref (MA 2), .ref (MA 3), .ref (MA 4), .ref (MA 5), .ref (MA 6), .ref (MA 7), .ref (MA 8), .ref (MA 9), .int (nI (F 24 1)), .ref (MA 10), .ref (MA 11), .ref (MA 12), .int (nI (F 24 2)), .ref (MA 13), .ref (MA 14), .ref (MA 15), .int (nI (F 24 3)), .ref (MA 16), .ref (MA 17), .ref (MA 18), .ref (MA 19), .ref (MA 20), .ref (MA 21)]) C0 hP hS (show w mo = some (.inr (7, [.int cd, .int (nI (F 24 0)), .ref (MA 0), .ref (MA 1), .ref (MA 2), .ref (MA 3), .ref (MA 4), .ref (MA 5), .ref (MA 6), .ref (MA 7), .ref (MA 8), .ref (MA 9), .int (nI (F 24 1)), .ref (MA 10), .ref (MA 11), .ref (MA 12), .int (nI (F 24 2)), .ref (MA 13), .ref (MA 14), .ref (MA 15), .int (nI (F 24 3)), .ref (MA 16), .ref (MA 17), .ref (MA 18), .ref (MA 19), .ref (MA 20), .ref (MA 21)])) from hm.x) hi_RX7 tyX7_ok nmX7 rfl 0 (by decide) hf_79 rfl rfl rfl rfl (Nat.le_of_ble_eq_true rfl) rfl dX7_canaryShare_13 (fun H locs hP hS => ?_)
    obtain ⟨w_13_1, hw9, hm_13_1, hk_13_1⟩ : ∃ wz : wW, wz = wU w mo (.inr (7, [.int 1, .int (nI (F 24 0)), .ref (MA 0), .ref (MA 1), .ref (MA 2), .ref (MA 3), .ref (MA 4), .ref (MA 5), .ref (MA 6), .ref (MA 7), .ref (MA 8), .ref (MA 9), .int (nI (F 24 1)), .ref (MA 10), .ref (MA 11), .ref (MA 12), .int (nI (F 24 2)), .ref (MA 13), .ref (MA 14), .ref (MA 15), .int (nI (F 24 3)), .ref (MA 16), .ref (MA 17), .ref (MA 18), .ref (MA 19), .ref (MA 20), .ref (MA 21)])) ∧ wMod E F MA mo (nI 1) wz ∧ wKm mo MA w wz := ⟨_, rfl, M_o (F := F) (G := F) (cd2 := nI 1) hm (fun a b h => rfl), wKm.rf.tr wKm.o⟩
    rw [← hw9] at hP
    refine lv_iconst (v := 0) hx hb dX7_canaryShare_16 (by decide) ?_
    refine lv_istore_n (lv' := [(1, .int 0), (0, .ref mo)]) hx hb dX7_canaryShare_17 rfl hl (by decide) rfl (fun ls hl => ?_)
    refine lv_iconst (v := 0) hx hb dX7_canaryShare_18 (by decide) ?_
    refine lv_istore_n (lv' := [(2, .int 0), (1, .int 0), (0, .ref mo)]) hx hb dX7_canaryShare_19 rfl hl (by decide) rfl (fun ls hl => ?_)
    have LP : ∀ (nF : Nat) (j k : Nat), F 24 3 - j < nF → (j ≤ F 24 3) → (k = ct (fun k => decide (F 17 k = 99) && decide (F 20 k = 0)) j) → ∀ (ls : Array Slot), lv_has ls 3 [(0, .ref mo), (1, .int (nI k)), (2, .int (nI j))] → W p l e (wRm 0 0 0) s m args below meth c H locs 0 0 (vx_MQ below (wQ E (wA w sz) (fun v w2 => (F 24 3 = 0 ∧ v = some (.float 0) ∧ wMod E F MA mo (nI 1) w2 ∧ wKm mo MA w w2) ∨ (F 24 3 ≠ 0 ∧ v = some (.float (v_share F)) ∧ wMod E F MA mo (nI 0) w2 ∧ wKm mo MA w w2))) (wX E (wA w sz) (fun _ _ => False)) args s 0 0 (wA w sz)) (F0 m 20 ls []) := by
      intro nF
      induction nF with
      | zero => intro j k hn; exact absurd hn (Nat.not_lt_zero _)
      | succ nF ih =>
        intro j k hn i1 i2 ls hl
        refine lv_iload_n hx hb dX7_canaryShare_20 rfl (lv_at hl 2 rfl) ?_
        refine lv_aload_n hx hb dX7_canaryShare_21 rfl (lv_at hl 0 rfl) ?_
        refine wl_get (T := TX7) C0 hP (show w_13_1 mo = some (.inr (7, [.int (nI 1), .int (nI (F 24 0)), .ref (MA 0), .ref (MA 1), .ref (MA 2), .ref (MA 3), .ref (MA 4), .ref (MA 5), .ref (MA 6), .ref (MA 7), .ref (MA 8), .ref (MA 9), .int (nI (F 24 1)), .ref (MA 10), .ref (MA 11), .ref (MA 12), .int (nI (F 24 2)), .ref (MA 13), .ref (MA 14), .ref (MA 15), .int (nI (F 24 3)), .ref (MA 16), .ref (MA 17), .ref (MA 18), .ref (MA 19), .ref (MA 20), .ref (MA 21)])) from hm_13_1.x) hi_RX7 rfl 20 (by decide) hf_120 rfl dX7_canaryShare_22 ?_
        refine lv_icmp_ge (tgt := 62) hx hb dX7_canaryShare_25 (by decide) (fun c_25 => ?_) (fun c_25 => ?_)
        · have q25 : F 24 3 ≤ j := (nI_leI (by omega) (by omega)).mp c_25
          have hkc : k ≤ j := by rw [i2]; exact ct_le _ _
          refine lv_aload_n hx hb dX7_canaryShare_62 rfl (lv_at hl 0 rfl) ?_
          refine wl_get (T := TX7) C0 hP (show w_13_1 mo = some (.inr (7, [.int (nI 1), .int (nI (F 24 0)), .ref (MA 0), .ref (MA 1), .ref (MA 2), .ref (MA 3), .ref (MA 4), .ref (MA 5), .ref (MA 6), .ref (MA 7), .ref (MA 8), .ref (MA 9), .int (nI (F 24 1)), .ref (MA 10), .ref (MA 11), .ref (MA 12), .int (nI (F 24 2)), .ref (MA 13), .ref (MA 14), .ref (MA 15), .int (nI (F 24 3)), .ref (MA 16), .ref (MA 17), .ref (MA 18), .ref (MA 19), .ref (MA 20), .ref (MA 21)])) from hm_13_1.x) hi_RX7 rfl 0 (by decide) hf_79 rfl dX7_canaryShare_63 ?_
          refine lv_if_le (tgt := 73) hx hb dX7_canaryShare_66 (by decide) (fun c_66 => ?_) (fun c_66 => ?_)
          · exact absurd c_66 (by decide)
          · refine lv_fconst0 hx hb dX7_canaryShare_69 ?_
            refine lv_goto (tgt := 81) hx hb dX7_canaryShare_70 (by decide) ?_
            exact wl_fret C0 hr hP hS dX7_canaryShare_81 (Nat.le_of_ble_eq_true rfl) (Nat.le_of_ble_eq_true rfl) (Or.inl ⟨q5, rfl, hm_13_1, hk_13_1⟩)
        · have q25 : j < F 24 3 := Nat.not_le.mp (fun q => c_25 ((nI_leI (by omega) (by omega)).mpr q))
          have hej := hI.en q25
          refine lv_iload_n hx hb dX7_canaryShare_28 rfl (lv_at hl 1 rfl) ?_
          refine lv_aload_n hx hb dX7_canaryShare_29 rfl (lv_at hl 0 rfl) ?_
          refine wl_get (T := TX7) C0 hP (show w_13_1 mo = some (.inr (7, [.int (nI 1), .int (nI (F 24 0)), .ref (MA 0), .ref (MA 1), .ref (MA 2), .ref (MA 3), .ref (MA 4), .ref (MA 5), .ref (MA 6), .ref (MA 7), .ref (MA 8), .ref (MA 9), .int (nI (F 24 1)), .ref (MA 10), .ref (MA 11), .ref (MA 12), .int (nI (F 24 2)), .ref (MA 13), .ref (MA 14), .ref (MA 15), .int (nI (F 24 3)), .ref (MA 16), .ref (MA 17), .ref (MA 18), .ref (MA 19), .ref (MA 20), .ref (MA 21)])) from hm_13_1.x) hi_RX7 rfl 22 (by decide) hf_63 rfl dX7_canaryShare_30 ?_
          refine lv_iload_n hx hb dX7_canaryShare_33 rfl (lv_at hl 2 rfl) ?_
          refine wl_cald C0 hP (show w_13_1 (MA 17) = some (.inl (E.2.1 2, 700, .inl (fun i => nI (F 17 i)))) from hm_13_1.i 17 (by decide) rfl rfl rfl) (vp_in_nI (by omega) (by omega)) dX7_canaryShare_34 ?_
          refine W.eq (g2 := F0 m 35 ls [.int (nI (F 17 j)), .int (nI k)]) (by rw [show (nI j).toNatClampNeg = j from nI_clamp (by omega)]) ?_
          refine lv_bipush (v := 99) hx hb dX7_canaryShare_35 (by decide) ?_
          refine lv_icmp_ne (tgt := 53) hx hb dX7_canaryShare_37 (by decide) (fun c_37 => ?_) (fun c_37 => ?_)
          · have q37 : ¬ F 17 j = 99 := fun q => c_37 ((nI_eq (b := 99) (by omega) (by omega)).mpr q)
            refine lv_iconst (v := 0) hx hb dX7_canaryShare_53 (by decide) ?_
            refine lv_iadd hx hb dX7_canaryShare_54 ?_
            rw [show ((nI k) + 0) = (nI k) from Int32.add_zero _]
            refine lv_istore_n (lv' := [(1, .int (nI k)), (0, .ref mo), (2, .int (nI j))]) hx hb dX7_canaryShare_55 rfl hl (by decide) rfl (fun ls hl => ?_)
            refine lv_iinc (v := nI (j + 1)) (lv' := [(2, .int (nI (j + 1))), (1, .int (nI k)), (0, .ref mo)]) hx hb dX7_canaryShare_56 hl (k := 2) rfl (nI_1 _) (by decide) rfl (fun ls hl => ?_)
            refine lv_goto (tgt := 20) hx hb dX7_canaryShare_59 (by decide) ?_
            exact ih (j + 1) k (by omega) (by omega) (by rw [i2, ct_n (by simp [q37])]) ls (lv_sub hl [2, 1, 0] rfl)
          · have q37 : F 17 j = 99 := (nI_eq (b := 99) (by omega) (by omega)).mp c_37
            refine lv_aload_n hx hb dX7_canaryShare_40 rfl (lv_at hl 0 rfl) ?_
            refine wl_get (T := TX7) C0 hP (show w_13_1 mo = some (.inr (7, [.int (nI 1), .int (nI (F 24 0)), .ref (MA 0), .ref (MA 1), .ref (MA 2), .ref (MA 3), .ref (MA 4), .ref (MA 5), .ref (MA 6), .ref (MA 7), .ref (MA 8), .ref (MA 9), .int (nI (F 24 1)), .ref (MA 10), .ref (MA 11), .ref (MA 12), .int (nI (F 24 2)), .ref (MA 13), .ref (MA 14), .ref (MA 15), .int (nI (F 24 3)), .ref (MA 16), .ref (MA 17), .ref (MA 18), .ref (MA 19), .ref (MA 20), .ref (MA 21)])) from hm_13_1.x) hi_RX7 rfl 25 (by decide) hf_73 rfl dX7_canaryShare_41 ?_
            refine lv_iload_n hx hb dX7_canaryShare_44 rfl (lv_at hl 2 rfl) ?_
            refine wl_zald C0 hP (show w_13_1 (MA 20) = some (.inl (E.2.1 3, 700, .inl (fun i => nI (F 20 i)))) from hm_13_1.i 20 (by decide) rfl rfl rfl) (vp_in_nI (by omega) (by omega)) dX7_canaryShare_45 ?_
            refine W.eq (g2 := F0 m 46 ls [.int (nI (F 20 j)), .int (nI k)]) (by rw [show (nI j).toNatClampNeg = j from nI_clamp (by omega)]) ?_
            refine lv_if_ne (tgt := 53) hx hb dX7_canaryShare_46 (by decide) (fun c_46 => ?_) (fun c_46 => ?_)
            · have q46 : ¬ F 20 j = 0 := fun q => c_46 ((nI_e0 (by omega)).mpr q)
              refine lv_iconst (v := 0) hx hb dX7_canaryShare_53 (by decide) ?_
              refine lv_iadd hx hb dX7_canaryShare_54 ?_
              rw [show ((nI k) + 0) = (nI k) from Int32.add_zero _]
              refine lv_istore_n (lv' := [(1, .int (nI k)), (0, .ref mo), (2, .int (nI j))]) hx hb dX7_canaryShare_55 rfl hl (by decide) rfl (fun ls hl => ?_)
              refine lv_iinc (v := nI (j + 1)) (lv' := [(2, .int (nI (j + 1))), (1, .int (nI k)), (0, .ref mo)]) hx hb dX7_canaryShare_56 hl (k := 2) rfl (nI_1 _) (by decide) rfl (fun ls hl => ?_)
              refine lv_goto (tgt := 20) hx hb dX7_canaryShare_59 (by decide) ?_
              exact ih (j + 1) k (by omega) (by omega) (by rw [i2, ct_n (by simp [q46])]) ls (lv_sub hl [2, 1, 0] rfl)
            · have q46 : F 20 j = 0 := (nI_e0 (by omega)).mp c_46
              refine lv_iconst (v := 1) hx hb dX7_canaryShare_49 (by decide) ?_
              refine lv_goto (tgt := 54) hx hb dX7_canaryShare_50 (by decide) ?_
              refine lv_iadd hx hb dX7_canaryShare_54 ?_
              rw [show ((nI k) + 1) = (nI (k + 1)) from nI_1 _]
              refine lv_istore_n (lv' := [(1, .int (nI (k + 1))), (0, .ref mo), (2, .int (nI j))]) hx hb dX7_canaryShare_55 rfl hl (by decide) rfl (fun ls hl => ?_)
              refine lv_iinc (v := nI (j + 1)) (lv' := [(2, .int (nI (j + 1))), (1, .int (nI (k + 1))), (0, .ref mo)]) hx hb dX7_canaryShare_56 hl (k := 2) rfl (nI_1 _) (by decide) rfl (fun ls hl => ?_)
              refine lv_goto (tgt := 20) hx hb dX7_canaryShare_59 (by decide) ?_
              exact ih (j + 1) (k + 1) (by omega) (by omega) (by rw [i2, ct_s (by simp [q37, q46])]) ls (lv_sub hl [2, 1, 0] rfl)
    exact LP _ 0 0 (Nat.lt_succ_self _) (Nat.zero_le _) (rfl) ls (lv_sub hl [2, 1, 0] rfl)

set_option maxHeartbeats 4000000 in
set_option maxRecDepth 100000 in
theorem k_X7_meanCost (l : Launch) (hst : l.stackTraces = false) (E : wEn) (w : wW) (sz : Nat) (F : FF) (MA : Nat → Nat) (mo : Nat) (cd : Int32) (N : Nat) (hI : wInv F N) (hm : wMod E F MA mo cd w) : wM l yX7_meanCost wsX7_meanCost 0 0 0 E w sz [.ref mo] (fun v w2 => (n_took F = 0 ∧ v = some (.double 0) ∧ wMod E F MA mo (nI 1) w2 ∧ wKm mo MA w w2) ∨ (n_took F ≠ 0 ∧ v = some (.double (v_mean F)) ∧ wMod E F MA mo (nI 0) w2 ∧ wKm mo MA w w2)) (fun _ _ => False) := by
  refine wm_start (own := RX7) (cc := cX7_meanCost) (maxL := 5) (ret := (some .double)) rfl (by decide) rfl (Nat.le_of_ble_eq_true rfl) ?_
  intro p e s m args below meth c ls C0 hr hin ht hP hS hl
  have hx := C0.1
  have hb := C0.2.1
  have hts := C0.2.2.2.2.1
  have hown := C0.2.2.2.1
  have hl : lv_has ls 5 [(0, .ref mo)] := hl
  have hf_120 : (Cond.fieldLink RX7 120 "CallGatewayModel" "calls" "I").before args s = true := hts _ (by decide +kernel)
  have hf_67 : (Cond.fieldLink RX7 67 "CallGatewayModel" "callTook" "[I").before args s = true := hts _ (by decide +kernel)
  have hf_73 : (Cond.fieldLink RX7 73 "CallGatewayModel" "undone" "[Z").before args s = true := hts _ (by decide +kernel)
  have hf_79 : (Cond.fieldLink RX7 79 "CallGatewayModel" "code" "I").before args s = true := hts _ (by decide +kernel)
  have hi_RX7 : ∀ w ∈ u_ws RX7 TX7 27, w ∈ wsX7_meanCost := fun _ h => List.mem_cons_of_mem _ (List.mem_append_left _ (List.mem_append_right _ h))
  have hn := hI.n
  have hn9 := hI.n
  refine lv_iconst (v := 0) hx hb dX7_meanCost_0 (by decide) ?_
  refine lv_istore_n (lv' := [(1, .int 0), (0, .ref mo)]) hx hb dX7_meanCost_1 rfl hl (by decide) rfl (fun ls hl => ?_)
  refine lv_iconst (v := 0) hx hb dX7_meanCost_2 (by decide) ?_
  refine lv_istore_n (lv' := [(2, .int 0), (1, .int 0), (0, .ref mo)]) hx hb dX7_meanCost_3 rfl hl (by decide) rfl (fun ls hl => ?_)
  refine lv_iconst (v := 0) hx hb dX7_meanCost_4 (by decide) ?_
  refine lv_istore_n (lv' := [(3, .int 0), (2, .int 0), (1, .int 0), (0, .ref mo)]) hx hb dX7_meanCost_5 rfl hl (by decide) rfl (fun ls hl => ?_)
  have LP : ∀ (nF : Nat) (j n u : Nat), F 24 3 - j < nF → (j ≤ F 24 3) → (n = ct (fun k => decide (0 < F 18 k) && decide (F 20 k = 0)) j) → (u = sm (fun k => if F 20 k = 0 then F 18 k else 0) j) → ∀ (ls : Array Slot), lv_has ls 5 [(0, .ref mo), (1, .int (nI n)), (2, .int (nI u)), (3, .int (nI j))] → W p l e (wRm 0 0 0) s m args below meth c s.heap [] 0 0 (vx_MQ below (wQ E (wA w sz) (fun v w2 => (n_took F = 0 ∧ v = some (.double 0) ∧ wMod E F MA mo (nI 1) w2 ∧ wKm mo MA w w2) ∨ (n_took F ≠ 0 ∧ v = some (.double (v_mean F)) ∧ wMod E F MA mo (nI 0) w2 ∧ wKm mo MA w w2))) (wX E (wA w sz) (fun _ _ => False)) args s 0 0 (wA w sz)) (F0 m 6 ls []) := by
    intro nF
    induction nF with
    | zero => intro j n u hn; exact absurd hn (Nat.not_lt_zero _)
    | succ nF ih =>
      intro j n u hn i1 i2 i3 ls hl
      refine lv_iload_n hx hb dX7_meanCost_6 rfl (lv_at hl 3 rfl) ?_
      refine lv_aload_n hx hb dX7_meanCost_7 rfl (lv_at hl 0 rfl) ?_
      refine wl_get (T := TX7) C0 hP (show w mo = some (.inr (7, [.int cd, .int (nI (F 24 0)), .ref (MA 0), .ref (MA 1), .ref (MA 2), .ref (MA 3), .ref (MA 4), .ref (MA 5), .ref (MA 6), .ref (MA 7), .ref (MA 8), .ref (MA 9), .int (nI (F 24 1)), .ref (MA 10), .ref (MA 11), .ref (MA 12), .int (nI (F 24 2)), .ref (MA 13), .ref (MA 14), .ref (MA 15), .int (nI (F 24 3)), .ref (MA 16), .ref (MA 17), .ref (MA 18), .ref (MA 19), .ref (MA 20), .ref (MA 21)])) from hm.x) hi_RX7 rfl 20 (by decide) hf_120 rfl dX7_meanCost_8 ?_
      refine lv_icmp_ge (tgt := 76) hx hb dX7_meanCost_11 (by decide) (fun c_11 => ?_) (fun c_11 => ?_)
      · have q11 : F 24 3 ≤ j := (nI_leI (by omega) (by omega)).mp c_11
        have hn7 : n = n_took F := by rw [i2, show j = F 24 3 by omega]; rfl
        have hu7 : u = t_took F := by rw [i3, show j = F 24 3 by omega]; rfl
        have hnl : n ≤ F 24 3 := by rw [hn7]; exact ct_le _ _
        have hul : u ≤ F 24 3 * 5 := by
          rw [hu7]
          exact sm_le (fun k hk => by
            have h := (hI.en hk).2.2.1
            split <;> omega)
        refine lv_aload_n hx hb dX7_meanCost_76 rfl (lv_at hl 0 rfl) ?_
        refine lv_iload_n hx hb dX7_meanCost_77 rfl (lv_at hl 1 rfl) ?_
        refine lv_if_ne (tgt := 85) hx hb dX7_meanCost_78 (by decide) (fun c_78 => ?_) (fun c_78 => ?_)
        · have q78 : ¬ n = 0 := fun q => c_78 ((nI_e0 (by omega)).mpr q)
          refine lv_iconst (v := 0) hx hb dX7_meanCost_85 (by decide) ?_
          refine wl_put (T := TX7) (ty0 := tyX7) (fs2 := [.int 0, .int (nI (F 24 0)), .ref (MA 0), .ref (MA 1), .ref (MA 2), .ref (MA 3), .ref (MA 4), .ref (MA 5), .ref (MA 6), .ref (MA 7), .ref (MA 8), .ref (MA 9), .int (nI (F 24 1)), .ref (MA 10), .ref (MA 11), .ref (MA 12), .int (nI (F 24 2)), .ref (MA 13), .ref (MA 14), .ref (MA 15), .int (nI (F 24 3)), .ref (MA 16), .ref (MA 17), .ref (MA 18), .ref (MA 19), .ref (MA 20), .ref (MA 21)]) C0 hP hS (show w mo = some (.inr (7, [.int cd, .int (nI (F 24 0)), .ref (MA 0), .ref (MA 1), .ref (MA 2), .ref (MA 3), .ref (MA 4), .ref (MA 5), .ref (MA 6), .ref (MA 7), .ref (MA 8), .ref (MA 9), .int (nI (F 24 1)), .ref (MA 10), .ref (MA 11), .ref (MA 12), .int (nI (F 24 2)), .ref (MA 13), .ref (MA 14), .ref (MA 15), .int (nI (F 24 3)), .ref (MA 16), .ref (MA 17), .ref (MA 18), .ref (MA 19), .ref (MA 20), .ref (MA 21)])) from hm.x) hi_RX7 tyX7_ok nmX7 rfl 0 (by decide) hf_79 rfl rfl rfl rfl (Nat.le_of_ble_eq_true rfl) rfl dX7_meanCost_86 (fun H locs hP hS => ?_)
          obtain ⟨w_86_0, hw9, hm_86_0, hk_86_0⟩ : ∃ wz : wW, wz = wU w mo (.inr (7, [.int 0, .int (nI (F 24 0)), .ref (MA 0), .ref (MA 1), .ref (MA 2), .ref (MA 3), .ref (MA 4), .ref (MA 5), .ref (MA 6), .ref (MA 7), .ref (MA 8), .ref (MA 9), .int (nI (F 24 1)), .ref (MA 10), .ref (MA 11), .ref (MA 12), .int (nI (F 24 2)), .ref (MA 13), .ref (MA 14), .ref (MA 15), .int (nI (F 24 3)), .ref (MA 16), .ref (MA 17), .ref (MA 18), .ref (MA 19), .ref (MA 20), .ref (MA 21)])) ∧ wMod E F MA mo (nI 0) wz ∧ wKm mo MA w wz := ⟨_, rfl, M_o (F := F) (G := F) (cd2 := nI 0) hm (fun a b h => rfl), wKm.rf.tr wKm.o⟩
          rw [← hw9] at hP
          refine lv_aload_n hx hb dX7_meanCost_89 rfl (lv_at hl 0 rfl) ?_
          refine wl_get (T := TX7) C0 hP (show w_86_0 mo = some (.inr (7, [.int (nI 0), .int (nI (F 24 0)), .ref (MA 0), .ref (MA 1), .ref (MA 2), .ref (MA 3), .ref (MA 4), .ref (MA 5), .ref (MA 6), .ref (MA 7), .ref (MA 8), .ref (MA 9), .int (nI (F 24 1)), .ref (MA 10), .ref (MA 11), .ref (MA 12), .int (nI (F 24 2)), .ref (MA 13), .ref (MA 14), .ref (MA 15), .int (nI (F 24 3)), .ref (MA 16), .ref (MA 17), .ref (MA 18), .ref (MA 19), .ref (MA 20), .ref (MA 21)])) from hm_86_0.x) hi_RX7 rfl 0 (by decide) hf_79 rfl dX7_meanCost_90 ?_
          refine lv_if_le (tgt := 100) hx hb dX7_meanCost_93 (by decide) (fun c_93 => ?_) (fun c_93 => ?_)
          · refine lv_iload_n hx hb dX7_meanCost_100 rfl (lv_at hl 2 rfl) ?_
            refine lv_i2d hx hb dX7_meanCost_101 ?_
            refine lv_iload_n hx hb dX7_meanCost_102 rfl (lv_at hl 1 rfl) ?_
            refine lv_i2d hx hb dX7_meanCost_103 ?_
            refine lv_ddiv hx hb dX7_meanCost_104 (fp_ddiv (by omega) (by omega) q78) ?_
            exact wl_dret C0 hr hP hS dX7_meanCost_105 (Nat.le_of_ble_eq_true rfl) (Nat.le_of_ble_eq_true rfl) (Or.inr ⟨by rw [← hn7]; exact q78, by rw [v_mean, ← hn7, ← hu7], hm_86_0, hk_86_0⟩)
          · exact absurd (by decide) c_93
        · have q78 : n = 0 := (nI_e0 (by omega)).mp c_78
          refine lv_iconst (v := 1) hx hb dX7_meanCost_81 (by decide) ?_
          refine lv_goto (tgt := 86) hx hb dX7_meanCost_82 (by decide) ?_
          refine wl_put (T := TX7) (ty0 := tyX7) (fs2 := [.int 1, .int (nI (F 24 0)), .ref (MA 0), .ref (MA 1), .ref (MA 2), .ref (MA 3), .ref (MA 4), .ref (MA 5), .ref (MA 6), .ref (MA 7), .ref (MA 8), .ref (MA 9), .int (nI (F 24 1)), .ref (MA 10), .ref (MA 11), .ref (MA 12), .int (nI (F 24 2)), .ref (MA 13), .ref (MA 14), .ref (MA 15), .int (nI (F 24 3)), .ref (MA 16), .ref (MA 17), .ref (MA 18), .ref (MA 19), .ref (MA 20), .ref (MA 21)]) C0 hP hS (show w mo = some (.inr (7, [.int cd, .int (nI (F 24 0)), .ref (MA 0), .ref (MA 1), .ref (MA 2), .ref (MA 3), .ref (MA 4), .ref (MA 5), .ref (MA 6), .ref (MA 7), .ref (MA 8), .ref (MA 9), .int (nI (F 24 1)), .ref (MA 10), .ref (MA 11), .ref (MA 12), .int (nI (F 24 2)), .ref (MA 13), .ref (MA 14), .ref (MA 15), .int (nI (F 24 3)), .ref (MA 16), .ref (MA 17), .ref (MA 18), .ref (MA 19), .ref (MA 20), .ref (MA 21)])) from hm.x) hi_RX7 tyX7_ok nmX7 rfl 0 (by decide) hf_79 rfl rfl rfl rfl (Nat.le_of_ble_eq_true rfl) rfl dX7_meanCost_86 (fun H locs hP hS => ?_)
          obtain ⟨w_86_1, hw9, hm_86_1, hk_86_1⟩ : ∃ wz : wW, wz = wU w mo (.inr (7, [.int 1, .int (nI (F 24 0)), .ref (MA 0), .ref (MA 1), .ref (MA 2), .ref (MA 3), .ref (MA 4), .ref (MA 5), .ref (MA 6), .ref (MA 7), .ref (MA 8), .ref (MA 9), .int (nI (F 24 1)), .ref (MA 10), .ref (MA 11), .ref (MA 12), .int (nI (F 24 2)), .ref (MA 13), .ref (MA 14), .ref (MA 15), .int (nI (F 24 3)), .ref (MA 16), .ref (MA 17), .ref (MA 18), .ref (MA 19), .ref (MA 20), .ref (MA 21)])) ∧ wMod E F MA mo (nI 1) wz ∧ wKm mo MA w wz := ⟨_, rfl, M_o (F := F) (G := F) (cd2 := nI 1) hm (fun a b h => rfl), wKm.rf.tr wKm.o⟩
          rw [← hw9] at hP
          refine lv_aload_n hx hb dX7_meanCost_89 rfl (lv_at hl 0 rfl) ?_
          refine wl_get (T := TX7) C0 hP (show w_86_1 mo = some (.inr (7, [.int (nI 1), .int (nI (F 24 0)), .ref (MA 0), .ref (MA 1), .ref (MA 2), .ref (MA 3), .ref (MA 4), .ref (MA 5), .ref (MA 6), .ref (MA 7), .ref (MA 8), .ref (MA 9), .int (nI (F 24 1)), .ref (MA 10), .ref (MA 11), .ref (MA 12), .int (nI (F 24 2)), .ref (MA 13), .ref (MA 14), .ref (MA 15), .int (nI (F 24 3)), .ref (MA 16), .ref (MA 17), .ref (MA 18), .ref (MA 19), .ref (MA 20), .ref (MA 21)])) from hm_86_1.x) hi_RX7 rfl 0 (by decide) hf_79 rfl dX7_meanCost_90 ?_
          refine lv_if_le (tgt := 100) hx hb dX7_meanCost_93 (by decide) (fun c_93 => ?_) (fun c_93 => ?_)
          · exact absurd c_93 (by decide)
          · refine lv_dconst0 hx hb dX7_meanCost_96 ?_
            refine lv_goto (tgt := 105) hx hb dX7_meanCost_97 (by decide) ?_
            exact wl_dret C0 hr hP hS dX7_meanCost_105 (Nat.le_of_ble_eq_true rfl) (Nat.le_of_ble_eq_true rfl) (Or.inl ⟨by rw [← hn7]; exact q78, rfl, hm_86_1, hk_86_1⟩)
      · have q11 : j < F 24 3 := Nat.not_le.mp (fun q => c_11 ((nI_leI (by omega) (by omega)).mpr q))
        have hej := hI.en q11
        refine lv_aload_n hx hb dX7_meanCost_14 rfl (lv_at hl 0 rfl) ?_
        refine wl_get (T := TX7) C0 hP (show w mo = some (.inr (7, [.int cd, .int (nI (F 24 0)), .ref (MA 0), .ref (MA 1), .ref (MA 2), .ref (MA 3), .ref (MA 4), .ref (MA 5), .ref (MA 6), .ref (MA 7), .ref (MA 8), .ref (MA 9), .int (nI (F 24 1)), .ref (MA 10), .ref (MA 11), .ref (MA 12), .int (nI (F 24 2)), .ref (MA 13), .ref (MA 14), .ref (MA 15), .int (nI (F 24 3)), .ref (MA 16), .ref (MA 17), .ref (MA 18), .ref (MA 19), .ref (MA 20), .ref (MA 21)])) from hm.x) hi_RX7 rfl 23 (by decide) hf_67 rfl dX7_meanCost_15 ?_
        refine lv_iload_n hx hb dX7_meanCost_18 rfl (lv_at hl 3 rfl) ?_
        refine wl_iald C0 hP (show w (MA 18) = some (.inl (E.2.1 0, 700, .inl (fun i => nI (F 18 i)))) from hm.i 18 (by decide) rfl rfl rfl) (vp_in_nI (by omega) (by omega)) dX7_meanCost_19 ?_
        refine W.eq (g2 := F0 m 20 ls [.int (nI (F 18 j))]) (by rw [show (nI j).toNatClampNeg = j from nI_clamp (by omega)]) ?_
        refine lv_if_le (tgt := 36) hx hb dX7_meanCost_20 (by decide) (fun c_20 => ?_) (fun c_20 => ?_)
        · have q20 : ¬ 0 < F 18 j := fun q => by have h := (nI_leI (b := 0) (by omega) (by omega)).mp c_20; omega
          refine lv_iconst (v := 0) hx hb dX7_meanCost_36 (by decide) ?_
          refine lv_istore (lv' := [(4, .int 0), (0, .ref mo), (1, .int (nI n)), (2, .int (nI u)), (3, .int (nI j))]) hx hb dX7_meanCost_37 hl (by decide) rfl (fun ls hl => ?_)
          refine lv_iload_n hx hb dX7_meanCost_39 rfl (lv_at hl 2 rfl) ?_
          refine lv_iload hx hb dX7_meanCost_40 (lv_at hl 0 rfl) ?_
          refine lv_if_eq (tgt := 49) hx hb dX7_meanCost_42 (by decide) (fun c_42 => ?_) (fun c_42 => ?_)
          · refine lv_iconst (v := 0) hx hb dX7_meanCost_49 (by decide) ?_
            refine lv_iadd hx hb dX7_meanCost_50 ?_
            rw [show ((nI n) + 0) = (nI n) from Int32.add_zero _]
            refine lv_istore_n (lv' := [(1, .int (nI n)), (4, .int 0), (0, .ref mo), (2, .int (nI u)), (3, .int (nI j))]) hx hb dX7_meanCost_51 rfl hl (by decide) rfl (fun ls hl => ?_)
            refine lv_iload_n hx hb dX7_meanCost_52 rfl (lv_at hl 3 rfl) ?_
            refine lv_iload hx hb dX7_meanCost_53 (lv_at hl 1 rfl) ?_
            refine lv_if_eq (tgt := 67) hx hb dX7_meanCost_55 (by decide) (fun c_55 => ?_) (fun c_55 => ?_)
            · refine lv_iconst (v := 0) hx hb dX7_meanCost_67 (by decide) ?_
              refine lv_iadd hx hb dX7_meanCost_68 ?_
              rw [show ((nI u) + 0) = (nI u) from Int32.add_zero _]
              refine lv_istore_n (lv' := [(2, .int (nI u)), (1, .int (nI n)), (4, .int 0), (0, .ref mo), (3, .int (nI j))]) hx hb dX7_meanCost_69 rfl hl (by decide) rfl (fun ls hl => ?_)
              refine lv_iinc (v := nI (j + 1)) (lv' := [(3, .int (nI (j + 1))), (2, .int (nI u)), (1, .int (nI n)), (4, .int 0), (0, .ref mo)]) hx hb dX7_meanCost_70 hl (k := 4) rfl (nI_1 _) (by decide) rfl (fun ls hl => ?_)
              refine lv_goto (tgt := 6) hx hb dX7_meanCost_73 (by decide) ?_
              exact ih (j + 1) n u (by omega) (by omega) (by rw [i2, ct_n (by simp [q20])]) (by rw [i3, sm_s]; simp; intro _; omega) ls (lv_sub hl [4, 2, 1, 0] rfl)
            · exact absurd rfl c_55
          · exact absurd rfl c_42
        · have q20 : 0 < F 18 j := Nat.not_le.mp (fun q => c_20 ((nI_leI (b := 0) (by omega) (by omega)).mpr q))
          refine lv_aload_n hx hb dX7_meanCost_23 rfl (lv_at hl 0 rfl) ?_
          refine wl_get (T := TX7) C0 hP (show w mo = some (.inr (7, [.int cd, .int (nI (F 24 0)), .ref (MA 0), .ref (MA 1), .ref (MA 2), .ref (MA 3), .ref (MA 4), .ref (MA 5), .ref (MA 6), .ref (MA 7), .ref (MA 8), .ref (MA 9), .int (nI (F 24 1)), .ref (MA 10), .ref (MA 11), .ref (MA 12), .int (nI (F 24 2)), .ref (MA 13), .ref (MA 14), .ref (MA 15), .int (nI (F 24 3)), .ref (MA 16), .ref (MA 17), .ref (MA 18), .ref (MA 19), .ref (MA 20), .ref (MA 21)])) from hm.x) hi_RX7 rfl 25 (by decide) hf_73 rfl dX7_meanCost_24 ?_
          refine lv_iload_n hx hb dX7_meanCost_27 rfl (lv_at hl 3 rfl) ?_
          refine wl_zald C0 hP (show w (MA 20) = some (.inl (E.2.1 3, 700, .inl (fun i => nI (F 20 i)))) from hm.i 20 (by decide) rfl rfl rfl) (vp_in_nI (by omega) (by omega)) dX7_meanCost_28 ?_
          refine W.eq (g2 := F0 m 29 ls [.int (nI (F 20 j))]) (by rw [show (nI j).toNatClampNeg = j from nI_clamp (by omega)]) ?_
          refine lv_if_ne (tgt := 36) hx hb dX7_meanCost_29 (by decide) (fun c_29 => ?_) (fun c_29 => ?_)
          · have q29 : ¬ F 20 j = 0 := fun q => c_29 ((nI_e0 (by omega)).mpr q)
            refine lv_iconst (v := 0) hx hb dX7_meanCost_36 (by decide) ?_
            refine lv_istore (lv' := [(4, .int 0), (0, .ref mo), (1, .int (nI n)), (2, .int (nI u)), (3, .int (nI j))]) hx hb dX7_meanCost_37 hl (by decide) rfl (fun ls hl => ?_)
            refine lv_iload_n hx hb dX7_meanCost_39 rfl (lv_at hl 2 rfl) ?_
            refine lv_iload hx hb dX7_meanCost_40 (lv_at hl 0 rfl) ?_
            refine lv_if_eq (tgt := 49) hx hb dX7_meanCost_42 (by decide) (fun c_42 => ?_) (fun c_42 => ?_)
            · refine lv_iconst (v := 0) hx hb dX7_meanCost_49 (by decide) ?_
              refine lv_iadd hx hb dX7_meanCost_50 ?_
              rw [show ((nI n) + 0) = (nI n) from Int32.add_zero _]
              refine lv_istore_n (lv' := [(1, .int (nI n)), (4, .int 0), (0, .ref mo), (2, .int (nI u)), (3, .int (nI j))]) hx hb dX7_meanCost_51 rfl hl (by decide) rfl (fun ls hl => ?_)
              refine lv_iload_n hx hb dX7_meanCost_52 rfl (lv_at hl 3 rfl) ?_
              refine lv_iload hx hb dX7_meanCost_53 (lv_at hl 1 rfl) ?_
              refine lv_if_eq (tgt := 67) hx hb dX7_meanCost_55 (by decide) (fun c_55 => ?_) (fun c_55 => ?_)
              · refine lv_iconst (v := 0) hx hb dX7_meanCost_67 (by decide) ?_
                refine lv_iadd hx hb dX7_meanCost_68 ?_
                rw [show ((nI u) + 0) = (nI u) from Int32.add_zero _]
                refine lv_istore_n (lv' := [(2, .int (nI u)), (1, .int (nI n)), (4, .int 0), (0, .ref mo), (3, .int (nI j))]) hx hb dX7_meanCost_69 rfl hl (by decide) rfl (fun ls hl => ?_)
                refine lv_iinc (v := nI (j + 1)) (lv' := [(3, .int (nI (j + 1))), (2, .int (nI u)), (1, .int (nI n)), (4, .int 0), (0, .ref mo)]) hx hb dX7_meanCost_70 hl (k := 4) rfl (nI_1 _) (by decide) rfl (fun ls hl => ?_)
                refine lv_goto (tgt := 6) hx hb dX7_meanCost_73 (by decide) ?_
                exact ih (j + 1) n u (by omega) (by omega) (by rw [i2, ct_n (by simp [q29])]) (by rw [i3, sm_s]; simp [q29]) ls (lv_sub hl [4, 2, 1, 0] rfl)
              · exact absurd rfl c_55
            · exact absurd rfl c_42
          · have q29 : F 20 j = 0 := (nI_e0 (by omega)).mp c_29
            refine lv_iconst (v := 1) hx hb dX7_meanCost_32 (by decide) ?_
            refine lv_goto (tgt := 37) hx hb dX7_meanCost_33 (by decide) ?_
            refine lv_istore (lv' := [(4, .int 1), (0, .ref mo), (1, .int (nI n)), (2, .int (nI u)), (3, .int (nI j))]) hx hb dX7_meanCost_37 hl (by decide) rfl (fun ls hl => ?_)
            refine lv_iload_n hx hb dX7_meanCost_39 rfl (lv_at hl 2 rfl) ?_
            refine lv_iload hx hb dX7_meanCost_40 (lv_at hl 0 rfl) ?_
            refine lv_if_eq (tgt := 49) hx hb dX7_meanCost_42 (by decide) (fun c_42 => ?_) (fun c_42 => ?_)
            · exact absurd c_42 (by decide)
            · refine lv_iconst (v := 1) hx hb dX7_meanCost_45 (by decide) ?_
              refine lv_goto (tgt := 50) hx hb dX7_meanCost_46 (by decide) ?_
              refine lv_iadd hx hb dX7_meanCost_50 ?_
              rw [show ((nI n) + 1) = (nI (n + 1)) from nI_1 _]
              refine lv_istore_n (lv' := [(1, .int (nI (n + 1))), (4, .int 1), (0, .ref mo), (2, .int (nI u)), (3, .int (nI j))]) hx hb dX7_meanCost_51 rfl hl (by decide) rfl (fun ls hl => ?_)
              refine lv_iload_n hx hb dX7_meanCost_52 rfl (lv_at hl 3 rfl) ?_
              refine lv_iload hx hb dX7_meanCost_53 (lv_at hl 1 rfl) ?_
              refine lv_if_eq (tgt := 67) hx hb dX7_meanCost_55 (by decide) (fun c_55 => ?_) (fun c_55 => ?_)
              · exact absurd c_55 (by decide)
              · refine lv_aload_n hx hb dX7_meanCost_58 rfl (lv_at hl 2 rfl) ?_
                refine wl_get (T := TX7) C0 hP (show w mo = some (.inr (7, [.int cd, .int (nI (F 24 0)), .ref (MA 0), .ref (MA 1), .ref (MA 2), .ref (MA 3), .ref (MA 4), .ref (MA 5), .ref (MA 6), .ref (MA 7), .ref (MA 8), .ref (MA 9), .int (nI (F 24 1)), .ref (MA 10), .ref (MA 11), .ref (MA 12), .int (nI (F 24 2)), .ref (MA 13), .ref (MA 14), .ref (MA 15), .int (nI (F 24 3)), .ref (MA 16), .ref (MA 17), .ref (MA 18), .ref (MA 19), .ref (MA 20), .ref (MA 21)])) from hm.x) hi_RX7 rfl 23 (by decide) hf_67 rfl dX7_meanCost_59 ?_
                refine lv_iload_n hx hb dX7_meanCost_62 rfl (lv_at hl 4 rfl) ?_
                refine wl_iald C0 hP (show w (MA 18) = some (.inl (E.2.1 0, 700, .inl (fun i => nI (F 18 i)))) from hm.i 18 (by decide) rfl rfl rfl) (vp_in_nI (by omega) (by omega)) dX7_meanCost_63 ?_
                refine W.eq (g2 := F0 m 64 ls [.int (nI (F 18 j)), .int (nI u)]) (by rw [show (nI j).toNatClampNeg = j from nI_clamp (by omega)]) ?_
                refine lv_goto (tgt := 68) hx hb dX7_meanCost_64 (by decide) ?_
                refine lv_iadd hx hb dX7_meanCost_68 ?_
                rw [show ((nI u) + (nI (F 18 j))) = (nI (u + F 18 j)) from nI_add _ _]
                refine lv_istore_n (lv' := [(2, .int (nI (u + F 18 j))), (1, .int (nI (n + 1))), (4, .int 1), (0, .ref mo), (3, .int (nI j))]) hx hb dX7_meanCost_69 rfl hl (by decide) rfl (fun ls hl => ?_)
                refine lv_iinc (v := nI (j + 1)) (lv' := [(3, .int (nI (j + 1))), (2, .int (nI (u + F 18 j))), (1, .int (nI (n + 1))), (4, .int 1), (0, .ref mo)]) hx hb dX7_meanCost_70 hl (k := 4) rfl (nI_1 _) (by decide) rfl (fun ls hl => ?_)
                refine lv_goto (tgt := 6) hx hb dX7_meanCost_73 (by decide) ?_
                exact ih (j + 1) (n + 1) (u + F 18 j) (by omega) (by omega) (by rw [i2, ct_s (by simp [q20, q29])]) (by rw [i3, sm_s]; simp [q29]) ls (lv_sub hl [4, 2, 1, 0] rfl)
  exact LP _ 0 0 0 (Nat.lt_succ_self _) (Nat.zero_le _) (rfl) (rfl) ls (lv_sub hl [3, 2, 1, 0] rfl)
