set_option maxHeartbeats 4000000 in
set_option maxRecDepth 100000 in
theorem k_X1_changePlan (l : Launch) (hst : l.stackTraces = false) (E : wEn) (w : wW) (sz : Nat) (F : FF) (AD : AT) (hs : wSys E F AD w) (i j : Nat) (hi : i < F 24 2) (hj : j < F 24 1) (hb6 : F 24 2 ≤ 6) (h14 : F 14 i ≤ 100) (h11 : F 11 j ≤ 100) : wM l yX1_changePlan wsX1_changePlan 0 0 0 E w sz [.ref (AD 2 i), .ref (AD 1 j)] (fun v w2 => v = some (.int (nI (F 14 i - F 11 j))) ∧ wSys E (fU (fU F 13 i j) 14 i (F 14 i - (F 14 i - F 11 j))) AD w2 ∧ wKp w w2) (fun _ _ => False) := by
  refine wm_start (own := RX1) (cc := cX1_changePlan) (maxL := 3) (ret := (some .int)) rfl (by decide) rfl (Nat.le_of_ble_eq_true rfl) ?_
  intro p e s m args below meth c ls C0 hr hin ht hP hS hl
  have hx := C0.1
  have hb := C0.2.1
  have hts := C0.2.2.2.2.1
  have hown := C0.2.2.2.1
  have hl : lv_has ls 3 [(0, .ref (AD 2 i)), (1, .ref (AD 1 j))] := hl
  have hf_22 : (Cond.fieldLink RX1 22 "CallGateway$Caller" "tokens" "I").before args s = true := hts _ (by decide +kernel)
  have hf_17 : va_Nw (.fieldLinkNest RX1 17 "CallGateway$Plan" "burst" "I" "CallGateway") s := C0.2.2.2.2.2.2.2.1.1 _ (by decide +kernel)
  have hf_13 : (Cond.fieldLink RX1 13 "CallGateway$Caller" "plan" "LCallGateway$Plan;").before args s = true := hts _ (by decide +kernel)
  have hi_RX1 : ∀ w ∈ u_ws RX1 TX1 4, w ∈ wsX1_changePlan := fun _ h => List.mem_cons_of_mem _ (List.mem_append_left _ (List.mem_append_right _ h))
  have hi_RX4 : ∀ w ∈ u_ws RX4 TX4 3, w ∈ wsX1_changePlan := fun _ h => List.mem_cons_of_mem _ (List.mem_append_right _ h)
  refine lv_aload_n hx hb dX1_changePlan_0 rfl (lv_at hl 0 rfl) ?_
  refine wl_get (T := TX1) C0 hP (wSys.cl hs hi) hi_RX1 rfl 2 (by decide) hf_22 rfl dX1_changePlan_1 ?_
  refine lv_aload_n hx hb dX1_changePlan_4 rfl (lv_at hl 1 rfl) ?_
  refine wl_getN (T := TX4) C0 hP (wSys.pl hs hj) hi_RX4 rfl 1 (by decide) hf_17 rfl dX1_changePlan_5 ?_
  refine lv_isub hx hb dX1_changePlan_8 ?_
  refine lv_iconst (v := 0) hx hb dX1_changePlan_9 (by decide) ?_
  refine va_mmax hx hb (by rw [C0.2.2.1]; exact hl.1.symm) hown (hts _ (by decide +kernel)) (hts _ (by decide +kernel)) (hts _ (by decide +kernel)) (hts _ (by decide +kernel)) (Nat.le_of_ble_eq_true rfl) (Nat.le_of_ble_eq_true rfl) (Nat.le_of_ble_eq_true rfl) (Nat.le_of_ble_eq_true rfl) dX1_changePlan_10 ?_
  rw [show (if ((nI (F 14 i)) - (nI (F 11 j))) < 0 then 0 else ((nI (F 14 i)) - (nI (F 11 j)))) = (nI (F 14 i - F 11 j)) from w_max0 (by omega) (by omega)]
  refine lv_istore_n (lv' := [(2, .int (nI (F 14 i - F 11 j))), (0, .ref (AD 2 i)), (1, .ref (AD 1 j))]) hx hb dX1_changePlan_13 rfl hl (by decide) rfl (fun ls hl => ?_)
  refine lv_aload_n hx hb dX1_changePlan_14 rfl (lv_at hl 1 rfl) ?_
  refine lv_aload_n hx hb dX1_changePlan_15 rfl (lv_at hl 2 rfl) ?_
  refine wl_put (T := TX1) (ty0 := tyX1) (fs2 := [.int (nI i), .ref (AD 1 j), .int (nI (F 14 i)), .long (lN (F 15 i))]) C0 hP hS (wSys.cl hs hi) hi_RX1 tyX1_ok nmX1 rfl 1 (by decide) hf_13 rfl rfl rfl rfl (Nat.le_of_ble_eq_true rfl) rfl dX1_changePlan_16 (fun H locs hP hS => ?_)
  refine lv_aload_n hx hb dX1_changePlan_19 rfl (lv_at hl 1 rfl) ?_
  refine lv_dup hx hb dX1_changePlan_20 rfl ?_
  have f9_1 : (wU w (AD 2 i) (.inr (1, [.int (nI i), .ref (AD 1 j), .int (nI (F 14 i)), .long (lN (F 15 i))]))) (AD 2 i) = some (.inr (1, [.int (nI i), .ref (AD 1 j), .int (nI (F 14 i)), .long (lN (F 15 i))])) := (wU_s _ _ _)
  refine wl_get (T := TX1) C0 hP f9_1 hi_RX1 rfl 2 (by decide) hf_22 rfl dX1_changePlan_21 ?_
  refine lv_iload_n hx hb dX1_changePlan_24 rfl (lv_at hl 0 rfl) ?_
  refine lv_isub hx hb dX1_changePlan_25 ?_
  rw [show ((nI (F 14 i)) - (nI (F 14 i - F 11 j))) = (nI (F 14 i - (F 14 i - F 11 j))) from pk_sub (by omega)]
  refine wl_put (T := TX1) (ty0 := tyX1) (fs2 := [.int (nI i), .ref (AD 1 j), .int (nI (F 14 i - (F 14 i - F 11 j))), .long (lN (F 15 i))]) C0 hP hS f9_1 hi_RX1 tyX1_ok nmX1 rfl 2 (by decide) hf_22 rfl rfl rfl rfl (Nat.le_of_ble_eq_true rfl) rfl dX1_changePlan_26 (fun H locs hP hS => ?_)
  rw [wU_c] at hP
  refine lv_iload_n hx hb dX1_changePlan_29 rfl (lv_at hl 0 rfl) ?_
  exact wl_iret C0 hr rfl hP hS dX1_changePlan_30 (Nat.le_of_ble_eq_true rfl) (Nat.le_of_ble_eq_true rfl) (⟨rfl, U_cl hs hi hb6 (fun a b h => by simp only [fU]; (repeat' split) <;> first | rfl | omega) (by rw [wU_s]; simp [e_caller, fU]) (fun b hb9 => wU_n _ _ hb9), wKp.rf.u (hs.cl hi) rfl⟩)

set_option maxHeartbeats 4000000 in
set_option maxRecDepth 100000 in
theorem k_X1_ticksUntilItHas (l : Launch) (hst : l.stackTraces = false) (E : wEn) (w : wW) (sz : Nat) (F : FF) (AD : AT) (hs : wSys E F AD w) (i k : Nat) (hi : i < F 24 2) (h13 : F 13 i < F 24 1) (h14 : F 14 i ≤ 100) (hk9 : k ≤ 5) (h10 : 1 ≤ F 10 (F 13 i)) (h10b : F 10 (F 13 i) ≤ 20) : wM l yX1_ticksUntilItHas wsX1_ticksUntilItHas 0 0 0 E w sz [.ref (AD 2 i), .int (nI k)] (fun v w2 => v = some (.int (nI ((k - F 14 i + F 10 (F 13 i) - 1) / F 10 (F 13 i)))) ∧ w2 = w) (fun _ _ => False) := by
  refine wm_start (own := RX1) (cc := cX1_ticksUntilItHas) (maxL := 4) (ret := (some .int)) rfl (by decide) rfl (Nat.le_of_ble_eq_true rfl) ?_
  intro p e s m args below meth c ls C0 hr hin ht hP hS hl
  have hx := C0.1
  have hb := C0.2.1
  have hts := C0.2.2.2.2.1
  have hown := C0.2.2.2.1
  have hl : lv_has ls 4 [(0, .ref (AD 2 i)), (1, .int (nI k))] := hl
  have hf_22 : (Cond.fieldLink RX1 22 "CallGateway$Caller" "tokens" "I").before args s = true := hts _ (by decide +kernel)
  have hf_13 : (Cond.fieldLink RX1 13 "CallGateway$Caller" "plan" "LCallGateway$Plan;").before args s = true := hts _ (by decide +kernel)
  have hf_34 : va_Nw (.fieldLinkNest RX1 34 "CallGateway$Plan" "rate" "I" "CallGateway") s := C0.2.2.2.2.2.2.2.1.1 _ (by decide +kernel)
  have hi_RX1 : ∀ w ∈ u_ws RX1 TX1 4, w ∈ wsX1_ticksUntilItHas := fun _ h => List.mem_cons_of_mem _ (List.mem_append_left _ (List.mem_append_right _ h))
  have hi_RX4 : ∀ w ∈ u_ws RX4 TX4 3, w ∈ wsX1_ticksUntilItHas := fun _ h => List.mem_cons_of_mem _ (List.mem_append_right _ h)
  refine lv_iload_n hx hb dX1_ticksUntilItHas_0 rfl (lv_at hl 1 rfl) ?_
  refine lv_aload_n hx hb dX1_ticksUntilItHas_1 rfl (lv_at hl 0 rfl) ?_
  refine wl_get (T := TX1) C0 hP (wSys.cl hs hi) hi_RX1 rfl 2 (by decide) hf_22 rfl dX1_ticksUntilItHas_2 ?_
  refine lv_isub hx hb dX1_ticksUntilItHas_5 ?_
  refine lv_istore_n (lv' := [(2, .int ((nI k) - (nI (F 14 i)))), (0, .ref (AD 2 i)), (1, .int (nI k))]) hx hb dX1_ticksUntilItHas_6 rfl hl (by decide) rfl (fun ls hl => ?_)
  refine lv_aload_n hx hb dX1_ticksUntilItHas_7 rfl (lv_at hl 1 rfl) ?_
  refine wl_get (T := TX1) C0 hP (wSys.cl hs hi) hi_RX1 rfl 1 (by decide) hf_13 rfl dX1_ticksUntilItHas_8 ?_
  refine wl_getN (T := TX4) C0 hP (wSys.pl hs h13) hi_RX4 rfl 0 (by decide) hf_34 rfl dX1_ticksUntilItHas_11 ?_
  refine lv_istore_n (lv' := [(3, .int (nI (F 10 (F 13 i)))), (2, .int ((nI k) - (nI (F 14 i)))), (0, .ref (AD 2 i)), (1, .int (nI k))]) hx hb dX1_ticksUntilItHas_14 rfl hl (by decide) rfl (fun ls hl => ?_)
  refine lv_iload_n hx hb dX1_ticksUntilItHas_15 rfl (lv_at hl 1 rfl) ?_
  refine lv_if_le (tgt := 23) hx hb dX1_ticksUntilItHas_16 (by decide) (fun c_16 => ?_) (fun c_16 => ?_)
  · have q16 : k ≤ F 14 i := (w_sub_le (by omega) (by omega)).mp c_16
    refine lv_iconst (v := 0) hx hb dX1_ticksUntilItHas_23 (by decide) ?_
    exact wl_iret C0 hr rfl hP hS dX1_ticksUntilItHas_24 (Nat.le_of_ble_eq_true rfl) (Nat.le_of_ble_eq_true rfl) (⟨by rw [Nat.div_eq_of_lt (by omega)]; rfl, rfl⟩)
  · have q16 : ¬ k ≤ F 14 i := fun q => c_16 ((w_sub_le (by omega) (by omega)).mpr q)
    refine lv_iload_n hx hb dX1_ticksUntilItHas_19 rfl (lv_at hl 0 rfl) ?_
    refine lv_if_gt (tgt := 25) hx hb dX1_ticksUntilItHas_20 (by decide) (fun c_20 => ?_) (fun c_20 => ?_)
    · refine lv_iload_n hx hb dX1_ticksUntilItHas_25 rfl (lv_at hl 1 rfl) ?_
      rw [show ((nI k) - (nI (F 14 i))) = (nI (k - F 14 i)) from pk_sub (by omega)]
      refine lv_iload_n hx hb dX1_ticksUntilItHas_26 rfl (lv_at hl 0 rfl) ?_
      refine lv_iadd hx hb dX1_ticksUntilItHas_27 ?_
      rw [show ((nI (k - F 14 i)) + (nI (F 10 (F 13 i)))) = (nI (k - F 14 i + F 10 (F 13 i))) from nI_add _ _]
      refine lv_iconst (v := 1) hx hb dX1_ticksUntilItHas_28 (by decide) ?_
      refine lv_isub hx hb dX1_ticksUntilItHas_29 ?_
      rw [show ((nI (k - F 14 i + F 10 (F 13 i))) - 1) = (nI (k - F 14 i + F 10 (F 13 i) - 1)) from pk_sub (b := 1) (by omega)]
      refine lv_iload_n hx hb dX1_ticksUntilItHas_30 rfl (lv_at hl 0 rfl) ?_
      refine lv_idiv hx hb dX1_ticksUntilItHas_31 (fun h => absurd ((nI_e0 (by omega)).mp h) (by omega)) ?_
      rw [show ((nI (k - F 14 i + F 10 (F 13 i) - 1)) / (nI (F 10 (F 13 i)))) = (nI ((k - F 14 i + F 10 (F 13 i) - 1) / F 10 (F 13 i))) from pk_div (by omega) (by omega) (by omega)]
      exact wl_iret C0 hr rfl hP hS dX1_ticksUntilItHas_32 (Nat.le_of_ble_eq_true rfl) (Nat.le_of_ble_eq_true rfl) (⟨rfl, rfl⟩)
    · exact absurd ((nI_ltI (a := 0) (by omega) (by omega)).mpr (show 0 < F 10 (F 13 i) by omega)) c_20

set_option maxHeartbeats 4000000 in
set_option maxRecDepth 100000 in
theorem k_X6_addRoute (l : Launch) (hst : l.stackTraces = false) (E : wEn) (w : wW) (sz : Nat) (F : FF) (AD : AT) (N : Nat) (hI : wInv F N) (hs : wSys E F AD w) (p1 c1 l1 g1 : Int32) : wM l yX6_addRoute wsX6_addRoute 3 1 7 E w sz [.ref (AD 5 0), .int p1, .int c1, .int l1, .int g1] (fun v w2 => ∃ AD2 : AT, (s_addRoute F p1 c1 l1 g1).1 = 0 ∧ v = some (.int (s_addRoute F p1 c1 l1 g1).2.1) ∧ wSys E (s_addRoute F p1 c1 l1 g1).2.2 AD2 w2 ∧ AD2 5 0 = AD 5 0 ∧ wKp w w2) (fun X w2 => w2 = w ∧ ((s_addRoute F p1 c1 l1 g1).1 = 1 ∧ X = xIAE ∨ (s_addRoute F p1 c1 l1 g1).1 = 2 ∧ X = xISE)) := by
  refine wm_start (own := RX6) (cc := cX6_addRoute) (maxL := 6) (ret := (some .int)) rfl (by decide) rfl (Nat.le_of_ble_eq_true rfl) ?_
  intro p e s m args below meth c ls C0 hr hin ht hP hS hl
  have hx := C0.1
  have hb := C0.2.1
  have hts := C0.2.2.2.2.1
  have hown := C0.2.2.2.1
  have hl : lv_has ls 6 [(0, .ref (AD 5 0)), (1, .int p1), (2, .int c1), (3, .int l1), (4, .int g1)] := hl
  have hf_59 : (Cond.fieldLink RX6 59 "CallGateway" "routeCount" "I").before args s = true := hts _ (by decide +kernel)
  have hf_11 : (Cond.fieldLink RX6 11 "CallGateway" "routes" "[LCallGateway$Route;").before args s = true := hts _ (by decide +kernel)
  have hi_RX5 : ∀ w ∈ u_ws RX5 TX5 7, w ∈ wsX6_addRoute := fun _ h => List.mem_cons_of_mem _ (List.mem_append_left _ (List.mem_append_left _ (List.mem_append_right _ h)))
  have hi_RX6 : ∀ w ∈ u_ws RX6 TX6 8, w ∈ wsX6_addRoute := fun _ h => List.mem_cons_of_mem _ (List.mem_append_left _ (List.mem_append_left _ (List.mem_append_left _ (List.mem_append_right _ h))))
  have hn := hI.n
  refine lv_iload_n hx hb dX6_addRoute_0 rfl (lv_at hl 1 rfl) ?_
  refine wl_on C0 ht hP hS (wl_runS (As := [.int p1]) (rest := []) C0 hP hS (k_X6_isPath l hst E w s.heap.size p1) (va_cwS 1 hts gX6_addRoute_X6_isPath rfl rfl rfl (by decide +kernel) ⟨(Nat.le_of_ble_eq_true rfl), (Nat.le_of_ble_eq_true rfl)⟩) rfl rfl hl.1 (Nat.le_of_ble_eq_true rfl) dX6_addRoute_1 ⟨(Nat.le_of_ble_eq_true rfl), (Nat.le_of_ble_eq_true rfl)⟩) (Nat.le_of_ble_eq_true rfl) (Nat.le_of_ble_eq_true rfl) (fun _ _ h => h.elim) (fun v_1 w_1 H locs hq hP hS => ?_)
  obtain ⟨rfl, hw9⟩ := hq
  rw [hw9] at hP
  refine W.eq (g2 := F0 m 4 ls [.int (bI (pathB p1))]) rfl ?_
  refine lv_if_eq (tgt := 25) hx hb dX6_addRoute_4 (by decide) (fun c_4 => ?_) (fun c_4 => ?_)
  · have q4 : pathB p1 = false := bI_0.mp c_4
    exact wl_throwS (ik := 46) (is := 48) (ic := 50) (i := 0) C0 hst ht (by decide +kernel) (hts _ (by decide +kernel)) (hts _ (by decide +kernel)) rfl (fun _ h => List.mem_cons_of_mem _ (List.mem_append_left _ (List.mem_append_right _ h))) xc_IAE xn_IAE xg_IAE hP hS hl.1 dX6_addRoute_25 dX6_addRoute_28 dX6_addRoute_29 dX6_addRoute_31 dX6_addRoute_34 (Nat.le_of_ble_eq_true rfl) (Nat.le_of_ble_eq_true rfl) (Nat.le_of_ble_eq_true rfl) (Nat.le_of_ble_eq_true rfl) (Nat.le_of_ble_eq_true rfl) (Nat.le_of_ble_eq_true rfl) (⟨rfl, Or.inl (⟨by simp [s_addRoute, q4], rfl⟩)⟩)
  · have q4 : pathB p1 = true := bI_n.mp c_4
    have hpt := path_tn q4
    refine lv_iload_n hx hb dX6_addRoute_7 rfl (lv_at hl 2 rfl) ?_
    refine lv_iconst (v := 1) hx hb dX6_addRoute_8 (by decide) ?_
    refine lv_iconst (v := 5) hx hb dX6_addRoute_9 (by decide) ?_
    refine wl_on C0 ht hP hS (wl_runS (As := [.int c1, .int 1, .int 5]) (rest := []) C0 hP hS (k_X6_isWithin l hst E w H.size c1 1 5) (va_cwS 3 hts gX6_addRoute_X6_isWithin rfl rfl rfl (by decide +kernel) ⟨(Nat.le_of_ble_eq_true rfl), (Nat.le_of_ble_eq_true rfl)⟩) rfl rfl hl.1 (Nat.le_of_ble_eq_true rfl) dX6_addRoute_10 ⟨(Nat.le_of_ble_eq_true rfl), (Nat.le_of_ble_eq_true rfl)⟩) (Nat.le_of_ble_eq_true rfl) (Nat.le_of_ble_eq_true rfl) (fun _ _ h => h.elim) (fun v_10 w_10 H locs hq hP hS => ?_)
    obtain ⟨rfl, hw9⟩ := hq
    rw [hw9] at hP
    refine W.eq (g2 := F0 m 13 ls [.int (bI (wi c1 1 5))]) rfl ?_
    refine lv_if_eq (tgt := 25) hx hb dX6_addRoute_13 (by decide) (fun c_13 => ?_) (fun c_13 => ?_)
    · have q13 : wi c1 1 5 = false := bI_0.mp c_13
      exact wl_throwS (ik := 46) (is := 48) (ic := 50) (i := 0) C0 hst ht (by decide +kernel) (hts _ (by decide +kernel)) (hts _ (by decide +kernel)) rfl (fun _ h => List.mem_cons_of_mem _ (List.mem_append_left _ (List.mem_append_right _ h))) xc_IAE xn_IAE xg_IAE hP hS hl.1 dX6_addRoute_25 dX6_addRoute_28 dX6_addRoute_29 dX6_addRoute_31 dX6_addRoute_34 (Nat.le_of_ble_eq_true rfl) (Nat.le_of_ble_eq_true rfl) (Nat.le_of_ble_eq_true rfl) (Nat.le_of_ble_eq_true rfl) (Nat.le_of_ble_eq_true rfl) (Nat.le_of_ble_eq_true rfl) (⟨rfl, Or.inl (⟨by simp [s_addRoute, q4, q13], rfl⟩)⟩)
    · have q13 : wi c1 1 5 = true := bI_n.mp c_13
      have hct := wi_tn (lo := 1) (hi := 5) q13 (by omega) (by omega)
      refine lv_iload_n hx hb dX6_addRoute_16 rfl (lv_at hl 3 rfl) ?_
      refine lv_iload hx hb dX6_addRoute_17 (lv_at hl 4 rfl) ?_
      refine wl_on C0 ht hP hS (wl_runS (As := [.int l1, .int g1]) (rest := []) C0 hP hS (k_X6_isContract l hst E w H.size l1 g1) (va_cwS 2 hts gX6_addRoute_X6_isContract rfl rfl rfl (by decide +kernel) ⟨(Nat.le_of_ble_eq_true rfl), (Nat.le_of_ble_eq_true rfl)⟩) rfl rfl hl.1 (Nat.le_of_ble_eq_true rfl) dX6_addRoute_19 ⟨(Nat.le_of_ble_eq_true rfl), (Nat.le_of_ble_eq_true rfl)⟩) (Nat.le_of_ble_eq_true rfl) (Nat.le_of_ble_eq_true rfl) (fun _ _ h => h.elim) (fun v_19 w_19 H locs hq hP hS => ?_)
      obtain ⟨rfl, hw9⟩ := hq
      rw [hw9] at hP
      refine W.eq (g2 := F0 m 22 ls [.int (bI (ctr l1 g1))]) rfl ?_
      refine lv_if_ne (tgt := 35) hx hb dX6_addRoute_22 (by decide) (fun c_22 => ?_) (fun c_22 => ?_)
      · have q22 : ctr l1 g1 = true := bI_n.mp c_22
        have hgt := ctr_tn q22
        refine lv_aload_n hx hb dX6_addRoute_35 rfl (lv_at hl 0 rfl) ?_
        refine lv_iload_n hx hb dX6_addRoute_36 rfl (lv_at hl 1 rfl) ?_
        refine W.eq (g2 := F0 m 37 ls [.int (nI (tn p1)), .ref (AD 5 0)]) (by rw [hpt.1]) ?_
        refine wl_on C0 ht hP hS (wl_runV (As := [.int (nI (tn p1))]) (rest := []) C0 hP hS (k_X6_routeWithPath l hst E w H.size F AD N hI hs (tn p1) hpt.2) (cwV 1 hts gX6_addRoute_X6_routeWithPath rfl rfl rfl (by decide +kernel) ⟨(Nat.le_of_ble_eq_true rfl), (Nat.le_of_ble_eq_true rfl)⟩) hs.x rfl rfl rfl hl.1 (Nat.le_of_ble_eq_true rfl) dX6_addRoute_37 ⟨(Nat.le_of_ble_eq_true rfl), (Nat.le_of_ble_eq_true rfl)⟩) (Nat.le_of_ble_eq_true rfl) (Nat.le_of_ble_eq_true rfl) (fun _ _ h => h.elim) (fun v_37 w_37 H locs hq hP hS => ?_)
        obtain ⟨rfl, hw9⟩ := hq
        rw [hw9] at hP
        refine W.eq (g2 := F0 m 40 ls [va_rf (rfU (AD 0) (F 24 0) (wpt F (tn p1)))]) rfl ?_
        refine wl_rfU (fun h_40 => ?_) (fun h_40 => ?_)
        · refine lv_ifnull hx hb dX6_addRoute_40 ?_
          exact wl_throwS (ik := 46) (is := 57) (ic := 50) (i := 1) C0 hst ht (by decide +kernel) (hts _ (by decide +kernel)) (hts _ (by decide +kernel)) rfl (fun _ h => List.mem_cons_of_mem _ (List.mem_append_left _ (List.mem_append_right _ h))) xc_IAE xn_IAE xg_IAE hP hS hl.1 dX6_addRoute_43 dX6_addRoute_46 dX6_addRoute_47 dX6_addRoute_49 dX6_addRoute_52 (Nat.le_of_ble_eq_true rfl) (Nat.le_of_ble_eq_true rfl) (Nat.le_of_ble_eq_true rfl) (Nat.le_of_ble_eq_true rfl) (Nat.le_of_ble_eq_true rfl) (Nat.le_of_ble_eq_true rfl) (⟨rfl, Or.inl (⟨by simp [s_addRoute, q4, q13, q22, h_40], rfl⟩)⟩)
        · refine lv_ifnullN (tgt := 53) hx hb dX6_addRoute_40 (by decide) ?_
          refine lv_aload_n hx hb dX6_addRoute_53 rfl (lv_at hl 0 rfl) ?_
          refine wl_get (T := TX6) C0 hP hs.x hi_RX6 rfl 4 (by decide) hf_59 rfl dX6_addRoute_54 ?_
          refine lv_istore (lv' := [(5, .int (nI (F 24 0))), (0, .ref (AD 5 0)), (1, .int p1), (2, .int c1), (3, .int l1), (4, .int g1)]) hx hb dX6_addRoute_57 hl (by decide) rfl (fun ls hl => ?_)
          refine lv_iload hx hb dX6_addRoute_59 (lv_at hl 0 rfl) ?_
          refine lv_if_lt (tgt := 74) hx hb dX6_addRoute_61 (by decide) (fun c_61 => ?_) (fun c_61 => ?_)
          · exact absurd c_61 (Int32.not_lt.mpr (nI_pos' (by omega)))
          · refine lv_iload hx hb dX6_addRoute_64 (lv_at hl 0 rfl) ?_
            refine lv_aload_n hx hb dX6_addRoute_66 rfl (lv_at hl 1 rfl) ?_
            refine wl_get (T := TX6) C0 hP hs.x hi_RX6 rfl 0 (by decide) hf_11 rfl dX6_addRoute_67 ?_
            refine wl_alen (v := 8) C0 hP hs.aR 4 rfl rfl dX6_addRoute_70 ?_
            refine lv_icmp_lt (tgt := 84) hx hb dX6_addRoute_71 (by decide) (fun c_71 => ?_) (fun c_71 => ?_)
            · have q71 : F 24 0 < 8 := (nI_ltI (b := 8) (by omega) (by omega)).mp c_71
              have q71n : ¬ F 24 0 = 8 := by omega
              refine lv_aload_n hx hb dX6_addRoute_84 rfl (lv_at hl 1 rfl) ?_
              refine wl_get (T := TX6) C0 hP hs.x hi_RX6 rfl 0 (by decide) hf_11 rfl dX6_addRoute_85 ?_
              refine lv_iload hx hb dX6_addRoute_88 (lv_at hl 0 rfl) ?_
              refine wl_new (T := TX5) (N := 7) (fs := [.int 0, .int 0, .int 0, .int 0, .int 0, .int 0, .null]) (ci := 5) C0 hP hS hi_RX5 tyX5_ok rfl (hts (.classLink RX6 9 RX5) (by decide +kernel)) (hts (.instantiable RX5 7) (by decide +kernel)) (hts (.initialized RX5) (by decide +kernel)) (fun j hj => by rcases (show j = 0 ∨ j = 1 ∨ j = 2 ∨ j = 3 ∨ j = 4 ∨ j = 5 ∨ j = 6 by omega) with rfl | rfl | rfl | rfl | rfl | rfl | rfl <;> rfl) (Nat.le_of_ble_eq_true rfl) (Nat.le_of_ble_eq_true rfl) dX6_addRoute_90 (fun q_90 H hq_90 hP hS => ?_)
              refine W.widen (k := 1) (n := 7) (Nat.le_of_ble_eq_true rfl) (Nat.le_of_ble_eq_true rfl) ?_
              refine lv_dup hx hb dX6_addRoute_93 rfl ?_
              refine lv_iload hx hb dX6_addRoute_94 (lv_at hl 0 rfl) ?_
              refine lv_iload_n hx hb dX6_addRoute_96 rfl (lv_at hl 2 rfl) ?_
              refine lv_iload_n hx hb dX6_addRoute_97 rfl (lv_at hl 3 rfl) ?_
              refine lv_iload_n hx hb dX6_addRoute_98 rfl (lv_at hl 4 rfl) ?_
              refine lv_iload hx hb dX6_addRoute_99 (lv_at hl 5 rfl) ?_
              have f9_1 : (wU w q_90 (.inr (5, [.int 0, .int 0, .int 0, .int 0, .int 0, .int 0, .null]))) q_90 = some (.inr (5, [.int 0, .int 0, .int 0, .int 0, .int 0, .int 0, .null])) := (wU_s _ _ _)
              refine wl_on C0 ht hP hS (wl_runIN (host := "CallGateway") (As := [.int (nI (F 24 0)), .int p1, .int c1, .int l1, .int g1]) (rest := [.ref q_90, .int (nI (F 24 0)), .ref (AD 5 1)]) C0 hP hS (k_X5_init l hst E (wU w q_90 (.inr (5, [.int 0, .int 0, .int 0, .int 0, .int 0, .int 0, .null]))) H.size q_90 (nI (F 24 0)) p1 c1 l1 g1 f9_1) ⟨va_cnB 5 hts gX6_addRoute_X5_init_n68 rfl rfl rfl (C0.2.2.2.2.2.2.2.1.1 _ (by decide +kernel)) (hts _ (by decide +kernel)) (by decide +kernel) ⟨(Nat.le_of_ble_eq_true rfl), (Nat.le_of_ble_eq_true rfl)⟩, rfl, hts _ (by decide +kernel)⟩ rfl rfl hl.1 (Nat.le_of_ble_eq_true rfl) dX6_addRoute_101 ⟨(Nat.le_of_ble_eq_true rfl), (Nat.le_of_ble_eq_true rfl)⟩) (Nat.le_of_ble_eq_true rfl) (Nat.le_of_ble_eq_true rfl) (fun _ _ h => h.elim) (fun v_101 w_101 H locs hq hP hS => ?_)
              obtain ⟨rfl, hw9⟩ := hq
              rw [hw9] at hP
              rw [wU_c] at hP
              refine W.eq (g2 := F0 m 104 ls [.ref q_90, .int (nI (F 24 0)), .ref (AD 5 1)]) rfl ?_
              have f9_2 : (wU w q_90 (.inr (5, [.int (nI (F 24 0)), .int p1, .int c1, .int l1, .int g1, .int 0, .null]))) (AD 5 1) = some (.inl (E.2.1 4, 8, .inr (.inr (.inr (.inr (rfU (AD 0) (F 24 0))))))) := (wU_n _ _ (wne_f hq_90 hs.aR)).trans hs.aR
              have f9_3 : (wU w q_90 (.inr (5, [.int (nI (F 24 0)), .int p1, .int c1, .int l1, .int g1, .int 0, .null]))) q_90 = some (.inr (5, [.int (nI (F 24 0)), .int p1, .int c1, .int l1, .int g1, .int 0, .null])) := (wU_s _ _ _)
              refine wl_astq (t0 := 4) (ci := 5) C0 hP hS rfl rfl f9_2 f9_3 (vp_in_nI q71 (by omega)) dX6_addRoute_104 (fun H locs hP hS => ?_)
              rw [show (nI (F 24 0)).toNatClampNeg = F 24 0 from nI_clamp (by omega), rfU_up] at hP
              refine lv_aload_n hx hb dX6_addRoute_105 rfl (lv_at hl 1 rfl) ?_
              refine lv_dup hx hb dX6_addRoute_106 rfl ?_
              have f9_4 : (wU w q_90 (.inr (5, [.int (nI (F 24 0)), .int p1, .int c1, .int l1, .int g1, .int 0, .null]))) (AD 5 0) = some (.inr (6, [.ref (AD 5 1), .ref (AD 5 2), .ref (AD 5 3), .ref (AD 5 4), .int (nI (F 24 0)), .int (nI (F 24 1)), .int (nI (F 24 2)), .int (nI (F 24 4))])) := (wU_n _ _ (wne_f hq_90 hs.x)).trans hs.x
              have f9_5 : (wU (wU w q_90 (.inr (5, [.int (nI (F 24 0)), .int p1, .int c1, .int l1, .int g1, .int 0, .null]))) (AD 5 1) (.inl (E.2.1 4, 8, .inr (.inr (.inr (.inr (rfU (fun b => if b = F 24 0 then q_90 else AD 0 b) (F 24 0 + 1)))))))) (AD 5 0) = some (.inr (6, [.ref (AD 5 1), .ref (AD 5 2), .ref (AD 5 3), .ref (AD 5 4), .int (nI (F 24 0)), .int (nI (F 24 1)), .int (nI (F 24 2)), .int (nI (F 24 4))])) := (wU_n _ _ (wne f9_4 f9_2 (Nat.ne_of_beq_eq_false rfl))).trans f9_4
              refine wl_get (T := TX6) C0 hP f9_5 hi_RX6 rfl 4 (by decide) hf_59 rfl dX6_addRoute_107 ?_
              refine lv_iconst (v := 1) hx hb dX6_addRoute_110 (by decide) ?_
              refine lv_iadd hx hb dX6_addRoute_111 ?_
              rw [show ((nI (F 24 0)) + 1) = (nI (F 24 0 + 1)) from nI_1 _]
              refine wl_put (T := TX6) (ty0 := tyX6) (fs2 := [.ref (AD 5 1), .ref (AD 5 2), .ref (AD 5 3), .ref (AD 5 4), .int (nI (F 24 0 + 1)), .int (nI (F 24 1)), .int (nI (F 24 2)), .int (nI (F 24 4))]) C0 hP hS f9_5 hi_RX6 tyX6_ok nmX6 rfl 4 (by decide) hf_59 rfl rfl rfl rfl (Nat.le_of_ble_eq_true rfl) rfl dX6_addRoute_112 (fun H locs hP hS => ?_)
              have f9_6 : (wU (wU (wU w q_90 (.inr (5, [.int (nI (F 24 0)), .int p1, .int c1, .int l1, .int g1, .int 0, .null]))) (AD 5 1) (.inl (E.2.1 4, 8, .inr (.inr (.inr (.inr (rfU (fun b => if b = F 24 0 then q_90 else AD 0 b) (F 24 0 + 1)))))))) (AD 5 0) (.inr (6, [.ref (AD 5 1), .ref (AD 5 2), .ref (AD 5 3), .ref (AD 5 4), .int (nI (F 24 0 + 1)), .int (nI (F 24 1)), .int (nI (F 24 2)), .int (nI (F 24 4))]))) (AD 5 0) = some (.inr (6, [.ref (AD 5 1), .ref (AD 5 2), .ref (AD 5 3), .ref (AD 5 4), .int (nI (F 24 0 + 1)), .int (nI (F 24 1)), .int (nI (F 24 2)), .int (nI (F 24 4))])) := (wU_s _ _ _)
              have f9_7 : (wU (wU w q_90 (.inr (5, [.int (nI (F 24 0)), .int p1, .int c1, .int l1, .int g1, .int 0, .null]))) (AD 5 1) (.inl (E.2.1 4, 8, .inr (.inr (.inr (.inr (rfU (fun b => if b = F 24 0 then q_90 else AD 0 b) (F 24 0 + 1)))))))) (AD 5 1) = some (.inl (E.2.1 4, 8, .inr (.inr (.inr (.inr (rfU (fun b => if b = F 24 0 then q_90 else AD 0 b) (F 24 0 + 1))))))) := (wU_s _ _ _)
              have f9_8 : (wU (wU (wU w q_90 (.inr (5, [.int (nI (F 24 0)), .int p1, .int c1, .int l1, .int g1, .int 0, .null]))) (AD 5 1) (.inl (E.2.1 4, 8, .inr (.inr (.inr (.inr (rfU (fun b => if b = F 24 0 then q_90 else AD 0 b) (F 24 0 + 1)))))))) (AD 5 0) (.inr (6, [.ref (AD 5 1), .ref (AD 5 2), .ref (AD 5 3), .ref (AD 5 4), .int (nI (F 24 0 + 1)), .int (nI (F 24 1)), .int (nI (F 24 2)), .int (nI (F 24 4))]))) (AD 5 1) = some (.inl (E.2.1 4, 8, .inr (.inr (.inr (.inr (rfU (fun b => if b = F 24 0 then q_90 else AD 0 b) (F 24 0 + 1))))))) := (wU_n _ _ (wne f9_7 f9_5 (Nat.ne_of_beq_eq_false rfl))).trans f9_7
              have f9_9 : (wU (wU w q_90 (.inr (5, [.int (nI (F 24 0)), .int p1, .int c1, .int l1, .int g1, .int 0, .null]))) (AD 5 1) (.inl (E.2.1 4, 8, .inr (.inr (.inr (.inr (rfU (fun b => if b = F 24 0 then q_90 else AD 0 b) (F 24 0 + 1)))))))) q_90 = some (.inr (5, [.int (nI (F 24 0)), .int p1, .int c1, .int l1, .int g1, .int 0, .null])) := (wU_n _ _ (wne f9_3 f9_2 (Nat.ne_of_beq_eq_false rfl))).trans f9_3
              have f9_10 : (wU (wU (wU w q_90 (.inr (5, [.int (nI (F 24 0)), .int p1, .int c1, .int l1, .int g1, .int 0, .null]))) (AD 5 1) (.inl (E.2.1 4, 8, .inr (.inr (.inr (.inr (rfU (fun b => if b = F 24 0 then q_90 else AD 0 b) (F 24 0 + 1)))))))) (AD 5 0) (.inr (6, [.ref (AD 5 1), .ref (AD 5 2), .ref (AD 5 3), .ref (AD 5 4), .int (nI (F 24 0 + 1)), .int (nI (F 24 1)), .int (nI (F 24 2)), .int (nI (F 24 4))]))) q_90 = some (.inr (5, [.int (nI (F 24 0)), .int p1, .int c1, .int l1, .int g1, .int 0, .null])) := (wU_n _ _ (wne f9_9 f9_5 (Nat.ne_of_beq_eq_false rfl))).trans f9_9
              have hz := hI.z0 (Nat.le_refl (F 24 0))
              have hsn : wSys E (f_addRoute F (tn p1) (tn c1) (tn l1) (tn g1)) (fU AD 0 (F 24 0) q_90) (wU (wU (wU w q_90 (.inr (5, [.int (nI (F 24 0)), .int p1, .int c1, .int l1, .int g1, .int 0, .null]))) (AD 5 1) (.inl (E.2.1 4, 8, .inr (.inr (.inr (.inr (rfU (fun b => if b = F 24 0 then q_90 else AD 0 b) (F 24 0 + 1)))))))) (AD 5 0) (.inr (6, [.ref (AD 5 1), .ref (AD 5 2), .ref (AD 5 3), .ref (AD 5 4), .int (nI (F 24 0 + 1)), .int (nI (F 24 1)), .int (nI (F 24 2)), .int (nI (F 24 4))]))) := U_aro (q := q_90) hs hq_90 (by simp [f_addRoute, fU]) (by simp [f_addRoute, fU, hz.2]) (fun a b h => by simp only [f_addRoute, fU]; (repeat' split) <;> first | rfl | omega) (by rw [f9_6]; simp [e_x, f_addRoute, fU]) (by rw [f9_8]) (by rw [f9_10]; simp [e_route, f_addRoute, fU, rfC, va_rf, hz.1, hz.2, nI_0, hpt.1, hct.1, hgt.1, hgt.2.1]) (fun b h1 h2 h3 => (by simp [wU, h1, h2, h3]))
              have hkn : wKp w (wU (wU (wU w q_90 (.inr (5, [.int (nI (F 24 0)), .int p1, .int c1, .int l1, .int g1, .int 0, .null]))) (AD 5 1) (.inl (E.2.1 4, 8, .inr (.inr (.inr (.inr (rfU (fun b => if b = F 24 0 then q_90 else AD 0 b) (F 24 0 + 1)))))))) (AD 5 0) (.inr (6, [.ref (AD 5 1), .ref (AD 5 2), .ref (AD 5 3), .ref (AD 5 4), .int (nI (F 24 0 + 1)), .int (nI (F 24 1)), .int (nI (F 24 2)), .int (nI (F 24 4))]))) := (wKp.u (wKp.u (wKp.f wKp.rf hq_90) f9_2 rfl) f9_5 rfl)
              refine lv_iload hx hb dX6_addRoute_115 (lv_at hl 0 rfl) ?_
              have hev : s_addRoute F p1 c1 l1 g1 = (0, nI (F 24 0), (f_addRoute F (tn p1) (tn c1) (tn l1) (tn g1))) := by simp [s_addRoute, q4, q13, q22, Nat.not_lt.mpr h_40, q71n]
              exact wl_iret C0 hr rfl hP hS dX6_addRoute_117 (Nat.le_of_ble_eq_true rfl) (Nat.le_of_ble_eq_true rfl) (⟨(fU AD 0 (F 24 0) q_90), by rw [hev], by rw [hev], by rw [hev]; exact hsn, (fU_k (by decide)), hkn⟩)
            · have q71 : F 24 0 = 8 := by
                have h : ¬ F 24 0 < 8 := fun q => c_71 ((nI_ltI (b := 8) (by omega) (by omega)).mpr q)
                omega
              exact wl_throwS (ik := 63) (is := 65) (ic := 67) (i := 2) C0 hst ht (by decide +kernel) (hts _ (by decide +kernel)) (hts _ (by decide +kernel)) rfl (fun _ h => List.mem_cons_of_mem _ (List.mem_append_right _ h)) xc_ISE xn_ISE xg_ISE hP hS hl.1 dX6_addRoute_74 dX6_addRoute_77 dX6_addRoute_78 dX6_addRoute_80 dX6_addRoute_83 (Nat.le_of_ble_eq_true rfl) (Nat.le_of_ble_eq_true rfl) (Nat.le_of_ble_eq_true rfl) (Nat.le_of_ble_eq_true rfl) (Nat.le_of_ble_eq_true rfl) (Nat.le_of_ble_eq_true rfl) (⟨rfl, Or.inr (⟨by simp [s_addRoute, q4, q13, q22, show 8 ≤ wpt F (tn p1) by omega, q71], rfl⟩)⟩)
      · have q22 : ctr l1 g1 = false := bI_0.mp c_22
        exact wl_throwS (ik := 46) (is := 48) (ic := 50) (i := 0) C0 hst ht (by decide +kernel) (hts _ (by decide +kernel)) (hts _ (by decide +kernel)) rfl (fun _ h => List.mem_cons_of_mem _ (List.mem_append_left _ (List.mem_append_right _ h))) xc_IAE xn_IAE xg_IAE hP hS hl.1 dX6_addRoute_25 dX6_addRoute_28 dX6_addRoute_29 dX6_addRoute_31 dX6_addRoute_34 (Nat.le_of_ble_eq_true rfl) (Nat.le_of_ble_eq_true rfl) (Nat.le_of_ble_eq_true rfl) (Nat.le_of_ble_eq_true rfl) (Nat.le_of_ble_eq_true rfl) (Nat.le_of_ble_eq_true rfl) (⟨rfl, Or.inl (⟨by simp [s_addRoute, q4, q13, q22], rfl⟩)⟩)

set_option maxHeartbeats 4000000 in
set_option maxRecDepth 100000 in
theorem k_X6_route (l : Launch) (hst : l.stackTraces = false) (E : wEn) (w : wW) (sz : Nat) (F : FF) (AD : AT) (N : Nat) (hI : wInv F N) (hs : wSys E F AD w) (p1 : Int32) : wM l yX6_route wsX6_route 3 2 12 E w sz [.ref (AD 5 0), .int p1] (fun v w2 => ∃ AD2 : AT, (s_route F p1).1 = 0 ∧ v = some (.int (s_route F p1).2.1) ∧ wSys E (s_route F p1).2.2 AD2 w2 ∧ AD2 5 0 = AD 5 0 ∧ wKp w w2) (fun X w2 => w2 = w ∧ ((s_route F p1).1 = 1 ∧ X = xIAE ∨ (s_route F p1).1 = 2 ∧ X = xNSE)) := by
  refine wm_start (own := RX6) (cc := cX6_route) (maxL := 2) (ret := (some .int)) rfl (by decide) rfl (Nat.le_of_ble_eq_true rfl) ?_
  intro p e s m args below meth c ls C0 hr hin ht hP hS hl
  have hx := C0.1
  have hb := C0.2.1
  have hts := C0.2.2.2.2.1
  have hown := C0.2.2.2.1
  have hl : lv_has ls 2 [(0, .ref (AD 5 0)), (1, .int p1)] := hl
  have hn := hI.n
  refine lv_iload_n hx hb dX6_route_0 rfl (lv_at hl 1 rfl) ?_
  refine wl_on C0 ht hP hS (wl_runS (As := [.int p1]) (rest := []) C0 hP hS (k_X6_requirePath l hst E w s.heap.size p1) (va_cwS 1 hts gX6_route_X6_requirePath rfl rfl rfl (by decide +kernel) ⟨(Nat.le_of_ble_eq_true rfl), (Nat.le_of_ble_eq_true rfl)⟩) rfl rfl hl.1 (Nat.le_of_ble_eq_true rfl) dX6_route_1 ⟨(Nat.le_of_ble_eq_true rfl), (Nat.le_of_ble_eq_true rfl)⟩) (Nat.le_of_ble_eq_true rfl) (Nat.le_of_ble_eq_true rfl) (fun X w2 h => ⟨h.2.1, Or.inl (⟨by simp [s_route, h.2.2], h.1⟩)⟩) (fun v_1 w_1 H locs hq hP hS => ?_)
  obtain ⟨rfl, hw9, hpa⟩ := hq
  rw [hw9] at hP
  refine W.eq (g2 := F0 m 4 ls []) rfl ?_
  refine W.widen (k := 1) (n := 6) (Nat.le_of_ble_eq_true rfl) (Nat.le_of_ble_eq_true rfl) ?_
  refine lv_aload_n hx hb dX6_route_4 rfl (lv_at hl 0 rfl) ?_
  refine lv_iload_n hx hb dX6_route_5 rfl (lv_at hl 1 rfl) ?_
  have hpt := path_tn hpa
  refine W.eq (g2 := F0 m 6 ls [.int (nI (tn p1)), .ref (AD 5 0)]) (by rw [hpt.1]) ?_
  refine wl_on C0 ht hP hS (wl_runV (As := [.int (nI (tn p1))]) (rest := []) C0 hP hS (k_X6_routeByTakingOff l hst E w H.size F AD N hI hs (tn p1) hpt.2) (cwV 1 hts gX6_route_X6_routeByTakingOff rfl rfl rfl (by decide +kernel) ⟨(Nat.le_of_ble_eq_true rfl), (Nat.le_of_ble_eq_true rfl)⟩) hs.x rfl rfl rfl hl.1 (Nat.le_of_ble_eq_true rfl) dX6_route_6 ⟨(Nat.le_of_ble_eq_true rfl), (Nat.le_of_ble_eq_true rfl)⟩) (Nat.le_of_ble_eq_true rfl) (Nat.le_of_ble_eq_true rfl) (fun _ _ h => h.elim) (fun v_6 w_6 H locs hq hP hS => ?_)
  obtain ⟨rfl, hw9⟩ := hq
  rw [hw9] at hP
  refine W.eq (g2 := F0 m 9 ls [va_rf (rfU (AD 0) (F 24 0) (gN F 4 (tn p1)))]) rfl ?_
  refine wl_rfU (fun h_9 => ?_) (fun h_9 => ?_)
  · refine wl_on C0 ht hP hS (wl_runS (As := [.ref (AD 0 (gN F 4 (tn p1)))]) (rest := []) C0 hP hS (k_X6_numberOfFound l hst E w H.size F AD N hI hs (gN F 4 (tn p1)) h_9) (va_cwS 1 hts gX6_route_X6_numberOfFound rfl rfl rfl (by decide +kernel) ⟨(Nat.le_of_ble_eq_true rfl), (Nat.le_of_ble_eq_true rfl)⟩) rfl rfl hl.1 (Nat.le_of_ble_eq_true rfl) dX6_route_9 ⟨(Nat.le_of_ble_eq_true rfl), (Nat.le_of_ble_eq_true rfl)⟩) (Nat.le_of_ble_eq_true rfl) (Nat.le_of_ble_eq_true rfl) (fun _ _ h => h.elim) (fun v_9 w_9 H locs hq hP hS => ?_)
    obtain ⟨rfl, hw9⟩ := hq
    rw [hw9] at hP
    refine W.eq (g2 := F0 m 12 ls [.int (nI (gN F 4 (tn p1)))]) rfl ?_
    refine W.widen (k := 2) (n := 12) (Nat.le_of_ble_eq_true rfl) (Nat.le_of_ble_eq_true rfl) ?_
    have hev : s_route F p1 = (0, nI (gN F 4 (tn p1)), F) := by simp [s_route, hpa, h_9]
    exact wl_iret C0 hr rfl hP hS dX6_route_12 (Nat.le_of_ble_eq_true rfl) (Nat.le_of_ble_eq_true rfl) (⟨AD, by rw [hev], by rw [hev], by rw [hev]; exact hs, rfl, wKp.rf⟩)
  · refine wl_on C0 ht hP hS (wl_runS (As := [.null]) (rest := []) C0 hP hS (k_X6_numberOfFound_n l hst E w H.size ) (va_cwS 1 hts gX6_route_X6_numberOfFound rfl rfl rfl (by decide +kernel) ⟨(Nat.le_of_ble_eq_true rfl), (Nat.le_of_ble_eq_true rfl)⟩) rfl rfl hl.1 (Nat.le_of_ble_eq_true rfl) dX6_route_9 ⟨(Nat.le_of_ble_eq_true rfl), (Nat.le_of_ble_eq_true rfl)⟩) (Nat.le_of_ble_eq_true rfl) (Nat.le_of_ble_eq_true rfl) (fun X w2 h => ⟨h.2, Or.inr ⟨by simp [s_route, hpa, Nat.not_lt.mpr h_9], h.1⟩⟩) (fun v_9 w_9 H locs hq hP hS => ?_)
    exact hq.elim

set_option maxHeartbeats 4000000 in
set_option maxRecDepth 100000 in
theorem k_X6_routeByComparing (l : Launch) (hst : l.stackTraces = false) (E : wEn) (w : wW) (sz : Nat) (F : FF) (AD : AT) (N : Nat) (hI : wInv F N) (hs : wSys E F AD w) (p1 : Int32) : wM l yX6_routeByComparing wsX6_routeByComparing 3 2 12 E w sz [.ref (AD 5 0), .int p1] (fun v w2 => ∃ AD2 : AT, (s_route F p1).1 = 0 ∧ v = some (.int (s_route F p1).2.1) ∧ wSys E (s_route F p1).2.2 AD2 w2 ∧ AD2 5 0 = AD 5 0 ∧ wKp w w2) (fun X w2 => w2 = w ∧ ((s_route F p1).1 = 1 ∧ X = xIAE ∨ (s_route F p1).1 = 2 ∧ X = xNSE)) := by
  refine wm_start (own := RX6) (cc := cX6_routeByComparing) (maxL := 2) (ret := (some .int)) rfl (by decide) rfl (Nat.le_of_ble_eq_true rfl) ?_
  intro p e s m args below meth c ls C0 hr hin ht hP hS hl
  have hx := C0.1
  have hb := C0.2.1
  have hts := C0.2.2.2.2.1
  have hown := C0.2.2.2.1
  have hl : lv_has ls 2 [(0, .ref (AD 5 0)), (1, .int p1)] := hl
  have hn := hI.n
  refine lv_iload_n hx hb dX6_routeByComparing_0 rfl (lv_at hl 1 rfl) ?_
  refine wl_on C0 ht hP hS (wl_runS (As := [.int p1]) (rest := []) C0 hP hS (k_X6_requirePath l hst E w s.heap.size p1) (va_cwS 1 hts gX6_routeByComparing_X6_requirePath rfl rfl rfl (by decide +kernel) ⟨(Nat.le_of_ble_eq_true rfl), (Nat.le_of_ble_eq_true rfl)⟩) rfl rfl hl.1 (Nat.le_of_ble_eq_true rfl) dX6_routeByComparing_1 ⟨(Nat.le_of_ble_eq_true rfl), (Nat.le_of_ble_eq_true rfl)⟩) (Nat.le_of_ble_eq_true rfl) (Nat.le_of_ble_eq_true rfl) (fun X w2 h => ⟨h.2.1, Or.inl (⟨by simp [s_route, h.2.2], h.1⟩)⟩) (fun v_1 w_1 H locs hq hP hS => ?_)
  obtain ⟨rfl, hw9, hpa⟩ := hq
  rw [hw9] at hP
  refine W.eq (g2 := F0 m 4 ls []) rfl ?_
  refine W.widen (k := 1) (n := 6) (Nat.le_of_ble_eq_true rfl) (Nat.le_of_ble_eq_true rfl) ?_
  refine lv_aload_n hx hb dX6_routeByComparing_4 rfl (lv_at hl 0 rfl) ?_
  refine lv_iload_n hx hb dX6_routeByComparing_5 rfl (lv_at hl 1 rfl) ?_
  have hpt := path_tn hpa
  refine W.eq (g2 := F0 m 6 ls [.int (nI (tn p1)), .ref (AD 5 0)]) (by rw [hpt.1]) ?_
  refine wl_on C0 ht hP hS (wl_runV (As := [.int (nI (tn p1))]) (rest := []) C0 hP hS (k_X6_longestThatFits l hst E w H.size F AD N hI hs (tn p1) hpt.2) (cwV 1 hts gX6_routeByComparing_X6_longestThatFits rfl rfl rfl (by decide +kernel) ⟨(Nat.le_of_ble_eq_true rfl), (Nat.le_of_ble_eq_true rfl)⟩) hs.x rfl rfl rfl hl.1 (Nat.le_of_ble_eq_true rfl) dX6_routeByComparing_6 ⟨(Nat.le_of_ble_eq_true rfl), (Nat.le_of_ble_eq_true rfl)⟩) (Nat.le_of_ble_eq_true rfl) (Nat.le_of_ble_eq_true rfl) (fun _ _ h => h.elim) (fun v_6 w_6 H locs hq hP hS => ?_)
  obtain ⟨rfl, hw9⟩ := hq
  rw [hw9] at hP
  refine W.eq (g2 := F0 m 9 ls [va_rf (rfU (AD 0) (F 24 0) (gN F 4 (tn p1)))]) rfl ?_
  refine wl_rfU (fun h_9 => ?_) (fun h_9 => ?_)
  · refine wl_on C0 ht hP hS (wl_runS (As := [.ref (AD 0 (gN F 4 (tn p1)))]) (rest := []) C0 hP hS (k_X6_numberOfFound l hst E w H.size F AD N hI hs (gN F 4 (tn p1)) h_9) (va_cwS 1 hts gX6_routeByComparing_X6_numberOfFound rfl rfl rfl (by decide +kernel) ⟨(Nat.le_of_ble_eq_true rfl), (Nat.le_of_ble_eq_true rfl)⟩) rfl rfl hl.1 (Nat.le_of_ble_eq_true rfl) dX6_routeByComparing_9 ⟨(Nat.le_of_ble_eq_true rfl), (Nat.le_of_ble_eq_true rfl)⟩) (Nat.le_of_ble_eq_true rfl) (Nat.le_of_ble_eq_true rfl) (fun _ _ h => h.elim) (fun v_9 w_9 H locs hq hP hS => ?_)
    obtain ⟨rfl, hw9⟩ := hq
    rw [hw9] at hP
    refine W.eq (g2 := F0 m 12 ls [.int (nI (gN F 4 (tn p1)))]) rfl ?_
    refine W.widen (k := 2) (n := 12) (Nat.le_of_ble_eq_true rfl) (Nat.le_of_ble_eq_true rfl) ?_
    have hev : s_route F p1 = (0, nI (gN F 4 (tn p1)), F) := by simp [s_route, hpa, h_9]
    exact wl_iret C0 hr rfl hP hS dX6_routeByComparing_12 (Nat.le_of_ble_eq_true rfl) (Nat.le_of_ble_eq_true rfl) (⟨AD, by rw [hev], by rw [hev], by rw [hev]; exact hs, rfl, wKp.rf⟩)
  · refine wl_on C0 ht hP hS (wl_runS (As := [.null]) (rest := []) C0 hP hS (k_X6_numberOfFound_n l hst E w H.size ) (va_cwS 1 hts gX6_routeByComparing_X6_numberOfFound rfl rfl rfl (by decide +kernel) ⟨(Nat.le_of_ble_eq_true rfl), (Nat.le_of_ble_eq_true rfl)⟩) rfl rfl hl.1 (Nat.le_of_ble_eq_true rfl) dX6_routeByComparing_9 ⟨(Nat.le_of_ble_eq_true rfl), (Nat.le_of_ble_eq_true rfl)⟩) (Nat.le_of_ble_eq_true rfl) (Nat.le_of_ble_eq_true rfl) (fun X w2 h => ⟨h.2, Or.inr ⟨by simp [s_route, hpa, Nat.not_lt.mpr h_9], h.1⟩⟩) (fun v_9 w_9 H locs hq hP hS => ?_)
    exact hq.elim

set_option maxHeartbeats 4000000 in
set_option maxRecDepth 100000 in
theorem k_X6_addPlan (l : Launch) (hst : l.stackTraces = false) (E : wEn) (w : wW) (sz : Nat) (F : FF) (AD : AT) (N : Nat) (hI : wInv F N) (hs : wSys E F AD w) (r1 b1 p1 : Int32) : wM l yX6_addPlan wsX6_addPlan 2 1 6 E w sz [.ref (AD 5 0), .int r1, .int b1, .int p1] (fun v w2 => ∃ AD2 : AT, (s_addPlan F r1 b1 p1).1 = 0 ∧ v = some (.int (s_addPlan F r1 b1 p1).2.1) ∧ wSys E (s_addPlan F r1 b1 p1).2.2 AD2 w2 ∧ AD2 5 0 = AD 5 0 ∧ wKp w w2) (fun X w2 => w2 = w ∧ ((s_addPlan F r1 b1 p1).1 = 1 ∧ X = xIAE ∨ (s_addPlan F r1 b1 p1).1 = 2 ∧ X = xISE)) := by
  refine wm_start (own := RX6) (cc := cX6_addPlan) (maxL := 5) (ret := (some .int)) rfl (by decide) rfl (Nat.le_of_ble_eq_true rfl) ?_
  intro p e s m args below meth c ls C0 hr hin ht hP hS hl
  have hx := C0.1
  have hb := C0.2.1
  have hts := C0.2.2.2.2.1
  have hown := C0.2.2.2.1
  have hl : lv_has ls 5 [(0, .ref (AD 5 0)), (1, .int r1), (2, .int b1), (3, .int p1)] := hl
  have hf_152 : (Cond.fieldLink RX6 152 "CallGateway" "planCount" "I").before args s = true := hts _ (by decide +kernel)
  have hf_17 : (Cond.fieldLink RX6 17 "CallGateway" "plans" "[LCallGateway$Plan;").before args s = true := hts _ (by decide +kernel)
  have hi_RX4 : ∀ w ∈ u_ws RX4 TX4 3, w ∈ wsX6_addPlan := fun _ h => List.mem_cons_of_mem _ (List.mem_append_left _ (List.mem_append_left _ (List.mem_append_right _ h)))
  have hi_RX6 : ∀ w ∈ u_ws RX6 TX6 8, w ∈ wsX6_addPlan := fun _ h => List.mem_cons_of_mem _ (List.mem_append_left _ (List.mem_append_left _ (List.mem_append_left _ (List.mem_append_right _ h))))
  have hn := hI.n
  refine lv_iload_n hx hb dX6_addPlan_0 rfl (lv_at hl 1 rfl) ?_
  refine lv_iconst (v := 1) hx hb dX6_addPlan_1 (by decide) ?_
  refine lv_bipush (v := 20) hx hb dX6_addPlan_2 (by decide) ?_
  refine wl_on C0 ht hP hS (wl_runS (As := [.int r1, .int 1, .int 20]) (rest := []) C0 hP hS (k_X6_isWithin l hst E w s.heap.size r1 1 20) (va_cwS 3 hts gX6_addPlan_X6_isWithin rfl rfl rfl (by decide +kernel) ⟨(Nat.le_of_ble_eq_true rfl), (Nat.le_of_ble_eq_true rfl)⟩) rfl rfl hl.1 (Nat.le_of_ble_eq_true rfl) dX6_addPlan_4 ⟨(Nat.le_of_ble_eq_true rfl), (Nat.le_of_ble_eq_true rfl)⟩) (Nat.le_of_ble_eq_true rfl) (Nat.le_of_ble_eq_true rfl) (fun _ _ h => h.elim) (fun v_4 w_4 H locs hq hP hS => ?_)
  obtain ⟨rfl, hw9⟩ := hq
  rw [hw9] at hP
  refine W.eq (g2 := F0 m 7 ls [.int (bI (wi r1 1 20))]) rfl ?_
  refine lv_if_eq (tgt := 30) hx hb dX6_addPlan_7 (by decide) (fun c_7 => ?_) (fun c_7 => ?_)
  · have q7 : wi r1 1 20 = false := bI_0.mp c_7
    exact wl_throwS (ik := 46) (is := 48) (ic := 50) (i := 0) C0 hst ht (by decide +kernel) (hts _ (by decide +kernel)) (hts _ (by decide +kernel)) rfl (fun _ h => List.mem_cons_of_mem _ (List.mem_append_left _ (List.mem_append_right _ h))) xc_IAE xn_IAE xg_IAE hP hS hl.1 dX6_addPlan_30 dX6_addPlan_33 dX6_addPlan_34 dX6_addPlan_36 dX6_addPlan_39 (Nat.le_of_ble_eq_true rfl) (Nat.le_of_ble_eq_true rfl) (Nat.le_of_ble_eq_true rfl) (Nat.le_of_ble_eq_true rfl) (Nat.le_of_ble_eq_true rfl) (Nat.le_of_ble_eq_true rfl) (⟨rfl, Or.inl (⟨by simp [s_addPlan, q7], rfl⟩)⟩)
  · have q7 : wi r1 1 20 = true := bI_n.mp c_7
    have hrt := wi_tn (lo := 1) (hi := 20) q7 (by omega) (by omega)
    refine lv_iload_n hx hb dX6_addPlan_10 rfl (lv_at hl 2 rfl) ?_
    refine lv_iconst (v := 1) hx hb dX6_addPlan_11 (by decide) ?_
    refine lv_bipush (v := 100) hx hb dX6_addPlan_12 (by decide) ?_
    refine wl_on C0 ht hP hS (wl_runS (As := [.int b1, .int 1, .int 100]) (rest := []) C0 hP hS (k_X6_isWithin l hst E w H.size b1 1 100) (va_cwS 3 hts gX6_addPlan_X6_isWithin rfl rfl rfl (by decide +kernel) ⟨(Nat.le_of_ble_eq_true rfl), (Nat.le_of_ble_eq_true rfl)⟩) rfl rfl hl.1 (Nat.le_of_ble_eq_true rfl) dX6_addPlan_14 ⟨(Nat.le_of_ble_eq_true rfl), (Nat.le_of_ble_eq_true rfl)⟩) (Nat.le_of_ble_eq_true rfl) (Nat.le_of_ble_eq_true rfl) (fun _ _ h => h.elim) (fun v_14 w_14 H locs hq hP hS => ?_)
    obtain ⟨rfl, hw9⟩ := hq
    rw [hw9] at hP
    refine W.eq (g2 := F0 m 17 ls [.int (bI (wi b1 1 100))]) rfl ?_
    refine lv_if_eq (tgt := 30) hx hb dX6_addPlan_17 (by decide) (fun c_17 => ?_) (fun c_17 => ?_)
    · have q17 : wi b1 1 100 = false := bI_0.mp c_17
      exact wl_throwS (ik := 46) (is := 48) (ic := 50) (i := 0) C0 hst ht (by decide +kernel) (hts _ (by decide +kernel)) (hts _ (by decide +kernel)) rfl (fun _ h => List.mem_cons_of_mem _ (List.mem_append_left _ (List.mem_append_right _ h))) xc_IAE xn_IAE xg_IAE hP hS hl.1 dX6_addPlan_30 dX6_addPlan_33 dX6_addPlan_34 dX6_addPlan_36 dX6_addPlan_39 (Nat.le_of_ble_eq_true rfl) (Nat.le_of_ble_eq_true rfl) (Nat.le_of_ble_eq_true rfl) (Nat.le_of_ble_eq_true rfl) (Nat.le_of_ble_eq_true rfl) (Nat.le_of_ble_eq_true rfl) (⟨rfl, Or.inl (⟨by simp [s_addPlan, q7, q17], rfl⟩)⟩)
    · have q17 : wi b1 1 100 = true := bI_n.mp c_17
      have hbt := wi_tn (lo := 1) (hi := 100) q17 (by omega) (by omega)
      refine lv_iload_n hx hb dX6_addPlan_20 rfl (lv_at hl 3 rfl) ?_
      refine lv_iconst (v := 0) hx hb dX6_addPlan_21 (by decide) ?_
      refine lv_bipush (v := 99) hx hb dX6_addPlan_22 (by decide) ?_
      refine wl_on C0 ht hP hS (wl_runS (As := [.int p1, .int 0, .int 99]) (rest := []) C0 hP hS (k_X6_isWithin l hst E w H.size p1 0 99) (va_cwS 3 hts gX6_addPlan_X6_isWithin rfl rfl rfl (by decide +kernel) ⟨(Nat.le_of_ble_eq_true rfl), (Nat.le_of_ble_eq_true rfl)⟩) rfl rfl hl.1 (Nat.le_of_ble_eq_true rfl) dX6_addPlan_24 ⟨(Nat.le_of_ble_eq_true rfl), (Nat.le_of_ble_eq_true rfl)⟩) (Nat.le_of_ble_eq_true rfl) (Nat.le_of_ble_eq_true rfl) (fun _ _ h => h.elim) (fun v_24 w_24 H locs hq hP hS => ?_)
      obtain ⟨rfl, hw9⟩ := hq
      rw [hw9] at hP
      refine W.eq (g2 := F0 m 27 ls [.int (bI (wi p1 0 99))]) rfl ?_
      refine lv_if_ne (tgt := 40) hx hb dX6_addPlan_27 (by decide) (fun c_27 => ?_) (fun c_27 => ?_)
      · have q27 : wi p1 0 99 = true := bI_n.mp c_27
        have hpt := wi_tn (lo := 0) (hi := 99) q27 (by omega) (by omega)
        refine lv_aload_n hx hb dX6_addPlan_40 rfl (lv_at hl 0 rfl) ?_
        refine wl_get (T := TX6) C0 hP hs.x hi_RX6 rfl 5 (by decide) hf_152 rfl dX6_addPlan_41 ?_
        refine lv_istore (lv' := [(4, .int (nI (F 24 1))), (0, .ref (AD 5 0)), (1, .int r1), (2, .int b1), (3, .int p1)]) hx hb dX6_addPlan_44 hl (by decide) rfl (fun ls hl => ?_)
        refine lv_iload hx hb dX6_addPlan_46 (lv_at hl 0 rfl) ?_
        refine lv_if_lt (tgt := 61) hx hb dX6_addPlan_48 (by decide) (fun c_48 => ?_) (fun c_48 => ?_)
        · exact absurd c_48 (Int32.not_lt.mpr (nI_pos' (by omega)))
        · refine lv_iload hx hb dX6_addPlan_51 (lv_at hl 0 rfl) ?_
          refine lv_aload_n hx hb dX6_addPlan_53 rfl (lv_at hl 1 rfl) ?_
          refine wl_get (T := TX6) C0 hP hs.x hi_RX6 rfl 1 (by decide) hf_17 rfl dX6_addPlan_54 ?_
          refine wl_alen (v := 3) C0 hP hs.aP 5 rfl rfl dX6_addPlan_57 ?_
          refine lv_icmp_lt (tgt := 71) hx hb dX6_addPlan_58 (by decide) (fun c_58 => ?_) (fun c_58 => ?_)
          · have q58 : F 24 1 < 3 := (nI_ltI (b := 3) (by omega) (by omega)).mp c_58
            have q58n : ¬ F 24 1 = 3 := by omega
            refine lv_aload_n hx hb dX6_addPlan_71 rfl (lv_at hl 1 rfl) ?_
            refine wl_get (T := TX6) C0 hP hs.x hi_RX6 rfl 1 (by decide) hf_17 rfl dX6_addPlan_72 ?_
            refine lv_iload hx hb dX6_addPlan_75 (lv_at hl 0 rfl) ?_
            refine wl_new (T := TX4) (N := 3) (fs := [.int 0, .int 0, .int 0]) (ci := 4) C0 hP hS hi_RX4 tyX4_ok rfl (hts (.classLink RX6 15 RX4) (by decide +kernel)) (hts (.instantiable RX4 3) (by decide +kernel)) (hts (.initialized RX4) (by decide +kernel)) (fun j hj => by rcases (show j = 0 ∨ j = 1 ∨ j = 2 by omega) with rfl | rfl | rfl <;> rfl) (Nat.le_of_ble_eq_true rfl) (Nat.le_of_ble_eq_true rfl) dX6_addPlan_77 (fun q_77 H hq_77 hP hS => ?_)
            refine W.widen (k := 1) (n := 3) (Nat.le_of_ble_eq_true rfl) (Nat.le_of_ble_eq_true rfl) ?_
            refine lv_dup hx hb dX6_addPlan_80 rfl ?_
            refine lv_iload_n hx hb dX6_addPlan_81 rfl (lv_at hl 2 rfl) ?_
            refine lv_iload_n hx hb dX6_addPlan_82 rfl (lv_at hl 3 rfl) ?_
            refine lv_iload_n hx hb dX6_addPlan_83 rfl (lv_at hl 4 rfl) ?_
            have f9_1 : (wU w q_77 (.inr (4, [.int 0, .int 0, .int 0]))) q_77 = some (.inr (4, [.int 0, .int 0, .int 0])) := (wU_s _ _ _)
            refine wl_on C0 ht hP hS (wl_runIN (host := "CallGateway") (As := [.int r1, .int b1, .int p1]) (rest := [.ref q_77, .int (nI (F 24 1)), .ref (AD 5 2)]) C0 hP hS (k_X4_init l hst E (wU w q_77 (.inr (4, [.int 0, .int 0, .int 0]))) H.size q_77 r1 b1 p1 f9_1) ⟨va_cnB 3 hts gX6_addPlan_X4_init_n157 rfl rfl rfl (C0.2.2.2.2.2.2.2.1.1 _ (by decide +kernel)) (hts _ (by decide +kernel)) (by decide +kernel) ⟨(Nat.le_of_ble_eq_true rfl), (Nat.le_of_ble_eq_true rfl)⟩, rfl, hts _ (by decide +kernel)⟩ rfl rfl hl.1 (Nat.le_of_ble_eq_true rfl) dX6_addPlan_84 ⟨(Nat.le_of_ble_eq_true rfl), (Nat.le_of_ble_eq_true rfl)⟩) (Nat.le_of_ble_eq_true rfl) (Nat.le_of_ble_eq_true rfl) (fun _ _ h => h.elim) (fun v_84 w_84 H locs hq hP hS => ?_)
            obtain ⟨rfl, hw9⟩ := hq
            rw [hw9] at hP
            rw [wU_c] at hP
            refine W.eq (g2 := F0 m 87 ls [.ref q_77, .int (nI (F 24 1)), .ref (AD 5 2)]) rfl ?_
            have f9_2 : (wU w q_77 (.inr (4, [.int r1, .int b1, .int p1]))) (AD 5 2) = some (.inl (E.2.1 5, 3, .inr (.inr (.inr (.inr (rfU (AD 1) (F 24 1))))))) := (wU_n _ _ (wne_f hq_77 hs.aP)).trans hs.aP
            have f9_3 : (wU w q_77 (.inr (4, [.int r1, .int b1, .int p1]))) q_77 = some (.inr (4, [.int r1, .int b1, .int p1])) := (wU_s _ _ _)
            refine wl_astq (t0 := 5) (ci := 4) C0 hP hS rfl rfl f9_2 f9_3 (vp_in_nI q58 (by omega)) dX6_addPlan_87 (fun H locs hP hS => ?_)
            rw [show (nI (F 24 1)).toNatClampNeg = F 24 1 from nI_clamp (by omega), rfU_up] at hP
            refine lv_aload_n hx hb dX6_addPlan_88 rfl (lv_at hl 1 rfl) ?_
            refine lv_dup hx hb dX6_addPlan_89 rfl ?_
            have f9_4 : (wU w q_77 (.inr (4, [.int r1, .int b1, .int p1]))) (AD 5 0) = some (.inr (6, [.ref (AD 5 1), .ref (AD 5 2), .ref (AD 5 3), .ref (AD 5 4), .int (nI (F 24 0)), .int (nI (F 24 1)), .int (nI (F 24 2)), .int (nI (F 24 4))])) := (wU_n _ _ (wne_f hq_77 hs.x)).trans hs.x
            have f9_5 : (wU (wU w q_77 (.inr (4, [.int r1, .int b1, .int p1]))) (AD 5 2) (.inl (E.2.1 5, 3, .inr (.inr (.inr (.inr (rfU (fun b => if b = F 24 1 then q_77 else AD 1 b) (F 24 1 + 1)))))))) (AD 5 0) = some (.inr (6, [.ref (AD 5 1), .ref (AD 5 2), .ref (AD 5 3), .ref (AD 5 4), .int (nI (F 24 0)), .int (nI (F 24 1)), .int (nI (F 24 2)), .int (nI (F 24 4))])) := (wU_n _ _ (wne f9_4 f9_2 (Nat.ne_of_beq_eq_false rfl))).trans f9_4
            refine wl_get (T := TX6) C0 hP f9_5 hi_RX6 rfl 5 (by decide) hf_152 rfl dX6_addPlan_90 ?_
            refine lv_iconst (v := 1) hx hb dX6_addPlan_93 (by decide) ?_
            refine lv_iadd hx hb dX6_addPlan_94 ?_
            rw [show ((nI (F 24 1)) + 1) = (nI (F 24 1 + 1)) from nI_1 _]
            refine wl_put (T := TX6) (ty0 := tyX6) (fs2 := [.ref (AD 5 1), .ref (AD 5 2), .ref (AD 5 3), .ref (AD 5 4), .int (nI (F 24 0)), .int (nI (F 24 1 + 1)), .int (nI (F 24 2)), .int (nI (F 24 4))]) C0 hP hS f9_5 hi_RX6 tyX6_ok nmX6 rfl 5 (by decide) hf_152 rfl rfl rfl rfl (Nat.le_of_ble_eq_true rfl) rfl dX6_addPlan_95 (fun H locs hP hS => ?_)
            have f9_6 : (wU (wU (wU w q_77 (.inr (4, [.int r1, .int b1, .int p1]))) (AD 5 2) (.inl (E.2.1 5, 3, .inr (.inr (.inr (.inr (rfU (fun b => if b = F 24 1 then q_77 else AD 1 b) (F 24 1 + 1)))))))) (AD 5 0) (.inr (6, [.ref (AD 5 1), .ref (AD 5 2), .ref (AD 5 3), .ref (AD 5 4), .int (nI (F 24 0)), .int (nI (F 24 1 + 1)), .int (nI (F 24 2)), .int (nI (F 24 4))]))) (AD 5 0) = some (.inr (6, [.ref (AD 5 1), .ref (AD 5 2), .ref (AD 5 3), .ref (AD 5 4), .int (nI (F 24 0)), .int (nI (F 24 1 + 1)), .int (nI (F 24 2)), .int (nI (F 24 4))])) := (wU_s _ _ _)
            have f9_7 : (wU (wU w q_77 (.inr (4, [.int r1, .int b1, .int p1]))) (AD 5 2) (.inl (E.2.1 5, 3, .inr (.inr (.inr (.inr (rfU (fun b => if b = F 24 1 then q_77 else AD 1 b) (F 24 1 + 1)))))))) (AD 5 2) = some (.inl (E.2.1 5, 3, .inr (.inr (.inr (.inr (rfU (fun b => if b = F 24 1 then q_77 else AD 1 b) (F 24 1 + 1))))))) := (wU_s _ _ _)
            have f9_8 : (wU (wU (wU w q_77 (.inr (4, [.int r1, .int b1, .int p1]))) (AD 5 2) (.inl (E.2.1 5, 3, .inr (.inr (.inr (.inr (rfU (fun b => if b = F 24 1 then q_77 else AD 1 b) (F 24 1 + 1)))))))) (AD 5 0) (.inr (6, [.ref (AD 5 1), .ref (AD 5 2), .ref (AD 5 3), .ref (AD 5 4), .int (nI (F 24 0)), .int (nI (F 24 1 + 1)), .int (nI (F 24 2)), .int (nI (F 24 4))]))) (AD 5 2) = some (.inl (E.2.1 5, 3, .inr (.inr (.inr (.inr (rfU (fun b => if b = F 24 1 then q_77 else AD 1 b) (F 24 1 + 1))))))) := (wU_n _ _ (wne f9_7 f9_5 (Nat.ne_of_beq_eq_false rfl))).trans f9_7
            have f9_9 : (wU (wU w q_77 (.inr (4, [.int r1, .int b1, .int p1]))) (AD 5 2) (.inl (E.2.1 5, 3, .inr (.inr (.inr (.inr (rfU (fun b => if b = F 24 1 then q_77 else AD 1 b) (F 24 1 + 1)))))))) q_77 = some (.inr (4, [.int r1, .int b1, .int p1])) := (wU_n _ _ (wne f9_3 f9_2 (Nat.ne_of_beq_eq_false rfl))).trans f9_3
            have f9_10 : (wU (wU (wU w q_77 (.inr (4, [.int r1, .int b1, .int p1]))) (AD 5 2) (.inl (E.2.1 5, 3, .inr (.inr (.inr (.inr (rfU (fun b => if b = F 24 1 then q_77 else AD 1 b) (F 24 1 + 1)))))))) (AD 5 0) (.inr (6, [.ref (AD 5 1), .ref (AD 5 2), .ref (AD 5 3), .ref (AD 5 4), .int (nI (F 24 0)), .int (nI (F 24 1 + 1)), .int (nI (F 24 2)), .int (nI (F 24 4))]))) q_77 = some (.inr (4, [.int r1, .int b1, .int p1])) := (wU_n _ _ (wne f9_9 f9_5 (Nat.ne_of_beq_eq_false rfl))).trans f9_9
            have hsn : wSys E (f_addPlan F (tn r1) (tn b1) (tn p1)) (fU AD 1 (F 24 1) q_77) (wU (wU (wU w q_77 (.inr (4, [.int r1, .int b1, .int p1]))) (AD 5 2) (.inl (E.2.1 5, 3, .inr (.inr (.inr (.inr (rfU (fun b => if b = F 24 1 then q_77 else AD 1 b) (F 24 1 + 1)))))))) (AD 5 0) (.inr (6, [.ref (AD 5 1), .ref (AD 5 2), .ref (AD 5 3), .ref (AD 5 4), .int (nI (F 24 0)), .int (nI (F 24 1 + 1)), .int (nI (F 24 2)), .int (nI (F 24 4))]))) := U_apl (q := q_77) hs hq_77 (fun j hj => (hI.cl hj).1) (by simp [f_addPlan, fU]) (fun a b h => by simp only [f_addPlan, fU]; (repeat' split) <;> first | rfl | omega) (by rw [f9_6]; simp [e_x, f_addPlan, fU]) (by rw [f9_8]) (by rw [f9_10]; simp [e_plan, f_addPlan, fU, hrt.1, hbt.1, hpt.1]) (fun b h1 h2 h3 => (by simp [wU, h1, h2, h3]))
            have hkn : wKp w (wU (wU (wU w q_77 (.inr (4, [.int r1, .int b1, .int p1]))) (AD 5 2) (.inl (E.2.1 5, 3, .inr (.inr (.inr (.inr (rfU (fun b => if b = F 24 1 then q_77 else AD 1 b) (F 24 1 + 1)))))))) (AD 5 0) (.inr (6, [.ref (AD 5 1), .ref (AD 5 2), .ref (AD 5 3), .ref (AD 5 4), .int (nI (F 24 0)), .int (nI (F 24 1 + 1)), .int (nI (F 24 2)), .int (nI (F 24 4))]))) := (wKp.u (wKp.u (wKp.f wKp.rf hq_77) f9_2 rfl) f9_5 rfl)
            refine lv_iload hx hb dX6_addPlan_98 (lv_at hl 0 rfl) ?_
            have hev : s_addPlan F r1 b1 p1 = (0, nI (F 24 1), (f_addPlan F (tn r1) (tn b1) (tn p1))) := by simp [s_addPlan, q7, q17, q27, q58n]
            exact wl_iret C0 hr rfl hP hS dX6_addPlan_100 (Nat.le_of_ble_eq_true rfl) (Nat.le_of_ble_eq_true rfl) (⟨(fU AD 1 (F 24 1) q_77), by rw [hev], by rw [hev], by rw [hev]; exact hsn, (fU_k (by decide)), hkn⟩)
          · have q58 : F 24 1 = 3 := by
              have h : ¬ F 24 1 < 3 := fun q => c_58 ((nI_ltI (b := 3) (by omega) (by omega)).mpr q)
              omega
            exact wl_throwS (ik := 63) (is := 155) (ic := 67) (i := 11) C0 hst ht (by decide +kernel) (hts _ (by decide +kernel)) (hts _ (by decide +kernel)) rfl (fun _ h => List.mem_cons_of_mem _ (List.mem_append_right _ h)) xc_ISE xn_ISE xg_ISE hP hS hl.1 dX6_addPlan_61 dX6_addPlan_64 dX6_addPlan_65 dX6_addPlan_67 dX6_addPlan_70 (Nat.le_of_ble_eq_true rfl) (Nat.le_of_ble_eq_true rfl) (Nat.le_of_ble_eq_true rfl) (Nat.le_of_ble_eq_true rfl) (Nat.le_of_ble_eq_true rfl) (Nat.le_of_ble_eq_true rfl) (⟨rfl, Or.inr (⟨by simp [s_addPlan, q7, q17, q27, q58], rfl⟩)⟩)
      · have q27 : wi p1 0 99 = false := bI_0.mp c_27
        exact wl_throwS (ik := 46) (is := 48) (ic := 50) (i := 0) C0 hst ht (by decide +kernel) (hts _ (by decide +kernel)) (hts _ (by decide +kernel)) rfl (fun _ h => List.mem_cons_of_mem _ (List.mem_append_left _ (List.mem_append_right _ h))) xc_IAE xn_IAE xg_IAE hP hS hl.1 dX6_addPlan_30 dX6_addPlan_33 dX6_addPlan_34 dX6_addPlan_36 dX6_addPlan_39 (Nat.le_of_ble_eq_true rfl) (Nat.le_of_ble_eq_true rfl) (Nat.le_of_ble_eq_true rfl) (Nat.le_of_ble_eq_true rfl) (Nat.le_of_ble_eq_true rfl) (Nat.le_of_ble_eq_true rfl) (⟨rfl, Or.inl (⟨by simp [s_addPlan, q7, q17, q27], rfl⟩)⟩)

set_option maxHeartbeats 4000000 in
set_option maxRecDepth 100000 in
theorem k_X6_addCaller (l : Launch) (hst : l.stackTraces = false) (E : wEn) (w : wW) (sz : Nat) (F : FF) (AD : AT) (N : Nat) (hI : wInv F N) (hs : wSys E F AD w) (p1 : Int32) : wM l yX6_addCaller wsX6_addCaller 1 2 12 E w sz [.ref (AD 5 0), .int p1] (fun v w2 => ∃ AD2 : AT, (s_addCaller F p1).1 = 0 ∧ v = some (.int (s_addCaller F p1).2.1) ∧ wSys E (s_addCaller F p1).2.2 AD2 w2 ∧ AD2 5 0 = AD 5 0 ∧ wKp w w2) (fun X w2 => w2 = w ∧ ((s_addCaller F p1).1 = 1 ∧ X = xIOB ∨ (s_addCaller F p1).1 = 2 ∧ X = xISE)) := by
  refine wm_start (own := RX6) (cc := cX6_addCaller) (maxL := 4) (ret := (some .int)) rfl (by decide) rfl (Nat.le_of_ble_eq_true rfl) ?_
  intro p e s m args below meth c ls C0 hr hin ht hP hS hl
  have hx := C0.1
  have hb := C0.2.1
  have hts := C0.2.2.2.2.1
  have hown := C0.2.2.2.1
  have hl : lv_has ls 4 [(0, .ref (AD 5 0)), (1, .int p1)] := hl
  have hf_164 : (Cond.fieldLink RX6 164 "CallGateway" "callerCount" "I").before args s = true := hts _ (by decide +kernel)
  have hf_23 : (Cond.fieldLink RX6 23 "CallGateway" "callers" "[LCallGateway$Caller;").before args s = true := hts _ (by decide +kernel)
  have hi_RX1 : ∀ w ∈ u_ws RX1 TX1 4, w ∈ wsX6_addCaller := fun _ h => List.mem_cons_of_mem _ (List.mem_append_left _ (List.mem_append_left _ (List.mem_append_left _ (List.mem_append_right _ h))))
  have hi_RX6 : ∀ w ∈ u_ws RX6 TX6 8, w ∈ wsX6_addCaller := fun _ h => List.mem_cons_of_mem _ (List.mem_append_left _ (List.mem_append_left _ (List.mem_append_left _ (List.mem_append_left _ (List.mem_append_right _ h)))))
  have hn := hI.n
  refine lv_aload_n hx hb dX6_addCaller_0 rfl (lv_at hl 0 rfl) ?_
  refine lv_iload_n hx hb dX6_addCaller_1 rfl (lv_at hl 1 rfl) ?_
  refine wl_on C0 ht hP hS (wl_runV (As := [.int p1]) (rest := []) C0 hP hS (k_X6_existingPlan l hst E w s.heap.size F AD N hI hs p1) (cwV 1 hts gX6_addCaller_X6_existingPlan rfl rfl rfl (by decide +kernel) ⟨(Nat.le_of_ble_eq_true rfl), (Nat.le_of_ble_eq_true rfl)⟩) hs.x rfl rfl rfl hl.1 (Nat.le_of_ble_eq_true rfl) dX6_addCaller_2 ⟨(Nat.le_of_ble_eq_true rfl), (Nat.le_of_ble_eq_true rfl)⟩) (Nat.le_of_ble_eq_true rfl) (Nat.le_of_ble_eq_true rfl) (fun X w2 h => ⟨h.2.1, Or.inl (⟨by simp [s_addCaller, h.2.2], h.1⟩)⟩) (fun v_2 w_2 H locs hq hP hS => ?_)
  obtain ⟨rfl, hw9, hv_2⟩ := hq
  rw [hw9] at hP
  have hi_2 : tn p1 < F 24 1 := (vpb_tn hv_2)
  refine W.eq (g2 := F0 m 5 ls [.ref (AD 1 (tn p1))]) rfl ?_
  refine W.widen (k := 1) (n := 6) (Nat.le_of_ble_eq_true rfl) (Nat.le_of_ble_eq_true rfl) ?_
  refine lv_astore_n (lv' := [(2, .ref (AD 1 (tn p1))), (0, .ref (AD 5 0)), (1, .int p1)]) hx hb dX6_addCaller_5 rfl hl (by decide) rfl (fun ls hl => ?_)
  refine lv_aload_n hx hb dX6_addCaller_6 rfl (lv_at hl 1 rfl) ?_
  refine wl_get (T := TX6) C0 hP hs.x hi_RX6 rfl 6 (by decide) hf_164 rfl dX6_addCaller_7 ?_
  refine lv_istore_n (lv' := [(3, .int (nI (F 24 2))), (2, .ref (AD 1 (tn p1))), (0, .ref (AD 5 0)), (1, .int p1)]) hx hb dX6_addCaller_10 rfl hl (by decide) rfl (fun ls hl => ?_)
  refine lv_iload_n hx hb dX6_addCaller_11 rfl (lv_at hl 0 rfl) ?_
  refine lv_if_lt (tgt := 24) hx hb dX6_addCaller_12 (by decide) (fun c_12 => ?_) (fun c_12 => ?_)
  · exact absurd c_12 (Int32.not_lt.mpr (nI_pos' (by omega)))
  · refine lv_iload_n hx hb dX6_addCaller_15 rfl (lv_at hl 0 rfl) ?_
    refine lv_aload_n hx hb dX6_addCaller_16 rfl (lv_at hl 2 rfl) ?_
    refine wl_get (T := TX6) C0 hP hs.x hi_RX6 rfl 2 (by decide) hf_23 rfl dX6_addCaller_17 ?_
    refine wl_alen (v := 6) C0 hP hs.aC 6 rfl rfl dX6_addCaller_20 ?_
    refine lv_icmp_lt (tgt := 34) hx hb dX6_addCaller_21 (by decide) (fun c_21 => ?_) (fun c_21 => ?_)
    · have q21 : F 24 2 < 6 := (nI_ltI (b := 6) (by omega) (by omega)).mp c_21
      have q21n : ¬ F 24 2 = 6 := by omega
      refine lv_aload_n hx hb dX6_addCaller_34 rfl (lv_at hl 2 rfl) ?_
      refine wl_get (T := TX6) C0 hP hs.x hi_RX6 rfl 2 (by decide) hf_23 rfl dX6_addCaller_35 ?_
      refine lv_iload_n hx hb dX6_addCaller_38 rfl (lv_at hl 0 rfl) ?_
      refine wl_new (T := TX1) (N := 4) (fs := [.int 0, .null, .int 0, .long 0]) (ci := 1) C0 hP hS hi_RX1 tyX1_ok rfl (hts (.classLink RX6 21 RX1) (by decide +kernel)) (hts (.instantiable RX1 4) (by decide +kernel)) (hts (.initialized RX1) (by decide +kernel)) (fun j hj => by rcases (show j = 0 ∨ j = 1 ∨ j = 2 ∨ j = 3 by omega) with rfl | rfl | rfl | rfl <;> rfl) (Nat.le_of_ble_eq_true rfl) (Nat.le_of_ble_eq_true rfl) dX6_addCaller_39 (fun q_39 H hq_39 hP hS => ?_)
      refine W.widen (k := 2) (n := 10) (Nat.le_of_ble_eq_true rfl) (Nat.le_of_ble_eq_true rfl) ?_
      refine lv_dup hx hb dX6_addCaller_42 rfl ?_
      refine lv_iload_n hx hb dX6_addCaller_43 rfl (lv_at hl 0 rfl) ?_
      refine lv_aload_n hx hb dX6_addCaller_44 rfl (lv_at hl 1 rfl) ?_
      have f9_1 : (wU w q_39 (.inr (1, [.int 0, .null, .int 0, .long 0]))) (AD 1 (tn p1)) = some (.inr (4, [.int (nI (F 10 (tn p1))), .int (nI (F 11 (tn p1))), .int (nI (F 12 (tn p1)))])) := (wU_n _ _ (wne_f hq_39 (wSys.pl hs hi_2))).trans (wSys.pl hs hi_2)
      have f9_2 : (wU w q_39 (.inr (1, [.int 0, .null, .int 0, .long 0]))) q_39 = some (.inr (1, [.int 0, .null, .int 0, .long 0])) := (wU_s _ _ _)
      refine wl_on C0 ht hP hS (wl_runIN (host := "CallGateway") (As := [.int (nI (F 24 2)), .ref (AD 1 (tn p1))]) (rest := [.ref q_39, .int (nI (F 24 2)), .ref (AD 5 3)]) C0 hP hS (k_X1_init l hst E (wU w q_39 (.inr (1, [.int 0, .null, .int 0, .long 0]))) H.size q_39 (nI (F 24 2)) (AD 1 (tn p1)) _ _ _ f9_1 f9_2) ⟨va_cnB 2 hts gX6_addCaller_X1_init_n169 rfl rfl rfl (C0.2.2.2.2.2.2.2.1.1 _ (by decide +kernel)) (hts _ (by decide +kernel)) (by decide +kernel) ⟨(Nat.le_of_ble_eq_true rfl), (Nat.le_of_ble_eq_true rfl)⟩, rfl, hts _ (by decide +kernel)⟩ rfl rfl hl.1 (Nat.le_of_ble_eq_true rfl) dX6_addCaller_45 ⟨(Nat.le_of_ble_eq_true rfl), (Nat.le_of_ble_eq_true rfl)⟩) (Nat.le_of_ble_eq_true rfl) (Nat.le_of_ble_eq_true rfl) (fun _ _ h => h.elim) (fun v_45 w_45 H locs hq hP hS => ?_)
      obtain ⟨rfl, hw9⟩ := hq
      rw [hw9] at hP
      rw [wU_c] at hP
      refine W.eq (g2 := F0 m 48 ls [.ref q_39, .int (nI (F 24 2)), .ref (AD 5 3)]) rfl ?_
      have f9_3 : (wU w q_39 (.inr (1, [.int (nI (F 24 2)), .ref (AD 1 (tn p1)), .int (nI (F 11 (tn p1))), .long 0]))) (AD 5 3) = some (.inl (E.2.1 6, 6, .inr (.inr (.inr (.inr (rfU (AD 2) (F 24 2))))))) := (wU_n _ _ (wne_f hq_39 hs.aC)).trans hs.aC
      have f9_4 : (wU w q_39 (.inr (1, [.int (nI (F 24 2)), .ref (AD 1 (tn p1)), .int (nI (F 11 (tn p1))), .long 0]))) q_39 = some (.inr (1, [.int (nI (F 24 2)), .ref (AD 1 (tn p1)), .int (nI (F 11 (tn p1))), .long 0])) := (wU_s _ _ _)
      refine wl_astq (t0 := 6) (ci := 1) C0 hP hS rfl rfl f9_3 f9_4 (vp_in_nI q21 (by omega)) dX6_addCaller_48 (fun H locs hP hS => ?_)
      rw [show (nI (F 24 2)).toNatClampNeg = F 24 2 from nI_clamp (by omega), rfU_up] at hP
      refine lv_aload_n hx hb dX6_addCaller_49 rfl (lv_at hl 2 rfl) ?_
      refine lv_dup hx hb dX6_addCaller_50 rfl ?_
      have f9_5 : (wU w q_39 (.inr (1, [.int (nI (F 24 2)), .ref (AD 1 (tn p1)), .int (nI (F 11 (tn p1))), .long 0]))) (AD 5 0) = some (.inr (6, [.ref (AD 5 1), .ref (AD 5 2), .ref (AD 5 3), .ref (AD 5 4), .int (nI (F 24 0)), .int (nI (F 24 1)), .int (nI (F 24 2)), .int (nI (F 24 4))])) := (wU_n _ _ (wne_f hq_39 hs.x)).trans hs.x
      have f9_6 : (wU (wU w q_39 (.inr (1, [.int (nI (F 24 2)), .ref (AD 1 (tn p1)), .int (nI (F 11 (tn p1))), .long 0]))) (AD 5 3) (.inl (E.2.1 6, 6, .inr (.inr (.inr (.inr (rfU (fun b => if b = F 24 2 then q_39 else AD 2 b) (F 24 2 + 1)))))))) (AD 5 0) = some (.inr (6, [.ref (AD 5 1), .ref (AD 5 2), .ref (AD 5 3), .ref (AD 5 4), .int (nI (F 24 0)), .int (nI (F 24 1)), .int (nI (F 24 2)), .int (nI (F 24 4))])) := (wU_n _ _ (wne f9_5 f9_3 (Nat.ne_of_beq_eq_false rfl))).trans f9_5
      refine wl_get (T := TX6) C0 hP f9_6 hi_RX6 rfl 6 (by decide) hf_164 rfl dX6_addCaller_51 ?_
      refine lv_iconst (v := 1) hx hb dX6_addCaller_54 (by decide) ?_
      refine lv_iadd hx hb dX6_addCaller_55 ?_
      rw [show ((nI (F 24 2)) + 1) = (nI (F 24 2 + 1)) from nI_1 _]
      refine wl_put (T := TX6) (ty0 := tyX6) (fs2 := [.ref (AD 5 1), .ref (AD 5 2), .ref (AD 5 3), .ref (AD 5 4), .int (nI (F 24 0)), .int (nI (F 24 1)), .int (nI (F 24 2 + 1)), .int (nI (F 24 4))]) C0 hP hS f9_6 hi_RX6 tyX6_ok nmX6 rfl 6 (by decide) hf_164 rfl rfl rfl rfl (Nat.le_of_ble_eq_true rfl) rfl dX6_addCaller_56 (fun H locs hP hS => ?_)
      have f9_7 : (wU (wU (wU w q_39 (.inr (1, [.int (nI (F 24 2)), .ref (AD 1 (tn p1)), .int (nI (F 11 (tn p1))), .long 0]))) (AD 5 3) (.inl (E.2.1 6, 6, .inr (.inr (.inr (.inr (rfU (fun b => if b = F 24 2 then q_39 else AD 2 b) (F 24 2 + 1)))))))) (AD 5 0) (.inr (6, [.ref (AD 5 1), .ref (AD 5 2), .ref (AD 5 3), .ref (AD 5 4), .int (nI (F 24 0)), .int (nI (F 24 1)), .int (nI (F 24 2 + 1)), .int (nI (F 24 4))]))) (AD 5 0) = some (.inr (6, [.ref (AD 5 1), .ref (AD 5 2), .ref (AD 5 3), .ref (AD 5 4), .int (nI (F 24 0)), .int (nI (F 24 1)), .int (nI (F 24 2 + 1)), .int (nI (F 24 4))])) := (wU_s _ _ _)
      have f9_8 : (wU (wU w q_39 (.inr (1, [.int (nI (F 24 2)), .ref (AD 1 (tn p1)), .int (nI (F 11 (tn p1))), .long 0]))) (AD 5 3) (.inl (E.2.1 6, 6, .inr (.inr (.inr (.inr (rfU (fun b => if b = F 24 2 then q_39 else AD 2 b) (F 24 2 + 1)))))))) (AD 5 3) = some (.inl (E.2.1 6, 6, .inr (.inr (.inr (.inr (rfU (fun b => if b = F 24 2 then q_39 else AD 2 b) (F 24 2 + 1))))))) := (wU_s _ _ _)
      have f9_9 : (wU (wU (wU w q_39 (.inr (1, [.int (nI (F 24 2)), .ref (AD 1 (tn p1)), .int (nI (F 11 (tn p1))), .long 0]))) (AD 5 3) (.inl (E.2.1 6, 6, .inr (.inr (.inr (.inr (rfU (fun b => if b = F 24 2 then q_39 else AD 2 b) (F 24 2 + 1)))))))) (AD 5 0) (.inr (6, [.ref (AD 5 1), .ref (AD 5 2), .ref (AD 5 3), .ref (AD 5 4), .int (nI (F 24 0)), .int (nI (F 24 1)), .int (nI (F 24 2 + 1)), .int (nI (F 24 4))]))) (AD 5 3) = some (.inl (E.2.1 6, 6, .inr (.inr (.inr (.inr (rfU (fun b => if b = F 24 2 then q_39 else AD 2 b) (F 24 2 + 1))))))) := (wU_n _ _ (wne f9_8 f9_6 (Nat.ne_of_beq_eq_false rfl))).trans f9_8
      have f9_10 : (wU (wU w q_39 (.inr (1, [.int (nI (F 24 2)), .ref (AD 1 (tn p1)), .int (nI (F 11 (tn p1))), .long 0]))) (AD 5 3) (.inl (E.2.1 6, 6, .inr (.inr (.inr (.inr (rfU (fun b => if b = F 24 2 then q_39 else AD 2 b) (F 24 2 + 1)))))))) q_39 = some (.inr (1, [.int (nI (F 24 2)), .ref (AD 1 (tn p1)), .int (nI (F 11 (tn p1))), .long 0])) := (wU_n _ _ (wne f9_4 f9_3 (Nat.ne_of_beq_eq_false rfl))).trans f9_4
      have f9_11 : (wU (wU (wU w q_39 (.inr (1, [.int (nI (F 24 2)), .ref (AD 1 (tn p1)), .int (nI (F 11 (tn p1))), .long 0]))) (AD 5 3) (.inl (E.2.1 6, 6, .inr (.inr (.inr (.inr (rfU (fun b => if b = F 24 2 then q_39 else AD 2 b) (F 24 2 + 1)))))))) (AD 5 0) (.inr (6, [.ref (AD 5 1), .ref (AD 5 2), .ref (AD 5 3), .ref (AD 5 4), .int (nI (F 24 0)), .int (nI (F 24 1)), .int (nI (F 24 2 + 1)), .int (nI (F 24 4))]))) q_39 = some (.inr (1, [.int (nI (F 24 2)), .ref (AD 1 (tn p1)), .int (nI (F 11 (tn p1))), .long 0])) := (wU_n _ _ (wne f9_10 f9_6 (Nat.ne_of_beq_eq_false rfl))).trans f9_10
      have hz := hI.z2 (Nat.le_refl (F 24 2))
      have hsn : wSys E (f_addCaller F (tn p1)) (fU AD 2 (F 24 2) q_39) (wU (wU (wU w q_39 (.inr (1, [.int (nI (F 24 2)), .ref (AD 1 (tn p1)), .int (nI (F 11 (tn p1))), .long 0]))) (AD 5 3) (.inl (E.2.1 6, 6, .inr (.inr (.inr (.inr (rfU (fun b => if b = F 24 2 then q_39 else AD 2 b) (F 24 2 + 1)))))))) (AD 5 0) (.inr (6, [.ref (AD 5 1), .ref (AD 5 2), .ref (AD 5 3), .ref (AD 5 4), .int (nI (F 24 0)), .int (nI (F 24 1)), .int (nI (F 24 2 + 1)), .int (nI (F 24 4))]))) := U_acl (q := q_39) hs hq_39 (fun j hj => (hI.en hj).1) (by simp [f_addCaller, fU]) (fun a b h => by simp only [f_addCaller, fU]; (repeat' split) <;> first | rfl | omega) (by rw [f9_7]; simp [e_x, f_addCaller, fU]) (by rw [f9_9]) (by rw [f9_11]; simp [e_caller, f_addCaller, fU, hz]; rfl) (fun b h1 h2 h3 => (by simp [wU, h1, h2, h3]))
      have hkn : wKp w (wU (wU (wU w q_39 (.inr (1, [.int (nI (F 24 2)), .ref (AD 1 (tn p1)), .int (nI (F 11 (tn p1))), .long 0]))) (AD 5 3) (.inl (E.2.1 6, 6, .inr (.inr (.inr (.inr (rfU (fun b => if b = F 24 2 then q_39 else AD 2 b) (F 24 2 + 1)))))))) (AD 5 0) (.inr (6, [.ref (AD 5 1), .ref (AD 5 2), .ref (AD 5 3), .ref (AD 5 4), .int (nI (F 24 0)), .int (nI (F 24 1)), .int (nI (F 24 2 + 1)), .int (nI (F 24 4))]))) := (wKp.u (wKp.u (wKp.f wKp.rf hq_39) f9_3 rfl) f9_6 rfl)
      refine lv_iload_n hx hb dX6_addCaller_59 rfl (lv_at hl 0 rfl) ?_
      have hev : s_addCaller F p1 = (0, nI (F 24 2), (f_addCaller F (tn p1))) := by simp [s_addCaller, hv_2, q21n]
      exact wl_iret C0 hr rfl hP hS dX6_addCaller_60 (Nat.le_of_ble_eq_true rfl) (Nat.le_of_ble_eq_true rfl) (⟨(fU AD 2 (F 24 2) q_39), by rw [hev], by rw [hev], by rw [hev]; exact hsn, (fU_k (by decide)), hkn⟩)
    · have q21 : F 24 2 = 6 := by
        have h : ¬ F 24 2 < 6 := fun q => c_21 ((nI_ltI (b := 6) (by omega) (by omega)).mpr q)
        omega
      exact wl_throwS (ik := 63) (is := 167) (ic := 67) (i := 13) C0 hst ht (by decide +kernel) (hts _ (by decide +kernel)) (hts _ (by decide +kernel)) rfl (fun _ h => List.mem_cons_of_mem _ (List.mem_append_left _ (List.mem_append_right _ h))) xc_ISE xn_ISE xg_ISE hP hS hl.1 dX6_addCaller_24 dX6_addCaller_27 dX6_addCaller_28 dX6_addCaller_30 dX6_addCaller_33 (Nat.le_of_ble_eq_true rfl) (Nat.le_of_ble_eq_true rfl) (Nat.le_of_ble_eq_true rfl) (Nat.le_of_ble_eq_true rfl) (Nat.le_of_ble_eq_true rfl) (Nat.le_of_ble_eq_true rfl) (⟨rfl, Or.inr (⟨by simp [s_addCaller, hv_2, q21], rfl⟩)⟩)

set_option maxHeartbeats 4000000 in
set_option maxRecDepth 100000 in
theorem k_X6_setPlan (l : Launch) (hst : l.stackTraces = false) (E : wEn) (w : wW) (sz : Nat) (F : FF) (AD : AT) (N : Nat) (hI : wInv F N) (hs : wSys E F AD w) (c1 p1 : Int32) : wM l yX6_setPlan wsX6_setPlan 1 2 12 E w sz [.ref (AD 5 0), .int c1, .int p1] (fun v w2 => ∃ AD2 : AT, (s_setPlan F c1 p1).1 = 0 ∧ v = some (.int (s_setPlan F c1 p1).2.1) ∧ wSys E (s_setPlan F c1 p1).2.2 AD2 w2 ∧ AD2 5 0 = AD 5 0 ∧ wKp w w2) (fun X w2 => w2 = w ∧ ((s_setPlan F c1 p1).1 = 1 ∧ X = xIOB)) := by
  refine wm_start (own := RX6) (cc := cX6_setPlan) (maxL := 4) (ret := (some .int)) rfl (by decide) rfl (Nat.le_of_ble_eq_true rfl) ?_
  intro p e s m args below meth c ls C0 hr hin ht hP hS hl
  have hx := C0.1
  have hb := C0.2.1
  have hts := C0.2.2.2.2.1
  have hown := C0.2.2.2.1
  have hl : lv_has ls 4 [(0, .ref (AD 5 0)), (1, .int c1), (2, .int p1)] := hl
  have hn := hI.n
  refine lv_aload_n hx hb dX6_setPlan_0 rfl (lv_at hl 0 rfl) ?_
  refine lv_iload_n hx hb dX6_setPlan_1 rfl (lv_at hl 1 rfl) ?_
  refine wl_on C0 ht hP hS (wl_runV (As := [.int c1]) (rest := []) C0 hP hS (k_X6_existingCaller l hst E w s.heap.size F AD N hI hs c1) (cwV 1 hts gX6_setPlan_X6_existingCaller rfl rfl rfl (by decide +kernel) ⟨(Nat.le_of_ble_eq_true rfl), (Nat.le_of_ble_eq_true rfl)⟩) hs.x rfl rfl rfl hl.1 (Nat.le_of_ble_eq_true rfl) dX6_setPlan_2 ⟨(Nat.le_of_ble_eq_true rfl), (Nat.le_of_ble_eq_true rfl)⟩) (Nat.le_of_ble_eq_true rfl) (Nat.le_of_ble_eq_true rfl) (fun X w2 h => ⟨h.2.1, ⟨by simp [s_setPlan, h.2.2], h.1⟩⟩) (fun v_2 w_2 H locs hq hP hS => ?_)
  obtain ⟨rfl, hw9, hv_2⟩ := hq
  rw [hw9] at hP
  have hi_2 : tn c1 < F 24 2 := (vpb_tn hv_2)
  refine W.eq (g2 := F0 m 5 ls [.ref (AD 2 (tn c1))]) rfl ?_
  refine W.widen (k := 1) (n := 6) (Nat.le_of_ble_eq_true rfl) (Nat.le_of_ble_eq_true rfl) ?_
  refine lv_astore_n (lv' := [(3, .ref (AD 2 (tn c1))), (0, .ref (AD 5 0)), (1, .int c1), (2, .int p1)]) hx hb dX6_setPlan_5 rfl hl (by decide) rfl (fun ls hl => ?_)
  refine lv_aload_n hx hb dX6_setPlan_6 rfl (lv_at hl 0 rfl) ?_
  refine lv_aload_n hx hb dX6_setPlan_7 rfl (lv_at hl 1 rfl) ?_
  refine lv_iload_n hx hb dX6_setPlan_8 rfl (lv_at hl 3 rfl) ?_
  refine wl_on C0 ht hP hS (wl_runV (As := [.int p1]) (rest := [.ref (AD 2 (tn c1))]) C0 hP hS (k_X6_existingPlan l hst E w H.size F AD N hI hs p1) (cwV 1 hts gX6_setPlan_X6_existingPlan rfl rfl rfl (by decide +kernel) ⟨(Nat.le_of_ble_eq_true rfl), (Nat.le_of_ble_eq_true rfl)⟩) hs.x rfl rfl rfl hl.1 (Nat.le_of_ble_eq_true rfl) dX6_setPlan_9 ⟨(Nat.le_of_ble_eq_true rfl), (Nat.le_of_ble_eq_true rfl)⟩) (Nat.le_of_ble_eq_true rfl) (Nat.le_of_ble_eq_true rfl) (fun X w2 h => ⟨h.2.1, ⟨by simp [s_setPlan, h.2.2, hv_2], h.1⟩⟩) (fun v_9 w_9 H locs hq hP hS => ?_)
  obtain ⟨rfl, hw9, hv_9⟩ := hq
  rw [hw9] at hP
  have hi_9 : tn p1 < F 24 1 := (vpb_tn hv_9)
  refine W.eq (g2 := F0 m 12 ls [.ref (AD 1 (tn p1)), .ref (AD 2 (tn c1))]) rfl ?_
  refine W.widen (k := 2) (n := 12) (Nat.le_of_ble_eq_true rfl) (Nat.le_of_ble_eq_true rfl) ?_
  refine wl_on C0 ht hP hS (wl_runVN (host := "CallGateway") (As := [.ref (AD 1 (tn p1))]) (rest := []) C0 hP hS (k_X1_changePlan l hst E w H.size F AD hs (tn c1) (tn p1) hi_2 hi_9 hn.2.2.1 (by have h1 := hI.cl hi_2; have h2 := hI.pl h1.1; omega) (by have h2 := hI.pl hi_9; omega)) ⟨va_cnB 1 hts gX6_setPlan_X1_changePlan_n176 rfl rfl rfl (C0.2.2.2.2.2.2.2.1.1 _ (by decide +kernel)) (hts _ (by decide +kernel)) (by decide +kernel) ⟨(Nat.le_of_ble_eq_true rfl), (Nat.le_of_ble_eq_true rfl)⟩, hts _ (by decide +kernel), hts _ (by decide +kernel)⟩ (wSys.cl hs hi_2) rfl rfl rfl hl.1 (Nat.le_of_ble_eq_true rfl) dX6_setPlan_12 ⟨(Nat.le_of_ble_eq_true rfl), (Nat.le_of_ble_eq_true rfl)⟩) (Nat.le_of_ble_eq_true rfl) (Nat.le_of_ble_eq_true rfl) (fun _ _ h => h.elim) (fun v_12 w_12 H locs hq hP hS => ?_)
  obtain ⟨rfl, hs2, hk2⟩ := hq
  refine W.eq (g2 := F0 m 15 ls [.int (nI (F 14 (tn c1) - F 11 (tn p1)))]) rfl ?_
  have hev : s_setPlan F c1 p1 = (0, nI (F 14 (tn c1) - F 11 (tn p1)), fU (fU F 13 (tn c1) (tn p1)) 14 (tn c1) (F 14 (tn c1) - (F 14 (tn c1) - F 11 (tn p1)))) := by simp [s_setPlan, hv_2, hv_9]
  exact wl_iret C0 hr rfl hP hS dX6_setPlan_15 (Nat.le_of_ble_eq_true rfl) (Nat.le_of_ble_eq_true rfl) (⟨AD, by rw [hev], by rw [hev], by rw [hev]; exact hs2, rfl, hk2⟩)

set_option maxHeartbeats 4000000 in
set_option maxRecDepth 100000 in
theorem k_X6_tokens (l : Launch) (hst : l.stackTraces = false) (E : wEn) (w : wW) (sz : Nat) (F : FF) (AD : AT) (N : Nat) (hI : wInv F N) (hs : wSys E F AD w) (c1 : Int32) : wM l yX6_tokens wsX6_tokens 1 1 6 E w sz [.ref (AD 5 0), .int c1] (fun v w2 => ∃ AD2 : AT, (s_tokens F c1).1 = 0 ∧ v = some (.int (s_tokens F c1).2.1) ∧ wSys E (s_tokens F c1).2.2 AD2 w2 ∧ AD2 5 0 = AD 5 0 ∧ wKp w w2) (fun X w2 => w2 = w ∧ ((s_tokens F c1).1 = 1 ∧ X = xIOB)) := by
  refine wm_start (own := RX6) (cc := cX6_tokens) (maxL := 2) (ret := (some .int)) rfl (by decide) rfl (Nat.le_of_ble_eq_true rfl) ?_
  intro p e s m args below meth c ls C0 hr hin ht hP hS hl
  have hx := C0.1
  have hb := C0.2.1
  have hts := C0.2.2.2.2.1
  have hown := C0.2.2.2.1
  have hl : lv_has ls 2 [(0, .ref (AD 5 0)), (1, .int c1)] := hl
  have hf_180 : va_Nw (.fieldLinkNest RX6 180 "CallGateway$Caller" "tokens" "I" "CallGateway") s := C0.2.2.2.2.2.2.2.1.1 _ (by decide +kernel)
  have hi_RX1 : ∀ w ∈ u_ws RX1 TX1 4, w ∈ wsX6_tokens := fun _ h => List.mem_cons_of_mem _ (List.mem_append_left _ (List.mem_append_left _ (List.mem_append_right _ h)))
  have hn := hI.n
  refine lv_aload_n hx hb dX6_tokens_0 rfl (lv_at hl 0 rfl) ?_
  refine lv_iload_n hx hb dX6_tokens_1 rfl (lv_at hl 1 rfl) ?_
  refine wl_on C0 ht hP hS (wl_runV (As := [.int c1]) (rest := []) C0 hP hS (k_X6_existingCaller l hst E w s.heap.size F AD N hI hs c1) (cwV 1 hts gX6_tokens_X6_existingCaller rfl rfl rfl (by decide +kernel) ⟨(Nat.le_of_ble_eq_true rfl), (Nat.le_of_ble_eq_true rfl)⟩) hs.x rfl rfl rfl hl.1 (Nat.le_of_ble_eq_true rfl) dX6_tokens_2 ⟨(Nat.le_of_ble_eq_true rfl), (Nat.le_of_ble_eq_true rfl)⟩) (Nat.le_of_ble_eq_true rfl) (Nat.le_of_ble_eq_true rfl) (fun X w2 h => ⟨h.2.1, ⟨by simp [s_tokens, h.2.2], h.1⟩⟩) (fun v_2 w_2 H locs hq hP hS => ?_)
  obtain ⟨rfl, hw9, hv_2⟩ := hq
  rw [hw9] at hP
  have hi_2 : tn c1 < F 24 2 := (vpb_tn hv_2)
  refine W.eq (g2 := F0 m 5 ls [.ref (AD 2 (tn c1))]) rfl ?_
  refine W.widen (k := 1) (n := 6) (Nat.le_of_ble_eq_true rfl) (Nat.le_of_ble_eq_true rfl) ?_
  refine wl_getN (T := TX1) C0 hP (wSys.cl hs hi_2) hi_RX1 rfl 2 (by decide) hf_180 rfl dX6_tokens_5 ?_
  have hev : s_tokens F c1 = (0, nI (F 14 (tn c1)), F) := by simp [s_tokens, hv_2]
  exact wl_iret C0 hr rfl hP hS dX6_tokens_8 (Nat.le_of_ble_eq_true rfl) (Nat.le_of_ble_eq_true rfl) (⟨AD, by rw [hev], by rw [hev], by rw [hev]; exact hs, rfl, wKp.rf⟩)

set_option maxHeartbeats 4000000 in
set_option maxRecDepth 100000 in
theorem k_X6_ticksUntil (l : Launch) (hst : l.stackTraces = false) (E : wEn) (w : wW) (sz : Nat) (F : FF) (AD : AT) (N : Nat) (hI : wInv F N) (hs : wSys E F AD w) (c1 r1 : Int32) : wM l yX6_ticksUntil wsX6_ticksUntil 1 3 18 E w sz [.ref (AD 5 0), .int c1, .int r1] (fun v w2 => ∃ AD2 : AT, (s_ticksUntil F c1 r1).1 = 0 ∧ v = some (.int (s_ticksUntil F c1 r1).2.1) ∧ wSys E (s_ticksUntil F c1 r1).2.2 AD2 w2 ∧ AD2 5 0 = AD 5 0 ∧ wKp w w2) (fun X w2 => w2 = w ∧ ((s_ticksUntil F c1 r1).1 = 1 ∧ X = xIOB ∨ (s_ticksUntil F c1 r1).1 = 2 ∧ X = xNSE)) := by
  refine wm_start (own := RX6) (cc := cX6_ticksUntil) (maxL := 5) (ret := (some .int)) rfl (by decide) rfl (Nat.le_of_ble_eq_true rfl) ?_
  intro p e s m args below meth c ls C0 hr hin ht hP hS hl
  have hx := C0.1
  have hb := C0.2.1
  have hts := C0.2.2.2.2.1
  have hown := C0.2.2.2.1
  have hl : lv_has ls 5 [(0, .ref (AD 5 0)), (1, .int c1), (2, .int r1)] := hl
  have hf_183 : va_Nw (.fieldLinkNest RX6 183 "CallGateway$Route" "cost" "I" "CallGateway") s := C0.2.2.2.2.2.2.2.1.1 _ (by decide +kernel)
  have hf_186 : va_Nw (.fieldLinkNest RX6 186 "CallGateway$Caller" "plan" "LCallGateway$Plan;" "CallGateway") s := C0.2.2.2.2.2.2.2.1.1 _ (by decide +kernel)
  have hf_190 : va_Nw (.fieldLinkNest RX6 190 "CallGateway$Plan" "burst" "I" "CallGateway") s := C0.2.2.2.2.2.2.2.1.1 _ (by decide +kernel)
  have hi_RX1 : ∀ w ∈ u_ws RX1 TX1 4, w ∈ wsX6_ticksUntil := fun _ h => List.mem_cons_of_mem _ (List.mem_append_left _ (List.mem_append_left _ (List.mem_append_left _ (List.mem_append_left _ (List.mem_append_right _ h)))))
  have hi_RX4 : ∀ w ∈ u_ws RX4 TX4 3, w ∈ wsX6_ticksUntil := fun _ h => List.mem_cons_of_mem _ (List.mem_append_left _ (List.mem_append_left _ (List.mem_append_left _ (List.mem_append_right _ h))))
  have hi_RX5 : ∀ w ∈ u_ws RX5 TX5 7, w ∈ wsX6_ticksUntil := fun _ h => List.mem_cons_of_mem _ (List.mem_append_left _ (List.mem_append_left _ (List.mem_append_left _ (List.mem_append_left _ (List.mem_append_left _ (List.mem_append_right _ h))))))
  have hn := hI.n
  refine lv_aload_n hx hb dX6_ticksUntil_0 rfl (lv_at hl 0 rfl) ?_
  refine lv_iload_n hx hb dX6_ticksUntil_1 rfl (lv_at hl 1 rfl) ?_
  refine wl_on C0 ht hP hS (wl_runV (As := [.int c1]) (rest := []) C0 hP hS (k_X6_existingCaller l hst E w s.heap.size F AD N hI hs c1) (cwV 1 hts gX6_ticksUntil_X6_existingCaller rfl rfl rfl (by decide +kernel) ⟨(Nat.le_of_ble_eq_true rfl), (Nat.le_of_ble_eq_true rfl)⟩) hs.x rfl rfl rfl hl.1 (Nat.le_of_ble_eq_true rfl) dX6_ticksUntil_2 ⟨(Nat.le_of_ble_eq_true rfl), (Nat.le_of_ble_eq_true rfl)⟩) (Nat.le_of_ble_eq_true rfl) (Nat.le_of_ble_eq_true rfl) (fun X w2 h => ⟨h.2.1, Or.inl (⟨by simp [s_ticksUntil, h.2.2], h.1⟩)⟩) (fun v_2 w_2 H locs hq hP hS => ?_)
  obtain ⟨rfl, hw9, hv_2⟩ := hq
  rw [hw9] at hP
  have hi_2 : tn c1 < F 24 2 := (vpb_tn hv_2)
  refine W.eq (g2 := F0 m 5 ls [.ref (AD 2 (tn c1))]) rfl ?_
  refine W.widen (k := 1) (n := 6) (Nat.le_of_ble_eq_true rfl) (Nat.le_of_ble_eq_true rfl) ?_
  refine lv_astore_n (lv' := [(3, .ref (AD 2 (tn c1))), (0, .ref (AD 5 0)), (1, .int c1), (2, .int r1)]) hx hb dX6_ticksUntil_5 rfl hl (by decide) rfl (fun ls hl => ?_)
  refine lv_aload_n hx hb dX6_ticksUntil_6 rfl (lv_at hl 1 rfl) ?_
  refine lv_iload_n hx hb dX6_ticksUntil_7 rfl (lv_at hl 3 rfl) ?_
  refine wl_on C0 ht hP hS (wl_runV (As := [.int r1]) (rest := []) C0 hP hS (k_X6_existingRoute l hst E w H.size F AD N hI hs r1) (cwV 1 hts gX6_ticksUntil_X6_existingRoute rfl rfl rfl (by decide +kernel) ⟨(Nat.le_of_ble_eq_true rfl), (Nat.le_of_ble_eq_true rfl)⟩) hs.x rfl rfl rfl hl.1 (Nat.le_of_ble_eq_true rfl) dX6_ticksUntil_8 ⟨(Nat.le_of_ble_eq_true rfl), (Nat.le_of_ble_eq_true rfl)⟩) (Nat.le_of_ble_eq_true rfl) (Nat.le_of_ble_eq_true rfl) (fun X w2 h => ⟨h.2.1, Or.inl (⟨by simp [s_ticksUntil, h.2.2, hv_2], h.1⟩)⟩) (fun v_8 w_8 H locs hq hP hS => ?_)
  obtain ⟨rfl, hw9, hv_8⟩ := hq
  rw [hw9] at hP
  have hi_8 : tn r1 < F 24 0 := (vpb_tn hv_8)
  refine W.eq (g2 := F0 m 11 ls [.ref (AD 0 (tn r1))]) rfl ?_
  refine W.widen (k := 2) (n := 12) (Nat.le_of_ble_eq_true rfl) (Nat.le_of_ble_eq_true rfl) ?_
  refine lv_astore (lv' := [(4, .ref (AD 0 (tn r1))), (3, .ref (AD 2 (tn c1))), (0, .ref (AD 5 0)), (1, .int c1), (2, .int r1)]) hx hb dX6_ticksUntil_11 hl (by decide) rfl (fun ls hl => ?_)
  refine lv_aload hx hb dX6_ticksUntil_13 (lv_at hl 0 rfl) ?_
  refine wl_getN (T := TX5) C0 hP (wSys.ro hs hi_8) hi_RX5 rfl 2 (by decide) hf_183 rfl dX6_ticksUntil_15 ?_
  refine lv_aload_n hx hb dX6_ticksUntil_18 rfl (lv_at hl 1 rfl) ?_
  refine wl_getN (T := TX1) C0 hP (wSys.cl hs hi_2) hi_RX1 rfl 1 (by decide) hf_186 rfl dX6_ticksUntil_19 ?_
  refine wl_getN (T := TX4) C0 hP (wSys.pl hs (hI.cl hi_2).1) hi_RX4 rfl 1 (by decide) hf_190 rfl dX6_ticksUntil_22 ?_
  refine lv_icmp_le (tgt := 38) hx hb dX6_ticksUntil_25 (by decide) (fun c_25 => ?_) (fun c_25 => ?_)
  · have q25 : ¬ F 11 (F 13 (tn c1)) < F 1 (tn r1) := Nat.not_lt.mpr ((nI_leI (by have h1 := hI.ro hi_8; omega) (by have h1 := hI.pl (hI.cl hi_2).1; omega)).mp c_25)
    refine lv_aload_n hx hb dX6_ticksUntil_38 rfl (lv_at hl 1 rfl) ?_
    refine lv_aload hx hb dX6_ticksUntil_39 (lv_at hl 0 rfl) ?_
    refine wl_getN (T := TX5) C0 hP (wSys.ro hs hi_8) hi_RX5 rfl 2 (by decide) hf_183 rfl dX6_ticksUntil_41 ?_
    refine wl_on C0 ht hP hS (wl_runVN (host := "CallGateway") (As := [.int (nI (F 1 (tn r1)))]) (rest := []) C0 hP hS (k_X1_ticksUntilItHas l hst E w H.size F AD hs (tn c1) (F 1 (tn r1)) hi_2 (hI.cl hi_2).1 (by have h1 := hI.cl hi_2; have h2 := hI.pl h1.1; omega) (by have h1 := hI.ro hi_8; omega) (hI.pl (hI.cl hi_2).1).1 (hI.pl (hI.cl hi_2).1).2.1) ⟨va_cnB 1 hts gX6_ticksUntil_X1_ticksUntilItHas_n195 rfl rfl rfl (C0.2.2.2.2.2.2.2.1.1 _ (by decide +kernel)) (hts _ (by decide +kernel)) (by decide +kernel) ⟨(Nat.le_of_ble_eq_true rfl), (Nat.le_of_ble_eq_true rfl)⟩, hts _ (by decide +kernel), hts _ (by decide +kernel)⟩ (wSys.cl hs hi_2) rfl rfl rfl hl.1 (Nat.le_of_ble_eq_true rfl) dX6_ticksUntil_44 ⟨(Nat.le_of_ble_eq_true rfl), (Nat.le_of_ble_eq_true rfl)⟩) (Nat.le_of_ble_eq_true rfl) (Nat.le_of_ble_eq_true rfl) (fun _ _ h => h.elim) (fun v_44 w_44 H locs hq hP hS => ?_)
    obtain ⟨rfl, hw9⟩ := hq
    rw [hw9] at hP
    refine W.eq (g2 := F0 m 47 ls [.int (nI (((F 1 (tn r1)) - F 14 (tn c1) + F 10 (F 13 (tn c1)) - 1) / F 10 (F 13 (tn c1))))]) rfl ?_
    have hev : s_ticksUntil F c1 r1 = (0, nI ((F 1 (tn r1) - F 14 (tn c1) + F 10 (F 13 (tn c1)) - 1) / F 10 (F 13 (tn c1))), F) := by simp [s_ticksUntil, hv_2, hv_8, q25]
    exact wl_iret C0 hr rfl hP hS dX6_ticksUntil_47 (Nat.le_of_ble_eq_true rfl) (Nat.le_of_ble_eq_true rfl) (⟨AD, by rw [hev], by rw [hev], by rw [hev]; exact hs, rfl, wKp.rf⟩)
  · have q25 : F 11 (F 13 (tn c1)) < F 1 (tn r1) := Nat.not_le.mp (fun q => c_25 ((nI_leI (by have h1 := hI.ro hi_8; omega) (by have h1 := hI.pl (hI.cl hi_2).1; omega)).mpr q))
    exact wl_throwX (ik := 144) (is := 193) (ic := 148) (i := 15) C0 hst ht (by decide +kernel) (hts _ (by decide +kernel)) (hts _ (by decide +kernel)) rfl (fun _ h => List.mem_cons_of_mem _ (List.mem_append_left _ (List.mem_append_right _ h))) xc_NSE xn_NSE xg_NSE hP hS hl.1 dX6_ticksUntil_28 dX6_ticksUntil_31 dX6_ticksUntil_32 dX6_ticksUntil_34 dX6_ticksUntil_37 (Nat.le_of_ble_eq_true rfl) (Nat.le_of_ble_eq_true rfl) (Nat.le_of_ble_eq_true rfl) (Nat.le_of_ble_eq_true rfl) (Nat.le_of_ble_eq_true rfl) (Nat.le_of_ble_eq_true rfl) (⟨rfl, Or.inr (⟨by simp [s_ticksUntil, hv_2, hv_8, q25], rfl⟩)⟩)

set_option maxHeartbeats 4000000 in
set_option maxRecDepth 100000 in
theorem k_X6_bill (l : Launch) (hst : l.stackTraces = false) (E : wEn) (w : wW) (sz : Nat) (F : FF) (AD : AT) (N : Nat) (hI : wInv F N) (hs : wSys E F AD w) (c1 : Int32) : wM l yX6_bill wsX6_bill 1 1 6 E w sz [.ref (AD 5 0), .int c1] (fun v w2 => ∃ AD2 : AT, (s_bill F c1).1 = 0 ∧ v = some (.long (s_bill F c1).2.1) ∧ wSys E (s_bill F c1).2.2 AD2 w2 ∧ AD2 5 0 = AD 5 0 ∧ wKp w w2) (fun X w2 => w2 = w ∧ ((s_bill F c1).1 = 1 ∧ X = xIOB)) := by
  refine wm_start (own := RX6) (cc := cX6_bill) (maxL := 2) (ret := (some .long)) rfl (by decide) rfl (Nat.le_of_ble_eq_true rfl) ?_
  intro p e s m args below meth c ls C0 hr hin ht hP hS hl
  have hx := C0.1
  have hb := C0.2.1
  have hts := C0.2.2.2.2.1
  have hown := C0.2.2.2.1
  have hl : lv_has ls 2 [(0, .ref (AD 5 0)), (1, .int c1)] := hl
  have hf_199 : va_Nw (.fieldLinkNest RX6 199 "CallGateway$Caller" "bill" "J" "CallGateway") s := C0.2.2.2.2.2.2.2.1.1 _ (by decide +kernel)
  have hi_RX1 : ∀ w ∈ u_ws RX1 TX1 4, w ∈ wsX6_bill := fun _ h => List.mem_cons_of_mem _ (List.mem_append_left _ (List.mem_append_left _ (List.mem_append_right _ h)))
  have hn := hI.n
  refine lv_aload_n hx hb dX6_bill_0 rfl (lv_at hl 0 rfl) ?_
  refine lv_iload_n hx hb dX6_bill_1 rfl (lv_at hl 1 rfl) ?_
  refine wl_on C0 ht hP hS (wl_runV (As := [.int c1]) (rest := []) C0 hP hS (k_X6_existingCaller l hst E w s.heap.size F AD N hI hs c1) (cwV 1 hts gX6_bill_X6_existingCaller rfl rfl rfl (by decide +kernel) ⟨(Nat.le_of_ble_eq_true rfl), (Nat.le_of_ble_eq_true rfl)⟩) hs.x rfl rfl rfl hl.1 (Nat.le_of_ble_eq_true rfl) dX6_bill_2 ⟨(Nat.le_of_ble_eq_true rfl), (Nat.le_of_ble_eq_true rfl)⟩) (Nat.le_of_ble_eq_true rfl) (Nat.le_of_ble_eq_true rfl) (fun X w2 h => ⟨h.2.1, ⟨by simp [s_bill, h.2.2], h.1⟩⟩) (fun v_2 w_2 H locs hq hP hS => ?_)
  obtain ⟨rfl, hw9, hv_2⟩ := hq
  rw [hw9] at hP
  have hi_2 : tn c1 < F 24 2 := (vpb_tn hv_2)
  refine W.eq (g2 := F0 m 5 ls [.ref (AD 2 (tn c1))]) rfl ?_
  refine W.widen (k := 1) (n := 6) (Nat.le_of_ble_eq_true rfl) (Nat.le_of_ble_eq_true rfl) ?_
  refine wl_getN (T := TX1) C0 hP (wSys.cl hs hi_2) hi_RX1 rfl 3 (by decide) hf_199 rfl dX6_bill_5 ?_
  have hev : s_bill F c1 = (0, lN (F 15 (tn c1)), F) := by simp [s_bill, hv_2]
  exact wl_lret C0 hr hP hS dX6_bill_8 (Nat.le_of_ble_eq_true rfl) (Nat.le_of_ble_eq_true rfl) (⟨AD, by rw [hev], by rw [hev], by rw [hev]; exact hs, rfl, wKp.rf⟩)

set_option maxHeartbeats 4000000 in
set_option maxRecDepth 100000 in
theorem k_X6_billByLog (l : Launch) (hst : l.stackTraces = false) (E : wEn) (w : wW) (sz : Nat) (F : FF) (AD : AT) (N : Nat) (hI : wInv F N) (hs : wSys E F AD w) (c1 : Int32) : wM l yX6_billByLog wsX6_billByLog 2 1 6 E w sz [.ref (AD 5 0), .int c1] (fun v w2 => ∃ AD2 : AT, (s_bill F c1).1 = 0 ∧ v = some (.long (s_bill F c1).2.1) ∧ wSys E (s_bill F c1).2.2 AD2 w2 ∧ AD2 5 0 = AD 5 0 ∧ wKp w w2) (fun X w2 => w2 = w ∧ ((s_bill F c1).1 = 1 ∧ X = xIOB)) := by
  refine wm_start (own := RX6) (cc := cX6_billByLog) (maxL := 2) (ret := (some .long)) rfl (by decide) rfl (Nat.le_of_ble_eq_true rfl) ?_
  intro p e s m args below meth c ls C0 hr hin ht hP hS hl
  have hx := C0.1
  have hb := C0.2.1
  have hts := C0.2.2.2.2.1
  have hown := C0.2.2.2.1
  have hl : lv_has ls 2 [(0, .ref (AD 5 0)), (1, .int c1)] := hl
  have hf_30 : (Cond.fieldLink RX6 30 "CallGateway" "log" "LCallGateway$CallLog;").before args s = true := hts _ (by decide +kernel)
  have hf_203 : va_Nw (.fieldLinkNest RX6 203 "CallGateway$Caller" "number" "I" "CallGateway") s := C0.2.2.2.2.2.2.2.1.1 _ (by decide +kernel)
  have hi_RX1 : ∀ w ∈ u_ws RX1 TX1 4, w ∈ wsX6_billByLog := fun _ h => List.mem_cons_of_mem _ (List.mem_append_left _ (List.mem_append_left _ (List.mem_append_left _ (List.mem_append_right _ h))))
  have hi_RX6 : ∀ w ∈ u_ws RX6 TX6 8, w ∈ wsX6_billByLog := fun _ h => List.mem_cons_of_mem _ (List.mem_append_left _ (List.mem_append_left _ (List.mem_append_left _ (List.mem_append_left _ (List.mem_append_right _ h)))))
  have hn := hI.n
  refine lv_aload_n hx hb dX6_billByLog_0 rfl (lv_at hl 0 rfl) ?_
  refine wl_get (T := TX6) C0 hP hs.x hi_RX6 rfl 3 (by decide) hf_30 rfl dX6_billByLog_1 ?_
  refine lv_aload_n hx hb dX6_billByLog_4 rfl (lv_at hl 0 rfl) ?_
  refine lv_iload_n hx hb dX6_billByLog_5 rfl (lv_at hl 1 rfl) ?_
  refine wl_on C0 ht hP hS (wl_runV (As := [.int c1]) (rest := [.ref (AD 5 4)]) C0 hP hS (k_X6_existingCaller l hst E w s.heap.size F AD N hI hs c1) (cwV 1 hts gX6_billByLog_X6_existingCaller rfl rfl rfl (by decide +kernel) ⟨(Nat.le_of_ble_eq_true rfl), (Nat.le_of_ble_eq_true rfl)⟩) hs.x rfl rfl rfl hl.1 (Nat.le_of_ble_eq_true rfl) dX6_billByLog_6 ⟨(Nat.le_of_ble_eq_true rfl), (Nat.le_of_ble_eq_true rfl)⟩) (Nat.le_of_ble_eq_true rfl) (Nat.le_of_ble_eq_true rfl) (fun X w2 h => ⟨h.2.1, ⟨by simp [s_bill, h.2.2], h.1⟩⟩) (fun v_6 w_6 H locs hq hP hS => ?_)
  obtain ⟨rfl, hw9, hv_6⟩ := hq
  rw [hw9] at hP
  have hi_6 : tn c1 < F 24 2 := (vpb_tn hv_6)
  refine W.eq (g2 := F0 m 9 ls [.ref (AD 2 (tn c1)), .ref (AD 5 4)]) rfl ?_
  refine W.widen (k := 1) (n := 6) (Nat.le_of_ble_eq_true rfl) (Nat.le_of_ble_eq_true rfl) ?_
  refine wl_getN (T := TX1) C0 hP (wSys.cl hs hi_6) hi_RX1 rfl 0 (by decide) hf_203 rfl dX6_billByLog_9 ?_
  refine wl_on C0 ht hP hS (wl_runVN (host := "CallGateway") (As := [.int (nI (tn c1))]) (rest := []) C0 hP hS (k_X0_billOf l hst E w H.size F AD N hI hs (tn c1) hi_6) ⟨va_cnB 1 hts gX6_billByLog_X0_billOf_n206 rfl rfl rfl (C0.2.2.2.2.2.2.2.1.1 _ (by decide +kernel)) (hts _ (by decide +kernel)) (by decide +kernel) ⟨(Nat.le_of_ble_eq_true rfl), (Nat.le_of_ble_eq_true rfl)⟩, hts _ (by decide +kernel), hts _ (by decide +kernel)⟩ hs.log rfl rfl rfl hl.1 (Nat.le_of_ble_eq_true rfl) dX6_billByLog_12 ⟨(Nat.le_of_ble_eq_true rfl), (Nat.le_of_ble_eq_true rfl)⟩) (Nat.le_of_ble_eq_true rfl) (Nat.le_of_ble_eq_true rfl) (fun _ _ h => h.elim) (fun v_12 w_12 H locs hq hP hS => ?_)
  obtain ⟨rfl, hw9⟩ := hq
  rw [hw9] at hP
  refine W.eq (g2 := F0 m 15 ls [.long (lN (F 15 (tn c1)))]) rfl ?_
  have hev : s_bill F c1 = (0, lN (F 15 (tn c1)), F) := by simp [s_bill, hv_6]
  exact wl_lret C0 hr hP hS dX6_billByLog_15 (Nat.le_of_ble_eq_true rfl) (Nat.le_of_ble_eq_true rfl) (⟨AD, by rw [hev], by rw [hev], by rw [hev]; exact hs, rfl, wKp.rf⟩)
