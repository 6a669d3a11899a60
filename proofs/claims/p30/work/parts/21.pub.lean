set_option maxHeartbeats 4000000 in
set_option maxRecDepth 100000 in
theorem k_X6_setContract (l : Launch) (hst : l.stackTraces = false) (E : wEn) (w : wW) (sz : Nat) (F : FF) (AD : AT) (N : Nat) (hI : wInv F N) (hs : wSys E F AD w) (r l1 g1 : Int32) : wM l yX6_setContract wsX6_setContract 3 2 12 E w sz [.ref (AD 5 0), .int r, .int l1, .int g1] (fun v w2 => ∃ AD2 : AT, (s_setContract F r l1 g1).1 = 0 ∧ v = some (.int (s_setContract F r l1 g1).2.1) ∧ wSys E (s_setContract F r l1 g1).2.2 AD2 w2 ∧ AD2 5 0 = AD 5 0 ∧ wKp w w2) (fun X w2 => w2 = w ∧ ((s_setContract F r l1 g1).1 = 1 ∧ X = xIOB ∨ (s_setContract F r l1 g1).1 = 2 ∧ X = xIAE)) := by
  refine wm_start (own := RX6) (cc := cX6_setContract) (maxL := 6) (ret := (some .int)) rfl (by decide) rfl (Nat.le_of_ble_eq_true rfl) ?_
  intro p e s m args below meth c ls C0 hr hin ht hP hS hl
  have hx := C0.1
  have hb := C0.2.1
  have hts := C0.2.2.2.2.1
  have hown := C0.2.2.2.1
  have hl : lv_has ls 6 [(0, .ref (AD 5 0)), (1, .int r), (2, .int l1), (3, .int g1)] := hl
  have hf_90 : va_Nw (.fieldLinkNest RX6 90 "CallGateway$Route" "least" "I" "CallGateway") s := C0.2.2.2.2.2.2.2.1.1 _ (by decide +kernel)
  have hf_93 : va_Nw (.fieldLinkNest RX6 93 "CallGateway$Route" "greatest" "I" "CallGateway") s := C0.2.2.2.2.2.2.2.1.1 _ (by decide +kernel)
  have hi_RX5 : ∀ w ∈ u_ws RX5 TX5 7, w ∈ wsX6_setContract := fun _ h => List.mem_cons_of_mem _ (List.mem_append_left _ (List.mem_append_left _ (List.mem_append_left _ (List.mem_append_right _ h))))
  have hn := hI.n
  refine lv_aload_n hx hb dX6_setContract_0 rfl (lv_at hl 0 rfl) ?_
  refine lv_iload_n hx hb dX6_setContract_1 rfl (lv_at hl 1 rfl) ?_
  refine wl_on C0 ht hP hS (wl_runV (As := [.int r]) (rest := []) C0 hP hS (k_X6_existingRoute l hst E w s.heap.size F AD N hI hs r) (cwV 1 hts gX6_setContract_X6_existingRoute rfl rfl rfl (by decide +kernel) ⟨(Nat.le_of_ble_eq_true rfl), (Nat.le_of_ble_eq_true rfl)⟩) hs.x rfl rfl rfl hl.1 (Nat.le_of_ble_eq_true rfl) dX6_setContract_2 ⟨(Nat.le_of_ble_eq_true rfl), (Nat.le_of_ble_eq_true rfl)⟩) (Nat.le_of_ble_eq_true rfl) (Nat.le_of_ble_eq_true rfl) (fun X w2 h => ⟨h.2.1, Or.inl (⟨by simp [s_setContract, h.2.2], h.1⟩)⟩) (fun v_2 w_2 H locs hq hP hS => ?_)
  obtain ⟨rfl, hw9, hv_2⟩ := hq
  rw [hw9] at hP
  have hi_2 : tn r < F 24 0 := (vpb_tn hv_2)
  refine W.eq (g2 := F0 m 5 ls [.ref (AD 0 (tn r))]) rfl ?_
  refine W.widen (k := 1) (n := 6) (Nat.le_of_ble_eq_true rfl) (Nat.le_of_ble_eq_true rfl) ?_
  refine lv_astore (lv' := [(4, .ref (AD 0 (tn r))), (0, .ref (AD 5 0)), (1, .int r), (2, .int l1), (3, .int g1)]) hx hb dX6_setContract_5 hl (by decide) rfl (fun ls hl => ?_)
  refine lv_iload_n hx hb dX6_setContract_7 rfl (lv_at hl 3 rfl) ?_
  refine lv_iload_n hx hb dX6_setContract_8 rfl (lv_at hl 4 rfl) ?_
  refine wl_on C0 ht hP hS (wl_runS (As := [.int l1, .int g1]) (rest := []) C0 hP hS (k_X6_isContract l hst E w H.size l1 g1) (va_cwS 2 hts gX6_setContract_X6_isContract rfl rfl rfl (by decide +kernel) ⟨(Nat.le_of_ble_eq_true rfl), (Nat.le_of_ble_eq_true rfl)⟩) rfl rfl hl.1 (Nat.le_of_ble_eq_true rfl) dX6_setContract_9 ⟨(Nat.le_of_ble_eq_true rfl), (Nat.le_of_ble_eq_true rfl)⟩) (Nat.le_of_ble_eq_true rfl) (Nat.le_of_ble_eq_true rfl) (fun _ _ h => h.elim) (fun v_9 w_9 H locs hq hP hS => ?_)
  obtain ⟨rfl, hw9⟩ := hq
  rw [hw9] at hP
  refine W.eq (g2 := F0 m 12 ls [.int (bI (ctr l1 g1))]) rfl ?_
  refine lv_if_ne (tgt := 25) hx hb dX6_setContract_12 (by decide) (fun c_12 => ?_) (fun c_12 => ?_)
  · have q12 := bI_n.mp c_12
    have hct := ctr_tn q12
    refine lv_aload hx hb dX6_setContract_25 (lv_at hl 0 rfl) ?_
    refine wl_getN (T := TX5) C0 hP (wSys.ro hs hi_2) hi_RX5 rfl 3 (by decide) hf_90 rfl dX6_setContract_27 ?_
    refine lv_istore (lv' := [(5, .int (nI (F 2 (tn r)))), (4, .ref (AD 0 (tn r))), (0, .ref (AD 5 0)), (1, .int r), (2, .int l1), (3, .int g1)]) hx hb dX6_setContract_30 hl (by decide) rfl (fun ls hl => ?_)
    refine lv_aload hx hb dX6_setContract_32 (lv_at hl 1 rfl) ?_
    refine lv_iload_n hx hb dX6_setContract_34 rfl (lv_at hl 4 rfl) ?_
    refine wl_putN (T := TX5) (ty0 := tyX5) (fs2 := [.int (nI (tn r)), .int (nI (F 0 (tn r))), .int (nI (F 1 (tn r))), .int l1, .int (nI (F 3 (tn r))), .int (nI (F 4 (tn r))), va_rf (rfC (F 5 (tn r)) (AD 4 (tn r)))]) C0 hP hS (wSys.ro hs hi_2) hi_RX5 tyX5_ok nmX5 rfl 3 (by decide) hf_90 rfl rfl rfl rfl (Nat.le_of_ble_eq_true rfl) rfl dX6_setContract_35 (fun H locs hP hS => ?_)
    refine lv_aload hx hb dX6_setContract_38 (lv_at hl 1 rfl) ?_
    refine lv_iload_n hx hb dX6_setContract_40 rfl (lv_at hl 5 rfl) ?_
    have f9_1 : (wU w (AD 0 (tn r)) (.inr (5, [.int (nI (tn r)), .int (nI (F 0 (tn r))), .int (nI (F 1 (tn r))), .int l1, .int (nI (F 3 (tn r))), .int (nI (F 4 (tn r))), va_rf (rfC (F 5 (tn r)) (AD 4 (tn r)))]))) (AD 0 (tn r)) = some (.inr (5, [.int (nI (tn r)), .int (nI (F 0 (tn r))), .int (nI (F 1 (tn r))), .int l1, .int (nI (F 3 (tn r))), .int (nI (F 4 (tn r))), va_rf (rfC (F 5 (tn r)) (AD 4 (tn r)))])) := (wU_s _ _ _)
    refine wl_putN (T := TX5) (ty0 := tyX5) (fs2 := [.int (nI (tn r)), .int (nI (F 0 (tn r))), .int (nI (F 1 (tn r))), .int l1, .int g1, .int (nI (F 4 (tn r))), va_rf (rfC (F 5 (tn r)) (AD 4 (tn r)))]) C0 hP hS f9_1 hi_RX5 tyX5_ok nmX5 rfl 4 (by decide) hf_93 rfl rfl rfl rfl (Nat.le_of_ble_eq_true rfl) rfl dX6_setContract_41 (fun H locs hP hS => ?_)
    rw [wU_c] at hP
    refine lv_iload hx hb dX6_setContract_44 (lv_at hl 0 rfl) ?_
    have hev : s_setContract F r l1 g1 = (0, nI (F 2 (tn r)), fU (fU F 2 (tn r) (tn l1)) 3 (tn r) (tn g1)) := by simp [s_setContract, hv_2, q12]
    exact wl_iret C0 hr rfl hP hS dX6_setContract_46 (Nat.le_of_ble_eq_true rfl) (Nat.le_of_ble_eq_true rfl) (⟨AD, by rw [hev], by rw [hev], by rw [hev]; exact U_ro hs hi_2 hn.1 (fun a b h => by simp only [fU]; (repeat' split) <;> first | rfl | omega) (by rw [wU_s]; simp [e_route, fU, hct.1, hct.2.1]) (fun b hb9 => wU_n _ _ hb9), rfl, wKp.rf.u (hs.ro hi_2) rfl⟩)
  · have q12 : ctr l1 g1 = false := bI_0.mp c_12
    exact wl_throwS (ik := 46) (is := 88) (ic := 50) (i := 6) C0 hst ht (by decide +kernel) (hts _ (by decide +kernel)) (hts _ (by decide +kernel)) rfl (fun _ h => List.mem_cons_of_mem _ (List.mem_append_left _ (List.mem_append_right _ h))) xc_IAE xn_IAE xg_IAE hP hS hl.1 dX6_setContract_15 dX6_setContract_18 dX6_setContract_19 dX6_setContract_21 dX6_setContract_24 (Nat.le_of_ble_eq_true rfl) (Nat.le_of_ble_eq_true rfl) (Nat.le_of_ble_eq_true rfl) (Nat.le_of_ble_eq_true rfl) (Nat.le_of_ble_eq_true rfl) (Nat.le_of_ble_eq_true rfl) (⟨rfl, Or.inr (⟨by simp [s_setContract, hv_2, q12], rfl⟩)⟩)

set_option maxHeartbeats 4000000 in
set_option maxRecDepth 100000 in
theorem k_X6_setAnswer (l : Launch) (hst : l.stackTraces = false) (E : wEn) (w : wW) (sz : Nat) (F : FF) (AD : AT) (N : Nat) (hI : wInv F N) (hs : wSys E F AD w) (r a1 : Int32) : wM l yX6_setAnswer wsX6_setAnswer 3 2 12 E w sz [.ref (AD 5 0), .int r, .int a1] (fun v w2 => ∃ AD2 : AT, (s_setAnswer F r a1).1 = 0 ∧ v = some (.int (s_setAnswer F r a1).2.1) ∧ wSys E (s_setAnswer F r a1).2.2 AD2 w2 ∧ AD2 5 0 = AD 5 0 ∧ wKp w w2) (fun X w2 => w2 = w ∧ ((s_setAnswer F r a1).1 = 1 ∧ X = xIOB ∨ (s_setAnswer F r a1).1 = 2 ∧ X = xIAE)) := by
  refine wm_start (own := RX6) (cc := cX6_setAnswer) (maxL := 5) (ret := (some .int)) rfl (by decide) rfl (Nat.le_of_ble_eq_true rfl) ?_
  intro p e s m args below meth c ls C0 hr hin ht hP hS hl
  have hx := C0.1
  have hb := C0.2.1
  have hts := C0.2.2.2.2.1
  have hown := C0.2.2.2.1
  have hl : lv_has ls 5 [(0, .ref (AD 5 0)), (1, .int r), (2, .int a1)] := hl
  have hf_101 : va_Nw (.fieldLinkNest RX6 101 "CallGateway$Route" "stableAnswer" "I" "CallGateway") s := C0.2.2.2.2.2.2.2.1.1 _ (by decide +kernel)
  have hi_RX5 : ∀ w ∈ u_ws RX5 TX5 7, w ∈ wsX6_setAnswer := fun _ h => List.mem_cons_of_mem _ (List.mem_append_left _ (List.mem_append_left _ (List.mem_append_left _ (List.mem_append_right _ h))))
  have hn := hI.n
  refine lv_aload_n hx hb dX6_setAnswer_0 rfl (lv_at hl 0 rfl) ?_
  refine lv_iload_n hx hb dX6_setAnswer_1 rfl (lv_at hl 1 rfl) ?_
  refine wl_on C0 ht hP hS (wl_runV (As := [.int r]) (rest := []) C0 hP hS (k_X6_existingRoute l hst E w s.heap.size F AD N hI hs r) (cwV 1 hts gX6_setAnswer_X6_existingRoute rfl rfl rfl (by decide +kernel) ⟨(Nat.le_of_ble_eq_true rfl), (Nat.le_of_ble_eq_true rfl)⟩) hs.x rfl rfl rfl hl.1 (Nat.le_of_ble_eq_true rfl) dX6_setAnswer_2 ⟨(Nat.le_of_ble_eq_true rfl), (Nat.le_of_ble_eq_true rfl)⟩) (Nat.le_of_ble_eq_true rfl) (Nat.le_of_ble_eq_true rfl) (fun X w2 h => ⟨h.2.1, Or.inl (⟨by simp [s_setAnswer, h.2.2], h.1⟩)⟩) (fun v_2 w_2 H locs hq hP hS => ?_)
  obtain ⟨rfl, hw9, hv_2⟩ := hq
  rw [hw9] at hP
  have hi_2 : tn r < F 24 0 := (vpb_tn hv_2)
  refine W.eq (g2 := F0 m 5 ls [.ref (AD 0 (tn r))]) rfl ?_
  refine W.widen (k := 1) (n := 6) (Nat.le_of_ble_eq_true rfl) (Nat.le_of_ble_eq_true rfl) ?_
  refine lv_astore_n (lv' := [(3, .ref (AD 0 (tn r))), (0, .ref (AD 5 0)), (1, .int r), (2, .int a1)]) hx hb dX6_setAnswer_5 rfl hl (by decide) rfl (fun ls hl => ?_)
  refine lv_iload_n hx hb dX6_setAnswer_6 rfl (lv_at hl 3 rfl) ?_
  refine wl_on C0 ht hP hS (wl_runS (As := [.int a1]) (rest := []) C0 hP hS (k_X6_isAnswer l hst E w H.size a1) (va_cwS 1 hts gX6_setAnswer_X6_isAnswer rfl rfl rfl (by decide +kernel) ⟨(Nat.le_of_ble_eq_true rfl), (Nat.le_of_ble_eq_true rfl)⟩) rfl rfl hl.1 (Nat.le_of_ble_eq_true rfl) dX6_setAnswer_7 ⟨(Nat.le_of_ble_eq_true rfl), (Nat.le_of_ble_eq_true rfl)⟩) (Nat.le_of_ble_eq_true rfl) (Nat.le_of_ble_eq_true rfl) (fun _ _ h => h.elim) (fun v_7 w_7 H locs hq hP hS => ?_)
  obtain ⟨rfl, hw9⟩ := hq
  rw [hw9] at hP
  refine W.eq (g2 := F0 m 10 ls [.int (bI (wi a1 0 999))]) rfl ?_
  refine lv_if_ne (tgt := 23) hx hb dX6_setAnswer_10 (by decide) (fun c_10 => ?_) (fun c_10 => ?_)
  · have q10 := bI_n.mp c_10
    have hct := wi_tn (lo := 0) (hi := 999) q10 (by omega) (by omega)
    refine lv_aload_n hx hb dX6_setAnswer_23 rfl (lv_at hl 0 rfl) ?_
    refine wl_getN (T := TX5) C0 hP (wSys.ro hs hi_2) hi_RX5 rfl 5 (by decide) hf_101 rfl dX6_setAnswer_24 ?_
    refine lv_istore (lv' := [(4, .int (nI (F 4 (tn r)))), (3, .ref (AD 0 (tn r))), (0, .ref (AD 5 0)), (1, .int r), (2, .int a1)]) hx hb dX6_setAnswer_27 hl (by decide) rfl (fun ls hl => ?_)
    refine lv_aload_n hx hb dX6_setAnswer_29 rfl (lv_at hl 1 rfl) ?_
    refine lv_iload_n hx hb dX6_setAnswer_30 rfl (lv_at hl 4 rfl) ?_
    refine wl_putN (T := TX5) (ty0 := tyX5) (fs2 := [.int (nI (tn r)), .int (nI (F 0 (tn r))), .int (nI (F 1 (tn r))), .int (nI (F 2 (tn r))), .int (nI (F 3 (tn r))), .int a1, va_rf (rfC (F 5 (tn r)) (AD 4 (tn r)))]) C0 hP hS (wSys.ro hs hi_2) hi_RX5 tyX5_ok nmX5 rfl 5 (by decide) hf_101 rfl rfl rfl rfl (Nat.le_of_ble_eq_true rfl) rfl dX6_setAnswer_31 (fun H locs hP hS => ?_)
    refine lv_iload hx hb dX6_setAnswer_34 (lv_at hl 0 rfl) ?_
    have hev : s_setAnswer F r a1 = (0, nI (F 4 (tn r)), fU F 4 (tn r) (tn a1)) := by simp [s_setAnswer, hv_2, q10]
    exact wl_iret C0 hr rfl hP hS dX6_setAnswer_36 (Nat.le_of_ble_eq_true rfl) (Nat.le_of_ble_eq_true rfl) (⟨AD, by rw [hev], by rw [hev], by rw [hev]; exact U_ro hs hi_2 hn.1 (fun a b h => by simp only [fU]; (repeat' split) <;> first | rfl | omega) (by rw [wU_s]; simp [e_route, fU, hct.1]) (fun b hb9 => wU_n _ _ hb9), rfl, wKp.rf.u (hs.ro hi_2) rfl⟩)
  · have q10 : wi a1 0 999 = false := bI_0.mp c_10
    exact wl_throwS (ik := 46) (is := 99) (ic := 50) (i := 7) C0 hst ht (by decide +kernel) (hts _ (by decide +kernel)) (hts _ (by decide +kernel)) rfl (fun _ h => List.mem_cons_of_mem _ (List.mem_append_left _ (List.mem_append_right _ h))) xc_IAE xn_IAE xg_IAE hP hS hl.1 dX6_setAnswer_13 dX6_setAnswer_16 dX6_setAnswer_17 dX6_setAnswer_19 dX6_setAnswer_22 (Nat.le_of_ble_eq_true rfl) (Nat.le_of_ble_eq_true rfl) (Nat.le_of_ble_eq_true rfl) (Nat.le_of_ble_eq_true rfl) (Nat.le_of_ble_eq_true rfl) (Nat.le_of_ble_eq_true rfl) (⟨rfl, Or.inr (⟨by simp [s_setAnswer, hv_2, q10], rfl⟩)⟩)

set_option maxHeartbeats 4000000 in
set_option maxRecDepth 100000 in
theorem k_X6_broken (l : Launch) (hst : l.stackTraces = false) (E : wEn) (w : wW) (sz : Nat) (F : FF) (AD : AT) (N : Nat) (hI : wInv F N) (hs : wSys E F AD w) (r : Int32) : wM l yX6_broken wsX6_broken 1 1 6 E w sz [.ref (AD 5 0), .int r] (fun v w2 => ∃ AD2 : AT, (s_broken F r).1 = 0 ∧ v = some (.int (s_broken F r).2.1) ∧ wSys E (s_broken F r).2.2 AD2 w2 ∧ AD2 5 0 = AD 5 0 ∧ wKp w w2) (fun X w2 => w2 = w ∧ ((s_broken F r).1 = 1 ∧ X = xIOB)) := by
  refine wm_start (own := RX6) (cc := cX6_broken) (maxL := 6) (ret := (some .char)) rfl (by decide) rfl (Nat.le_of_ble_eq_true rfl) ?_
  intro p e s m args below meth c ls C0 hr hin ht hP hS hl
  have hx := C0.1
  have hb := C0.2.1
  have hts := C0.2.2.2.2.1
  have hown := C0.2.2.2.1
  have hl : lv_has ls 6 [(0, .ref (AD 5 0)), (1, .int r)] := hl
  have hf_104 : va_Nw (.fieldLinkNest RX6 104 "CallGateway$Route" "canary" "LCallGateway$Canary;" "CallGateway") s := C0.2.2.2.2.2.2.2.1.1 _ (by decide +kernel)
  have hf_101 : va_Nw (.fieldLinkNest RX6 101 "CallGateway$Route" "stableAnswer" "I" "CallGateway") s := C0.2.2.2.2.2.2.2.1.1 _ (by decide +kernel)
  have hf_111 : va_Nw (.fieldLinkNest RX6 111 "CallGateway$Canary" "answer" "I" "CallGateway") s := C0.2.2.2.2.2.2.2.1.1 _ (by decide +kernel)
  have hi_RX2 : ∀ w ∈ u_ws RX2 TX2 5, w ∈ wsX6_broken := fun _ h => List.mem_cons_of_mem _ (List.mem_append_left _ (List.mem_append_left _ (List.mem_append_right _ h)))
  have hi_RX5 : ∀ w ∈ u_ws RX5 TX5 7, w ∈ wsX6_broken := fun _ h => List.mem_cons_of_mem _ (List.mem_append_left _ (List.mem_append_left _ (List.mem_append_left _ (List.mem_append_right _ h))))
  have hn := hI.n
  refine lv_aload_n hx hb dX6_broken_0 rfl (lv_at hl 0 rfl) ?_
  refine lv_iload_n hx hb dX6_broken_1 rfl (lv_at hl 1 rfl) ?_
  refine wl_on C0 ht hP hS (wl_runV (As := [.int r]) (rest := []) C0 hP hS (k_X6_existingRoute l hst E w s.heap.size F AD N hI hs r) (cwV 1 hts gX6_broken_X6_existingRoute rfl rfl rfl (by decide +kernel) ⟨(Nat.le_of_ble_eq_true rfl), (Nat.le_of_ble_eq_true rfl)⟩) hs.x rfl rfl rfl hl.1 (Nat.le_of_ble_eq_true rfl) dX6_broken_2 ⟨(Nat.le_of_ble_eq_true rfl), (Nat.le_of_ble_eq_true rfl)⟩) (Nat.le_of_ble_eq_true rfl) (Nat.le_of_ble_eq_true rfl) (fun X w2 h => ⟨h.2.1, ⟨by simp [s_broken, h.2.2], h.1⟩⟩) (fun v_2 w_2 H locs hq hP hS => ?_)
  obtain ⟨rfl, hw9, hv_2⟩ := hq
  rw [hw9] at hP
  have hi_2 : tn r < F 24 0 := (vpb_tn hv_2)
  refine W.eq (g2 := F0 m 5 ls [.ref (AD 0 (tn r))]) rfl ?_
  refine W.widen (k := 1) (n := 6) (Nat.le_of_ble_eq_true rfl) (Nat.le_of_ble_eq_true rfl) ?_
  refine lv_astore_n (lv' := [(2, .ref (AD 0 (tn r))), (0, .ref (AD 5 0)), (1, .int r)]) hx hb dX6_broken_5 rfl hl (by decide) rfl (fun ls hl => ?_)
  refine lv_aload_n hx hb dX6_broken_6 rfl (lv_at hl 0 rfl) ?_
  refine wl_getN (T := TX5) C0 hP (wSys.ro hs hi_2) hi_RX5 rfl 6 (by decide) hf_104 rfl dX6_broken_7 ?_
  refine wl_rfC (fun h_10 => ?_) (fun h_10 => ?_)
  · refine lv_astore_nN (lv' := [(3, .null), (2, .ref (AD 0 (tn r))), (0, .ref (AD 5 0)), (1, .int r)]) hx hb dX6_broken_10 rfl hl (by decide) rfl (fun ls hl => ?_)
    refine lv_aload_n hx hb dX6_broken_11 rfl (lv_at hl 1 rfl) ?_
    refine lv_aload_n hx hb dX6_broken_12 rfl (lv_at hl 1 rfl) ?_
    refine wl_getN (T := TX5) C0 hP (wSys.ro hs hi_2) hi_RX5 rfl 5 (by decide) hf_101 rfl dX6_broken_13 ?_
    refine wl_on C0 ht hP hS (wl_runVN (host := "CallGateway") (As := [.int (nI (F 4 (tn r)))]) (rest := []) C0 hP hS (k_X5_isBrokenBy l hst E w H.size F AD N hI hs (tn r) hi_2 (F 4 (tn r)) (hI.ro hi_2).2.2.2.2.2.1) ⟨va_cnB 1 hts gX6_broken_X5_isBrokenBy_n108 rfl rfl rfl (C0.2.2.2.2.2.2.2.1.1 _ (by decide +kernel)) (hts _ (by decide +kernel)) (by decide +kernel) ⟨(Nat.le_of_ble_eq_true rfl), (Nat.le_of_ble_eq_true rfl)⟩, hts _ (by decide +kernel), hts _ (by decide +kernel)⟩ (wSys.ro hs hi_2) rfl rfl rfl hl.1 (Nat.le_of_ble_eq_true rfl) dX6_broken_16 ⟨(Nat.le_of_ble_eq_true rfl), (Nat.le_of_ble_eq_true rfl)⟩) (Nat.le_of_ble_eq_true rfl) (Nat.le_of_ble_eq_true rfl) (fun _ _ h => h.elim) (fun v_16 w_16 H locs hq hP hS => ?_)
    obtain ⟨rfl, hw9⟩ := hq
    rw [hw9] at hP
    refine W.eq (g2 := F0 m 19 ls [.int (bI (brk F (tn r) (F 4 (tn r))))]) rfl ?_
    refine lv_istore (lv' := [(4, .int (bI (brk F (tn r) (F 4 (tn r))))), (3, .null), (2, .ref (AD 0 (tn r))), (0, .ref (AD 5 0)), (1, .int r)]) hx hb dX6_broken_19 hl (by decide) rfl (fun ls hl => ?_)
    refine lv_aload_nN hx hb dX6_broken_21 rfl (lv_at hl 1 rfl) ?_
    refine lv_ifnullN (tgt := 40) hx hb dX6_broken_22 (by decide) ?_
    refine lv_iconst (v := 0) hx hb dX6_broken_40 (by decide) ?_
    refine lv_istore (lv' := [(5, .int 0), (4, .int (bI (brk F (tn r) (F 4 (tn r))))), (3, .null), (2, .ref (AD 0 (tn r))), (0, .ref (AD 5 0)), (1, .int r)]) hx hb dX6_broken_41 hl (by decide) rfl (fun ls hl => ?_)
    refine lv_iload hx hb dX6_broken_43 (lv_at hl 1 rfl) ?_
    refine lv_if_eq (tgt := 61) hx hb dX6_broken_45 (by decide) (fun c_45 => ?_) (fun c_45 => ?_)
    · refine lv_iload hx hb dX6_broken_61 (lv_at hl 0 rfl) ?_
      refine lv_if_eq (tgt := 71) hx hb dX6_broken_63 (by decide) (fun c_63 => ?_) (fun c_63 => ?_)
      · refine lv_bipush (v := 110) hx hb dX6_broken_71 (by decide) ?_
        have hev : s_broken F r = (0, 110, F) := by simp [s_broken, c_broken, hv_2, h_10, bI_0.mp c_45]
        exact wl_iret C0 hr (by decide) hP hS dX6_broken_73 (Nat.le_of_ble_eq_true rfl) (Nat.le_of_ble_eq_true rfl) (⟨AD, by rw [hev], by rw [hev], by rw [hev]; exact hs, rfl, wKp.rf⟩)
      · exact absurd rfl c_63
    · refine lv_iload hx hb dX6_broken_48 (lv_at hl 0 rfl) ?_
      refine lv_if_eq (tgt := 58) hx hb dX6_broken_50 (by decide) (fun c_50 => ?_) (fun c_50 => ?_)
      · refine lv_bipush (v := 115) hx hb dX6_broken_58 (by decide) ?_
        have hev : s_broken F r = (0, 115, F) := by simp [s_broken, c_broken, hv_2, h_10, bI_n.mp c_45]
        exact wl_iret C0 hr (by decide) hP hS dX6_broken_60 (Nat.le_of_ble_eq_true rfl) (Nat.le_of_ble_eq_true rfl) (⟨AD, by rw [hev], by rw [hev], by rw [hev]; exact hs, rfl, wKp.rf⟩)
      · exact absurd rfl c_50
  · refine lv_astore_n (lv' := [(3, .ref (AD 4 (tn r))), (2, .ref (AD 0 (tn r))), (0, .ref (AD 5 0)), (1, .int r)]) hx hb dX6_broken_10 rfl hl (by decide) rfl (fun ls hl => ?_)
    refine lv_aload_n hx hb dX6_broken_11 rfl (lv_at hl 1 rfl) ?_
    refine lv_aload_n hx hb dX6_broken_12 rfl (lv_at hl 1 rfl) ?_
    refine wl_getN (T := TX5) C0 hP (wSys.ro hs hi_2) hi_RX5 rfl 5 (by decide) hf_101 rfl dX6_broken_13 ?_
    refine wl_on C0 ht hP hS (wl_runVN (host := "CallGateway") (As := [.int (nI (F 4 (tn r)))]) (rest := []) C0 hP hS (k_X5_isBrokenBy l hst E w H.size F AD N hI hs (tn r) hi_2 (F 4 (tn r)) (hI.ro hi_2).2.2.2.2.2.1) ⟨va_cnB 1 hts gX6_broken_X5_isBrokenBy_n108 rfl rfl rfl (C0.2.2.2.2.2.2.2.1.1 _ (by decide +kernel)) (hts _ (by decide +kernel)) (by decide +kernel) ⟨(Nat.le_of_ble_eq_true rfl), (Nat.le_of_ble_eq_true rfl)⟩, hts _ (by decide +kernel), hts _ (by decide +kernel)⟩ (wSys.ro hs hi_2) rfl rfl rfl hl.1 (Nat.le_of_ble_eq_true rfl) dX6_broken_16 ⟨(Nat.le_of_ble_eq_true rfl), (Nat.le_of_ble_eq_true rfl)⟩) (Nat.le_of_ble_eq_true rfl) (Nat.le_of_ble_eq_true rfl) (fun _ _ h => h.elim) (fun v_16 w_16 H locs hq hP hS => ?_)
    obtain ⟨rfl, hw9⟩ := hq
    rw [hw9] at hP
    refine W.eq (g2 := F0 m 19 ls [.int (bI (brk F (tn r) (F 4 (tn r))))]) rfl ?_
    refine lv_istore (lv' := [(4, .int (bI (brk F (tn r) (F 4 (tn r))))), (3, .ref (AD 4 (tn r))), (2, .ref (AD 0 (tn r))), (0, .ref (AD 5 0)), (1, .int r)]) hx hb dX6_broken_19 hl (by decide) rfl (fun ls hl => ?_)
    refine lv_aload_n hx hb dX6_broken_21 rfl (lv_at hl 1 rfl) ?_
    refine lv_ifnull hx hb dX6_broken_22 ?_
    refine lv_aload_n hx hb dX6_broken_25 rfl (lv_at hl 2 rfl) ?_
    refine lv_aload_n hx hb dX6_broken_26 rfl (lv_at hl 1 rfl) ?_
    refine wl_getN (T := TX2) C0 hP (wSys.ca hs hi_2 h_10) hi_RX2 rfl 1 (by decide) hf_111 rfl dX6_broken_27 ?_
    refine wl_on C0 ht hP hS (wl_runVN (host := "CallGateway") (As := [.int (nI (F 6 (tn r)))]) (rest := []) C0 hP hS (k_X5_isBrokenBy l hst E w H.size F AD N hI hs (tn r) hi_2 (F 6 (tn r)) (hI.ca hi_2 h_10).1) ⟨va_cnB 1 hts gX6_broken_X5_isBrokenBy_n108 rfl rfl rfl (C0.2.2.2.2.2.2.2.1.1 _ (by decide +kernel)) (hts _ (by decide +kernel)) (by decide +kernel) ⟨(Nat.le_of_ble_eq_true rfl), (Nat.le_of_ble_eq_true rfl)⟩, hts _ (by decide +kernel), hts _ (by decide +kernel)⟩ (wSys.ro hs hi_2) rfl rfl rfl hl.1 (Nat.le_of_ble_eq_true rfl) dX6_broken_30 ⟨(Nat.le_of_ble_eq_true rfl), (Nat.le_of_ble_eq_true rfl)⟩) (Nat.le_of_ble_eq_true rfl) (Nat.le_of_ble_eq_true rfl) (fun _ _ h => h.elim) (fun v_30 w_30 H locs hq hP hS => ?_)
    obtain ⟨rfl, hw9⟩ := hq
    rw [hw9] at hP
    refine W.eq (g2 := F0 m 33 ls [.int (bI (brk F (tn r) (F 6 (tn r))))]) rfl ?_
    refine lv_if_eq (tgt := 40) hx hb dX6_broken_33 (by decide) (fun c_33 => ?_) (fun c_33 => ?_)
    · refine lv_iconst (v := 0) hx hb dX6_broken_40 (by decide) ?_
      refine lv_istore (lv' := [(5, .int 0), (4, .int (bI (brk F (tn r) (F 4 (tn r))))), (3, .ref (AD 4 (tn r))), (2, .ref (AD 0 (tn r))), (0, .ref (AD 5 0)), (1, .int r)]) hx hb dX6_broken_41 hl (by decide) rfl (fun ls hl => ?_)
      refine lv_iload hx hb dX6_broken_43 (lv_at hl 1 rfl) ?_
      refine lv_if_eq (tgt := 61) hx hb dX6_broken_45 (by decide) (fun c_45 => ?_) (fun c_45 => ?_)
      · refine lv_iload hx hb dX6_broken_61 (lv_at hl 0 rfl) ?_
        refine lv_if_eq (tgt := 71) hx hb dX6_broken_63 (by decide) (fun c_63 => ?_) (fun c_63 => ?_)
        · refine lv_bipush (v := 110) hx hb dX6_broken_71 (by decide) ?_
          have hev : s_broken F r = (0, 110, F) := by simp [s_broken, c_broken, hv_2, h_10, bI_0.mp c_33, bI_0.mp c_45]
          exact wl_iret C0 hr (by decide) hP hS dX6_broken_73 (Nat.le_of_ble_eq_true rfl) (Nat.le_of_ble_eq_true rfl) (⟨AD, by rw [hev], by rw [hev], by rw [hev]; exact hs, rfl, wKp.rf⟩)
        · exact absurd rfl c_63
      · refine lv_iload hx hb dX6_broken_48 (lv_at hl 0 rfl) ?_
        refine lv_if_eq (tgt := 58) hx hb dX6_broken_50 (by decide) (fun c_50 => ?_) (fun c_50 => ?_)
        · refine lv_bipush (v := 115) hx hb dX6_broken_58 (by decide) ?_
          have hev : s_broken F r = (0, 115, F) := by simp [s_broken, c_broken, hv_2, h_10, bI_0.mp c_33, bI_n.mp c_45]
          exact wl_iret C0 hr (by decide) hP hS dX6_broken_60 (Nat.le_of_ble_eq_true rfl) (Nat.le_of_ble_eq_true rfl) (⟨AD, by rw [hev], by rw [hev], by rw [hev]; exact hs, rfl, wKp.rf⟩)
        · exact absurd rfl c_50
    · refine lv_iconst (v := 1) hx hb dX6_broken_36 (by decide) ?_
      refine lv_goto (tgt := 41) hx hb dX6_broken_37 (by decide) ?_
      refine lv_istore (lv' := [(5, .int 1), (4, .int (bI (brk F (tn r) (F 4 (tn r))))), (3, .ref (AD 4 (tn r))), (2, .ref (AD 0 (tn r))), (0, .ref (AD 5 0)), (1, .int r)]) hx hb dX6_broken_41 hl (by decide) rfl (fun ls hl => ?_)
      refine lv_iload hx hb dX6_broken_43 (lv_at hl 1 rfl) ?_
      refine lv_if_eq (tgt := 61) hx hb dX6_broken_45 (by decide) (fun c_45 => ?_) (fun c_45 => ?_)
      · refine lv_iload hx hb dX6_broken_61 (lv_at hl 0 rfl) ?_
        refine lv_if_eq (tgt := 71) hx hb dX6_broken_63 (by decide) (fun c_63 => ?_) (fun c_63 => ?_)
        · exact absurd c_63 (by decide)
        · refine lv_bipush (v := 99) hx hb dX6_broken_66 (by decide) ?_
          refine lv_goto (tgt := 73) hx hb dX6_broken_68 (by decide) ?_
          have hev : s_broken F r = (0, 99, F) := by simp [s_broken, c_broken, hv_2, h_10, bI_n.mp c_33, bI_0.mp c_45]
          exact wl_iret C0 hr (by decide) hP hS dX6_broken_73 (Nat.le_of_ble_eq_true rfl) (Nat.le_of_ble_eq_true rfl) (⟨AD, by rw [hev], by rw [hev], by rw [hev]; exact hs, rfl, wKp.rf⟩)
      · refine lv_iload hx hb dX6_broken_48 (lv_at hl 0 rfl) ?_
        refine lv_if_eq (tgt := 58) hx hb dX6_broken_50 (by decide) (fun c_50 => ?_) (fun c_50 => ?_)
        · exact absurd c_50 (by decide)
        · refine lv_bipush (v := 98) hx hb dX6_broken_53 (by decide) ?_
          refine lv_goto (tgt := 60) hx hb dX6_broken_55 (by decide) ?_
          have hev : s_broken F r = (0, 98, F) := by simp [s_broken, c_broken, hv_2, h_10, bI_n.mp c_33, bI_n.mp c_45]
          exact wl_iret C0 hr (by decide) hP hS dX6_broken_60 (Nat.le_of_ble_eq_true rfl) (Nat.le_of_ble_eq_true rfl) (⟨AD, by rw [hev], by rw [hev], by rw [hev]; exact hs, rfl, wKp.rf⟩)

set_option maxHeartbeats 4000000 in
set_option maxRecDepth 100000 in
theorem k_X6_begin (l : Launch) (hst : l.stackTraces = false) (E : wEn) (w : wW) (sz : Nat) (F : FF) (AD : AT) (N : Nat) (hI : wInv F N) (hs : wSys E F AD w) (r a1 sh1 li1 : Int32) : wM l yX6_begin wsX6_begin 2 2 12 E w sz [.ref (AD 5 0), .int r, .int a1, .int sh1, .int li1] (fun v w2 => ∃ AD2 : AT, (s_begin F r a1 sh1 li1).1 = 0 ∧ v = some (.int (s_begin F r a1 sh1 li1).2.1) ∧ wSys E (s_begin F r a1 sh1 li1).2.2 AD2 w2 ∧ AD2 5 0 = AD 5 0 ∧ wKp w w2) (fun X w2 => w2 = w ∧ ((s_begin F r a1 sh1 li1).1 = 1 ∧ X = xIOB ∨ (s_begin F r a1 sh1 li1).1 = 2 ∧ X = xIAE ∨ (s_begin F r a1 sh1 li1).1 = 3 ∧ X = xISE)) := by
  refine wm_start (own := RX6) (cc := cX6_begin) (maxL := 6) (ret := (some .int)) rfl (by decide) rfl (Nat.le_of_ble_eq_true rfl) ?_
  intro p e s m args below meth c ls C0 hr hin ht hP hS hl
  have hx := C0.1
  have hb := C0.2.1
  have hts := C0.2.2.2.2.1
  have hown := C0.2.2.2.1
  have hl : lv_has ls 6 [(0, .ref (AD 5 0)), (1, .int r), (2, .int a1), (3, .int sh1), (4, .int li1)] := hl
  have hf_104 : va_Nw (.fieldLinkNest RX6 104 "CallGateway$Route" "canary" "LCallGateway$Canary;" "CallGateway") s := C0.2.2.2.2.2.2.2.1.1 _ (by decide +kernel)
  have hf_121 : (Cond.fieldLink RX6 121 "CallGateway" "canariesBegun" "I").before args s = true := hts _ (by decide +kernel)
  have hi_RX2 : ∀ w ∈ u_ws RX2 TX2 5, w ∈ wsX6_begin := fun _ h => List.mem_cons_of_mem _ (List.mem_append_left _ (List.mem_append_left _ (List.mem_append_left _ (List.mem_append_left _ (List.mem_append_right _ h)))))
  have hi_RX5 : ∀ w ∈ u_ws RX5 TX5 7, w ∈ wsX6_begin := fun _ h => List.mem_cons_of_mem _ (List.mem_append_left _ (List.mem_append_left _ (List.mem_append_left _ (List.mem_append_left _ (List.mem_append_left _ (List.mem_append_right _ h))))))
  have hi_RX6 : ∀ w ∈ u_ws RX6 TX6 8, w ∈ wsX6_begin := fun _ h => List.mem_cons_of_mem _ (List.mem_append_left _ (List.mem_append_left _ (List.mem_append_left _ (List.mem_append_right _ h))))
  have hn := hI.n
  refine lv_aload_n hx hb dX6_begin_0 rfl (lv_at hl 0 rfl) ?_
  refine lv_iload_n hx hb dX6_begin_1 rfl (lv_at hl 1 rfl) ?_
  refine wl_on C0 ht hP hS (wl_runV (As := [.int r]) (rest := []) C0 hP hS (k_X6_existingRoute l hst E w s.heap.size F AD N hI hs r) (cwV 1 hts gX6_begin_X6_existingRoute rfl rfl rfl (by decide +kernel) ⟨(Nat.le_of_ble_eq_true rfl), (Nat.le_of_ble_eq_true rfl)⟩) hs.x rfl rfl rfl hl.1 (Nat.le_of_ble_eq_true rfl) dX6_begin_2 ⟨(Nat.le_of_ble_eq_true rfl), (Nat.le_of_ble_eq_true rfl)⟩) (Nat.le_of_ble_eq_true rfl) (Nat.le_of_ble_eq_true rfl) (fun X w2 h => ⟨h.2.1, Or.inl (⟨by simp [s_begin, h.2.2], h.1⟩)⟩) (fun v_2 w_2 H locs hq hP hS => ?_)
  obtain ⟨rfl, hw9, hv_2⟩ := hq
  rw [hw9] at hP
  have hi_2 : tn r < F 24 0 := (vpb_tn hv_2)
  refine W.eq (g2 := F0 m 5 ls [.ref (AD 0 (tn r))]) rfl ?_
  refine W.widen (k := 1) (n := 6) (Nat.le_of_ble_eq_true rfl) (Nat.le_of_ble_eq_true rfl) ?_
  refine lv_astore (lv' := [(5, .ref (AD 0 (tn r))), (0, .ref (AD 5 0)), (1, .int r), (2, .int a1), (3, .int sh1), (4, .int li1)]) hx hb dX6_begin_5 hl (by decide) rfl (fun ls hl => ?_)
  refine lv_iload_n hx hb dX6_begin_7 rfl (lv_at hl 3 rfl) ?_
  refine wl_on C0 ht hP hS (wl_runS (As := [.int a1]) (rest := []) C0 hP hS (k_X6_isAnswer l hst E w H.size a1) (va_cwS 1 hts gX6_begin_X6_isAnswer rfl rfl rfl (by decide +kernel) ⟨(Nat.le_of_ble_eq_true rfl), (Nat.le_of_ble_eq_true rfl)⟩) rfl rfl hl.1 (Nat.le_of_ble_eq_true rfl) dX6_begin_8 ⟨(Nat.le_of_ble_eq_true rfl), (Nat.le_of_ble_eq_true rfl)⟩) (Nat.le_of_ble_eq_true rfl) (Nat.le_of_ble_eq_true rfl) (fun _ _ h => h.elim) (fun v_8 w_8 H locs hq hP hS => ?_)
  obtain ⟨rfl, hw9⟩ := hq
  rw [hw9] at hP
  refine W.eq (g2 := F0 m 11 ls [.int (bI (wi a1 0 999))]) rfl ?_
  refine lv_if_eq (tgt := 32) hx hb dX6_begin_11 (by decide) (fun c_11 => ?_) (fun c_11 => ?_)
  · have q11 : wi a1 0 999 = false := bI_0.mp c_11
    exact wl_throwS (ik := 46) (is := 48) (ic := 50) (i := 0) C0 hst ht (by decide +kernel) (hts _ (by decide +kernel)) (hts _ (by decide +kernel)) rfl (fun _ h => List.mem_cons_of_mem _ (List.mem_append_left _ (List.mem_append_left _ (List.mem_append_right _ h)))) xc_IAE xn_IAE xg_IAE hP hS hl.1 dX6_begin_32 dX6_begin_35 dX6_begin_36 dX6_begin_38 dX6_begin_41 (Nat.le_of_ble_eq_true rfl) (Nat.le_of_ble_eq_true rfl) (Nat.le_of_ble_eq_true rfl) (Nat.le_of_ble_eq_true rfl) (Nat.le_of_ble_eq_true rfl) (Nat.le_of_ble_eq_true rfl) (⟨rfl, Or.inr (Or.inl (⟨by simp [s_begin, hv_2, q11], rfl⟩))⟩)
  · have q11 : wi a1 0 999 = true := bI_n.mp c_11
    have hca := wi_tn (lo := 0) (hi := 999) q11 (by omega) (by omega)
    refine lv_iload_n hx hb dX6_begin_14 rfl (lv_at hl 4 rfl) ?_
    refine wl_on C0 ht hP hS (wl_runS (As := [.int sh1]) (rest := []) C0 hP hS (k_X6_isShare l hst E w H.size sh1) (va_cwS 1 hts gX6_begin_X6_isShare rfl rfl rfl (by decide +kernel) ⟨(Nat.le_of_ble_eq_true rfl), (Nat.le_of_ble_eq_true rfl)⟩) rfl rfl hl.1 (Nat.le_of_ble_eq_true rfl) dX6_begin_15 ⟨(Nat.le_of_ble_eq_true rfl), (Nat.le_of_ble_eq_true rfl)⟩) (Nat.le_of_ble_eq_true rfl) (Nat.le_of_ble_eq_true rfl) (fun _ _ h => h.elim) (fun v_15 w_15 H locs hq hP hS => ?_)
    obtain ⟨rfl, hw9⟩ := hq
    rw [hw9] at hP
    refine W.eq (g2 := F0 m 18 ls [.int (bI (wi sh1 1 100))]) rfl ?_
    refine lv_if_eq (tgt := 32) hx hb dX6_begin_18 (by decide) (fun c_18 => ?_) (fun c_18 => ?_)
    · have q18 : wi sh1 1 100 = false := bI_0.mp c_18
      exact wl_throwS (ik := 46) (is := 48) (ic := 50) (i := 0) C0 hst ht (by decide +kernel) (hts _ (by decide +kernel)) (hts _ (by decide +kernel)) rfl (fun _ h => List.mem_cons_of_mem _ (List.mem_append_left _ (List.mem_append_left _ (List.mem_append_right _ h)))) xc_IAE xn_IAE xg_IAE hP hS hl.1 dX6_begin_32 dX6_begin_35 dX6_begin_36 dX6_begin_38 dX6_begin_41 (Nat.le_of_ble_eq_true rfl) (Nat.le_of_ble_eq_true rfl) (Nat.le_of_ble_eq_true rfl) (Nat.le_of_ble_eq_true rfl) (Nat.le_of_ble_eq_true rfl) (Nat.le_of_ble_eq_true rfl) (⟨rfl, Or.inr (Or.inl (⟨by simp [s_begin, hv_2, q11, q18], rfl⟩))⟩)
    · have q18 : wi sh1 1 100 = true := bI_n.mp c_18
      have hcs := wi_tn (lo := 1) (hi := 100) q18 (by omega) (by omega)
      refine lv_iload hx hb dX6_begin_21 (lv_at hl 5 rfl) ?_
      refine lv_iconst (v := 1) hx hb dX6_begin_23 (by decide) ?_
      refine lv_bipush (v := 9) hx hb dX6_begin_24 (by decide) ?_
      refine wl_on C0 ht hP hS (wl_runS (As := [.int li1, .int 1, .int 9]) (rest := []) C0 hP hS (k_X6_isWithin l hst E w H.size li1 1 9) (va_cwS 3 hts gX6_begin_X6_isWithin rfl rfl rfl (by decide +kernel) ⟨(Nat.le_of_ble_eq_true rfl), (Nat.le_of_ble_eq_true rfl)⟩) rfl rfl hl.1 (Nat.le_of_ble_eq_true rfl) dX6_begin_26 ⟨(Nat.le_of_ble_eq_true rfl), (Nat.le_of_ble_eq_true rfl)⟩) (Nat.le_of_ble_eq_true rfl) (Nat.le_of_ble_eq_true rfl) (fun _ _ h => h.elim) (fun v_26 w_26 H locs hq hP hS => ?_)
      obtain ⟨rfl, hw9⟩ := hq
      rw [hw9] at hP
      refine W.eq (g2 := F0 m 29 ls [.int (bI (wi li1 1 9))]) rfl ?_
      refine lv_if_ne (tgt := 42) hx hb dX6_begin_29 (by decide) (fun c_29 => ?_) (fun c_29 => ?_)
      · have q29 : wi li1 1 9 = true := bI_n.mp c_29
        have hcl := wi_tn (lo := 1) (hi := 9) q29 (by omega) (by omega)
        refine lv_aload hx hb dX6_begin_42 (lv_at hl 0 rfl) ?_
        refine wl_getN (T := TX5) C0 hP (wSys.ro hs hi_2) hi_RX5 rfl 6 (by decide) hf_104 rfl dX6_begin_44 ?_
        refine wl_rfC (fun h_47 => ?_) (fun h_47 => ?_)
        · refine lv_ifnullN (tgt := 60) hx hb dX6_begin_47 (by decide) ?_
          refine lv_aload hx hb dX6_begin_60 (lv_at hl 0 rfl) ?_
          refine wl_new (T := TX2) (N := 5) (fs := [.int 0, .int 0, .int 0, .int 0, .int 0]) (ci := 2) C0 hP hS hi_RX2 tyX2_ok rfl (hts (.classLink RX6 112 RX2) (by decide +kernel)) (hts (.instantiable RX2 5) (by decide +kernel)) (hts (.initialized RX2) (by decide +kernel)) (fun j hj => by rcases (show j = 0 ∨ j = 1 ∨ j = 2 ∨ j = 3 ∨ j = 4 by omega) with rfl | rfl | rfl | rfl | rfl <;> rfl) (Nat.le_of_ble_eq_true rfl) (Nat.le_of_ble_eq_true rfl) dX6_begin_62 (fun q_62 H hq_62 hP hS => ?_)
          refine W.widen (k := 2) (n := 11) (Nat.le_of_ble_eq_true rfl) (Nat.le_of_ble_eq_true rfl) ?_
          refine lv_dup hx hb dX6_begin_65 rfl ?_
          refine lv_aload_n hx hb dX6_begin_66 rfl (lv_at hl 1 rfl) ?_
          have f9_1 : (wU w q_62 (.inr (2, [.int 0, .int 0, .int 0, .int 0, .int 0]))) (AD 5 0) = some (.inr (6, [.ref (AD 5 1), .ref (AD 5 2), .ref (AD 5 3), .ref (AD 5 4), .int (nI (F 24 0)), .int (nI (F 24 1)), .int (nI (F 24 2)), .int (nI (F 24 4))])) := (wU_n _ _ (wne_f hq_62 hs.x)).trans hs.x
          refine wl_get (T := TX6) C0 hP f9_1 hi_RX6 rfl 7 (by decide) hf_121 rfl dX6_begin_67 ?_
          refine lv_iload_n hx hb dX6_begin_70 rfl (lv_at hl 3 rfl) ?_
          refine lv_iload_n hx hb dX6_begin_71 rfl (lv_at hl 4 rfl) ?_
          refine lv_iload hx hb dX6_begin_72 (lv_at hl 5 rfl) ?_
          have f9_2 : (wU w q_62 (.inr (2, [.int 0, .int 0, .int 0, .int 0, .int 0]))) q_62 = some (.inr (2, [.int 0, .int 0, .int 0, .int 0, .int 0])) := (wU_s _ _ _)
          refine wl_on C0 ht hP hS (wl_runIN (host := "CallGateway") (As := [.int (nI (F 24 4)), .int a1, .int sh1, .int li1]) (rest := [.ref q_62, .ref (AD 0 (tn r))]) C0 hP hS (k_X2_init l hst E (wU w q_62 (.inr (2, [.int 0, .int 0, .int 0, .int 0, .int 0]))) H.size q_62 (nI (F 24 4)) a1 sh1 li1 f9_2) ⟨va_cnB 4 hts gX6_begin_X2_init_n124 rfl rfl rfl (C0.2.2.2.2.2.2.2.1.1 _ (by decide +kernel)) (hts _ (by decide +kernel)) (by decide +kernel) ⟨(Nat.le_of_ble_eq_true rfl), (Nat.le_of_ble_eq_true rfl)⟩, rfl, hts _ (by decide +kernel)⟩ rfl rfl hl.1 (Nat.le_of_ble_eq_true rfl) dX6_begin_74 ⟨(Nat.le_of_ble_eq_true rfl), (Nat.le_of_ble_eq_true rfl)⟩) (Nat.le_of_ble_eq_true rfl) (Nat.le_of_ble_eq_true rfl) (fun _ _ h => h.elim) (fun v_74 w_74 H locs hq hP hS => ?_)
          obtain ⟨rfl, hw9⟩ := hq
          rw [hw9] at hP
          rw [wU_c] at hP
          refine W.eq (g2 := F0 m 77 ls [.ref q_62, .ref (AD 0 (tn r))]) rfl ?_
          have f9_3 : (wU w q_62 (.inr (2, [.int (nI (F 24 4)), .int a1, .int li1, .int sh1, .int 0]))) (AD 0 (tn r)) = some (.inr (5, [.int (nI (tn r)), .int (nI (F 0 (tn r))), .int (nI (F 1 (tn r))), .int (nI (F 2 (tn r))), .int (nI (F 3 (tn r))), .int (nI (F 4 (tn r))), va_rf (rfC (F 5 (tn r)) (AD 4 (tn r)))])) := (wU_n _ _ (wne_f hq_62 (wSys.ro hs hi_2))).trans (wSys.ro hs hi_2)
          refine wl_putN (T := TX5) (ty0 := tyX5) (fs2 := [.int (nI (tn r)), .int (nI (F 0 (tn r))), .int (nI (F 1 (tn r))), .int (nI (F 2 (tn r))), .int (nI (F 3 (tn r))), .int (nI (F 4 (tn r))), .ref q_62]) C0 hP hS f9_3 hi_RX5 tyX5_ok nmX5 rfl 6 (by decide) hf_104 rfl rfl rfl rfl (Nat.le_of_ble_eq_true rfl) rfl dX6_begin_77 (fun H locs hP hS => ?_)
          refine lv_aload_n hx hb dX6_begin_80 rfl (lv_at hl 1 rfl) ?_
          refine lv_dup hx hb dX6_begin_81 rfl ?_
          have f9_4 : (wU w q_62 (.inr (2, [.int (nI (F 24 4)), .int a1, .int li1, .int sh1, .int 0]))) (AD 5 0) = some (.inr (6, [.ref (AD 5 1), .ref (AD 5 2), .ref (AD 5 3), .ref (AD 5 4), .int (nI (F 24 0)), .int (nI (F 24 1)), .int (nI (F 24 2)), .int (nI (F 24 4))])) := (wU_n _ _ (wne_f hq_62 hs.x)).trans hs.x
          have f9_5 : (wU (wU w q_62 (.inr (2, [.int (nI (F 24 4)), .int a1, .int li1, .int sh1, .int 0]))) (AD 0 (tn r)) (.inr (5, [.int (nI (tn r)), .int (nI (F 0 (tn r))), .int (nI (F 1 (tn r))), .int (nI (F 2 (tn r))), .int (nI (F 3 (tn r))), .int (nI (F 4 (tn r))), .ref q_62]))) (AD 5 0) = some (.inr (6, [.ref (AD 5 1), .ref (AD 5 2), .ref (AD 5 3), .ref (AD 5 4), .int (nI (F 24 0)), .int (nI (F 24 1)), .int (nI (F 24 2)), .int (nI (F 24 4))])) := (wU_n _ _ (wne f9_4 f9_3 (Nat.ne_of_beq_eq_false rfl))).trans f9_4
          refine wl_get (T := TX6) C0 hP f9_5 hi_RX6 rfl 7 (by decide) hf_121 rfl dX6_begin_82 ?_
          refine lv_iconst (v := 1) hx hb dX6_begin_85 (by decide) ?_
          refine lv_iadd hx hb dX6_begin_86 ?_
          refine wl_put (T := TX6) (ty0 := tyX6) (fs2 := [.ref (AD 5 1), .ref (AD 5 2), .ref (AD 5 3), .ref (AD 5 4), .int (nI (F 24 0)), .int (nI (F 24 1)), .int (nI (F 24 2)), .int ((nI (F 24 4)) + 1)]) C0 hP hS f9_5 hi_RX6 tyX6_ok nmX6 rfl 7 (by decide) hf_121 rfl rfl rfl rfl (Nat.le_of_ble_eq_true rfl) rfl dX6_begin_87 (fun H locs hP hS => ?_)
          have f9_6 : (wU (wU (wU w q_62 (.inr (2, [.int (nI (F 24 4)), .int a1, .int li1, .int sh1, .int 0]))) (AD 0 (tn r)) (.inr (5, [.int (nI (tn r)), .int (nI (F 0 (tn r))), .int (nI (F 1 (tn r))), .int (nI (F 2 (tn r))), .int (nI (F 3 (tn r))), .int (nI (F 4 (tn r))), .ref q_62]))) (AD 5 0) (.inr (6, [.ref (AD 5 1), .ref (AD 5 2), .ref (AD 5 3), .ref (AD 5 4), .int (nI (F 24 0)), .int (nI (F 24 1)), .int (nI (F 24 2)), .int ((nI (F 24 4)) + 1)]))) (AD 5 0) = some (.inr (6, [.ref (AD 5 1), .ref (AD 5 2), .ref (AD 5 3), .ref (AD 5 4), .int (nI (F 24 0)), .int (nI (F 24 1)), .int (nI (F 24 2)), .int ((nI (F 24 4)) + 1)])) := (wU_s _ _ _)
          have f9_7 : (wU (wU w q_62 (.inr (2, [.int (nI (F 24 4)), .int a1, .int li1, .int sh1, .int 0]))) (AD 0 (tn r)) (.inr (5, [.int (nI (tn r)), .int (nI (F 0 (tn r))), .int (nI (F 1 (tn r))), .int (nI (F 2 (tn r))), .int (nI (F 3 (tn r))), .int (nI (F 4 (tn r))), .ref q_62]))) (AD 0 (tn r)) = some (.inr (5, [.int (nI (tn r)), .int (nI (F 0 (tn r))), .int (nI (F 1 (tn r))), .int (nI (F 2 (tn r))), .int (nI (F 3 (tn r))), .int (nI (F 4 (tn r))), .ref q_62])) := (wU_s _ _ _)
          have f9_8 : (wU (wU (wU w q_62 (.inr (2, [.int (nI (F 24 4)), .int a1, .int li1, .int sh1, .int 0]))) (AD 0 (tn r)) (.inr (5, [.int (nI (tn r)), .int (nI (F 0 (tn r))), .int (nI (F 1 (tn r))), .int (nI (F 2 (tn r))), .int (nI (F 3 (tn r))), .int (nI (F 4 (tn r))), .ref q_62]))) (AD 5 0) (.inr (6, [.ref (AD 5 1), .ref (AD 5 2), .ref (AD 5 3), .ref (AD 5 4), .int (nI (F 24 0)), .int (nI (F 24 1)), .int (nI (F 24 2)), .int ((nI (F 24 4)) + 1)]))) (AD 0 (tn r)) = some (.inr (5, [.int (nI (tn r)), .int (nI (F 0 (tn r))), .int (nI (F 1 (tn r))), .int (nI (F 2 (tn r))), .int (nI (F 3 (tn r))), .int (nI (F 4 (tn r))), .ref q_62])) := (wU_n _ _ (wne f9_7 f9_5 (Nat.ne_of_beq_eq_false rfl))).trans f9_7
          have f9_9 : (wU w q_62 (.inr (2, [.int (nI (F 24 4)), .int a1, .int li1, .int sh1, .int 0]))) q_62 = some (.inr (2, [.int (nI (F 24 4)), .int a1, .int li1, .int sh1, .int 0])) := (wU_s _ _ _)
          have f9_10 : (wU (wU w q_62 (.inr (2, [.int (nI (F 24 4)), .int a1, .int li1, .int sh1, .int 0]))) (AD 0 (tn r)) (.inr (5, [.int (nI (tn r)), .int (nI (F 0 (tn r))), .int (nI (F 1 (tn r))), .int (nI (F 2 (tn r))), .int (nI (F 3 (tn r))), .int (nI (F 4 (tn r))), .ref q_62]))) q_62 = some (.inr (2, [.int (nI (F 24 4)), .int a1, .int li1, .int sh1, .int 0])) := (wU_n _ _ (wne f9_9 f9_3 (Nat.ne_of_beq_eq_false rfl))).trans f9_9
          have f9_11 : (wU (wU (wU w q_62 (.inr (2, [.int (nI (F 24 4)), .int a1, .int li1, .int sh1, .int 0]))) (AD 0 (tn r)) (.inr (5, [.int (nI (tn r)), .int (nI (F 0 (tn r))), .int (nI (F 1 (tn r))), .int (nI (F 2 (tn r))), .int (nI (F 3 (tn r))), .int (nI (F 4 (tn r))), .ref q_62]))) (AD 5 0) (.inr (6, [.ref (AD 5 1), .ref (AD 5 2), .ref (AD 5 3), .ref (AD 5 4), .int (nI (F 24 0)), .int (nI (F 24 1)), .int (nI (F 24 2)), .int ((nI (F 24 4)) + 1)]))) q_62 = some (.inr (2, [.int (nI (F 24 4)), .int a1, .int li1, .int sh1, .int 0])) := (wU_n _ _ (wne f9_10 f9_5 (Nat.ne_of_beq_eq_false rfl))).trans f9_10
          have hsn : wSys E (f_begin F (tn r) (tn a1) (tn sh1) (tn li1)) (fU AD 4 (tn r) q_62) (wU (wU (wU w q_62 (.inr (2, [.int (nI (F 24 4)), .int a1, .int li1, .int sh1, .int 0]))) (AD 0 (tn r)) (.inr (5, [.int (nI (tn r)), .int (nI (F 0 (tn r))), .int (nI (F 1 (tn r))), .int (nI (F 2 (tn r))), .int (nI (F 3 (tn r))), .int (nI (F 4 (tn r))), .ref q_62]))) (AD 5 0) (.inr (6, [.ref (AD 5 1), .ref (AD 5 2), .ref (AD 5 3), .ref (AD 5 4), .int (nI (F 24 0)), .int (nI (F 24 1)), .int (nI (F 24 2)), .int ((nI (F 24 4)) + 1)]))) := U_beg (q := q_62) hs hi_2 hn.1 hq_62 (fun a b h => by simp only [f_begin, fU]; (repeat' split) <;> first | rfl | omega) (by rw [f9_6]; simp [e_x, f_begin, fU, nI_1]) (by rw [f9_8]; simp [e_route, f_begin, fU, rfC, va_rf]) (by rw [f9_11]; simp [e_can, f_begin, fU, hca.1, hcs.1, hcl.1, nI_0]) (fun b h1 h2 h3 => by simp [wU, h1, h2, h3])
          have hkn : wKp w (wU (wU (wU w q_62 (.inr (2, [.int (nI (F 24 4)), .int a1, .int li1, .int sh1, .int 0]))) (AD 0 (tn r)) (.inr (5, [.int (nI (tn r)), .int (nI (F 0 (tn r))), .int (nI (F 1 (tn r))), .int (nI (F 2 (tn r))), .int (nI (F 3 (tn r))), .int (nI (F 4 (tn r))), .ref q_62]))) (AD 5 0) (.inr (6, [.ref (AD 5 1), .ref (AD 5 2), .ref (AD 5 3), .ref (AD 5 4), .int (nI (F 24 0)), .int (nI (F 24 1)), .int (nI (F 24 2)), .int ((nI (F 24 4)) + 1)]))) := (wKp.u (wKp.u (wKp.f wKp.rf hq_62) f9_3 rfl) f9_5 rfl)
          refine lv_aload_n hx hb dX6_begin_90 rfl (lv_at hl 1 rfl) ?_
          refine wl_on C0 ht hP hS (wl_runV (As := []) (rest := []) C0 hP hS (k_X6_numberOfCanaries l hst E (wU (wU (wU w q_62 (.inr (2, [.int (nI (F 24 4)), .int a1, .int li1, .int sh1, .int 0]))) (AD 0 (tn r)) (.inr (5, [.int (nI (tn r)), .int (nI (F 0 (tn r))), .int (nI (F 1 (tn r))), .int (nI (F 2 (tn r))), .int (nI (F 3 (tn r))), .int (nI (F 4 (tn r))), .ref q_62]))) (AD 5 0) (.inr (6, [.ref (AD 5 1), .ref (AD 5 2), .ref (AD 5 3), .ref (AD 5 4), .int (nI (F 24 0)), .int (nI (F 24 1)), .int (nI (F 24 2)), .int ((nI (F 24 4)) + 1)]))) H.size (f_begin F (tn r) (tn a1) (tn sh1) (tn li1)) (fU AD 4 (tn r) q_62) hsn (by simp only [f_begin, fU]; exact hn.1)) (cwV 0 hts gX6_begin_X6_numberOfCanaries rfl rfl rfl (by decide +kernel) ⟨(Nat.le_of_ble_eq_true rfl), (Nat.le_of_ble_eq_true rfl)⟩) f9_6 rfl rfl rfl hl.1 (Nat.le_of_ble_eq_true rfl) dX6_begin_91 ⟨(Nat.le_of_ble_eq_true rfl), (Nat.le_of_ble_eq_true rfl)⟩) (Nat.le_of_ble_eq_true rfl) (Nat.le_of_ble_eq_true rfl) (fun _ _ h => h.elim) (fun v_91 w_91 H locs hq hP hS => ?_)
          obtain ⟨rfl, hw9⟩ := hq
          rw [hw9] at hP
          refine W.eq (g2 := F0 m 94 ls [.int (nI (ncan (f_begin F (tn r) (tn a1) (tn sh1) (tn li1))))]) rfl ?_
          have hev : s_begin F r a1 sh1 li1 = (0, nI (ncan (f_begin F (tn r) (tn a1) (tn sh1) (tn li1))), (f_begin F (tn r) (tn a1) (tn sh1) (tn li1))) := by simp [s_begin, hv_2, q11, q18, q29, h_47]
          exact wl_iret C0 hr rfl hP hS dX6_begin_94 (Nat.le_of_ble_eq_true rfl) (Nat.le_of_ble_eq_true rfl) (⟨(fU AD 4 (tn r) q_62), by rw [hev], by rw [hev], by rw [hev]; exact hsn, (fU_k (by decide)), hkn⟩)
        · refine lv_ifnull hx hb dX6_begin_47 ?_
          exact wl_throwS (ik := 63) (is := 119) (ic := 67) (i := 8) C0 hst ht (by decide +kernel) (hts _ (by decide +kernel)) (hts _ (by decide +kernel)) rfl (fun _ h => List.mem_cons_of_mem _ (List.mem_append_left _ (List.mem_append_right _ h))) xc_ISE xn_ISE xg_ISE hP hS hl.1 dX6_begin_50 dX6_begin_53 dX6_begin_54 dX6_begin_56 dX6_begin_59 (Nat.le_of_ble_eq_true rfl) (Nat.le_of_ble_eq_true rfl) (Nat.le_of_ble_eq_true rfl) (Nat.le_of_ble_eq_true rfl) (Nat.le_of_ble_eq_true rfl) (Nat.le_of_ble_eq_true rfl) (⟨rfl, Or.inr (Or.inr (⟨by simp [s_begin, hv_2, q11, q18, q29, h_47], rfl⟩))⟩)
      · have q29 : wi li1 1 9 = false := bI_0.mp c_29
        exact wl_throwS (ik := 46) (is := 48) (ic := 50) (i := 0) C0 hst ht (by decide +kernel) (hts _ (by decide +kernel)) (hts _ (by decide +kernel)) rfl (fun _ h => List.mem_cons_of_mem _ (List.mem_append_left _ (List.mem_append_left _ (List.mem_append_right _ h)))) xc_IAE xn_IAE xg_IAE hP hS hl.1 dX6_begin_32 dX6_begin_35 dX6_begin_36 dX6_begin_38 dX6_begin_41 (Nat.le_of_ble_eq_true rfl) (Nat.le_of_ble_eq_true rfl) (Nat.le_of_ble_eq_true rfl) (Nat.le_of_ble_eq_true rfl) (Nat.le_of_ble_eq_true rfl) (Nat.le_of_ble_eq_true rfl) (⟨rfl, Or.inr (Or.inl (⟨by simp [s_begin, hv_2, q11, q18, q29], rfl⟩))⟩)

set_option maxHeartbeats 4000000 in
set_option maxRecDepth 100000 in
theorem k_X6_setShare (l : Launch) (hst : l.stackTraces = false) (E : wEn) (w : wW) (sz : Nat) (F : FF) (AD : AT) (N : Nat) (hI : wInv F N) (hs : wSys E F AD w) (r sh1 : Int32) : wM l yX6_setShare wsX6_setShare 2 2 12 E w sz [.ref (AD 5 0), .int r, .int sh1] (fun v w2 => ∃ AD2 : AT, (s_setShare F r sh1).1 = 0 ∧ v = some (.int (s_setShare F r sh1).2.1) ∧ wSys E (s_setShare F r sh1).2.2 AD2 w2 ∧ AD2 5 0 = AD 5 0 ∧ wKp w w2) (fun X w2 => w2 = w ∧ ((s_setShare F r sh1).1 = 1 ∧ X = xIOB ∨ (s_setShare F r sh1).1 = 2 ∧ X = xIAE ∨ (s_setShare F r sh1).1 = 3 ∧ X = xISE)) := by
  refine wm_start (own := RX6) (cc := cX6_setShare) (maxL := 6) (ret := (some .int)) rfl (by decide) rfl (Nat.le_of_ble_eq_true rfl) ?_
  intro p e s m args below meth c ls C0 hr hin ht hP hS hl
  have hx := C0.1
  have hb := C0.2.1
  have hts := C0.2.2.2.2.1
  have hown := C0.2.2.2.1
  have hl : lv_has ls 6 [(0, .ref (AD 5 0)), (1, .int r), (2, .int sh1)] := hl
  have hf_137 : va_Nw (.fieldLinkNest RX6 137 "CallGateway$Canary" "share" "I" "CallGateway") s := C0.2.2.2.2.2.2.2.1.1 _ (by decide +kernel)
  have hi_RX2 : ∀ w ∈ u_ws RX2 TX2 5, w ∈ wsX6_setShare := fun _ h => List.mem_cons_of_mem _ (List.mem_append_left _ (List.mem_append_left _ (List.mem_append_left _ (List.mem_append_left _ (List.mem_append_left _ (List.mem_append_right _ h))))))
  have hn := hI.n
  refine lv_aload_n hx hb dX6_setShare_0 rfl (lv_at hl 0 rfl) ?_
  refine lv_iload_n hx hb dX6_setShare_1 rfl (lv_at hl 1 rfl) ?_
  refine wl_on C0 ht hP hS (wl_runV (As := [.int r]) (rest := []) C0 hP hS (k_X6_existingRoute l hst E w s.heap.size F AD N hI hs r) (cwV 1 hts gX6_setShare_X6_existingRoute rfl rfl rfl (by decide +kernel) ⟨(Nat.le_of_ble_eq_true rfl), (Nat.le_of_ble_eq_true rfl)⟩) hs.x rfl rfl rfl hl.1 (Nat.le_of_ble_eq_true rfl) dX6_setShare_2 ⟨(Nat.le_of_ble_eq_true rfl), (Nat.le_of_ble_eq_true rfl)⟩) (Nat.le_of_ble_eq_true rfl) (Nat.le_of_ble_eq_true rfl) (fun X w2 h => ⟨h.2.1, Or.inl (⟨by simp [s_setShare, h.2.2], h.1⟩)⟩) (fun v_2 w_2 H locs hq hP hS => ?_)
  obtain ⟨rfl, hw9, hv_2⟩ := hq
  rw [hw9] at hP
  have hi_2 : tn r < F 24 0 := (vpb_tn hv_2)
  refine W.eq (g2 := F0 m 5 ls [.ref (AD 0 (tn r))]) rfl ?_
  refine W.widen (k := 1) (n := 6) (Nat.le_of_ble_eq_true rfl) (Nat.le_of_ble_eq_true rfl) ?_
  refine lv_astore_n (lv' := [(3, .ref (AD 0 (tn r))), (0, .ref (AD 5 0)), (1, .int r), (2, .int sh1)]) hx hb dX6_setShare_5 rfl hl (by decide) rfl (fun ls hl => ?_)
  refine lv_iload_n hx hb dX6_setShare_6 rfl (lv_at hl 3 rfl) ?_
  refine wl_on C0 ht hP hS (wl_runS (As := [.int sh1]) (rest := []) C0 hP hS (k_X6_isShare l hst E w H.size sh1) (va_cwS 1 hts gX6_setShare_X6_isShare rfl rfl rfl (by decide +kernel) ⟨(Nat.le_of_ble_eq_true rfl), (Nat.le_of_ble_eq_true rfl)⟩) rfl rfl hl.1 (Nat.le_of_ble_eq_true rfl) dX6_setShare_7 ⟨(Nat.le_of_ble_eq_true rfl), (Nat.le_of_ble_eq_true rfl)⟩) (Nat.le_of_ble_eq_true rfl) (Nat.le_of_ble_eq_true rfl) (fun _ _ h => h.elim) (fun v_7 w_7 H locs hq hP hS => ?_)
  obtain ⟨rfl, hw9⟩ := hq
  rw [hw9] at hP
  refine W.eq (g2 := F0 m 10 ls [.int (bI (wi sh1 1 100))]) rfl ?_
  refine lv_if_ne (tgt := 23) hx hb dX6_setShare_10 (by decide) (fun c_10 => ?_) (fun c_10 => ?_)
  · have q10 : wi sh1 1 100 = true := bI_n.mp c_10
    have hcs := wi_tn (lo := 1) (hi := 100) q10 (by omega) (by omega)
    refine lv_aload_n hx hb dX6_setShare_23 rfl (lv_at hl 0 rfl) ?_
    refine wl_on C0 ht hP hS (wl_runS (As := [.ref (AD 0 (tn r))]) (rest := []) C0 hP hS (k_X6_existingCanary l hst E w H.size F AD N hI hs (tn r) hi_2) (va_cwS 1 hts gX6_setShare_X6_existingCanary rfl rfl rfl (by decide +kernel) ⟨(Nat.le_of_ble_eq_true rfl), (Nat.le_of_ble_eq_true rfl)⟩) rfl rfl hl.1 (Nat.le_of_ble_eq_true rfl) dX6_setShare_24 ⟨(Nat.le_of_ble_eq_true rfl), (Nat.le_of_ble_eq_true rfl)⟩) (Nat.le_of_ble_eq_true rfl) (Nat.le_of_ble_eq_true rfl) (fun X w2 h => ⟨h.2.1, Or.inr (Or.inr (⟨by simp [s_setShare, h.2.2, hv_2, q10], h.1⟩))⟩) (fun v_24 w_24 H locs hq hP hS => ?_)
    obtain ⟨rfl, hw9, hc_24⟩ := hq
    rw [hw9] at hP
    refine W.eq (g2 := F0 m 27 ls [.ref (AD 4 (tn r))]) rfl ?_
    refine W.widen (k := 2) (n := 12) (Nat.le_of_ble_eq_true rfl) (Nat.le_of_ble_eq_true rfl) ?_
    refine lv_astore (lv' := [(4, .ref (AD 4 (tn r))), (3, .ref (AD 0 (tn r))), (0, .ref (AD 5 0)), (1, .int r), (2, .int sh1)]) hx hb dX6_setShare_27 hl (by decide) rfl (fun ls hl => ?_)
    refine lv_aload hx hb dX6_setShare_29 (lv_at hl 0 rfl) ?_
    refine wl_getN (T := TX2) C0 hP (wSys.ca hs hi_2 hc_24) hi_RX2 rfl 3 (by decide) hf_137 rfl dX6_setShare_31 ?_
    refine lv_istore (lv' := [(5, .int (nI (F 7 (tn r)))), (4, .ref (AD 4 (tn r))), (3, .ref (AD 0 (tn r))), (0, .ref (AD 5 0)), (1, .int r), (2, .int sh1)]) hx hb dX6_setShare_34 hl (by decide) rfl (fun ls hl => ?_)
    refine lv_aload hx hb dX6_setShare_36 (lv_at hl 1 rfl) ?_
    refine lv_iload_n hx hb dX6_setShare_38 rfl (lv_at hl 5 rfl) ?_
    refine wl_putN (T := TX2) (ty0 := tyX2) (fs2 := [.int (nI (F 22 (tn r))), .int (nI (F 6 (tn r))), .int (nI (F 8 (tn r))), .int sh1, .int (nI (F 9 (tn r)))]) C0 hP hS (wSys.ca hs hi_2 hc_24) hi_RX2 tyX2_ok nmX2 rfl 3 (by decide) hf_137 rfl rfl rfl rfl (Nat.le_of_ble_eq_true rfl) rfl dX6_setShare_39 (fun H locs hP hS => ?_)
    refine lv_iload hx hb dX6_setShare_42 (lv_at hl 0 rfl) ?_
    have hev : s_setShare F r sh1 = (0, nI (F 7 (tn r)), fU F 7 (tn r) (tn sh1)) := by simp [s_setShare, hv_2, q10, hc_24]
    exact wl_iret C0 hr rfl hP hS dX6_setShare_44 (Nat.le_of_ble_eq_true rfl) (Nat.le_of_ble_eq_true rfl) (⟨AD, by rw [hev], by rw [hev], by rw [hev]; exact U_ca hs hi_2 hc_24 ⟨hn.1, hn.2.2.2.2⟩ (fun a b ha hb h1 h2 h3 => hI.uc ha hb h1 h2 h3) (fun a ha h1 => (hI.ca ha h1).2.2.2.2.2.2) (fun a b h => by simp only [fU]; (repeat' split) <;> first | rfl | omega) (by rw [wU_s]; simp [e_can, fU, hcs.1]) (fun b hb9 => wU_n _ _ hb9), rfl, wKp.rf.u (hs.ca hi_2 hc_24) rfl⟩)
  · have q10 : wi sh1 1 100 = false := bI_0.mp c_10
    exact wl_throwS (ik := 46) (is := 131) (ic := 50) (i := 9) C0 hst ht (by decide +kernel) (hts _ (by decide +kernel)) (hts _ (by decide +kernel)) rfl (fun _ h => List.mem_cons_of_mem _ (List.mem_append_left _ (List.mem_append_left _ (List.mem_append_right _ h)))) xc_IAE xn_IAE xg_IAE hP hS hl.1 dX6_setShare_13 dX6_setShare_16 dX6_setShare_17 dX6_setShare_19 dX6_setShare_22 (Nat.le_of_ble_eq_true rfl) (Nat.le_of_ble_eq_true rfl) (Nat.le_of_ble_eq_true rfl) (Nat.le_of_ble_eq_true rfl) (Nat.le_of_ble_eq_true rfl) (Nat.le_of_ble_eq_true rfl) (⟨rfl, Or.inr (Or.inl (⟨by simp [s_setShare, hv_2, q10], rfl⟩))⟩)

set_option maxHeartbeats 4000000 in
set_option maxRecDepth 100000 in
theorem k_X6_promote (l : Launch) (hst : l.stackTraces = false) (E : wEn) (w : wW) (sz : Nat) (F : FF) (AD : AT) (N : Nat) (hI : wInv F N) (hs : wSys E F AD w) (r : Int32) : wM l yX6_promote wsX6_promote 2 2 12 E w sz [.ref (AD 5 0), .int r] (fun v w2 => ∃ AD2 : AT, (s_promote F r).1 = 0 ∧ v = some (.int (s_promote F r).2.1) ∧ wSys E (s_promote F r).2.2 AD2 w2 ∧ AD2 5 0 = AD 5 0 ∧ wKp w w2) (fun X w2 => w2 = w ∧ ((s_promote F r).1 = 1 ∧ X = xIOB ∨ (s_promote F r).1 = 2 ∧ X = xISE)) := by
  refine wm_start (own := RX6) (cc := cX6_promote) (maxL := 4) (ret := (some .int)) rfl (by decide) rfl (Nat.le_of_ble_eq_true rfl) ?_
  intro p e s m args below meth c ls C0 hr hin ht hP hS hl
  have hx := C0.1
  have hb := C0.2.1
  have hts := C0.2.2.2.2.1
  have hown := C0.2.2.2.1
  have hl : lv_has ls 4 [(0, .ref (AD 5 0)), (1, .int r)] := hl
  have hf_111 : va_Nw (.fieldLinkNest RX6 111 "CallGateway$Canary" "answer" "I" "CallGateway") s := C0.2.2.2.2.2.2.2.1.1 _ (by decide +kernel)
  have hf_101 : va_Nw (.fieldLinkNest RX6 101 "CallGateway$Route" "stableAnswer" "I" "CallGateway") s := C0.2.2.2.2.2.2.2.1.1 _ (by decide +kernel)
  have hf_104 : va_Nw (.fieldLinkNest RX6 104 "CallGateway$Route" "canary" "LCallGateway$Canary;" "CallGateway") s := C0.2.2.2.2.2.2.2.1.1 _ (by decide +kernel)
  have hi_RX2 : ∀ w ∈ u_ws RX2 TX2 5, w ∈ wsX6_promote := fun _ h => List.mem_cons_of_mem _ (List.mem_append_left _ (List.mem_append_left _ (List.mem_append_left _ (List.mem_append_left _ (List.mem_append_right _ h)))))
  have hi_RX5 : ∀ w ∈ u_ws RX5 TX5 7, w ∈ wsX6_promote := fun _ h => List.mem_cons_of_mem _ (List.mem_append_left _ (List.mem_append_left _ (List.mem_append_left _ (List.mem_append_right _ h))))
  have hn := hI.n
  refine lv_aload_n hx hb dX6_promote_0 rfl (lv_at hl 0 rfl) ?_
  refine lv_iload_n hx hb dX6_promote_1 rfl (lv_at hl 1 rfl) ?_
  refine wl_on C0 ht hP hS (wl_runV (As := [.int r]) (rest := []) C0 hP hS (k_X6_existingRoute l hst E w s.heap.size F AD N hI hs r) (cwV 1 hts gX6_promote_X6_existingRoute rfl rfl rfl (by decide +kernel) ⟨(Nat.le_of_ble_eq_true rfl), (Nat.le_of_ble_eq_true rfl)⟩) hs.x rfl rfl rfl hl.1 (Nat.le_of_ble_eq_true rfl) dX6_promote_2 ⟨(Nat.le_of_ble_eq_true rfl), (Nat.le_of_ble_eq_true rfl)⟩) (Nat.le_of_ble_eq_true rfl) (Nat.le_of_ble_eq_true rfl) (fun X w2 h => ⟨h.2.1, Or.inl (⟨by simp [s_promote, h.2.2], h.1⟩)⟩) (fun v_2 w_2 H locs hq hP hS => ?_)
  obtain ⟨rfl, hw9, hv_2⟩ := hq
  rw [hw9] at hP
  have hi_2 : tn r < F 24 0 := (vpb_tn hv_2)
  refine W.eq (g2 := F0 m 5 ls [.ref (AD 0 (tn r))]) rfl ?_
  refine W.widen (k := 1) (n := 6) (Nat.le_of_ble_eq_true rfl) (Nat.le_of_ble_eq_true rfl) ?_
  refine lv_astore_n (lv' := [(2, .ref (AD 0 (tn r))), (0, .ref (AD 5 0)), (1, .int r)]) hx hb dX6_promote_5 rfl hl (by decide) rfl (fun ls hl => ?_)
  refine lv_aload_n hx hb dX6_promote_6 rfl (lv_at hl 0 rfl) ?_
  refine wl_on C0 ht hP hS (wl_runS (As := [.ref (AD 0 (tn r))]) (rest := []) C0 hP hS (k_X6_existingCanary l hst E w H.size F AD N hI hs (tn r) hi_2) (va_cwS 1 hts gX6_promote_X6_existingCanary rfl rfl rfl (by decide +kernel) ⟨(Nat.le_of_ble_eq_true rfl), (Nat.le_of_ble_eq_true rfl)⟩) rfl rfl hl.1 (Nat.le_of_ble_eq_true rfl) dX6_promote_7 ⟨(Nat.le_of_ble_eq_true rfl), (Nat.le_of_ble_eq_true rfl)⟩) (Nat.le_of_ble_eq_true rfl) (Nat.le_of_ble_eq_true rfl) (fun X w2 h => ⟨h.2.1, Or.inr (⟨by simp [s_promote, h.2.2, hv_2], h.1⟩)⟩) (fun v_7 w_7 H locs hq hP hS => ?_)
  obtain ⟨rfl, hw9, hc_7⟩ := hq
  rw [hw9] at hP
  refine W.eq (g2 := F0 m 10 ls [.ref (AD 4 (tn r))]) rfl ?_
  refine W.widen (k := 2) (n := 12) (Nat.le_of_ble_eq_true rfl) (Nat.le_of_ble_eq_true rfl) ?_
  refine lv_astore_n (lv' := [(3, .ref (AD 4 (tn r))), (2, .ref (AD 0 (tn r))), (0, .ref (AD 5 0)), (1, .int r)]) hx hb dX6_promote_10 rfl hl (by decide) rfl (fun ls hl => ?_)
  refine lv_aload_n hx hb dX6_promote_11 rfl (lv_at hl 1 rfl) ?_
  refine lv_aload_n hx hb dX6_promote_12 rfl (lv_at hl 0 rfl) ?_
  refine wl_getN (T := TX2) C0 hP (wSys.ca hs hi_2 hc_7) hi_RX2 rfl 1 (by decide) hf_111 rfl dX6_promote_13 ?_
  refine wl_putN (T := TX5) (ty0 := tyX5) (fs2 := [.int (nI (tn r)), .int (nI (F 0 (tn r))), .int (nI (F 1 (tn r))), .int (nI (F 2 (tn r))), .int (nI (F 3 (tn r))), .int (nI (F 6 (tn r))), va_rf (rfC (F 5 (tn r)) (AD 4 (tn r)))]) C0 hP hS (wSys.ro hs hi_2) hi_RX5 tyX5_ok nmX5 rfl 5 (by decide) hf_101 rfl rfl rfl rfl (Nat.le_of_ble_eq_true rfl) rfl dX6_promote_16 (fun H locs hP hS => ?_)
  refine lv_aload_n hx hb dX6_promote_19 rfl (lv_at hl 1 rfl) ?_
  refine lv_null hx hb dX6_promote_20 ?_
  have f9_1 : (wU w (AD 0 (tn r)) (.inr (5, [.int (nI (tn r)), .int (nI (F 0 (tn r))), .int (nI (F 1 (tn r))), .int (nI (F 2 (tn r))), .int (nI (F 3 (tn r))), .int (nI (F 6 (tn r))), va_rf (rfC (F 5 (tn r)) (AD 4 (tn r)))]))) (AD 0 (tn r)) = some (.inr (5, [.int (nI (tn r)), .int (nI (F 0 (tn r))), .int (nI (F 1 (tn r))), .int (nI (F 2 (tn r))), .int (nI (F 3 (tn r))), .int (nI (F 6 (tn r))), va_rf (rfC (F 5 (tn r)) (AD 4 (tn r)))])) := (wU_s _ _ _)
  refine wl_putN (T := TX5) (ty0 := tyX5) (fs2 := [.int (nI (tn r)), .int (nI (F 0 (tn r))), .int (nI (F 1 (tn r))), .int (nI (F 2 (tn r))), .int (nI (F 3 (tn r))), .int (nI (F 6 (tn r))), .null]) C0 hP hS f9_1 hi_RX5 tyX5_ok nmX5 rfl 6 (by decide) hf_104 rfl rfl rfl rfl (Nat.le_of_ble_eq_true rfl) rfl dX6_promote_21 (fun H locs hP hS => ?_)
  rw [wU_c] at hP
  refine lv_aload_n hx hb dX6_promote_24 rfl (lv_at hl 1 rfl) ?_
  have f9_2 : (wU w (AD 0 (tn r)) (.inr (5, [.int (nI (tn r)), .int (nI (F 0 (tn r))), .int (nI (F 1 (tn r))), .int (nI (F 2 (tn r))), .int (nI (F 3 (tn r))), .int (nI (F 6 (tn r))), .null]))) (AD 0 (tn r)) = some (.inr (5, [.int (nI (tn r)), .int (nI (F 0 (tn r))), .int (nI (F 1 (tn r))), .int (nI (F 2 (tn r))), .int (nI (F 3 (tn r))), .int (nI (F 6 (tn r))), .null])) := (wU_s _ _ _)
  refine wl_getN (T := TX5) C0 hP f9_2 hi_RX5 rfl 5 (by decide) hf_101 rfl dX6_promote_25 ?_
  have hev : s_promote F r = (0, nI (F 6 (tn r)), f_promote F (tn r)) := by simp [s_promote, hv_2, hc_7]
  exact wl_iret C0 hr rfl hP hS dX6_promote_28 (Nat.le_of_ble_eq_true rfl) (Nat.le_of_ble_eq_true rfl) (⟨AD, by rw [hev], by rw [hev], by rw [hev]; exact U_end hs hi_2 hn.1 (by simp [f_promote, clr_5]) (fun a b h => prom_o (fun q9 => h (by omega))) (by rw [wU_s]; simp [e_route, f_promote, clr_5, clr_a, fU, rfC, va_rf]) (fun b hb9 => wU_n _ _ hb9), rfl, wKp.rf.u (hs.ro hi_2) rfl⟩)

set_option maxHeartbeats 4000000 in
set_option maxRecDepth 100000 in
theorem k_X6_endAndUndo (l : Launch) (hst : l.stackTraces = false) (E : wEn) (w : wW) (sz : Nat) (F : FF) (AD : AT) (N : Nat) (hI : wInv F N) (i v9 : Nat) (hi : i < F 24 0) (h5 : F 5 i ≠ 0) (hs : wSys E (fU F 9 i v9) AD w) : wM l yX6_endAndUndo wsX6_endAndUndo 3 0 0 E w sz [.ref (AD 5 0), .ref (AD 0 i), .ref (AD 4 i)] (fun v w2 => v = some (.int (nI (n_und F i (F 24 3)))) ∧ wSys E (f_und F i (F 24 3)) AD w2 ∧ wKp w w2) (fun _ _ => False) := by
  refine wm_start (own := RX6) (cc := cX6_endAndUndo) (maxL := 3) (ret := (some .int)) rfl (by decide) rfl (Nat.le_of_ble_eq_true rfl) ?_
  intro p e s m args below meth c ls C0 hr hin ht hP hS hl
  have hx := C0.1
  have hb := C0.2.1
  have hts := C0.2.2.2.2.1
  have hown := C0.2.2.2.1
  have hl : lv_has ls 3 [(0, .ref (AD 5 0)), (1, .ref (AD 0 i)), (2, .ref (AD 4 i))] := hl
  have hf_104 : va_Nw (.fieldLinkNest RX6 104 "CallGateway$Route" "canary" "LCallGateway$Canary;" "CallGateway") s := C0.2.2.2.2.2.2.2.1.1 _ (by decide +kernel)
  have hf_30 : (Cond.fieldLink RX6 30 "CallGateway" "log" "LCallGateway$CallLog;").before args s = true := hts _ (by decide +kernel)
  have hf_293 : va_Nw (.fieldLinkNest RX6 293 "CallGateway$Canary" "number" "I" "CallGateway") s := C0.2.2.2.2.2.2.2.1.1 _ (by decide +kernel)
  have hi_RX2 : ∀ w ∈ u_ws RX2 TX2 5, w ∈ wsX6_endAndUndo := fun _ h => List.mem_cons_of_mem _ (List.mem_append_left _ (List.mem_append_left _ (List.mem_append_left _ (List.mem_append_left _ (List.mem_append_right _ h)))))
  have hi_RX5 : ∀ w ∈ u_ws RX5 TX5 7, w ∈ wsX6_endAndUndo := fun _ h => List.mem_cons_of_mem _ (List.mem_append_left _ (List.mem_append_left _ (List.mem_append_left _ (List.mem_append_left _ (List.mem_append_left _ (List.mem_append_left _ (List.mem_append_right _ h)))))))
  have hi_RX6 : ∀ w ∈ u_ws RX6 TX6 8, w ∈ wsX6_endAndUndo := fun _ h => List.mem_cons_of_mem _ (List.mem_append_left _ (List.mem_append_left _ (List.mem_append_left _ (List.mem_append_left _ (List.mem_append_left _ (List.mem_append_right _ h))))))
  have hn := hI.n
  have hRo := wSys.ro hs (i := i) (by simpa [fU] using hi)
  have hCa := wSys.ca hs (i := i) (by simpa [fU] using hi) (by simpa [fU] using h5)
  have hXx := wSys.x hs
  have hLl := wSys.log hs
  simp [e_route, e_can, e_x, e_log, fU] at hRo hCa hXx hLl
  refine lv_aload_n hx hb dX6_endAndUndo_0 rfl (lv_at hl 1 rfl) ?_
  refine lv_null hx hb dX6_endAndUndo_1 ?_
  refine wl_putN (T := TX5) (ty0 := tyX5) (fs2 := [.int (nI i), .int (nI (F 0 i)), .int (nI (F 1 i)), .int (nI (F 2 i)), .int (nI (F 3 i)), .int (nI (F 4 i)), .null]) C0 hP hS hRo hi_RX5 tyX5_ok nmX5 rfl 6 (by decide) hf_104 rfl rfl rfl rfl (Nat.le_of_ble_eq_true rfl) rfl dX6_endAndUndo_2 (fun H locs hP hS => ?_)
  have hs1 : wSys E (f_und F i 0) AD (wU w (AD 0 i) (.inr (5, [.int (nI i), .int (nI (F 0 i)), .int (nI (F 1 i)), .int (nI (F 2 i)), .int (nI (F 3 i)), .int (nI (F 4 i)), .null]))) := U_end (i := i) hs hi hn.1 (by simp [f_und, fU]) (fun a b h => und_o9 h) (by rw [wU_s]; simp [e_route, f_und, fU, rfC, va_rf]) (fun b hb9 => wU_n _ _ hb9)
  refine lv_aload_n hx hb dX6_endAndUndo_5 rfl (lv_at hl 0 rfl) ?_
  have f9_1 : (wU w (AD 0 i) (.inr (5, [.int (nI i), .int (nI (F 0 i)), .int (nI (F 1 i)), .int (nI (F 2 i)), .int (nI (F 3 i)), .int (nI (F 4 i)), .null]))) (AD 5 0) = some (.inr (6, [.ref (AD 5 1), .ref (AD 5 2), .ref (AD 5 3), .ref (AD 5 4), .int (nI (F 24 0)), .int (nI (F 24 1)), .int (nI (F 24 2)), .int (nI (F 24 4))])) := (wU_n _ _ (wne hXx hRo (Nat.ne_of_beq_eq_false rfl))).trans hXx
  refine wl_get (T := TX6) C0 hP f9_1 hi_RX6 rfl 3 (by decide) hf_30 rfl dX6_endAndUndo_6 ?_
  refine lv_aload_n hx hb dX6_endAndUndo_9 rfl (lv_at hl 2 rfl) ?_
  have f9_2 : (wU w (AD 0 i) (.inr (5, [.int (nI i), .int (nI (F 0 i)), .int (nI (F 1 i)), .int (nI (F 2 i)), .int (nI (F 3 i)), .int (nI (F 4 i)), .null]))) (AD 4 i) = some (.inr (2, [.int (nI (F 22 i)), .int (nI (F 6 i)), .int (nI (F 8 i)), .int (nI (F 7 i)), .int (nI v9)])) := (wU_n _ _ (wne hCa hRo (Nat.ne_of_beq_eq_false rfl))).trans hCa
  refine wl_getN (T := TX2) C0 hP f9_2 hi_RX2 rfl 0 (by decide) hf_293 rfl dX6_endAndUndo_10 ?_
  have f9_3 : (wU w (AD 0 i) (.inr (5, [.int (nI i), .int (nI (F 0 i)), .int (nI (F 1 i)), .int (nI (F 2 i)), .int (nI (F 3 i)), .int (nI (F 4 i)), .null]))) (AD 5 4) = some (.inr (0, [.ref (AD 5 5), .int (nI (F 24 3))])) := (wU_n _ _ (wne hLl hRo (Nat.ne_of_beq_eq_false rfl))).trans hLl
  refine wl_on C0 ht hP hS (wl_runVN (host := "CallGateway") (As := [.int (nI (F 22 i))]) (rest := []) C0 hP hS (k_X0_undoCallsOf l hst E (wU w (AD 0 i) (.inr (5, [.int (nI i), .int (nI (F 0 i)), .int (nI (F 1 i)), .int (nI (F 2 i)), .int (nI (F 3 i)), .int (nI (F 4 i)), .null]))) H.size F AD N hI i hi h5 hs1) ⟨va_cnB 1 hts gX6_endAndUndo_X0_undoCallsOf_n307 rfl rfl rfl (C0.2.2.2.2.2.2.2.1.1 _ (by decide +kernel)) (hts _ (by decide +kernel)) (by decide +kernel) ⟨(Nat.le_of_ble_eq_true rfl), (Nat.le_of_ble_eq_true rfl)⟩, hts _ (by decide +kernel), hts _ (by decide +kernel)⟩ f9_3 rfl rfl rfl hl.1 (Nat.le_of_ble_eq_true rfl) dX6_endAndUndo_13 ⟨(Nat.le_of_ble_eq_true rfl), (Nat.le_of_ble_eq_true rfl)⟩) (Nat.le_of_ble_eq_true rfl) (Nat.le_of_ble_eq_true rfl) (fun _ _ h => h.elim) (fun v_13 w_13 H locs hq hP hS => ?_)
  obtain ⟨rfl, hs2, hk2⟩ := hq
  refine W.eq (g2 := F0 m 16 ls [.int (nI (n_und F i (F 24 3)))]) rfl ?_
  exact wl_iret C0 hr rfl hP hS dX6_endAndUndo_16 (Nat.le_of_ble_eq_true rfl) (Nat.le_of_ble_eq_true rfl) (⟨rfl, hs2, (wKp.rf.u hRo rfl).tr hk2⟩)

set_option maxHeartbeats 4000000 in
set_option maxRecDepth 100000 in
theorem k_X6_takeBack (l : Launch) (hst : l.stackTraces = false) (E : wEn) (w : wW) (sz : Nat) (F : FF) (AD : AT) (N : Nat) (hI : wInv F N) (hs : wSys E F AD w) (r : Int32) : wM l yX6_takeBack wsX6_takeBack 4 2 12 E w sz [.ref (AD 5 0), .int r] (fun v w2 => ∃ AD2 : AT, (s_takeBack F r).1 = 0 ∧ v = some (.int (s_takeBack F r).2.1) ∧ wSys E (s_takeBack F r).2.2 AD2 w2 ∧ AD2 5 0 = AD 5 0 ∧ wKp w w2) (fun X w2 => w2 = w ∧ ((s_takeBack F r).1 = 1 ∧ X = xIOB ∨ (s_takeBack F r).1 = 2 ∧ X = xISE)) := by
  refine wm_start (own := RX6) (cc := cX6_takeBack) (maxL := 4) (ret := (some .int)) rfl (by decide) rfl (Nat.le_of_ble_eq_true rfl) ?_
  intro p e s m args below meth c ls C0 hr hin ht hP hS hl
  have hx := C0.1
  have hb := C0.2.1
  have hts := C0.2.2.2.2.1
  have hown := C0.2.2.2.1
  have hl : lv_has ls 4 [(0, .ref (AD 5 0)), (1, .int r)] := hl
  have hn := hI.n
  refine lv_aload_n hx hb dX6_takeBack_0 rfl (lv_at hl 0 rfl) ?_
  refine lv_iload_n hx hb dX6_takeBack_1 rfl (lv_at hl 1 rfl) ?_
  refine wl_on C0 ht hP hS (wl_runV (As := [.int r]) (rest := []) C0 hP hS (k_X6_existingRoute l hst E w s.heap.size F AD N hI hs r) (cwV 1 hts gX6_takeBack_X6_existingRoute rfl rfl rfl (by decide +kernel) ⟨(Nat.le_of_ble_eq_true rfl), (Nat.le_of_ble_eq_true rfl)⟩) hs.x rfl rfl rfl hl.1 (Nat.le_of_ble_eq_true rfl) dX6_takeBack_2 ⟨(Nat.le_of_ble_eq_true rfl), (Nat.le_of_ble_eq_true rfl)⟩) (Nat.le_of_ble_eq_true rfl) (Nat.le_of_ble_eq_true rfl) (fun X w2 h => ⟨h.2.1, Or.inl (⟨by simp [s_takeBack, h.2.2], h.1⟩)⟩) (fun v_2 w_2 H locs hq hP hS => ?_)
  obtain ⟨rfl, hw9, hv_2⟩ := hq
  rw [hw9] at hP
  have hi_2 : tn r < F 24 0 := (vpb_tn hv_2)
  refine W.eq (g2 := F0 m 5 ls [.ref (AD 0 (tn r))]) rfl ?_
  refine W.widen (k := 1) (n := 6) (Nat.le_of_ble_eq_true rfl) (Nat.le_of_ble_eq_true rfl) ?_
  refine lv_astore_n (lv' := [(2, .ref (AD 0 (tn r))), (0, .ref (AD 5 0)), (1, .int r)]) hx hb dX6_takeBack_5 rfl hl (by decide) rfl (fun ls hl => ?_)
  refine lv_aload_n hx hb dX6_takeBack_6 rfl (lv_at hl 0 rfl) ?_
  refine wl_on C0 ht hP hS (wl_runS (As := [.ref (AD 0 (tn r))]) (rest := []) C0 hP hS (k_X6_existingCanary l hst E w H.size F AD N hI hs (tn r) hi_2) (va_cwS 1 hts gX6_takeBack_X6_existingCanary rfl rfl rfl (by decide +kernel) ⟨(Nat.le_of_ble_eq_true rfl), (Nat.le_of_ble_eq_true rfl)⟩) rfl rfl hl.1 (Nat.le_of_ble_eq_true rfl) dX6_takeBack_7 ⟨(Nat.le_of_ble_eq_true rfl), (Nat.le_of_ble_eq_true rfl)⟩) (Nat.le_of_ble_eq_true rfl) (Nat.le_of_ble_eq_true rfl) (fun X w2 h => ⟨h.2.1, Or.inr (⟨by simp [s_takeBack, h.2.2, hv_2], h.1⟩)⟩) (fun v_7 w_7 H locs hq hP hS => ?_)
  obtain ⟨rfl, hw9, hc_7⟩ := hq
  rw [hw9] at hP
  refine W.eq (g2 := F0 m 10 ls [.ref (AD 4 (tn r))]) rfl ?_
  refine W.widen (k := 2) (n := 12) (Nat.le_of_ble_eq_true rfl) (Nat.le_of_ble_eq_true rfl) ?_
  refine lv_astore_n (lv' := [(3, .ref (AD 4 (tn r))), (2, .ref (AD 0 (tn r))), (0, .ref (AD 5 0)), (1, .int r)]) hx hb dX6_takeBack_10 rfl hl (by decide) rfl (fun ls hl => ?_)
  refine lv_aload_n hx hb dX6_takeBack_11 rfl (lv_at hl 2 rfl) ?_
  refine lv_aload_n hx hb dX6_takeBack_12 rfl (lv_at hl 1 rfl) ?_
  refine lv_aload_n hx hb dX6_takeBack_13 rfl (lv_at hl 0 rfl) ?_
  refine wl_on C0 ht hP hS (wl_runV (As := [.ref (AD 0 (tn r)), .ref (AD 4 (tn r))]) (rest := []) C0 hP hS (k_X6_endAndUndo l hst E w H.size F AD N hI (tn r) (F 9 (tn r)) hi_2 hc_7 (by rw [fU_id]; exact hs)) (cwV 2 hts gX6_takeBack_X6_endAndUndo rfl rfl rfl (by decide +kernel) ⟨(Nat.le_of_ble_eq_true rfl), (Nat.le_of_ble_eq_true rfl)⟩) hs.x rfl rfl rfl hl.1 (Nat.le_of_ble_eq_true rfl) dX6_takeBack_14 ⟨(Nat.le_of_ble_eq_true rfl), (Nat.le_of_ble_eq_true rfl)⟩) (Nat.le_of_ble_eq_true rfl) (Nat.le_of_ble_eq_true rfl) (fun _ _ h => h.elim) (fun v_14 w_14 H locs hq hP hS => ?_)
  obtain ⟨rfl, hs2, hk2⟩ := hq
  refine W.eq (g2 := F0 m 17 ls [.int (nI (n_und F (tn r) (F 24 3)))]) rfl ?_
  have hev : s_takeBack F r = (0, nI (n_und F (tn r) (F 24 3)), f_und F (tn r) (F 24 3)) := by simp [s_takeBack, hv_2, hc_7]
  exact wl_iret C0 hr rfl hP hS dX6_takeBack_17 (Nat.le_of_ble_eq_true rfl) (Nat.le_of_ble_eq_true rfl) (⟨AD, by rw [hev], by rw [hev], by rw [hev]; exact hs2, rfl, hk2⟩)

set_option maxHeartbeats 4000000 in
set_option maxRecDepth 100000 in
theorem k_X6_hasCanary (l : Launch) (hst : l.stackTraces = false) (E : wEn) (w : wW) (sz : Nat) (F : FF) (AD : AT) (N : Nat) (hI : wInv F N) (hs : wSys E F AD w) (r : Int32) : wM l yX6_hasCanary wsX6_hasCanary 1 1 6 E w sz [.ref (AD 5 0), .int r] (fun v w2 => ∃ AD2 : AT, (s_hasCanary F r).1 = 0 ∧ v = some (.int (s_hasCanary F r).2.1) ∧ wSys E (s_hasCanary F r).2.2 AD2 w2 ∧ AD2 5 0 = AD 5 0 ∧ wKp w w2) (fun X w2 => w2 = w ∧ ((s_hasCanary F r).1 = 1 ∧ X = xIOB)) := by
  refine wm_start (own := RX6) (cc := cX6_hasCanary) (maxL := 2) (ret := (some .boolean)) rfl (by decide) rfl (Nat.le_of_ble_eq_true rfl) ?_
  intro p e s m args below meth c ls C0 hr hin ht hP hS hl
  have hx := C0.1
  have hb := C0.2.1
  have hts := C0.2.2.2.2.1
  have hown := C0.2.2.2.1
  have hl : lv_has ls 2 [(0, .ref (AD 5 0)), (1, .int r)] := hl
  have hf_104 : va_Nw (.fieldLinkNest RX6 104 "CallGateway$Route" "canary" "LCallGateway$Canary;" "CallGateway") s := C0.2.2.2.2.2.2.2.1.1 _ (by decide +kernel)
  have hi_RX5 : ∀ w ∈ u_ws RX5 TX5 7, w ∈ wsX6_hasCanary := fun _ h => List.mem_cons_of_mem _ (List.mem_append_left _ (List.mem_append_left _ (List.mem_append_right _ h)))
  have hn := hI.n
  refine lv_aload_n hx hb dX6_hasCanary_0 rfl (lv_at hl 0 rfl) ?_
  refine lv_iload_n hx hb dX6_hasCanary_1 rfl (lv_at hl 1 rfl) ?_
  refine wl_on C0 ht hP hS (wl_runV (As := [.int r]) (rest := []) C0 hP hS (k_X6_existingRoute l hst E w s.heap.size F AD N hI hs r) (cwV 1 hts gX6_hasCanary_X6_existingRoute rfl rfl rfl (by decide +kernel) ⟨(Nat.le_of_ble_eq_true rfl), (Nat.le_of_ble_eq_true rfl)⟩) hs.x rfl rfl rfl hl.1 (Nat.le_of_ble_eq_true rfl) dX6_hasCanary_2 ⟨(Nat.le_of_ble_eq_true rfl), (Nat.le_of_ble_eq_true rfl)⟩) (Nat.le_of_ble_eq_true rfl) (Nat.le_of_ble_eq_true rfl) (fun X w2 h => ⟨h.2.1, ⟨by simp [s_hasCanary, h.2.2], h.1⟩⟩) (fun v_2 w_2 H locs hq hP hS => ?_)
  obtain ⟨rfl, hw9, hv_2⟩ := hq
  rw [hw9] at hP
  have hi_2 : tn r < F 24 0 := (vpb_tn hv_2)
  refine W.eq (g2 := F0 m 5 ls [.ref (AD 0 (tn r))]) rfl ?_
  refine W.widen (k := 1) (n := 6) (Nat.le_of_ble_eq_true rfl) (Nat.le_of_ble_eq_true rfl) ?_
  refine wl_getN (T := TX5) C0 hP (wSys.ro hs hi_2) hi_RX5 rfl 6 (by decide) hf_104 rfl dX6_hasCanary_5 ?_
  refine wl_rfC (fun h_8 => ?_) (fun h_8 => ?_)
  · refine lv_ifnullN (tgt := 15) hx hb dX6_hasCanary_8 (by decide) ?_
    refine lv_iconst (v := 0) hx hb dX6_hasCanary_15 (by decide) ?_
    have hev : s_hasCanary F r = (0, 0, F) := by simp [s_hasCanary, hv_2, h_8, bI]
    exact wl_iret C0 hr (by decide) hP hS dX6_hasCanary_16 (Nat.le_of_ble_eq_true rfl) (Nat.le_of_ble_eq_true rfl) (⟨AD, by rw [hev], by rw [hev], by rw [hev]; exact hs, rfl, wKp.rf⟩)
  · refine lv_ifnull hx hb dX6_hasCanary_8 ?_
    refine lv_iconst (v := 1) hx hb dX6_hasCanary_11 (by decide) ?_
    refine lv_goto (tgt := 16) hx hb dX6_hasCanary_12 (by decide) ?_
    have hev : s_hasCanary F r = (0, 1, F) := by simp [s_hasCanary, hv_2, h_8, bI]
    exact wl_iret C0 hr (by decide) hP hS dX6_hasCanary_16 (Nat.le_of_ble_eq_true rfl) (Nat.le_of_ble_eq_true rfl) (⟨AD, by rw [hev], by rw [hev], by rw [hev]; exact hs, rfl, wKp.rf⟩)

set_option maxHeartbeats 4000000 in
set_option maxRecDepth 100000 in
theorem k_X6_faults (l : Launch) (hst : l.stackTraces = false) (E : wEn) (w : wW) (sz : Nat) (F : FF) (AD : AT) (N : Nat) (hI : wInv F N) (hs : wSys E F AD w) (r : Int32) : wM l yX6_faults wsX6_faults 1 2 12 E w sz [.ref (AD 5 0), .int r] (fun v w2 => ∃ AD2 : AT, (s_faults F r).1 = 0 ∧ v = some (.int (s_faults F r).2.1) ∧ wSys E (s_faults F r).2.2 AD2 w2 ∧ AD2 5 0 = AD 5 0 ∧ wKp w w2) (fun X w2 => w2 = w ∧ ((s_faults F r).1 = 1 ∧ X = xIOB ∨ (s_faults F r).1 = 2 ∧ X = xNSE)) := by
  refine wm_start (own := RX6) (cc := cX6_faults) (maxL := 3) (ret := (some .int)) rfl (by decide) rfl (Nat.le_of_ble_eq_true rfl) ?_
  intro p e s m args below meth c ls C0 hr hin ht hP hS hl
  have hx := C0.1
  have hb := C0.2.1
  have hts := C0.2.2.2.2.1
  have hown := C0.2.2.2.1
  have hl : lv_has ls 3 [(0, .ref (AD 5 0)), (1, .int r)] := hl
  have hf_104 : va_Nw (.fieldLinkNest RX6 104 "CallGateway$Route" "canary" "LCallGateway$Canary;" "CallGateway") s := C0.2.2.2.2.2.2.2.1.1 _ (by decide +kernel)
  have hf_149 : va_Nw (.fieldLinkNest RX6 149 "CallGateway$Canary" "faults" "I" "CallGateway") s := C0.2.2.2.2.2.2.2.1.1 _ (by decide +kernel)
  have hi_RX2 : ∀ w ∈ u_ws RX2 TX2 5, w ∈ wsX6_faults := fun _ h => List.mem_cons_of_mem _ (List.mem_append_left _ (List.mem_append_left _ (List.mem_append_left _ (List.mem_append_right _ h))))
  have hi_RX5 : ∀ w ∈ u_ws RX5 TX5 7, w ∈ wsX6_faults := fun _ h => List.mem_cons_of_mem _ (List.mem_append_left _ (List.mem_append_left _ (List.mem_append_left _ (List.mem_append_left _ (List.mem_append_right _ h)))))
  have hn := hI.n
  refine lv_aload_n hx hb dX6_faults_0 rfl (lv_at hl 0 rfl) ?_
  refine lv_iload_n hx hb dX6_faults_1 rfl (lv_at hl 1 rfl) ?_
  refine wl_on C0 ht hP hS (wl_runV (As := [.int r]) (rest := []) C0 hP hS (k_X6_existingRoute l hst E w s.heap.size F AD N hI hs r) (cwV 1 hts gX6_faults_X6_existingRoute rfl rfl rfl (by decide +kernel) ⟨(Nat.le_of_ble_eq_true rfl), (Nat.le_of_ble_eq_true rfl)⟩) hs.x rfl rfl rfl hl.1 (Nat.le_of_ble_eq_true rfl) dX6_faults_2 ⟨(Nat.le_of_ble_eq_true rfl), (Nat.le_of_ble_eq_true rfl)⟩) (Nat.le_of_ble_eq_true rfl) (Nat.le_of_ble_eq_true rfl) (fun X w2 h => ⟨h.2.1, Or.inl (⟨by simp [s_faults, h.2.2], h.1⟩)⟩) (fun v_2 w_2 H locs hq hP hS => ?_)
  obtain ⟨rfl, hw9, hv_2⟩ := hq
  rw [hw9] at hP
  have hi_2 : tn r < F 24 0 := (vpb_tn hv_2)
  refine W.eq (g2 := F0 m 5 ls [.ref (AD 0 (tn r))]) rfl ?_
  refine W.widen (k := 1) (n := 6) (Nat.le_of_ble_eq_true rfl) (Nat.le_of_ble_eq_true rfl) ?_
  refine wl_getN (T := TX5) C0 hP (wSys.ro hs hi_2) hi_RX5 rfl 6 (by decide) hf_104 rfl dX6_faults_5 ?_
  refine wl_rfC (fun h_8 => ?_) (fun h_8 => ?_)
  · refine lv_astore_nN (lv' := [(2, .null), (0, .ref (AD 5 0)), (1, .int r)]) hx hb dX6_faults_8 rfl hl (by decide) rfl (fun ls hl => ?_)
    refine lv_aload_nN hx hb dX6_faults_9 rfl (lv_at hl 0 rfl) ?_
    refine lv_ifnonnullN hx hb dX6_faults_10 ?_
    exact wl_throwX (ik := 144) (is := 146) (ic := 148) (i := 10) C0 hst ht (by decide +kernel) (hts _ (by decide +kernel)) (hts _ (by decide +kernel)) rfl (fun _ h => List.mem_cons_of_mem _ (List.mem_append_left _ (List.mem_append_right _ h))) xc_NSE xn_NSE xg_NSE hP hS hl.1 dX6_faults_13 dX6_faults_16 dX6_faults_17 dX6_faults_19 dX6_faults_22 (Nat.le_of_ble_eq_true rfl) (Nat.le_of_ble_eq_true rfl) (Nat.le_of_ble_eq_true rfl) (Nat.le_of_ble_eq_true rfl) (Nat.le_of_ble_eq_true rfl) (Nat.le_of_ble_eq_true rfl) (⟨rfl, Or.inr (⟨by simp [s_faults, hv_2, h_8], rfl⟩)⟩)
  · refine lv_astore_n (lv' := [(2, .ref (AD 4 (tn r))), (0, .ref (AD 5 0)), (1, .int r)]) hx hb dX6_faults_8 rfl hl (by decide) rfl (fun ls hl => ?_)
    refine lv_aload_n hx hb dX6_faults_9 rfl (lv_at hl 0 rfl) ?_
    refine lv_ifnonnull (tgt := 23) hx hb dX6_faults_10 (by decide) ?_
    refine lv_aload_n hx hb dX6_faults_23 rfl (lv_at hl 0 rfl) ?_
    refine wl_getN (T := TX2) C0 hP (wSys.ca hs hi_2 h_8) hi_RX2 rfl 4 (by decide) hf_149 rfl dX6_faults_24 ?_
    have hev : s_faults F r = (0, nI (F 9 (tn r)), F) := by simp [s_faults, hv_2, h_8]
    exact wl_iret C0 hr rfl hP hS dX6_faults_27 (Nat.le_of_ble_eq_true rfl) (Nat.le_of_ble_eq_true rfl) (⟨AD, by rw [hev], by rw [hev], by rw [hev]; exact hs, rfl, wKp.rf⟩)
