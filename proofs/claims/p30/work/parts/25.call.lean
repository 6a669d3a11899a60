theorem wSys_9 {E : wEn} {F : FF} {AD : AT} {w : wW} {i v : Nat} (hs : wSys E F AD w) (h5 : F 5 i = 0) : wSys E (fU F 9 i v) AD w := by
  have e : ∀ a b, a ≠ 9 → fU F 9 i v a b = F a b := fun a b h => fU_k h
  unfold wSys
  simp only [e_x, e_log, e_route, e_plan, e_caller, e_entry, e 24 _ (by decide), e 0 _ (by decide), e 1 _ (by decide), e 2 _ (by decide), e 3 _ (by decide), e 4 _ (by decide), e 5 _ (by decide), e 10 _ (by decide), e 11 _ (by decide), e 12 _ (by decide), e 13 _ (by decide), e 14 _ (by decide), e 15 _ (by decide), e 16 _ (by decide), e 17 _ (by decide), e 18 _ (by decide), e 19 _ (by decide), e 20 _ (by decide), e 23 _ (by decide)]
  refine ⟨hs.1, hs.2.1, hs.2.2.1, hs.2.2.2.1, hs.2.2.2.2.1, hs.2.2.2.2.2.1, hs.2.2.2.2.2.2.1, ?_, hs.2.2.2.2.2.2.2.2⟩
  intro j hj hj5
  have hji : j ≠ i := fun q => hj5 (by rw [q]; exact h5)
  have h := hs.ca hj hj5
  simpa only [e_can, e 22 _ (by decide), e 6 _ (by decide), e 8 _ (by decide), e 7 _ (by decide), fU_i (F := F) (k := 9) (v := v) (a := 9) hji] using h
theorem wU_none {w : wW} {a q : Nat} {e : va_E} (h : wU w a e q = none) : w q = none := by
  unfold wU at h
  split at h
  · cases h
  · exact h
theorem ck_lt {F : FF} {c r key M : Nat} (h : 115 < M) : c_kind F c r key < M := by
  unfold c_kind
  (repeat' split) <;> omega
set_option maxHeartbeats 4000000 in
set_option maxRecDepth 100000 in
theorem k_X0_add (l : Launch) (hst : l.stackTraces = false) (E : wEn) (w : wW) (sz : Nat) (a4 a5 q0 n : Nat) (ad : Nat → Nat) (fs : List Value) (hn5 : n < 512) (h4 : w a4 = some (.inr (0, [.ref a5, .int (nI n)]))) (h5 : w a5 = some (.inl (E.2.1 7, 512, .inr (.inr (.inr (.inr (rfU ad n))))))) (hq0 : w q0 = some (.inr (3, fs))) : wM l yX0_add wsX0_add 0 0 0 E w sz [.ref a4, .ref q0] (fun v w2 => v = none ∧ w2 = wU (wU w a5 (.inl (E.2.1 7, 512, .inr (.inr (.inr (.inr (rfU (fun b => if b = n then q0 else ad b) (n + 1)))))))) a4 (.inr (0, [.ref a5, .int (nI (n + 1))]))) (fun _ _ => False) := by
  refine wm_start (own := RX0) (cc := cX0_add) (maxL := 2) (ret := none) rfl (by decide) rfl (Nat.le_of_ble_eq_true rfl) ?_
  intro p e s m args below meth c ls C0 hr hin ht hP hS hl
  have hx := C0.1
  have hb := C0.2.1
  have hts := C0.2.2.2.2.1
  have hown := C0.2.2.2.1
  have hl : lv_has ls 2 [(0, .ref a4), (1, .ref q0)] := hl
  have hf_17 : (Cond.fieldLink RX0 17 "CallGateway$CallLog" "size" "I").before args s = true := hts _ (by decide +kernel)
  have hf_11 : (Cond.fieldLink RX0 11 "CallGateway$CallLog" "entries" "[LCallGateway$Entry;").before args s = true := hts _ (by decide +kernel)
  have hi_RX0 : ∀ w ∈ u_ws RX0 TX0 2, w ∈ wsX0_add := fun _ h => List.mem_cons_of_mem _ (List.mem_append_right _ h)
  refine lv_aload_n hx hb dX0_add_0 rfl (lv_at hl 0 rfl) ?_
  refine wl_get (T := TX0) C0 hP h4 hi_RX0 rfl 1 (by decide) hf_17 rfl dX0_add_1 ?_
  refine lv_if_lt (tgt := 39) hx hb dX0_add_4 (by decide) (fun c_4 => ?_) (fun c_4 => ?_)
  · exact absurd c_4 (Int32.not_lt.mpr (nI_pos' (by omega)))
  · refine lv_aload_n hx hb dX0_add_7 rfl (lv_at hl 0 rfl) ?_
    refine wl_get (T := TX0) C0 hP h4 hi_RX0 rfl 1 (by decide) hf_17 rfl dX0_add_8 ?_
    refine lv_aload_n hx hb dX0_add_11 rfl (lv_at hl 0 rfl) ?_
    refine wl_get (T := TX0) C0 hP h4 hi_RX0 rfl 0 (by decide) hf_11 rfl dX0_add_12 ?_
    refine wl_alen (v := 512) C0 hP h5 7 rfl rfl dX0_add_15 ?_
    refine lv_icmp_ge (tgt := 39) hx hb dX0_add_16 (by decide) (fun c_16 => ?_) (fun c_16 => ?_)
    · exact absurd ((nI_leI (a := 512) (by omega) (by omega)).mp c_16) (by omega)
    · refine lv_aload_n hx hb dX0_add_19 rfl (lv_at hl 0 rfl) ?_
      refine wl_get (T := TX0) C0 hP h4 hi_RX0 rfl 0 (by decide) hf_11 rfl dX0_add_20 ?_
      refine lv_aload_n hx hb dX0_add_23 rfl (lv_at hl 0 rfl) ?_
      refine wl_get (T := TX0) C0 hP h4 hi_RX0 rfl 1 (by decide) hf_17 rfl dX0_add_24 ?_
      refine lv_aload_n hx hb dX0_add_27 rfl (lv_at hl 1 rfl) ?_
      refine wl_astq (t0 := 7) (ci := 3) C0 hP hS rfl rfl h5 hq0 (vp_in_nI hn5 (by omega)) dX0_add_28 (fun H locs hP hS => ?_)
      rw [show (nI n).toNatClampNeg = n from nI_clamp (by omega), rfU_up] at hP
      refine lv_aload_n hx hb dX0_add_29 rfl (lv_at hl 0 rfl) ?_
      refine lv_dup hx hb dX0_add_30 rfl ?_
      have f9_1 : (wU w a5 (.inl (E.2.1 7, 512, .inr (.inr (.inr (.inr (rfU (fun b => if b = n then q0 else ad b) (n + 1)))))))) a4 = some (.inr (0, [.ref a5, .int (nI n)])) := (wU_n _ _ (wne h4 h5 (Nat.ne_of_beq_eq_false rfl))).trans h4
      refine wl_get (T := TX0) C0 hP f9_1 hi_RX0 rfl 1 (by decide) hf_17 rfl dX0_add_31 ?_
      refine lv_iconst (v := 1) hx hb dX0_add_34 (by decide) ?_
      refine lv_iadd hx hb dX0_add_35 ?_
      rw [show ((nI n) + 1) = (nI (n + 1)) from nI_1 _]
      refine wl_put (T := TX0) (ty0 := tyX0) (fs2 := [.ref a5, .int (nI (n + 1))]) C0 hP hS f9_1 hi_RX0 tyX0_ok nmX0 rfl 1 (by decide) hf_17 rfl rfl rfl rfl (Nat.le_of_ble_eq_true rfl) rfl dX0_add_36 (fun H locs hP hS => ?_)
      exact wl_vret C0 hr hP hS dX0_add_39 (Nat.le_of_ble_eq_true rfl) (Nat.le_of_ble_eq_true rfl) (⟨rfl, rfl⟩)

set_option maxHeartbeats 4000000 in
set_option maxRecDepth 100000 in
theorem k_X6_enter (l : Launch) (hst : l.stackTraces = false) (E : wEn) (w : wW) (sz : Nat) (F : FF) (AD : AT) (N : Nat) (hI : wInv F N) (hs : wSys E F AD w) (i kd co ca op : Nat) (k1 co1 cn1 : Int32) (hi : i < F 24 2) (h3 : F 24 3 < 512) (hkd : kd ≤ 115) (hco : co ≤ F 14 i) (hco5 : co ≤ 5) (hk1 : k1 = nI kd) (hco1 : co1 = nI co) (hcn : cn1 = oI ca) : wM l yX6_enter wsX6_enter 1 1 6 E w sz [.ref (AD 5 0), .ref (AD 2 i), .int k1, .int co1, .int cn1] (fun v w2 => v = some (.int (nI kd)) ∧ ∃ AD2 : AT, wSys E (f_enter F i kd co ca op) AD2 w2 ∧ AD2 5 0 = AD 5 0 ∧ wKp w w2) (fun _ _ => False) := by
  refine wm_start (own := RX6) (cc := cX6_enter) (maxL := 6) (ret := (some .char)) rfl (by decide) rfl (Nat.le_of_ble_eq_true rfl) ?_
  intro p e s m args below meth c ls C0 hr hin ht hP hS hl
  have hx := C0.1
  have hb := C0.2.1
  have hts := C0.2.2.2.2.1
  have hown := C0.2.2.2.1
  have hl : lv_has ls 6 [(0, .ref (AD 5 0)), (1, .ref (AD 2 i)), (2, .int k1), (3, .int co1), (4, .int cn1)] := hl
  have hf_186 : va_Nw (.fieldLinkNest RX6 186 "CallGateway$Caller" "plan" "LCallGateway$Plan;" "CallGateway") s := C0.2.2.2.2.2.2.2.1.1 _ (by decide +kernel)
  have hf_297 : va_Nw (.fieldLinkNest RX6 297 "CallGateway$Plan" "price" "I" "CallGateway") s := C0.2.2.2.2.2.2.2.1.1 _ (by decide +kernel)
  have hf_180 : va_Nw (.fieldLinkNest RX6 180 "CallGateway$Caller" "tokens" "I" "CallGateway") s := C0.2.2.2.2.2.2.2.1.1 _ (by decide +kernel)
  have hf_199 : va_Nw (.fieldLinkNest RX6 199 "CallGateway$Caller" "bill" "J" "CallGateway") s := C0.2.2.2.2.2.2.2.1.1 _ (by decide +kernel)
  have hf_30 : (Cond.fieldLink RX6 30 "CallGateway" "log" "LCallGateway$CallLog;").before args s = true := hts _ (by decide +kernel)
  have hi_RX1 : ∀ w ∈ u_ws RX1 TX1 4, w ∈ wsX6_enter := fun _ h => List.mem_cons_of_mem _ (List.mem_append_left _ (List.mem_append_left _ (List.mem_append_left _ (List.mem_append_left _ (List.mem_append_right _ h)))))
  have hi_RX3 : ∀ w ∈ u_ws RX3 TX3 6, w ∈ wsX6_enter := fun _ h => List.mem_cons_of_mem _ (List.mem_append_left _ (List.mem_append_right _ h))
  have hi_RX4 : ∀ w ∈ u_ws RX4 TX4 3, w ∈ wsX6_enter := fun _ h => List.mem_cons_of_mem _ (List.mem_append_left _ (List.mem_append_left _ (List.mem_append_left _ (List.mem_append_right _ h))))
  have hi_RX6 : ∀ w ∈ u_ws RX6 TX6 8, w ∈ wsX6_enter := fun _ h => List.mem_cons_of_mem _ (List.mem_append_left _ (List.mem_append_left _ (List.mem_append_right _ h)))
  subst hk1 hco1 hcn
  have hl : lv_has ls 6 [(0, .ref (AD 5 0)), (1, .ref (AD 2 i)), (2, .int (nI kd)), (3, .int (nI co)), (4, .int (oI ca))] := hl
  have hn := hI.n
  have hcl := hI.cl hi
  have hpl := hI.pl hcl.1
  have hbl := hI.bl hi
  have hpr : co * F 12 (F 13 i) ≤ 495 := Nat.mul_le_mul hco5 hpl.2.2.2.2
  refine lv_iload_n hx hb dX6_enter_0 rfl (lv_at hl 3 rfl) ?_
  refine lv_aload_n hx hb dX6_enter_1 rfl (lv_at hl 1 rfl) ?_
  refine wl_getN (T := TX1) C0 hP (wSys.cl hs hi) hi_RX1 rfl 1 (by decide) hf_186 rfl dX6_enter_2 ?_
  refine wl_getN (T := TX4) C0 hP (wSys.pl hs (hI.cl hi).1) hi_RX4 rfl 2 (by decide) hf_297 rfl dX6_enter_5 ?_
  refine lv_imul hx hb dX6_enter_8 ?_
  rw [show ((nI co) * (nI (F 12 (F 13 i)))) = (nI (co * F 12 (F 13 i))) from pk_mul _ _]
  refine lv_istore (lv' := [(5, .int (nI (co * F 12 (F 13 i)))), (0, .ref (AD 5 0)), (1, .ref (AD 2 i)), (2, .int (nI kd)), (3, .int (nI co)), (4, .int (oI ca))]) hx hb dX6_enter_9 hl (by decide) rfl (fun ls hl => ?_)
  refine lv_aload_n hx hb dX6_enter_11 rfl (lv_at hl 2 rfl) ?_
  refine lv_dup hx hb dX6_enter_12 rfl ?_
  refine wl_getN (T := TX1) C0 hP (wSys.cl hs hi) hi_RX1 rfl 2 (by decide) hf_180 rfl dX6_enter_13 ?_
  refine lv_iload_n hx hb dX6_enter_16 rfl (lv_at hl 4 rfl) ?_
  refine lv_isub hx hb dX6_enter_17 ?_
  rw [show ((nI (F 14 i)) - (nI co)) = (nI (F 14 i - co)) from pk_sub hco]
  refine wl_putN (T := TX1) (ty0 := tyX1) (fs2 := [.int (nI i), .ref (AD 1 (F 13 i)), .int (nI (F 14 i - co)), .long (lN (F 15 i))]) C0 hP hS (wSys.cl hs hi) hi_RX1 tyX1_ok nmX1 rfl 2 (by decide) hf_180 rfl rfl rfl rfl (Nat.le_of_ble_eq_true rfl) rfl dX6_enter_18 (fun H locs hP hS => ?_)
  refine lv_aload_n hx hb dX6_enter_21 rfl (lv_at hl 2 rfl) ?_
  refine lv_dup hx hb dX6_enter_22 rfl ?_
  have f9_1 : (wU w (AD 2 i) (.inr (1, [.int (nI i), .ref (AD 1 (F 13 i)), .int (nI (F 14 i - co)), .long (lN (F 15 i))]))) (AD 2 i) = some (.inr (1, [.int (nI i), .ref (AD 1 (F 13 i)), .int (nI (F 14 i - co)), .long (lN (F 15 i))])) := (wU_s _ _ _)
  refine wl_getN (T := TX1) C0 hP f9_1 hi_RX1 rfl 3 (by decide) hf_199 rfl dX6_enter_23 ?_
  refine lv_iload hx hb dX6_enter_26 (lv_at hl 0 rfl) ?_
  refine lv_i2l (v := (nI (co * F 12 (F 13 i))).toInt64) hx hb dX6_enter_28 rfl ?_
  rw [show ((nI (co * F 12 (F 13 i))).toInt64) = (lN (co * F 12 (F 13 i))) from nI_l (by omega)]
  refine lv_ladd hx hb dX6_enter_29 ?_
  rw [show ((lN (F 15 i)) + (lN (co * F 12 (F 13 i)))) = (lN (F 15 i + co * F 12 (F 13 i))) from lN_add _ _]
  refine wl_putN (T := TX1) (ty0 := tyX1) (fs2 := [.int (nI i), .ref (AD 1 (F 13 i)), .int (nI (F 14 i - co)), .long (lN (F 15 i + co * F 12 (F 13 i)))]) C0 hP hS f9_1 hi_RX1 tyX1_ok nmX1 rfl 3 (by decide) hf_199 rfl rfl rfl rfl (Nat.le_of_ble_eq_true rfl) rfl dX6_enter_30 (fun H locs hP hS => ?_)
  rw [wU_c] at hP
  refine lv_aload_n hx hb dX6_enter_33 rfl (lv_at hl 1 rfl) ?_
  have f9_2 : (wU w (AD 2 i) (.inr (1, [.int (nI i), .ref (AD 1 (F 13 i)), .int (nI (F 14 i - co)), .long (lN (F 15 i + co * F 12 (F 13 i)))]))) (AD 5 0) = some (.inr (6, [.ref (AD 5 1), .ref (AD 5 2), .ref (AD 5 3), .ref (AD 5 4), .int (nI (F 24 0)), .int (nI (F 24 1)), .int (nI (F 24 2)), .int (nI (F 24 4))])) := (wU_n _ _ (wne hs.x (wSys.cl hs hi) (Nat.ne_of_beq_eq_false rfl))).trans hs.x
  refine wl_get (T := TX6) C0 hP f9_2 hi_RX6 rfl 3 (by decide) hf_30 rfl dX6_enter_34 ?_
  refine wl_new (T := TX3) (N := 6) (fs := [.null, .int 0, .int 0, .int 0, .int 0, .int 0]) (ci := 3) C0 hP hS hi_RX3 tyX3_ok rfl (hts (.classLink RX6 251 RX3) (by decide +kernel)) (hts (.instantiable RX3 6) (by decide +kernel)) (hts (.initialized RX3) (by decide +kernel)) (fun j hj => by rcases (show j = 0 ∨ j = 1 ∨ j = 2 ∨ j = 3 ∨ j = 4 ∨ j = 5 by omega) with rfl | rfl | rfl | rfl | rfl | rfl <;> rfl) (Nat.le_of_ble_eq_true rfl) (Nat.le_of_ble_eq_true rfl) dX6_enter_37 (fun q_37 H hq_37 hP hS => ?_)
  refine W.widen (k := 1) (n := 6) (Nat.le_of_ble_eq_true rfl) (Nat.le_of_ble_eq_true rfl) ?_
  refine lv_dup hx hb dX6_enter_40 rfl ?_
  refine lv_aload_n hx hb dX6_enter_41 rfl (lv_at hl 2 rfl) ?_
  refine lv_iload_n hx hb dX6_enter_42 rfl (lv_at hl 3 rfl) ?_
  refine lv_iload_n hx hb dX6_enter_43 rfl (lv_at hl 4 rfl) ?_
  refine lv_iload hx hb dX6_enter_44 (lv_at hl 0 rfl) ?_
  refine lv_iload hx hb dX6_enter_46 (lv_at hl 5 rfl) ?_
  have f9_3 : (wU (wU w (AD 2 i) (.inr (1, [.int (nI i), .ref (AD 1 (F 13 i)), .int (nI (F 14 i - co)), .long (lN (F 15 i + co * F 12 (F 13 i)))]))) q_37 (.inr (3, [.null, .int 0, .int 0, .int 0, .int 0, .int 0]))) q_37 = some (.inr (3, [.null, .int 0, .int 0, .int 0, .int 0, .int 0])) := (wU_s _ _ _)
  refine wl_on C0 ht hP hS (wl_runIN (host := "CallGateway") (As := [.ref (AD 2 i), .int (nI kd), .int (nI co), .int (nI (co * F 12 (F 13 i))), .int (oI ca)]) (rest := [.ref q_37, .ref (AD 5 4)]) C0 hP hS (k_X3_init l hst E (wU (wU w (AD 2 i) (.inr (1, [.int (nI i), .ref (AD 1 (F 13 i)), .int (nI (F 14 i - co)), .long (lN (F 15 i + co * F 12 (F 13 i)))]))) q_37 (.inr (3, [.null, .int 0, .int 0, .int 0, .int 0, .int 0]))) H.size q_37 (AD 2 i) kd hkd (nI co) (nI (co * F 12 (F 13 i))) (oI ca) f9_3) ⟨va_cnB 5 hts gX6_enter_X3_init_n300 rfl rfl rfl (C0.2.2.2.2.2.2.2.1.1 _ (by decide +kernel)) (hts _ (by decide +kernel)) (by decide +kernel) ⟨(Nat.le_of_ble_eq_true rfl), (Nat.le_of_ble_eq_true rfl)⟩, rfl, hts _ (by decide +kernel)⟩ rfl rfl hl.1 (Nat.le_of_ble_eq_true rfl) dX6_enter_48 ⟨(Nat.le_of_ble_eq_true rfl), (Nat.le_of_ble_eq_true rfl)⟩) (Nat.le_of_ble_eq_true rfl) (Nat.le_of_ble_eq_true rfl) (fun _ _ h => h.elim) (fun v_48 w_48 H locs hq hP hS => ?_)
  obtain ⟨rfl, hw9⟩ := hq
  rw [hw9] at hP
  rw [wU_c] at hP
  refine W.eq (g2 := F0 m 51 ls [.ref q_37, .ref (AD 5 4)]) rfl ?_
  have f9_4 : (wU w (AD 2 i) (.inr (1, [.int (nI i), .ref (AD 1 (F 13 i)), .int (nI (F 14 i - co)), .long (lN (F 15 i + co * F 12 (F 13 i)))]))) (AD 5 5) = some (.inl (E.2.1 7, 512, .inr (.inr (.inr (.inr (rfU (AD 3) (F 24 3))))))) := (wU_n _ _ (wne hs.aE (wSys.cl hs hi) (Nat.ne_of_beq_eq_false rfl))).trans hs.aE
  have f9_5 : (wU (wU w (AD 2 i) (.inr (1, [.int (nI i), .ref (AD 1 (F 13 i)), .int (nI (F 14 i - co)), .long (lN (F 15 i + co * F 12 (F 13 i)))]))) q_37 (.inr (3, [.ref (AD 2 i), .int (nI kd), .int (nI co), .int (nI (co * F 12 (F 13 i))), .int (oI ca), .int 0]))) (AD 5 5) = some (.inl (E.2.1 7, 512, .inr (.inr (.inr (.inr (rfU (AD 3) (F 24 3))))))) := (wU_n _ _ (wne_f hq_37 f9_4)).trans f9_4
  have f9_6 : (wU w (AD 2 i) (.inr (1, [.int (nI i), .ref (AD 1 (F 13 i)), .int (nI (F 14 i - co)), .long (lN (F 15 i + co * F 12 (F 13 i)))]))) (AD 5 4) = some (.inr (0, [.ref (AD 5 5), .int (nI (F 24 3))])) := (wU_n _ _ (wne hs.log (wSys.cl hs hi) (Nat.ne_of_beq_eq_false rfl))).trans hs.log
  have f9_7 : (wU (wU w (AD 2 i) (.inr (1, [.int (nI i), .ref (AD 1 (F 13 i)), .int (nI (F 14 i - co)), .long (lN (F 15 i + co * F 12 (F 13 i)))]))) q_37 (.inr (3, [.ref (AD 2 i), .int (nI kd), .int (nI co), .int (nI (co * F 12 (F 13 i))), .int (oI ca), .int 0]))) (AD 5 4) = some (.inr (0, [.ref (AD 5 5), .int (nI (F 24 3))])) := (wU_n _ _ (wne_f hq_37 f9_6)).trans f9_6
  have f9_8 : (wU (wU w (AD 2 i) (.inr (1, [.int (nI i), .ref (AD 1 (F 13 i)), .int (nI (F 14 i - co)), .long (lN (F 15 i + co * F 12 (F 13 i)))]))) q_37 (.inr (3, [.ref (AD 2 i), .int (nI kd), .int (nI co), .int (nI (co * F 12 (F 13 i))), .int (oI ca), .int 0]))) q_37 = some (.inr (3, [.ref (AD 2 i), .int (nI kd), .int (nI co), .int (nI (co * F 12 (F 13 i))), .int (oI ca), .int 0])) := (wU_s _ _ _)
  refine wl_on C0 ht hP hS (wl_runVN (host := "CallGateway") (As := [.ref q_37]) (rest := []) C0 hP hS (k_X0_add l hst E (wU (wU w (AD 2 i) (.inr (1, [.int (nI i), .ref (AD 1 (F 13 i)), .int (nI (F 14 i - co)), .long (lN (F 15 i + co * F 12 (F 13 i)))]))) q_37 (.inr (3, [.ref (AD 2 i), .int (nI kd), .int (nI co), .int (nI (co * F 12 (F 13 i))), .int (oI ca), .int 0]))) H.size (AD 5 4) (AD 5 5) q_37 (F 24 3) (AD 3) _ h3 f9_7 f9_5 f9_8) ⟨va_cnB 1 hts gX6_enter_X0_add_n303 rfl rfl rfl (C0.2.2.2.2.2.2.2.1.1 _ (by decide +kernel)) (hts _ (by decide +kernel)) (by decide +kernel) ⟨(Nat.le_of_ble_eq_true rfl), (Nat.le_of_ble_eq_true rfl)⟩, hts _ (by decide +kernel), hts _ (by decide +kernel)⟩ f9_7 rfl rfl rfl hl.1 (Nat.le_of_ble_eq_true rfl) dX6_enter_51 ⟨(Nat.le_of_ble_eq_true rfl), (Nat.le_of_ble_eq_true rfl)⟩) (Nat.le_of_ble_eq_true rfl) (Nat.le_of_ble_eq_true rfl) (fun _ _ h => h.elim) (fun v_51 w_51 H locs hq hP hS => ?_)
  obtain ⟨rfl, hw9⟩ := hq
  rw [hw9] at hP
  have f9_9 : (wU (wU (wU w (AD 2 i) (.inr (1, [.int (nI i), .ref (AD 1 (F 13 i)), .int (nI (F 14 i - co)), .long (lN (F 15 i + co * F 12 (F 13 i)))]))) q_37 (.inr (3, [.ref (AD 2 i), .int (nI kd), .int (nI co), .int (nI (co * F 12 (F 13 i))), .int (oI ca), .int 0]))) (AD 5 5) (.inl (E.2.1 7, 512, .inr (.inr (.inr (.inr (rfU (fun b => if b = F 24 3 then q_37 else AD 3 b) (F 24 3 + 1)))))))) (AD 5 4) = some (.inr (0, [.ref (AD 5 5), .int (nI (F 24 3))])) := (wU_n _ _ (wne f9_7 f9_5 (Nat.ne_of_beq_eq_false rfl))).trans f9_7
  refine W.eq (g2 := F0 m 54 ls []) rfl ?_
  have f9_10 : (wU w (AD 2 i) (.inr (1, [.int (nI i), .ref (AD 1 (F 13 i)), .int (nI (F 14 i - co)), .long (lN (F 15 i + co * F 12 (F 13 i)))]))) (AD 2 i) = some (.inr (1, [.int (nI i), .ref (AD 1 (F 13 i)), .int (nI (F 14 i - co)), .long (lN (F 15 i + co * F 12 (F 13 i)))])) := (wU_s _ _ _)
  have f9_11 : (wU (wU w (AD 2 i) (.inr (1, [.int (nI i), .ref (AD 1 (F 13 i)), .int (nI (F 14 i - co)), .long (lN (F 15 i + co * F 12 (F 13 i)))]))) q_37 (.inr (3, [.ref (AD 2 i), .int (nI kd), .int (nI co), .int (nI (co * F 12 (F 13 i))), .int (oI ca), .int 0]))) (AD 2 i) = some (.inr (1, [.int (nI i), .ref (AD 1 (F 13 i)), .int (nI (F 14 i - co)), .long (lN (F 15 i + co * F 12 (F 13 i)))])) := (wU_n _ _ (wne_f hq_37 f9_10)).trans f9_10
  have f9_12 : (wU (wU (wU w (AD 2 i) (.inr (1, [.int (nI i), .ref (AD 1 (F 13 i)), .int (nI (F 14 i - co)), .long (lN (F 15 i + co * F 12 (F 13 i)))]))) q_37 (.inr (3, [.ref (AD 2 i), .int (nI kd), .int (nI co), .int (nI (co * F 12 (F 13 i))), .int (oI ca), .int 0]))) (AD 5 5) (.inl (E.2.1 7, 512, .inr (.inr (.inr (.inr (rfU (fun b => if b = F 24 3 then q_37 else AD 3 b) (F 24 3 + 1)))))))) (AD 2 i) = some (.inr (1, [.int (nI i), .ref (AD 1 (F 13 i)), .int (nI (F 14 i - co)), .long (lN (F 15 i + co * F 12 (F 13 i)))])) := (wU_n _ _ (wne f9_11 f9_5 (Nat.ne_of_beq_eq_false rfl))).trans f9_11
  have f9_13 : (wU (wU (wU (wU w (AD 2 i) (.inr (1, [.int (nI i), .ref (AD 1 (F 13 i)), .int (nI (F 14 i - co)), .long (lN (F 15 i + co * F 12 (F 13 i)))]))) q_37 (.inr (3, [.ref (AD 2 i), .int (nI kd), .int (nI co), .int (nI (co * F 12 (F 13 i))), .int (oI ca), .int 0]))) (AD 5 5) (.inl (E.2.1 7, 512, .inr (.inr (.inr (.inr (rfU (fun b => if b = F 24 3 then q_37 else AD 3 b) (F 24 3 + 1)))))))) (AD 5 4) (.inr (0, [.ref (AD 5 5), .int (nI (F 24 3 + 1))]))) (AD 2 i) = some (.inr (1, [.int (nI i), .ref (AD 1 (F 13 i)), .int (nI (F 14 i - co)), .long (lN (F 15 i + co * F 12 (F 13 i)))])) := (wU_n _ _ (wne f9_12 f9_9 (Nat.ne_of_beq_eq_false rfl))).trans f9_12
  have f9_14 : (wU (wU (wU (wU w (AD 2 i) (.inr (1, [.int (nI i), .ref (AD 1 (F 13 i)), .int (nI (F 14 i - co)), .long (lN (F 15 i + co * F 12 (F 13 i)))]))) q_37 (.inr (3, [.ref (AD 2 i), .int (nI kd), .int (nI co), .int (nI (co * F 12 (F 13 i))), .int (oI ca), .int 0]))) (AD 5 5) (.inl (E.2.1 7, 512, .inr (.inr (.inr (.inr (rfU (fun b => if b = F 24 3 then q_37 else AD 3 b) (F 24 3 + 1)))))))) (AD 5 4) (.inr (0, [.ref (AD 5 5), .int (nI (F 24 3 + 1))]))) (AD 5 4) = some (.inr (0, [.ref (AD 5 5), .int (nI (F 24 3 + 1))])) := (wU_s _ _ _)
  have f9_15 : (wU (wU (wU w (AD 2 i) (.inr (1, [.int (nI i), .ref (AD 1 (F 13 i)), .int (nI (F 14 i - co)), .long (lN (F 15 i + co * F 12 (F 13 i)))]))) q_37 (.inr (3, [.ref (AD 2 i), .int (nI kd), .int (nI co), .int (nI (co * F 12 (F 13 i))), .int (oI ca), .int 0]))) (AD 5 5) (.inl (E.2.1 7, 512, .inr (.inr (.inr (.inr (rfU (fun b => if b = F 24 3 then q_37 else AD 3 b) (F 24 3 + 1)))))))) (AD 5 5) = some (.inl (E.2.1 7, 512, .inr (.inr (.inr (.inr (rfU (fun b => if b = F 24 3 then q_37 else AD 3 b) (F 24 3 + 1))))))) := (wU_s _ _ _)
  have f9_16 : (wU (wU (wU (wU w (AD 2 i) (.inr (1, [.int (nI i), .ref (AD 1 (F 13 i)), .int (nI (F 14 i - co)), .long (lN (F 15 i + co * F 12 (F 13 i)))]))) q_37 (.inr (3, [.ref (AD 2 i), .int (nI kd), .int (nI co), .int (nI (co * F 12 (F 13 i))), .int (oI ca), .int 0]))) (AD 5 5) (.inl (E.2.1 7, 512, .inr (.inr (.inr (.inr (rfU (fun b => if b = F 24 3 then q_37 else AD 3 b) (F 24 3 + 1)))))))) (AD 5 4) (.inr (0, [.ref (AD 5 5), .int (nI (F 24 3 + 1))]))) (AD 5 5) = some (.inl (E.2.1 7, 512, .inr (.inr (.inr (.inr (rfU (fun b => if b = F 24 3 then q_37 else AD 3 b) (F 24 3 + 1))))))) := (wU_n _ _ (wne f9_15 f9_9 (Nat.ne_of_beq_eq_false rfl))).trans f9_15
  have f9_17 : (wU (wU (wU w (AD 2 i) (.inr (1, [.int (nI i), .ref (AD 1 (F 13 i)), .int (nI (F 14 i - co)), .long (lN (F 15 i + co * F 12 (F 13 i)))]))) q_37 (.inr (3, [.ref (AD 2 i), .int (nI kd), .int (nI co), .int (nI (co * F 12 (F 13 i))), .int (oI ca), .int 0]))) (AD 5 5) (.inl (E.2.1 7, 512, .inr (.inr (.inr (.inr (rfU (fun b => if b = F 24 3 then q_37 else AD 3 b) (F 24 3 + 1)))))))) q_37 = some (.inr (3, [.ref (AD 2 i), .int (nI kd), .int (nI co), .int (nI (co * F 12 (F 13 i))), .int (oI ca), .int 0])) := (wU_n _ _ (wne f9_8 f9_5 (Nat.ne_of_beq_eq_false rfl))).trans f9_8
  have f9_18 : (wU (wU (wU (wU w (AD 2 i) (.inr (1, [.int (nI i), .ref (AD 1 (F 13 i)), .int (nI (F 14 i - co)), .long (lN (F 15 i + co * F 12 (F 13 i)))]))) q_37 (.inr (3, [.ref (AD 2 i), .int (nI kd), .int (nI co), .int (nI (co * F 12 (F 13 i))), .int (oI ca), .int 0]))) (AD 5 5) (.inl (E.2.1 7, 512, .inr (.inr (.inr (.inr (rfU (fun b => if b = F 24 3 then q_37 else AD 3 b) (F 24 3 + 1)))))))) (AD 5 4) (.inr (0, [.ref (AD 5 5), .int (nI (F 24 3 + 1))]))) q_37 = some (.inr (3, [.ref (AD 2 i), .int (nI kd), .int (nI co), .int (nI (co * F 12 (F 13 i))), .int (oI ca), .int 0])) := (wU_n _ _ (wne f9_17 f9_9 (Nat.ne_of_beq_eq_false rfl))).trans f9_17
  have hz := hI.z3 (Nat.le_refl (F 24 3))
  have hsn : wSys E (f_enter F i kd co ca op) (fU AD 3 (F 24 3) q_37) (wU (wU (wU (wU w (AD 2 i) (.inr (1, [.int (nI i), .ref (AD 1 (F 13 i)), .int (nI (F 14 i - co)), .long (lN (F 15 i + co * F 12 (F 13 i)))]))) q_37 (.inr (3, [.ref (AD 2 i), .int (nI kd), .int (nI co), .int (nI (co * F 12 (F 13 i))), .int (oI ca), .int 0]))) (AD 5 5) (.inl (E.2.1 7, 512, .inr (.inr (.inr (.inr (rfU (fun b => if b = F 24 3 then q_37 else AD 3 b) (F 24 3 + 1)))))))) (AD 5 4) (.inr (0, [.ref (AD 5 5), .int (nI (F 24 3 + 1))]))) := U_aen (q := q_37) (c := i) hs (wU_none hq_37) hi hn.2.2.1 (by simp [f_enter, fU]) (fun a b h => by simp only [f_enter, fU]; (repeat' split) <;> first | rfl | omega) (by simp [f_enter, fU]) (by rw [f9_13]; simp [e_caller, f_enter, fU]) (by rw [f9_14]; simp [e_log, f_enter, fU]) (by rw [f9_16]) (by rw [f9_18]; simp [e_entry, f_enter, fU, hz, nI_0]) (fun b h1 h2 h3 h4 => by simp [wU, h1, h2, h3, h4])
  have hkn : wKp w (wU (wU (wU (wU w (AD 2 i) (.inr (1, [.int (nI i), .ref (AD 1 (F 13 i)), .int (nI (F 14 i - co)), .long (lN (F 15 i + co * F 12 (F 13 i)))]))) q_37 (.inr (3, [.ref (AD 2 i), .int (nI kd), .int (nI co), .int (nI (co * F 12 (F 13 i))), .int (oI ca), .int 0]))) (AD 5 5) (.inl (E.2.1 7, 512, .inr (.inr (.inr (.inr (rfU (fun b => if b = F 24 3 then q_37 else AD 3 b) (F 24 3 + 1)))))))) (AD 5 4) (.inr (0, [.ref (AD 5 5), .int (nI (F 24 3 + 1))]))) := (wKp.u (wKp.u (wKp.f (wKp.u wKp.rf (wSys.cl hs hi) rfl) hq_37) f9_5 rfl) f9_9 rfl)
  refine lv_iload_n hx hb dX6_enter_54 rfl (lv_at hl 3 rfl) ?_
  exact wl_iret C0 hr (pk_charN (by omega)).1 hP hS dX6_enter_55 (Nat.le_of_ble_eq_true rfl) (Nat.le_of_ble_eq_true rfl) (⟨rfl, (fU AD 3 (F 24 3) q_37), hsn, fU_k (by decide), hkn⟩)

set_option maxHeartbeats 4000000 in
set_option maxRecDepth 100000 in
theorem k_X6_answerCall_n (l : Launch) (hst : l.stackTraces = false) (E : wEn) (w : wW) (sz : Nat) (F : FF) (AD : AT) (N : Nat) (hI : wInv F N) (hs : wSys E F AD w) (i r key : Nat) (hi : i < F 24 2) (hr9 : F 24 0 ≤ r) (hk9 : key ≤ 99) (h3 : F 24 3 < 512) : wM l yX6_answerCall wsX6_answerCall 4 1 6 E w sz [.ref (AD 5 0), .ref (AD 2 i), .null, .int (nI key)] (fun v w2 => v = some (.int (nI (c_kind F i r key))) ∧ ∃ AD2 : AT, wSys E (f_call F i r key) AD2 w2 ∧ AD2 5 0 = AD 5 0 ∧ wKp w w2) (fun _ _ => False) := by
  refine wm_start (own := RX6) (cc := cX6_answerCall) (maxL := 5) (ret := (some .char)) rfl (by decide) rfl (Nat.le_of_ble_eq_true rfl) ?_
  intro p e s m args below meth c ls C0 hr hin ht hP hS hl
  have hx := C0.1
  have hb := C0.2.1
  have hts := C0.2.2.2.2.1
  have hown := C0.2.2.2.1
  have hl : lv_has ls 5 [(0, .ref (AD 5 0)), (1, .ref (AD 2 i)), (2, .null), (3, .int (nI key))] := hl
  have hf_180 : va_Nw (.fieldLinkNest RX6 180 "CallGateway$Caller" "tokens" "I" "CallGateway") s := C0.2.2.2.2.2.2.2.1.1 _ (by decide +kernel)
  have hf_183 : va_Nw (.fieldLinkNest RX6 183 "CallGateway$Route" "cost" "I" "CallGateway") s := C0.2.2.2.2.2.2.2.1.1 _ (by decide +kernel)
  have hf_104 : va_Nw (.fieldLinkNest RX6 104 "CallGateway$Route" "canary" "LCallGateway$Canary;" "CallGateway") s := C0.2.2.2.2.2.2.2.1.1 _ (by decide +kernel)
  have hf_137 : va_Nw (.fieldLinkNest RX6 137 "CallGateway$Canary" "share" "I" "CallGateway") s := C0.2.2.2.2.2.2.2.1.1 _ (by decide +kernel)
  have hf_111 : va_Nw (.fieldLinkNest RX6 111 "CallGateway$Canary" "answer" "I" "CallGateway") s := C0.2.2.2.2.2.2.2.1.1 _ (by decide +kernel)
  have hf_293 : va_Nw (.fieldLinkNest RX6 293 "CallGateway$Canary" "number" "I" "CallGateway") s := C0.2.2.2.2.2.2.2.1.1 _ (by decide +kernel)
  have hf_149 : va_Nw (.fieldLinkNest RX6 149 "CallGateway$Canary" "faults" "I" "CallGateway") s := C0.2.2.2.2.2.2.2.1.1 _ (by decide +kernel)
  have hf_294 : va_Nw (.fieldLinkNest RX6 294 "CallGateway$Canary" "limit" "I" "CallGateway") s := C0.2.2.2.2.2.2.2.1.1 _ (by decide +kernel)
  have hi_RX1 : ∀ w ∈ u_ws RX1 TX1 4, w ∈ wsX6_answerCall := fun _ h => List.mem_cons_of_mem _ (List.mem_append_left _ (List.mem_append_left _ (List.mem_append_left _ (List.mem_append_left _ (List.mem_append_left _ (List.mem_append_left _ (List.mem_append_right _ h)))))))
  have hi_RX2 : ∀ w ∈ u_ws RX2 TX2 5, w ∈ wsX6_answerCall := fun _ h => List.mem_cons_of_mem _ (List.mem_append_left _ (List.mem_append_left _ (List.mem_append_left _ (List.mem_append_left _ (List.mem_append_right _ h)))))
  have hi_RX5 : ∀ w ∈ u_ws RX5 TX5 7, w ∈ wsX6_answerCall := fun _ h => List.mem_cons_of_mem _ (List.mem_append_left _ (List.mem_append_left _ (List.mem_append_left _ (List.mem_append_left _ (List.mem_append_left _ (List.mem_append_right _ h))))))
  refine lv_aload_nN hx hb dX6_answerCall_0 rfl (lv_at hl 2 rfl) ?_
  refine lv_ifnonnullN hx hb dX6_answerCall_1 ?_
  refine lv_aload_n hx hb dX6_answerCall_4 rfl (lv_at hl 0 rfl) ?_
  refine lv_aload_n hx hb dX6_answerCall_5 rfl (lv_at hl 1 rfl) ?_
  refine lv_bipush (v := 110) hx hb dX6_answerCall_6 (by decide) ?_
  refine lv_iconst (v := 0) hx hb dX6_answerCall_8 (by decide) ?_
  refine lv_iconst (v := -1) hx hb dX6_answerCall_9 (by decide) ?_
  refine wl_on C0 ht hP hS (wl_runV (As := [.ref (AD 2 i), .int 110, .int 0, .int (-1)]) (rest := []) C0 hP hS (k_X6_enter l hst E w s.heap.size F AD N hI hs i 110 0 0 0 110 0 (-1) hi h3 (by decide) (Nat.zero_le _) (by decide) rfl rfl rfl) (cwV 4 hts gX6_answerCall_X6_enter rfl rfl rfl (by decide +kernel) ⟨(Nat.le_of_ble_eq_true rfl), (Nat.le_of_ble_eq_true rfl)⟩) hs.x rfl rfl rfl hl.1 (Nat.le_of_ble_eq_true rfl) dX6_answerCall_10 ⟨(Nat.le_of_ble_eq_true rfl), (Nat.le_of_ble_eq_true rfl)⟩) (Nat.le_of_ble_eq_true rfl) (Nat.le_of_ble_eq_true rfl) (fun _ _ h => h.elim) (fun v_10 w_10 H locs hq hP hS => ?_)
  obtain ⟨rfl, AD2, hs2, ha2, hk2⟩ := hq
  refine W.eq (g2 := F0 m 13 ls [.int (nI 110)]) rfl ?_
  refine W.widen (k := 1) (n := 6) (Nat.le_of_ble_eq_true rfl) (Nat.le_of_ble_eq_true rfl) ?_
  exact wl_iret C0 hr (pk_charN (by decide)).1 hP hS dX6_answerCall_13 (Nat.le_of_ble_eq_true rfl) (Nat.le_of_ble_eq_true rfl) (by
      have hkk : c_kind F i r key = 110 := by simp [c_kind, Nat.not_lt.mpr hr9]
      exact ⟨by rw [hkk], AD2, by unfold f_call; rw [hkk]; exact hs2, ha2, hk2⟩)

set_option maxHeartbeats 4000000 in
set_option maxRecDepth 100000 in
theorem k_X6_answerCall (l : Launch) (hst : l.stackTraces = false) (E : wEn) (w : wW) (sz : Nat) (F : FF) (AD : AT) (N : Nat) (hI : wInv F N) (hs : wSys E F AD w) (i r key : Nat) (hi : i < F 24 2) (hr9 : r < F 24 0) (hk9 : key ≤ 99) (h3 : F 24 3 < 512) : wM l yX6_answerCall wsX6_answerCall 4 1 6 E w sz [.ref (AD 5 0), .ref (AD 2 i), .ref (AD 0 r), .int (nI key)] (fun v w2 => v = some (.int (nI (c_kind F i r key))) ∧ ∃ AD2 : AT, wSys E (f_call F i r key) AD2 w2 ∧ AD2 5 0 = AD 5 0 ∧ wKp w w2) (fun _ _ => False) := by
  refine wm_start (own := RX6) (cc := cX6_answerCall) (maxL := 5) (ret := (some .char)) rfl (by decide) rfl (Nat.le_of_ble_eq_true rfl) ?_
  intro p e s m args below meth c ls C0 hr hin ht hP hS hl
  have hx := C0.1
  have hb := C0.2.1
  have hts := C0.2.2.2.2.1
  have hown := C0.2.2.2.1
  have hl : lv_has ls 5 [(0, .ref (AD 5 0)), (1, .ref (AD 2 i)), (2, .ref (AD 0 r)), (3, .int (nI key))] := hl
  have hf_180 : va_Nw (.fieldLinkNest RX6 180 "CallGateway$Caller" "tokens" "I" "CallGateway") s := C0.2.2.2.2.2.2.2.1.1 _ (by decide +kernel)
  have hf_183 : va_Nw (.fieldLinkNest RX6 183 "CallGateway$Route" "cost" "I" "CallGateway") s := C0.2.2.2.2.2.2.2.1.1 _ (by decide +kernel)
  have hf_104 : va_Nw (.fieldLinkNest RX6 104 "CallGateway$Route" "canary" "LCallGateway$Canary;" "CallGateway") s := C0.2.2.2.2.2.2.2.1.1 _ (by decide +kernel)
  have hf_137 : va_Nw (.fieldLinkNest RX6 137 "CallGateway$Canary" "share" "I" "CallGateway") s := C0.2.2.2.2.2.2.2.1.1 _ (by decide +kernel)
  have hf_111 : va_Nw (.fieldLinkNest RX6 111 "CallGateway$Canary" "answer" "I" "CallGateway") s := C0.2.2.2.2.2.2.2.1.1 _ (by decide +kernel)
  have hf_293 : va_Nw (.fieldLinkNest RX6 293 "CallGateway$Canary" "number" "I" "CallGateway") s := C0.2.2.2.2.2.2.2.1.1 _ (by decide +kernel)
  have hf_149 : va_Nw (.fieldLinkNest RX6 149 "CallGateway$Canary" "faults" "I" "CallGateway") s := C0.2.2.2.2.2.2.2.1.1 _ (by decide +kernel)
  have hf_294 : va_Nw (.fieldLinkNest RX6 294 "CallGateway$Canary" "limit" "I" "CallGateway") s := C0.2.2.2.2.2.2.2.1.1 _ (by decide +kernel)
  have hi_RX1 : ∀ w ∈ u_ws RX1 TX1 4, w ∈ wsX6_answerCall := fun _ h => List.mem_cons_of_mem _ (List.mem_append_left _ (List.mem_append_left _ (List.mem_append_left _ (List.mem_append_left _ (List.mem_append_left _ (List.mem_append_left _ (List.mem_append_right _ h)))))))
  have hi_RX2 : ∀ w ∈ u_ws RX2 TX2 5, w ∈ wsX6_answerCall := fun _ h => List.mem_cons_of_mem _ (List.mem_append_left _ (List.mem_append_left _ (List.mem_append_left _ (List.mem_append_left _ (List.mem_append_right _ h)))))
  have hi_RX5 : ∀ w ∈ u_ws RX5 TX5 7, w ∈ wsX6_answerCall := fun _ h => List.mem_cons_of_mem _ (List.mem_append_left _ (List.mem_append_left _ (List.mem_append_left _ (List.mem_append_left _ (List.mem_append_left _ (List.mem_append_right _ h))))))
  have hn := hI.n
  have hro := hI.ro hr9
  have hcl := hI.cl hi
  have hpl := hI.pl hcl.1
  refine lv_aload_n hx hb dX6_answerCall_0 rfl (lv_at hl 2 rfl) ?_
  refine lv_ifnonnull (tgt := 14) hx hb dX6_answerCall_1 (by decide) ?_
  refine lv_aload_n hx hb dX6_answerCall_14 rfl (lv_at hl 1 rfl) ?_
  refine wl_getN (T := TX1) C0 hP (wSys.cl hs hi) hi_RX1 rfl 2 (by decide) hf_180 rfl dX6_answerCall_15 ?_
  refine lv_aload_n hx hb dX6_answerCall_18 rfl (lv_at hl 2 rfl) ?_
  refine wl_getN (T := TX5) C0 hP (wSys.ro hs hr9) hi_RX5 rfl 2 (by decide) hf_183 rfl dX6_answerCall_19 ?_
  refine lv_icmp_ge (tgt := 35) hx hb dX6_answerCall_22 (by decide) (fun c_22 => ?_) (fun c_22 => ?_)
  · have q22 : F 1 r ≤ F 14 i := (nI_leI (by omega) (by omega)).mp c_22
    refine lv_aload_n hx hb dX6_answerCall_35 rfl (lv_at hl 2 rfl) ?_
    refine wl_getN (T := TX5) C0 hP (wSys.ro hs hr9) hi_RX5 rfl 6 (by decide) hf_104 rfl dX6_answerCall_36 ?_
    refine wl_rfC (fun h_39 => ?_) (fun h_39 => ?_)
    · refine lv_astoreN (lv' := [(4, .null), (0, .ref (AD 5 0)), (1, .ref (AD 2 i)), (2, .ref (AD 0 r)), (3, .int (nI key))]) hx hb dX6_answerCall_39 hl (by decide) rfl (fun ls hl => ?_)
      refine lv_aloadN hx hb dX6_answerCall_41 (lv_at hl 0 rfl) ?_
      refine lv_ifnullN (tgt := 55) hx hb dX6_answerCall_43 (by decide) ?_
      refine lv_aload_n hx hb dX6_answerCall_55 rfl (lv_at hl 1 rfl) ?_
      refine lv_aload_n hx hb dX6_answerCall_56 rfl (lv_at hl 2 rfl) ?_
      refine lv_bipush (v := 115) hx hb dX6_answerCall_57 (by decide) ?_
      refine lv_aload_n hx hb dX6_answerCall_59 rfl (lv_at hl 3 rfl) ?_
      refine wl_getN (T := TX5) C0 hP (wSys.ro hs hr9) hi_RX5 rfl 2 (by decide) hf_183 rfl dX6_answerCall_60 ?_
      refine lv_iconst (v := -1) hx hb dX6_answerCall_63 (by decide) ?_
      refine wl_on C0 ht hP hS (wl_runV (As := [.ref (AD 2 i), .int 115, .int (nI (F 1 r)), .int (-1)]) (rest := []) C0 hP hS (k_X6_enter l hst E w s.heap.size F AD N hI hs i 115 (F 1 r) 0 0 115 (nI (F 1 r)) (-1) hi h3 (by decide) q22 hro.2.2.1 rfl rfl rfl) (cwV 4 hts gX6_answerCall_X6_enter rfl rfl rfl (by decide +kernel) ⟨(Nat.le_of_ble_eq_true rfl), (Nat.le_of_ble_eq_true rfl)⟩) hs.x rfl rfl rfl hl.1 (Nat.le_of_ble_eq_true rfl) dX6_answerCall_64 ⟨(Nat.le_of_ble_eq_true rfl), (Nat.le_of_ble_eq_true rfl)⟩) (Nat.le_of_ble_eq_true rfl) (Nat.le_of_ble_eq_true rfl) (fun _ _ h => h.elim) (fun v_64 w_64 H locs hq hP hS => ?_)
      obtain ⟨rfl, AD2, hs2, ha2, hk2⟩ := hq
      refine W.eq (g2 := F0 m 67 ls [.int (nI 115)]) rfl ?_
      refine W.widen (k := 1) (n := 6) (Nat.le_of_ble_eq_true rfl) (Nat.le_of_ble_eq_true rfl) ?_
      exact wl_iret C0 hr (pk_charN (by decide)).1 hP hS dX6_answerCall_67 (Nat.le_of_ble_eq_true rfl) (Nat.le_of_ble_eq_true rfl) (by
              have hkk : c_kind F i r key = 115 := by simp [c_kind, hr9, Nat.not_lt.mpr q22, h_39]
              exact ⟨by rw [hkk], AD2, by unfold f_call; rw [hkk]; exact hs2, ha2, hk2⟩)
    · refine lv_astore (lv' := [(4, .ref (AD 4 r)), (0, .ref (AD 5 0)), (1, .ref (AD 2 i)), (2, .ref (AD 0 r)), (3, .int (nI key))]) hx hb dX6_answerCall_39 hl (by decide) rfl (fun ls hl => ?_)
      refine lv_aload hx hb dX6_answerCall_41 (lv_at hl 0 rfl) ?_
      refine lv_ifnull hx hb dX6_answerCall_43 ?_
      refine lv_iload_n hx hb dX6_answerCall_46 rfl (lv_at hl 4 rfl) ?_
      refine lv_aload hx hb dX6_answerCall_47 (lv_at hl 0 rfl) ?_
      refine wl_getN (T := TX2) C0 hP (wSys.ca hs hr9 h_39) hi_RX2 rfl 3 (by decide) hf_137 rfl dX6_answerCall_49 ?_
      refine lv_icmp_lt (tgt := 68) hx hb dX6_answerCall_52 (by decide) (fun c_52 => ?_) (fun c_52 => ?_)
      · have hca9 := hI.ca hr9 h_39
        have q52 : key < F 7 r := (nI_ltI (by omega) (by omega)).mp c_52
        refine lv_aload_n hx hb dX6_answerCall_68 rfl (lv_at hl 3 rfl) ?_
        refine lv_aload hx hb dX6_answerCall_69 (lv_at hl 0 rfl) ?_
        refine wl_getN (T := TX2) C0 hP (wSys.ca hs hr9 h_39) hi_RX2 rfl 1 (by decide) hf_111 rfl dX6_answerCall_71 ?_
        refine wl_on C0 ht hP hS (wl_runVN (host := "CallGateway") (As := [.int (nI (F 6 r))]) (rest := []) C0 hP hS (k_X5_isBrokenBy l hst E w s.heap.size F AD N hI hs r hr9 (F 6 r) (hI.ca hr9 h_39).1) ⟨va_cnB 1 hts gX6_answerCall_X5_isBrokenBy_n108 rfl rfl rfl (C0.2.2.2.2.2.2.2.1.1 _ (by decide +kernel)) (hts _ (by decide +kernel)) (by decide +kernel) ⟨(Nat.le_of_ble_eq_true rfl), (Nat.le_of_ble_eq_true rfl)⟩, hts _ (by decide +kernel), hts _ (by decide +kernel)⟩ (wSys.ro hs hr9) rfl rfl rfl hl.1 (Nat.le_of_ble_eq_true rfl) dX6_answerCall_74 ⟨(Nat.le_of_ble_eq_true rfl), (Nat.le_of_ble_eq_true rfl)⟩) (Nat.le_of_ble_eq_true rfl) (Nat.le_of_ble_eq_true rfl) (fun _ _ h => h.elim) (fun v_74 w_74 H locs hq hP hS => ?_)
        obtain ⟨rfl, hw9⟩ := hq
        rw [hw9] at hP
        refine W.eq (g2 := F0 m 77 ls [.int (bI (brk F r (F 6 r)))]) rfl ?_
        refine lv_if_ne (tgt := 97) hx hb dX6_answerCall_77 (by decide) (fun c_77 => ?_) (fun c_77 => ?_)
        · have q77 : brk F r (F 6 r) = true := bI_n.mp c_77
          refine lv_aload hx hb dX6_answerCall_97 (lv_at hl 0 rfl) ?_
          refine lv_dup hx hb dX6_answerCall_99 rfl ?_
          refine wl_getN (T := TX2) C0 hP (wSys.ca hs hr9 h_39) hi_RX2 rfl 4 (by decide) hf_149 rfl dX6_answerCall_100 ?_
          refine lv_iconst (v := 1) hx hb dX6_answerCall_103 (by decide) ?_
          refine lv_iadd hx hb dX6_answerCall_104 ?_
          rw [show ((nI (F 9 r)) + 1) = (nI (F 9 r + 1)) from nI_1 _]
          refine wl_putN (T := TX2) (ty0 := tyX2) (fs2 := [.int (nI (F 22 r)), .int (nI (F 6 r)), .int (nI (F 8 r)), .int (nI (F 7 r)), .int (nI (F 9 r + 1))]) C0 hP hS (wSys.ca hs hr9 h_39) hi_RX2 tyX2_ok nmX2 rfl 4 (by decide) hf_149 rfl rfl rfl rfl (Nat.le_of_ble_eq_true rfl) rfl dX6_answerCall_105 (fun H locs hP hS => ?_)
          have hca := hI.ca hr9 h_39
          have hs1 : wSys E (fU F 9 r (F 9 r + 1)) AD (wU w (AD 4 r) (.inr (2, [.int (nI (F 22 r)), .int (nI (F 6 r)), .int (nI (F 8 r)), .int (nI (F 7 r)), .int (nI (F 9 r + 1))]))) := U_ca (i := r) hs hr9 h_39 ⟨hn.1, hn.2.2.2.2⟩ (fun a b ha hb h1 h2 h3 => hI.uc ha hb h1 h2 h3) (fun a ha h1 => (hI.ca ha h1).2.2.2.2.2.2) (fun a b h => by simp only [fU]; (repeat' split) <;> first | rfl | omega) (by rw [wU_s]; simp [e_can, fU]) (fun b hb9 => wU_n _ _ hb9)
          have hk1 : wKp w (wU w (AD 4 r) (.inr (2, [.int (nI (F 22 r)), .int (nI (F 6 r)), .int (nI (F 8 r)), .int (nI (F 7 r)), .int (nI (F 9 r + 1))]))) := (wKp.u wKp.rf (wSys.ca hs hr9 h_39) rfl)
          refine lv_aload hx hb dX6_answerCall_108 (lv_at hl 0 rfl) ?_
          have f9_1 : (wU w (AD 4 r) (.inr (2, [.int (nI (F 22 r)), .int (nI (F 6 r)), .int (nI (F 8 r)), .int (nI (F 7 r)), .int (nI (F 9 r + 1))]))) (AD 4 r) = some (.inr (2, [.int (nI (F 22 r)), .int (nI (F 6 r)), .int (nI (F 8 r)), .int (nI (F 7 r)), .int (nI (F 9 r + 1))])) := (wU_s _ _ _)
          refine wl_getN (T := TX2) C0 hP f9_1 hi_RX2 rfl 4 (by decide) hf_149 rfl dX6_answerCall_110 ?_
          refine lv_aload hx hb dX6_answerCall_113 (lv_at hl 0 rfl) ?_
          refine wl_getN (T := TX2) C0 hP f9_1 hi_RX2 rfl 2 (by decide) hf_294 rfl dX6_answerCall_115 ?_
          refine lv_icmp_lt (tgt := 129) hx hb dX6_answerCall_118 (by decide) (fun c_118 => ?_) (fun c_118 => ?_)
          · have q118 : ¬ F 9 r + 1 = F 8 r := by
              have h := (nI_ltI (a := F 9 r + 1) (b := F 8 r) (by omega) (by omega)).mp c_118
              omega
            refine lv_aload_n hx hb dX6_answerCall_129 rfl (lv_at hl 1 rfl) ?_
            refine lv_aload_n hx hb dX6_answerCall_130 rfl (lv_at hl 2 rfl) ?_
            refine lv_bipush (v := 102) hx hb dX6_answerCall_131 (by decide) ?_
            refine lv_iconst (v := 0) hx hb dX6_answerCall_133 (by decide) ?_
            refine lv_iconst (v := -1) hx hb dX6_answerCall_134 (by decide) ?_
            have hs4 : wSys E (f_fault F r) AD (wU w (AD 4 r) (.inr (2, [.int (nI (F 22 r)), .int (nI (F 6 r)), .int (nI (F 8 r)), .int (nI (F 7 r)), .int (nI (F 9 r + 1))]))) := by
              unfold f_fault
              rw [if_neg q118]
              exact hs1
            have hk4 : wKp w (wU w (AD 4 r) (.inr (2, [.int (nI (F 22 r)), .int (nI (F 6 r)), .int (nI (F 8 r)), .int (nI (F 7 r)), .int (nI (F 9 r + 1))]))) := hk1
            have hIf := I_fault hI hr9 h_39
            have hfa : ∀ b, f_fault F r 24 b = F 24 b := fun b => fault_a (by decide) (by decide) (by decide) (by decide) (by decide) (by decide)
            refine wl_on C0 ht hP hS (wl_runV (As := [.ref (AD 2 i), .int 102, .int 0, .int (-1)]) (rest := []) C0 hP hS (k_X6_enter l hst E (wU w (AD 4 r) (.inr (2, [.int (nI (F 22 r)), .int (nI (F 6 r)), .int (nI (F 8 r)), .int (nI (F 7 r)), .int (nI (F 9 r + 1))]))) H.size (f_fault F r) AD N hIf hs4 i 102 0 0 0 102 0 (-1) (by rw [hfa]; exact hi) (by rw [hfa]; exact h3) (by decide) (Nat.zero_le _) (by decide) rfl rfl rfl) (cwV 4 hts gX6_answerCall_X6_enter rfl rfl rfl (by decide +kernel) ⟨(Nat.le_of_ble_eq_true rfl), (Nat.le_of_ble_eq_true rfl)⟩) hs4.x rfl rfl rfl hl.1 (Nat.le_of_ble_eq_true rfl) dX6_answerCall_135 ⟨(Nat.le_of_ble_eq_true rfl), (Nat.le_of_ble_eq_true rfl)⟩) (Nat.le_of_ble_eq_true rfl) (Nat.le_of_ble_eq_true rfl) (fun _ _ h => h.elim) (fun v_135 w_135 H locs hq hP hS => ?_)
            obtain ⟨rfl, AD2, hs2, ha2, hk2⟩ := hq
            refine W.eq (g2 := F0 m 138 ls [.int (nI 102)]) rfl ?_
            refine W.widen (k := 1) (n := 6) (Nat.le_of_ble_eq_true rfl) (Nat.le_of_ble_eq_true rfl) ?_
            exact wl_iret C0 hr (pk_charN (by decide)).1 hP hS dX6_answerCall_138 (Nat.le_of_ble_eq_true rfl) (Nat.le_of_ble_eq_true rfl) (by
                          have hkk : c_kind F i r key = 102 := by simp [c_kind, hr9, Nat.not_lt.mpr q22, h_39, Nat.not_le.mpr q52, q77]
                          exact ⟨by rw [hkk], AD2, by unfold f_call; rw [hkk]; exact hs2, ha2, hk4.tr hk2⟩)
          · have q118 : F 9 r + 1 = F 8 r := by
              have h : ¬ F 9 r + 1 < F 8 r := fun q => c_118 ((nI_ltI (by omega) (by omega)).mpr q)
              omega
            refine lv_aload_n hx hb dX6_answerCall_121 rfl (lv_at hl 1 rfl) ?_
            refine lv_aload_n hx hb dX6_answerCall_122 rfl (lv_at hl 3 rfl) ?_
            refine lv_aload hx hb dX6_answerCall_123 (lv_at hl 0 rfl) ?_
            have f9_2 : (wU w (AD 4 r) (.inr (2, [.int (nI (F 22 r)), .int (nI (F 6 r)), .int (nI (F 8 r)), .int (nI (F 7 r)), .int (nI (F 9 r + 1))]))) (AD 5 0) = some (.inr (6, [.ref (AD 5 1), .ref (AD 5 2), .ref (AD 5 3), .ref (AD 5 4), .int (nI (F 24 0)), .int (nI (F 24 1)), .int (nI (F 24 2)), .int (nI (F 24 4))])) := (wU_n _ _ (wne hs.x (wSys.ca hs hr9 h_39) (Nat.ne_of_beq_eq_false rfl))).trans hs.x
            refine wl_on C0 ht hP hS (wl_runV (As := [.ref (AD 0 r), .ref (AD 4 r)]) (rest := []) C0 hP hS (k_X6_endAndUndo l hst E (wU w (AD 4 r) (.inr (2, [.int (nI (F 22 r)), .int (nI (F 6 r)), .int (nI (F 8 r)), .int (nI (F 7 r)), .int (nI (F 9 r + 1))]))) H.size F AD N hI r (F 9 r + 1) hr9 h_39 hs1) (cwV 2 hts gX6_answerCall_X6_endAndUndo rfl rfl rfl (by decide +kernel) ⟨(Nat.le_of_ble_eq_true rfl), (Nat.le_of_ble_eq_true rfl)⟩) f9_2 rfl rfl rfl hl.1 (Nat.le_of_ble_eq_true rfl) dX6_answerCall_125 ⟨(Nat.le_of_ble_eq_true rfl), (Nat.le_of_ble_eq_true rfl)⟩) (Nat.le_of_ble_eq_true rfl) (Nat.le_of_ble_eq_true rfl) (fun _ _ h => h.elim) (fun v_125 w_125 H locs hq hP hS => ?_)
            obtain ⟨rfl, hs3, hk3⟩ := hq
            have hs4 : wSys E (f_fault F r) AD w_125 := by
              unfold f_fault
              rw [if_pos q118]
              exact wSys_9 hs3 (by rw [und_5, if_pos rfl])
            have hk4 : wKp w w_125 := hk1.tr hk3
            refine W.eq (g2 := F0 m 128 ls [.int (nI (n_und F r (F 24 3)))]) rfl ?_
            refine lv_pop hx hb dX6_answerCall_128 rfl ?_
            refine lv_aload_n hx hb dX6_answerCall_129 rfl (lv_at hl 1 rfl) ?_
            refine lv_aload_n hx hb dX6_answerCall_130 rfl (lv_at hl 2 rfl) ?_
            refine lv_bipush (v := 102) hx hb dX6_answerCall_131 (by decide) ?_
            refine lv_iconst (v := 0) hx hb dX6_answerCall_133 (by decide) ?_
            refine lv_iconst (v := -1) hx hb dX6_answerCall_134 (by decide) ?_
            have hIf := I_fault hI hr9 h_39
            have hfa : ∀ b, f_fault F r 24 b = F 24 b := fun b => fault_a (by decide) (by decide) (by decide) (by decide) (by decide) (by decide)
            refine wl_on C0 ht hP hS (wl_runV (As := [.ref (AD 2 i), .int 102, .int 0, .int (-1)]) (rest := []) C0 hP hS (k_X6_enter l hst E w_125 H.size (f_fault F r) AD N hIf hs4 i 102 0 0 0 102 0 (-1) (by rw [hfa]; exact hi) (by rw [hfa]; exact h3) (by decide) (Nat.zero_le _) (by decide) rfl rfl rfl) (cwV 4 hts gX6_answerCall_X6_enter rfl rfl rfl (by decide +kernel) ⟨(Nat.le_of_ble_eq_true rfl), (Nat.le_of_ble_eq_true rfl)⟩) hs4.x rfl rfl rfl hl.1 (Nat.le_of_ble_eq_true rfl) dX6_answerCall_135 ⟨(Nat.le_of_ble_eq_true rfl), (Nat.le_of_ble_eq_true rfl)⟩) (Nat.le_of_ble_eq_true rfl) (Nat.le_of_ble_eq_true rfl) (fun _ _ h => h.elim) (fun v_135 w_135 H locs hq hP hS => ?_)
            obtain ⟨rfl, AD2, hs2, ha2, hk2⟩ := hq
            refine W.eq (g2 := F0 m 138 ls [.int (nI 102)]) rfl ?_
            refine W.widen (k := 1) (n := 6) (Nat.le_of_ble_eq_true rfl) (Nat.le_of_ble_eq_true rfl) ?_
            exact wl_iret C0 hr (pk_charN (by decide)).1 hP hS dX6_answerCall_138 (Nat.le_of_ble_eq_true rfl) (Nat.le_of_ble_eq_true rfl) (by
                          have hkk : c_kind F i r key = 102 := by simp [c_kind, hr9, Nat.not_lt.mpr q22, h_39, Nat.not_le.mpr q52, q77]
                          exact ⟨by rw [hkk], AD2, by unfold f_call; rw [hkk]; exact hs2, ha2, hk4.tr hk2⟩)
        · have q77 : brk F r (F 6 r) = false := bI_0.mp c_77
          refine lv_aload_n hx hb dX6_answerCall_80 rfl (lv_at hl 1 rfl) ?_
          refine lv_aload_n hx hb dX6_answerCall_81 rfl (lv_at hl 2 rfl) ?_
          refine lv_bipush (v := 99) hx hb dX6_answerCall_82 (by decide) ?_
          refine lv_aload_n hx hb dX6_answerCall_84 rfl (lv_at hl 3 rfl) ?_
          refine wl_getN (T := TX5) C0 hP (wSys.ro hs hr9) hi_RX5 rfl 2 (by decide) hf_183 rfl dX6_answerCall_85 ?_
          refine lv_aload hx hb dX6_answerCall_88 (lv_at hl 0 rfl) ?_
          refine wl_getN (T := TX2) C0 hP (wSys.ca hs hr9 h_39) hi_RX2 rfl 0 (by decide) hf_293 rfl dX6_answerCall_90 ?_
          refine wl_on C0 ht hP hS (wl_runV (As := [.ref (AD 2 i), .int 99, .int (nI (F 1 r)), .int (nI (F 22 r))]) (rest := []) C0 hP hS (k_X6_enter l hst E w H.size F AD N hI hs i 99 (F 1 r) (F 22 r + 1) (r + 1) 99 (nI (F 1 r)) (nI (F 22 r)) hi h3 (by decide) q22 hro.2.2.1 rfl rfl ((oI_eq (by omega) (by omega)).mpr rfl).symm) (cwV 4 hts gX6_answerCall_X6_enter rfl rfl rfl (by decide +kernel) ⟨(Nat.le_of_ble_eq_true rfl), (Nat.le_of_ble_eq_true rfl)⟩) hs.x rfl rfl rfl hl.1 (Nat.le_of_ble_eq_true rfl) dX6_answerCall_93 ⟨(Nat.le_of_ble_eq_true rfl), (Nat.le_of_ble_eq_true rfl)⟩) (Nat.le_of_ble_eq_true rfl) (Nat.le_of_ble_eq_true rfl) (fun _ _ h => h.elim) (fun v_93 w_93 H locs hq hP hS => ?_)
          obtain ⟨rfl, AD2, hs2, ha2, hk2⟩ := hq
          refine W.eq (g2 := F0 m 96 ls [.int (nI 99)]) rfl ?_
          refine W.widen (k := 1) (n := 6) (Nat.le_of_ble_eq_true rfl) (Nat.le_of_ble_eq_true rfl) ?_
          exact wl_iret C0 hr (pk_charN (by decide)).1 hP hS dX6_answerCall_96 (Nat.le_of_ble_eq_true rfl) (Nat.le_of_ble_eq_true rfl) (by
                      have hkk : c_kind F i r key = 99 := by simp [c_kind, hr9, Nat.not_lt.mpr q22, h_39, Nat.not_le.mpr q52, q77]
                      exact ⟨by rw [hkk], AD2, by unfold f_call; rw [hkk]; exact hs2, ha2, hk2⟩)
      · have hca9 := hI.ca hr9 h_39
        have q52 : F 7 r ≤ key := Nat.not_lt.mp (fun q => c_52 ((nI_ltI (by omega) (by omega)).mpr q))
        refine lv_aload_n hx hb dX6_answerCall_55 rfl (lv_at hl 1 rfl) ?_
        refine lv_aload_n hx hb dX6_answerCall_56 rfl (lv_at hl 2 rfl) ?_
        refine lv_bipush (v := 115) hx hb dX6_answerCall_57 (by decide) ?_
        refine lv_aload_n hx hb dX6_answerCall_59 rfl (lv_at hl 3 rfl) ?_
        refine wl_getN (T := TX5) C0 hP (wSys.ro hs hr9) hi_RX5 rfl 2 (by decide) hf_183 rfl dX6_answerCall_60 ?_
        refine lv_iconst (v := -1) hx hb dX6_answerCall_63 (by decide) ?_
        refine wl_on C0 ht hP hS (wl_runV (As := [.ref (AD 2 i), .int 115, .int (nI (F 1 r)), .int (-1)]) (rest := []) C0 hP hS (k_X6_enter l hst E w s.heap.size F AD N hI hs i 115 (F 1 r) 0 0 115 (nI (F 1 r)) (-1) hi h3 (by decide) q22 hro.2.2.1 rfl rfl rfl) (cwV 4 hts gX6_answerCall_X6_enter rfl rfl rfl (by decide +kernel) ⟨(Nat.le_of_ble_eq_true rfl), (Nat.le_of_ble_eq_true rfl)⟩) hs.x rfl rfl rfl hl.1 (Nat.le_of_ble_eq_true rfl) dX6_answerCall_64 ⟨(Nat.le_of_ble_eq_true rfl), (Nat.le_of_ble_eq_true rfl)⟩) (Nat.le_of_ble_eq_true rfl) (Nat.le_of_ble_eq_true rfl) (fun _ _ h => h.elim) (fun v_64 w_64 H locs hq hP hS => ?_)
        obtain ⟨rfl, AD2, hs2, ha2, hk2⟩ := hq
        refine W.eq (g2 := F0 m 67 ls [.int (nI 115)]) rfl ?_
        refine W.widen (k := 1) (n := 6) (Nat.le_of_ble_eq_true rfl) (Nat.le_of_ble_eq_true rfl) ?_
        exact wl_iret C0 hr (pk_charN (by decide)).1 hP hS dX6_answerCall_67 (Nat.le_of_ble_eq_true rfl) (Nat.le_of_ble_eq_true rfl) (by
                  have hkk : c_kind F i r key = 115 := by simp [c_kind, hr9, Nat.not_lt.mpr q22, h_39, q52]
                  exact ⟨by rw [hkk], AD2, by unfold f_call; rw [hkk]; exact hs2, ha2, hk2⟩)
  · have q22 : F 14 i < F 1 r := Nat.not_le.mp (fun q => c_22 ((nI_leI (by omega) (by omega)).mpr q))
    refine lv_aload_n hx hb dX6_answerCall_25 rfl (lv_at hl 0 rfl) ?_
    refine lv_aload_n hx hb dX6_answerCall_26 rfl (lv_at hl 1 rfl) ?_
    refine lv_bipush (v := 108) hx hb dX6_answerCall_27 (by decide) ?_
    refine lv_iconst (v := 0) hx hb dX6_answerCall_29 (by decide) ?_
    refine lv_iconst (v := -1) hx hb dX6_answerCall_30 (by decide) ?_
    refine wl_on C0 ht hP hS (wl_runV (As := [.ref (AD 2 i), .int 108, .int 0, .int (-1)]) (rest := []) C0 hP hS (k_X6_enter l hst E w s.heap.size F AD N hI hs i 108 0 0 0 108 0 (-1) hi h3 (by decide) (Nat.zero_le _) (by decide) rfl rfl rfl) (cwV 4 hts gX6_answerCall_X6_enter rfl rfl rfl (by decide +kernel) ⟨(Nat.le_of_ble_eq_true rfl), (Nat.le_of_ble_eq_true rfl)⟩) hs.x rfl rfl rfl hl.1 (Nat.le_of_ble_eq_true rfl) dX6_answerCall_31 ⟨(Nat.le_of_ble_eq_true rfl), (Nat.le_of_ble_eq_true rfl)⟩) (Nat.le_of_ble_eq_true rfl) (Nat.le_of_ble_eq_true rfl) (fun _ _ h => h.elim) (fun v_31 w_31 H locs hq hP hS => ?_)
    obtain ⟨rfl, AD2, hs2, ha2, hk2⟩ := hq
    refine W.eq (g2 := F0 m 34 ls [.int (nI 108)]) rfl ?_
    refine W.widen (k := 1) (n := 6) (Nat.le_of_ble_eq_true rfl) (Nat.le_of_ble_eq_true rfl) ?_
    exact wl_iret C0 hr (pk_charN (by decide)).1 hP hS dX6_answerCall_34 (Nat.le_of_ble_eq_true rfl) (Nat.le_of_ble_eq_true rfl) (by
          have hkk : c_kind F i r key = 108 := by simp [c_kind, hr9, q22]
          exact ⟨by rw [hkk], AD2, by unfold f_call; rw [hkk]; exact hs2, ha2, hk2⟩)

set_option maxHeartbeats 4000000 in
set_option maxRecDepth 100000 in
theorem k_X6_call (l : Launch) (hst : l.stackTraces = false) (E : wEn) (w : wW) (sz : Nat) (F : FF) (AD : AT) (N : Nat) (hI : wInv F N) (hs : wSys E F AD w) (h3 : F 24 3 < 512) (c1 p1 k1 : Int32) : wM l yX6_call wsX6_call 5 2 12 E w sz [.ref (AD 5 0), .int c1, .int p1, .int k1] (fun v w2 => ∃ AD2 : AT, (s_call F c1 p1 k1).1 = 0 ∧ v = some (.int (s_call F c1 p1 k1).2.1) ∧ wSys E (s_call F c1 p1 k1).2.2 AD2 w2 ∧ AD2 5 0 = AD 5 0 ∧ wKp w w2) (fun X w2 => w2 = w ∧ ((s_call F c1 p1 k1).1 = 1 ∧ X = xIOB ∨ (s_call F c1 p1 k1).1 = 2 ∧ X = xIAE)) := by
  refine wm_start (own := RX6) (cc := cX6_call) (maxL := 5) (ret := (some .char)) rfl (by decide) rfl (Nat.le_of_ble_eq_true rfl) ?_
  intro p e s m args below meth c ls C0 hr hin ht hP hS hl
  have hx := C0.1
  have hb := C0.2.1
  have hts := C0.2.2.2.2.1
  have hown := C0.2.2.2.1
  have hl : lv_has ls 5 [(0, .ref (AD 5 0)), (1, .int c1), (2, .int p1), (3, .int k1)] := hl
  have hf_30 : (Cond.fieldLink RX6 30 "CallGateway" "log" "LCallGateway$CallLog;").before args s = true := hts _ (by decide +kernel)
  have hi_RX6 : ∀ w ∈ u_ws RX6 TX6 8, w ∈ wsX6_call := fun _ h => List.mem_cons_of_mem _ (List.mem_append_left _ (List.mem_append_left _ (List.mem_append_left _ (List.mem_append_left _ (List.mem_append_left _ (List.mem_append_left _ (List.mem_append_left _ (List.mem_append_left _ (List.mem_append_right _ h)))))))))
  have hn := hI.n
  refine lv_aload_n hx hb dX6_call_0 rfl (lv_at hl 0 rfl) ?_
  refine lv_iload_n hx hb dX6_call_1 rfl (lv_at hl 1 rfl) ?_
  refine wl_on C0 ht hP hS (wl_runV (As := [.int c1]) (rest := []) C0 hP hS (k_X6_existingCaller l hst E w s.heap.size F AD N hI hs c1) (cwV 1 hts gX6_call_X6_existingCaller rfl rfl rfl (by decide +kernel) ⟨(Nat.le_of_ble_eq_true rfl), (Nat.le_of_ble_eq_true rfl)⟩) hs.x rfl rfl rfl hl.1 (Nat.le_of_ble_eq_true rfl) dX6_call_2 ⟨(Nat.le_of_ble_eq_true rfl), (Nat.le_of_ble_eq_true rfl)⟩) (Nat.le_of_ble_eq_true rfl) (Nat.le_of_ble_eq_true rfl) (fun X w2 h => ⟨h.2.1, Or.inl (⟨by simp [s_call, h.2.2], h.1⟩)⟩) (fun v_2 w_2 H locs hq hP hS => ?_)
  obtain ⟨rfl, hw9, hv_2⟩ := hq
  rw [hw9] at hP
  have hi_2 : tn c1 < F 24 2 := (vpb_tn hv_2)
  refine W.eq (g2 := F0 m 5 ls [.ref (AD 2 (tn c1))]) rfl ?_
  refine W.widen (k := 1) (n := 6) (Nat.le_of_ble_eq_true rfl) (Nat.le_of_ble_eq_true rfl) ?_
  refine lv_astore (lv' := [(4, .ref (AD 2 (tn c1))), (0, .ref (AD 5 0)), (1, .int c1), (2, .int p1), (3, .int k1)]) hx hb dX6_call_5 hl (by decide) rfl (fun ls hl => ?_)
  refine lv_iload_n hx hb dX6_call_7 rfl (lv_at hl 3 rfl) ?_
  refine wl_on C0 ht hP hS (wl_runS (As := [.int p1]) (rest := []) C0 hP hS (k_X6_isPath l hst E w H.size p1) (va_cwS 1 hts gX6_call_X6_isPath rfl rfl rfl (by decide +kernel) ⟨(Nat.le_of_ble_eq_true rfl), (Nat.le_of_ble_eq_true rfl)⟩) rfl rfl hl.1 (Nat.le_of_ble_eq_true rfl) dX6_call_8 ⟨(Nat.le_of_ble_eq_true rfl), (Nat.le_of_ble_eq_true rfl)⟩) (Nat.le_of_ble_eq_true rfl) (Nat.le_of_ble_eq_true rfl) (fun _ _ h => h.elim) (fun v_8 w_8 H locs hq hP hS => ?_)
  obtain ⟨rfl, hw9⟩ := hq
  rw [hw9] at hP
  refine W.eq (g2 := F0 m 11 ls [.int (bI (pathB p1))]) rfl ?_
  refine lv_if_eq (tgt := 24) hx hb dX6_call_11 (by decide) (fun c_11 => ?_) (fun c_11 => ?_)
  · have q11 : pathB p1 = false := bI_0.mp c_11
    exact wl_throwS (ik := 46) (is := 210) (ic := 50) (i := 16) C0 hst ht (by decide +kernel) (hts _ (by decide +kernel)) (hts _ (by decide +kernel)) rfl (fun _ h => List.mem_cons_of_mem _ (List.mem_append_left _ (List.mem_append_right _ h))) xc_IAE xn_IAE xg_IAE hP hS hl.1 dX6_call_24 dX6_call_27 dX6_call_28 dX6_call_30 dX6_call_33 (Nat.le_of_ble_eq_true rfl) (Nat.le_of_ble_eq_true rfl) (Nat.le_of_ble_eq_true rfl) (Nat.le_of_ble_eq_true rfl) (Nat.le_of_ble_eq_true rfl) (Nat.le_of_ble_eq_true rfl) (⟨rfl, Or.inr (⟨by simp [s_call, hv_2, q11], rfl⟩)⟩)
  · have q11 : pathB p1 = true := bI_n.mp c_11
    have hpt := path_tn q11
    refine lv_iload_n hx hb dX6_call_14 rfl (lv_at hl 4 rfl) ?_
    refine lv_iconst (v := 0) hx hb dX6_call_15 (by decide) ?_
    refine lv_bipush (v := 99) hx hb dX6_call_16 (by decide) ?_
    refine wl_on C0 ht hP hS (wl_runS (As := [.int k1, .int 0, .int 99]) (rest := []) C0 hP hS (k_X6_isWithin l hst E w H.size k1 0 99) (va_cwS 3 hts gX6_call_X6_isWithin rfl rfl rfl (by decide +kernel) ⟨(Nat.le_of_ble_eq_true rfl), (Nat.le_of_ble_eq_true rfl)⟩) rfl rfl hl.1 (Nat.le_of_ble_eq_true rfl) dX6_call_18 ⟨(Nat.le_of_ble_eq_true rfl), (Nat.le_of_ble_eq_true rfl)⟩) (Nat.le_of_ble_eq_true rfl) (Nat.le_of_ble_eq_true rfl) (fun _ _ h => h.elim) (fun v_18 w_18 H locs hq hP hS => ?_)
    obtain ⟨rfl, hw9⟩ := hq
    rw [hw9] at hP
    refine W.eq (g2 := F0 m 21 ls [.int (bI (wi k1 0 99))]) rfl ?_
    refine lv_if_ne (tgt := 34) hx hb dX6_call_21 (by decide) (fun c_21 => ?_) (fun c_21 => ?_)
    · have q21 : wi k1 0 99 = true := bI_n.mp c_21
      have hkt := wi_tn (lo := 0) (hi := 99) q21 (by omega) (by omega)
      refine lv_aload_n hx hb dX6_call_34 rfl (lv_at hl 1 rfl) ?_
      refine wl_get (T := TX6) C0 hP hs.x hi_RX6 rfl 3 (by decide) hf_30 rfl dX6_call_35 ?_
      refine wl_on C0 ht hP hS (wl_runVN (host := "CallGateway") (As := []) (rest := []) C0 hP hS (k_X0_isFull l hst E w H.size F AD hs (by omega)) ⟨va_cnB 0 hts gX6_call_X0_isFull_n212 rfl rfl rfl (C0.2.2.2.2.2.2.2.1.1 _ (by decide +kernel)) (hts _ (by decide +kernel)) (by decide +kernel) ⟨(Nat.le_of_ble_eq_true rfl), (Nat.le_of_ble_eq_true rfl)⟩, hts _ (by decide +kernel), hts _ (by decide +kernel)⟩ hs.log rfl rfl rfl hl.1 (Nat.le_of_ble_eq_true rfl) dX6_call_38 ⟨(Nat.le_of_ble_eq_true rfl), (Nat.le_of_ble_eq_true rfl)⟩) (Nat.le_of_ble_eq_true rfl) (Nat.le_of_ble_eq_true rfl) (fun _ _ h => h.elim) (fun v_38 w_38 H locs hq hP hS => ?_)
      obtain ⟨rfl, hw9⟩ := hq
      rw [hw9] at hP
      refine W.eq (g2 := F0 m 41 ls [.int (bI (decide (512 ≤ F 24 3)))]) rfl ?_
      refine lv_if_eq (tgt := 47) hx hb dX6_call_41 (by decide) (fun c_41 => ?_) (fun c_41 => ?_)
      · refine lv_aload_n hx hb dX6_call_47 rfl (lv_at hl 1 rfl) ?_
        refine lv_aload hx hb dX6_call_48 (lv_at hl 0 rfl) ?_
        refine lv_aload_n hx hb dX6_call_50 rfl (lv_at hl 1 rfl) ?_
        refine lv_iload_n hx hb dX6_call_51 rfl (lv_at hl 3 rfl) ?_
        refine W.eq (g2 := F0 m 52 ls [.int (nI (tn p1)), .ref (AD 5 0), .ref (AD 2 (tn c1)), .ref (AD 5 0)]) (by rw [hpt.1]) ?_
        refine wl_on C0 ht hP hS (wl_runV (As := [.int (nI (tn p1))]) (rest := [.ref (AD 2 (tn c1)), .ref (AD 5 0)]) C0 hP hS (k_X6_routeByTakingOff l hst E w H.size F AD N hI hs (tn p1) hpt.2) (cwV 1 hts gX6_call_X6_routeByTakingOff rfl rfl rfl (by decide +kernel) ⟨(Nat.le_of_ble_eq_true rfl), (Nat.le_of_ble_eq_true rfl)⟩) hs.x rfl rfl rfl hl.1 (Nat.le_of_ble_eq_true rfl) dX6_call_52 ⟨(Nat.le_of_ble_eq_true rfl), (Nat.le_of_ble_eq_true rfl)⟩) (Nat.le_of_ble_eq_true rfl) (Nat.le_of_ble_eq_true rfl) (fun _ _ h => h.elim) (fun v_52 w_52 H locs hq hP hS => ?_)
        obtain ⟨rfl, hw9⟩ := hq
        rw [hw9] at hP
        refine W.eq (g2 := F0 m 55 ls [va_rf (rfU (AD 0) (F 24 0) (gN F 4 (tn p1))), .ref (AD 2 (tn c1)), .ref (AD 5 0)]) rfl ?_
        refine wl_rfU (fun h_55 => ?_) (fun h_55 => ?_)
        · refine lv_iload_n hx hb dX6_call_55 rfl (lv_at hl 4 rfl) ?_
          refine W.eq (g2 := F0 m 56 ls [.int (nI (tn k1)), .ref (AD 0 (gN F 4 (tn p1))), .ref (AD 2 (tn c1)), .ref (AD 5 0)]) (by rw [hkt.1]) ?_
          refine wl_on C0 ht hP hS (wl_runV (As := [.ref (AD 2 (tn c1)), .ref (AD 0 (gN F 4 (tn p1))), .int (nI (tn k1))]) (rest := []) C0 hP hS (k_X6_answerCall l hst E w H.size F AD N hI hs (tn c1) (gN F 4 (tn p1)) (tn k1) hi_2 h_55 hkt.2.2 h3) (cwV 3 hts gX6_call_X6_answerCall rfl rfl rfl (by decide +kernel) ⟨(Nat.le_of_ble_eq_true rfl), (Nat.le_of_ble_eq_true rfl)⟩) hs.x rfl rfl rfl hl.1 (Nat.le_of_ble_eq_true rfl) dX6_call_56 ⟨(Nat.le_of_ble_eq_true rfl), (Nat.le_of_ble_eq_true rfl)⟩) (Nat.le_of_ble_eq_true rfl) (Nat.le_of_ble_eq_true rfl) (fun _ _ h => h.elim) (fun v_56 w_56 H locs hq hP hS => ?_)
          obtain ⟨rfl, AD2, hs2, ha2, hk2⟩ := hq
          refine W.eq (g2 := F0 m 59 ls [.int (nI (c_kind F (tn c1) (gN F 4 (tn p1)) (tn k1)))]) rfl ?_
          refine W.widen (k := 2) (n := 12) (Nat.le_of_ble_eq_true rfl) (Nat.le_of_ble_eq_true rfl) ?_
          have hev : s_call F c1 p1 k1 = (0, nI (c_kind F (tn c1) (gN F 4 (tn p1)) (tn k1)), f_call F (tn c1) (gN F 4 (tn p1)) (tn k1)) := by simp [s_call, hv_2, q11, q21]
          exact wl_iret C0 hr (pk_charN (ck_lt (by omega))).1 hP hS dX6_call_59 (Nat.le_of_ble_eq_true rfl) (Nat.le_of_ble_eq_true rfl) (⟨AD2, by rw [hev], by rw [hev], by rw [hev]; exact hs2, ha2, hk2⟩)
        · refine lv_iload_n hx hb dX6_call_55 rfl (lv_at hl 4 rfl) ?_
          refine W.eq (g2 := F0 m 56 ls [.int (nI (tn k1)), .null, .ref (AD 2 (tn c1)), .ref (AD 5 0)]) (by rw [hkt.1]) ?_
          refine wl_on C0 ht hP hS (wl_runV (As := [.ref (AD 2 (tn c1)), .null, .int (nI (tn k1))]) (rest := []) C0 hP hS (k_X6_answerCall_n l hst E w H.size F AD N hI hs (tn c1) (gN F 4 (tn p1)) (tn k1) hi_2 h_55 hkt.2.2 h3) (cwV 3 hts gX6_call_X6_answerCall rfl rfl rfl (by decide +kernel) ⟨(Nat.le_of_ble_eq_true rfl), (Nat.le_of_ble_eq_true rfl)⟩) hs.x rfl rfl rfl hl.1 (Nat.le_of_ble_eq_true rfl) dX6_call_56 ⟨(Nat.le_of_ble_eq_true rfl), (Nat.le_of_ble_eq_true rfl)⟩) (Nat.le_of_ble_eq_true rfl) (Nat.le_of_ble_eq_true rfl) (fun _ _ h => h.elim) (fun v_56 w_56 H locs hq hP hS => ?_)
          obtain ⟨rfl, AD2, hs2, ha2, hk2⟩ := hq
          refine W.eq (g2 := F0 m 59 ls [.int (nI (c_kind F (tn c1) (gN F 4 (tn p1)) (tn k1)))]) rfl ?_
          refine W.widen (k := 2) (n := 12) (Nat.le_of_ble_eq_true rfl) (Nat.le_of_ble_eq_true rfl) ?_
          have hev : s_call F c1 p1 k1 = (0, nI (c_kind F (tn c1) (gN F 4 (tn p1)) (tn k1)), f_call F (tn c1) (gN F 4 (tn p1)) (tn k1)) := by simp [s_call, hv_2, q11, q21]
          exact wl_iret C0 hr (pk_charN (ck_lt (by omega))).1 hP hS dX6_call_59 (Nat.le_of_ble_eq_true rfl) (Nat.le_of_ble_eq_true rfl) (⟨AD2, by rw [hev], by rw [hev], by rw [hev]; exact hs2, ha2, hk2⟩)
      · exact absurd (of_decide_eq_true (bI_n.mp c_41)) (by omega)
    · have q21 : wi k1 0 99 = false := bI_0.mp c_21
      exact wl_throwS (ik := 46) (is := 210) (ic := 50) (i := 16) C0 hst ht (by decide +kernel) (hts _ (by decide +kernel)) (hts _ (by decide +kernel)) rfl (fun _ h => List.mem_cons_of_mem _ (List.mem_append_left _ (List.mem_append_right _ h))) xc_IAE xn_IAE xg_IAE hP hS hl.1 dX6_call_24 dX6_call_27 dX6_call_28 dX6_call_30 dX6_call_33 (Nat.le_of_ble_eq_true rfl) (Nat.le_of_ble_eq_true rfl) (Nat.le_of_ble_eq_true rfl) (Nat.le_of_ble_eq_true rfl) (Nat.le_of_ble_eq_true rfl) (Nat.le_of_ble_eq_true rfl) (⟨rfl, Or.inr (⟨by simp [s_call, hv_2, q11, q21], rfl⟩)⟩)
