set_option maxHeartbeats 4000000 in
set_option maxRecDepth 100000 in
theorem k_X5_init (l : Launch) (hst : l.stackTraces = false) (E : wEn) (w : wW) (sz : Nat) (q0 : Nat) (a b c1 d e1 : Int32) (hq0 : w q0 = some (.inr (5, [.int 0, .int 0, .int 0, .int 0, .int 0, .int 0, .null]))) : wM l yX5_init wsX5_init 0 0 0 E w sz [.ref q0, .int a, .int b, .int c1, .int d, .int e1] (fun v w2 => v = none ∧ w2 = wU w q0 (.inr (5, [.int a, .int b, .int c1, .int d, .int e1, .int 0, .null]))) (fun _ _ => False) := by
  refine wm_start (own := RX5) (cc := cX5_init) (maxL := 6) (ret := none) rfl (by decide) rfl (Nat.le_of_ble_eq_true rfl) ?_
  intro p e s m args below meth c ls C0 hr hin ht hP hS hl
  have hx := C0.1
  have hb := C0.2.1
  have hts := C0.2.2.2.2.1
  have hown := C0.2.2.2.1
  have hl : lv_has ls 6 [(0, .ref q0), (1, .int a), (2, .int b), (3, .int c1), (4, .int d), (5, .int e1)] := hl
  have hf_9 : (Cond.fieldLink RX5 9 "CallGateway$Route" "number" "I").before args s = true := hts _ (by decide +kernel)
  have hf_15 : (Cond.fieldLink RX5 15 "CallGateway$Route" "path" "I").before args s = true := hts _ (by decide +kernel)
  have hf_18 : (Cond.fieldLink RX5 18 "CallGateway$Route" "cost" "I").before args s = true := hts _ (by decide +kernel)
  have hf_21 : (Cond.fieldLink RX5 21 "CallGateway$Route" "least" "I").before args s = true := hts _ (by decide +kernel)
  have hf_24 : (Cond.fieldLink RX5 24 "CallGateway$Route" "greatest" "I").before args s = true := hts _ (by decide +kernel)
  have hi_RX5 : ∀ w ∈ u_ws RX5 TX5 7, w ∈ wsX5_init := fun _ h => List.mem_cons_of_mem _ (List.mem_append_right _ h)
  refine lv_aload_n hx hb dX5_init_0 rfl (lv_at hl 0 rfl) ?_
  refine W.objInit hx hb hown (hts (.methodLink RX5 3 objectInit) (by decide +kernel)) (hts (.instanceMethod objectInit) (by decide +kernel)) (hts (.code objectInit ⟨#[0xb1]⟩ 1 none) (by decide +kernel)) rfl (by rw [C0.2.2.1]; exact hl.1) rfl dX5_init_1 (Nat.le_of_ble_eq_true rfl) (Nat.le_of_ble_eq_true rfl) ?_
  refine W.eq (g2 := F0 m 4 ls []) rfl ?_
  refine lv_aload_n hx hb dX5_init_4 rfl (lv_at hl 0 rfl) ?_
  refine lv_iload_n hx hb dX5_init_5 rfl (lv_at hl 1 rfl) ?_
  refine wl_putF (T := TX5) (ty0 := tyX5) (fs2 := [.int a, .int 0, .int 0, .int 0, .int 0, .int 0, .null]) C0 hin hP hS hq0 hi_RX5 tyX5_ok nmX5 rfl 0 (by decide) hf_9 rfl rfl rfl rfl rfl (Nat.le_of_ble_eq_true rfl) rfl dX5_init_6 (fun H locs hP hS => ?_)
  refine lv_aload_n hx hb dX5_init_9 rfl (lv_at hl 0 rfl) ?_
  refine lv_iload_n hx hb dX5_init_10 rfl (lv_at hl 2 rfl) ?_
  have f9_1 : (wU w q0 (.inr (5, [.int a, .int 0, .int 0, .int 0, .int 0, .int 0, .null]))) q0 = some (.inr (5, [.int a, .int 0, .int 0, .int 0, .int 0, .int 0, .null])) := (wU_s _ _ _)
  refine wl_putF (T := TX5) (ty0 := tyX5) (fs2 := [.int a, .int b, .int 0, .int 0, .int 0, .int 0, .null]) C0 hin hP hS f9_1 hi_RX5 tyX5_ok nmX5 rfl 1 (by decide) hf_15 rfl rfl rfl rfl rfl (Nat.le_of_ble_eq_true rfl) rfl dX5_init_11 (fun H locs hP hS => ?_)
  rw [wU_c] at hP
  refine lv_aload_n hx hb dX5_init_14 rfl (lv_at hl 0 rfl) ?_
  refine lv_iload_n hx hb dX5_init_15 rfl (lv_at hl 3 rfl) ?_
  have f9_2 : (wU w q0 (.inr (5, [.int a, .int b, .int 0, .int 0, .int 0, .int 0, .null]))) q0 = some (.inr (5, [.int a, .int b, .int 0, .int 0, .int 0, .int 0, .null])) := (wU_s _ _ _)
  refine wl_putF (T := TX5) (ty0 := tyX5) (fs2 := [.int a, .int b, .int c1, .int 0, .int 0, .int 0, .null]) C0 hin hP hS f9_2 hi_RX5 tyX5_ok nmX5 rfl 2 (by decide) hf_18 rfl rfl rfl rfl rfl (Nat.le_of_ble_eq_true rfl) rfl dX5_init_16 (fun H locs hP hS => ?_)
  rw [wU_c] at hP
  refine lv_aload_n hx hb dX5_init_19 rfl (lv_at hl 0 rfl) ?_
  refine lv_iload hx hb dX5_init_20 (lv_at hl 4 rfl) ?_
  have f9_3 : (wU w q0 (.inr (5, [.int a, .int b, .int c1, .int 0, .int 0, .int 0, .null]))) q0 = some (.inr (5, [.int a, .int b, .int c1, .int 0, .int 0, .int 0, .null])) := (wU_s _ _ _)
  refine wl_put (T := TX5) (ty0 := tyX5) (fs2 := [.int a, .int b, .int c1, .int d, .int 0, .int 0, .null]) C0 hP hS f9_3 hi_RX5 tyX5_ok nmX5 rfl 3 (by decide) hf_21 rfl rfl rfl rfl (Nat.le_of_ble_eq_true rfl) rfl dX5_init_22 (fun H locs hP hS => ?_)
  rw [wU_c] at hP
  refine lv_aload_n hx hb dX5_init_25 rfl (lv_at hl 0 rfl) ?_
  refine lv_iload hx hb dX5_init_26 (lv_at hl 5 rfl) ?_
  have f9_4 : (wU w q0 (.inr (5, [.int a, .int b, .int c1, .int d, .int 0, .int 0, .null]))) q0 = some (.inr (5, [.int a, .int b, .int c1, .int d, .int 0, .int 0, .null])) := (wU_s _ _ _)
  refine wl_put (T := TX5) (ty0 := tyX5) (fs2 := [.int a, .int b, .int c1, .int d, .int e1, .int 0, .null]) C0 hP hS f9_4 hi_RX5 tyX5_ok nmX5 rfl 4 (by decide) hf_24 rfl rfl rfl rfl (Nat.le_of_ble_eq_true rfl) rfl dX5_init_28 (fun H locs hP hS => ?_)
  rw [wU_c] at hP
  exact wl_vret C0 hr hP hS dX5_init_31 (Nat.le_of_ble_eq_true rfl) (Nat.le_of_ble_eq_true rfl) (⟨rfl, rfl⟩)

set_option maxHeartbeats 4000000 in
set_option maxRecDepth 100000 in
theorem k_X4_init (l : Launch) (hst : l.stackTraces = false) (E : wEn) (w : wW) (sz : Nat) (q0 : Nat) (a b c1 : Int32) (hq0 : w q0 = some (.inr (4, [.int 0, .int 0, .int 0]))) : wM l yX4_init wsX4_init 0 0 0 E w sz [.ref q0, .int a, .int b, .int c1] (fun v w2 => v = none ∧ w2 = wU w q0 (.inr (4, [.int a, .int b, .int c1]))) (fun _ _ => False) := by
  refine wm_start (own := RX4) (cc := cX4_init) (maxL := 4) (ret := none) rfl (by decide) rfl (Nat.le_of_ble_eq_true rfl) ?_
  intro p e s m args below meth c ls C0 hr hin ht hP hS hl
  have hx := C0.1
  have hb := C0.2.1
  have hts := C0.2.2.2.2.1
  have hown := C0.2.2.2.1
  have hl : lv_has ls 4 [(0, .ref q0), (1, .int a), (2, .int b), (3, .int c1)] := hl
  have hf_7 : (Cond.fieldLink RX4 7 "CallGateway$Plan" "rate" "I").before args s = true := hts _ (by decide +kernel)
  have hf_13 : (Cond.fieldLink RX4 13 "CallGateway$Plan" "burst" "I").before args s = true := hts _ (by decide +kernel)
  have hf_16 : (Cond.fieldLink RX4 16 "CallGateway$Plan" "price" "I").before args s = true := hts _ (by decide +kernel)
  have hi_RX4 : ∀ w ∈ u_ws RX4 TX4 3, w ∈ wsX4_init := fun _ h => List.mem_cons_of_mem _ (List.mem_append_right _ h)
  refine lv_aload_n hx hb dX4_init_0 rfl (lv_at hl 0 rfl) ?_
  refine W.objInit hx hb hown (hts (.methodLink RX4 1 objectInit) (by decide +kernel)) (hts (.instanceMethod objectInit) (by decide +kernel)) (hts (.code objectInit ⟨#[0xb1]⟩ 1 none) (by decide +kernel)) rfl (by rw [C0.2.2.1]; exact hl.1) rfl dX4_init_1 (Nat.le_of_ble_eq_true rfl) (Nat.le_of_ble_eq_true rfl) ?_
  refine W.eq (g2 := F0 m 4 ls []) rfl ?_
  refine lv_aload_n hx hb dX4_init_4 rfl (lv_at hl 0 rfl) ?_
  refine lv_iload_n hx hb dX4_init_5 rfl (lv_at hl 1 rfl) ?_
  refine wl_putF (T := TX4) (ty0 := tyX4) (fs2 := [.int a, .int 0, .int 0]) C0 hin hP hS hq0 hi_RX4 tyX4_ok nmX4 rfl 0 (by decide) hf_7 rfl rfl rfl rfl rfl (Nat.le_of_ble_eq_true rfl) rfl dX4_init_6 (fun H locs hP hS => ?_)
  refine lv_aload_n hx hb dX4_init_9 rfl (lv_at hl 0 rfl) ?_
  refine lv_iload_n hx hb dX4_init_10 rfl (lv_at hl 2 rfl) ?_
  have f9_1 : (wU w q0 (.inr (4, [.int a, .int 0, .int 0]))) q0 = some (.inr (4, [.int a, .int 0, .int 0])) := (wU_s _ _ _)
  refine wl_putF (T := TX4) (ty0 := tyX4) (fs2 := [.int a, .int b, .int 0]) C0 hin hP hS f9_1 hi_RX4 tyX4_ok nmX4 rfl 1 (by decide) hf_13 rfl rfl rfl rfl rfl (Nat.le_of_ble_eq_true rfl) rfl dX4_init_11 (fun H locs hP hS => ?_)
  rw [wU_c] at hP
  refine lv_aload_n hx hb dX4_init_14 rfl (lv_at hl 0 rfl) ?_
  refine lv_iload_n hx hb dX4_init_15 rfl (lv_at hl 3 rfl) ?_
  have f9_2 : (wU w q0 (.inr (4, [.int a, .int b, .int 0]))) q0 = some (.inr (4, [.int a, .int b, .int 0])) := (wU_s _ _ _)
  refine wl_putF (T := TX4) (ty0 := tyX4) (fs2 := [.int a, .int b, .int c1]) C0 hin hP hS f9_2 hi_RX4 tyX4_ok nmX4 rfl 2 (by decide) hf_16 rfl rfl rfl rfl rfl (Nat.le_of_ble_eq_true rfl) rfl dX4_init_16 (fun H locs hP hS => ?_)
  rw [wU_c] at hP
  exact wl_vret C0 hr hP hS dX4_init_19 (Nat.le_of_ble_eq_true rfl) (Nat.le_of_ble_eq_true rfl) (⟨rfl, rfl⟩)

set_option maxHeartbeats 4000000 in
set_option maxRecDepth 100000 in
theorem k_X2_init (l : Launch) (hst : l.stackTraces = false) (E : wEn) (w : wW) (sz : Nat) (q0 : Nat) (a b c1 d : Int32) (hq0 : w q0 = some (.inr (2, [.int 0, .int 0, .int 0, .int 0, .int 0]))) : wM l yX2_init wsX2_init 0 0 0 E w sz [.ref q0, .int a, .int b, .int c1, .int d] (fun v w2 => v = none ∧ w2 = wU w q0 (.inr (2, [.int a, .int b, .int d, .int c1, .int 0]))) (fun _ _ => False) := by
  refine wm_start (own := RX2) (cc := cX2_init) (maxL := 5) (ret := none) rfl (by decide) rfl (Nat.le_of_ble_eq_true rfl) ?_
  intro p e s m args below meth c ls C0 hr hin ht hP hS hl
  have hx := C0.1
  have hb := C0.2.1
  have hts := C0.2.2.2.2.1
  have hown := C0.2.2.2.1
  have hl : lv_has ls 5 [(0, .ref q0), (1, .int a), (2, .int b), (3, .int c1), (4, .int d)] := hl
  have hf_7 : (Cond.fieldLink RX2 7 "CallGateway$Canary" "number" "I").before args s = true := hts _ (by decide +kernel)
  have hf_13 : (Cond.fieldLink RX2 13 "CallGateway$Canary" "answer" "I").before args s = true := hts _ (by decide +kernel)
  have hf_16 : (Cond.fieldLink RX2 16 "CallGateway$Canary" "share" "I").before args s = true := hts _ (by decide +kernel)
  have hf_19 : (Cond.fieldLink RX2 19 "CallGateway$Canary" "limit" "I").before args s = true := hts _ (by decide +kernel)
  have hi_RX2 : ∀ w ∈ u_ws RX2 TX2 5, w ∈ wsX2_init := fun _ h => List.mem_cons_of_mem _ (List.mem_append_right _ h)
  refine lv_aload_n hx hb dX2_init_0 rfl (lv_at hl 0 rfl) ?_
  refine W.objInit hx hb hown (hts (.methodLink RX2 1 objectInit) (by decide +kernel)) (hts (.instanceMethod objectInit) (by decide +kernel)) (hts (.code objectInit ⟨#[0xb1]⟩ 1 none) (by decide +kernel)) rfl (by rw [C0.2.2.1]; exact hl.1) rfl dX2_init_1 (Nat.le_of_ble_eq_true rfl) (Nat.le_of_ble_eq_true rfl) ?_
  refine W.eq (g2 := F0 m 4 ls []) rfl ?_
  refine lv_aload_n hx hb dX2_init_4 rfl (lv_at hl 0 rfl) ?_
  refine lv_iload_n hx hb dX2_init_5 rfl (lv_at hl 1 rfl) ?_
  refine wl_putF (T := TX2) (ty0 := tyX2) (fs2 := [.int a, .int 0, .int 0, .int 0, .int 0]) C0 hin hP hS hq0 hi_RX2 tyX2_ok nmX2 rfl 0 (by decide) hf_7 rfl rfl rfl rfl rfl (Nat.le_of_ble_eq_true rfl) rfl dX2_init_6 (fun H locs hP hS => ?_)
  refine lv_aload_n hx hb dX2_init_9 rfl (lv_at hl 0 rfl) ?_
  refine lv_iload_n hx hb dX2_init_10 rfl (lv_at hl 2 rfl) ?_
  have f9_1 : (wU w q0 (.inr (2, [.int a, .int 0, .int 0, .int 0, .int 0]))) q0 = some (.inr (2, [.int a, .int 0, .int 0, .int 0, .int 0])) := (wU_s _ _ _)
  refine wl_putF (T := TX2) (ty0 := tyX2) (fs2 := [.int a, .int b, .int 0, .int 0, .int 0]) C0 hin hP hS f9_1 hi_RX2 tyX2_ok nmX2 rfl 1 (by decide) hf_13 rfl rfl rfl rfl rfl (Nat.le_of_ble_eq_true rfl) rfl dX2_init_11 (fun H locs hP hS => ?_)
  rw [wU_c] at hP
  refine lv_aload_n hx hb dX2_init_14 rfl (lv_at hl 0 rfl) ?_
  refine lv_iload_n hx hb dX2_init_15 rfl (lv_at hl 3 rfl) ?_
  have f9_2 : (wU w q0 (.inr (2, [.int a, .int b, .int 0, .int 0, .int 0]))) q0 = some (.inr (2, [.int a, .int b, .int 0, .int 0, .int 0])) := (wU_s _ _ _)
  refine wl_put (T := TX2) (ty0 := tyX2) (fs2 := [.int a, .int b, .int 0, .int c1, .int 0]) C0 hP hS f9_2 hi_RX2 tyX2_ok nmX2 rfl 3 (by decide) hf_16 rfl rfl rfl rfl (Nat.le_of_ble_eq_true rfl) rfl dX2_init_16 (fun H locs hP hS => ?_)
  rw [wU_c] at hP
  refine lv_aload_n hx hb dX2_init_19 rfl (lv_at hl 0 rfl) ?_
  refine lv_iload hx hb dX2_init_20 (lv_at hl 4 rfl) ?_
  have f9_3 : (wU w q0 (.inr (2, [.int a, .int b, .int 0, .int c1, .int 0]))) q0 = some (.inr (2, [.int a, .int b, .int 0, .int c1, .int 0])) := (wU_s _ _ _)
  refine wl_putF (T := TX2) (ty0 := tyX2) (fs2 := [.int a, .int b, .int d, .int c1, .int 0]) C0 hin hP hS f9_3 hi_RX2 tyX2_ok nmX2 rfl 2 (by decide) hf_19 rfl rfl rfl rfl rfl (Nat.le_of_ble_eq_true rfl) rfl dX2_init_22 (fun H locs hP hS => ?_)
  rw [wU_c] at hP
  exact wl_vret C0 hr hP hS dX2_init_25 (Nat.le_of_ble_eq_true rfl) (Nat.le_of_ble_eq_true rfl) (⟨rfl, rfl⟩)

set_option maxHeartbeats 4000000 in
set_option maxRecDepth 100000 in
theorem k_X1_init (l : Launch) (hst : l.stackTraces = false) (E : wEn) (w : wW) (sz : Nat) (q0 : Nat) (a : Int32) (pl : Nat) (b1 b2 b3 : Int32) (hpl : w pl = some (.inr (4, [.int b1, .int b2, .int b3]))) (hq0 : w q0 = some (.inr (1, [.int 0, .null, .int 0, .long 0]))) : wM l yX1_init wsX1_init 0 0 0 E w sz [.ref q0, .int a, .ref pl] (fun v w2 => v = none ∧ w2 = wU w q0 (.inr (1, [.int a, .ref pl, .int b2, .long 0]))) (fun _ _ => False) := by
  refine wm_start (own := RX1) (cc := cX1_init) (maxL := 3) (ret := none) rfl (by decide) rfl (Nat.le_of_ble_eq_true rfl) ?_
  intro p e s m args below meth c ls C0 hr hin ht hP hS hl
  have hx := C0.1
  have hb := C0.2.1
  have hts := C0.2.2.2.2.1
  have hown := C0.2.2.2.1
  have hl : lv_has ls 3 [(0, .ref q0), (1, .int a), (2, .ref pl)] := hl
  have hf_7 : (Cond.fieldLink RX1 7 "CallGateway$Caller" "number" "I").before args s = true := hts _ (by decide +kernel)
  have hf_13 : (Cond.fieldLink RX1 13 "CallGateway$Caller" "plan" "LCallGateway$Plan;").before args s = true := hts _ (by decide +kernel)
  have hf_17 : va_Nw (.fieldLinkNest RX1 17 "CallGateway$Plan" "burst" "I" "CallGateway") s := C0.2.2.2.2.2.2.2.1.1 _ (by decide +kernel)
  have hf_22 : (Cond.fieldLink RX1 22 "CallGateway$Caller" "tokens" "I").before args s = true := hts _ (by decide +kernel)
  have hi_RX1 : ∀ w ∈ u_ws RX1 TX1 4, w ∈ wsX1_init := fun _ h => List.mem_cons_of_mem _ (List.mem_append_left _ (List.mem_append_right _ h))
  have hi_RX4 : ∀ w ∈ u_ws RX4 TX4 3, w ∈ wsX1_init := fun _ h => List.mem_cons_of_mem _ (List.mem_append_right _ h)
  refine lv_aload_n hx hb dX1_init_0 rfl (lv_at hl 0 rfl) ?_
  refine W.objInit hx hb hown (hts (.methodLink RX1 1 objectInit) (by decide +kernel)) (hts (.instanceMethod objectInit) (by decide +kernel)) (hts (.code objectInit ⟨#[0xb1]⟩ 1 none) (by decide +kernel)) rfl (by rw [C0.2.2.1]; exact hl.1) rfl dX1_init_1 (Nat.le_of_ble_eq_true rfl) (Nat.le_of_ble_eq_true rfl) ?_
  refine W.eq (g2 := F0 m 4 ls []) rfl ?_
  refine lv_aload_n hx hb dX1_init_4 rfl (lv_at hl 0 rfl) ?_
  refine lv_iload_n hx hb dX1_init_5 rfl (lv_at hl 1 rfl) ?_
  refine wl_putF (T := TX1) (ty0 := tyX1) (fs2 := [.int a, .null, .int 0, .long 0]) C0 hin hP hS hq0 hi_RX1 tyX1_ok nmX1 rfl 0 (by decide) hf_7 rfl rfl rfl rfl rfl (Nat.le_of_ble_eq_true rfl) rfl dX1_init_6 (fun H locs hP hS => ?_)
  refine lv_aload_n hx hb dX1_init_9 rfl (lv_at hl 0 rfl) ?_
  refine lv_aload_n hx hb dX1_init_10 rfl (lv_at hl 2 rfl) ?_
  have f9_1 : (wU w q0 (.inr (1, [.int a, .null, .int 0, .long 0]))) q0 = some (.inr (1, [.int a, .null, .int 0, .long 0])) := (wU_s _ _ _)
  refine wl_put (T := TX1) (ty0 := tyX1) (fs2 := [.int a, .ref pl, .int 0, .long 0]) C0 hP hS f9_1 hi_RX1 tyX1_ok nmX1 rfl 1 (by decide) hf_13 rfl rfl rfl rfl (Nat.le_of_ble_eq_true rfl) rfl dX1_init_11 (fun H locs hP hS => ?_)
  rw [wU_c] at hP
  refine lv_aload_n hx hb dX1_init_14 rfl (lv_at hl 0 rfl) ?_
  refine lv_aload_n hx hb dX1_init_15 rfl (lv_at hl 2 rfl) ?_
  have f9_2 : (wU w q0 (.inr (1, [.int a, .ref pl, .int 0, .long 0]))) pl = some (.inr (4, [.int b1, .int b2, .int b3])) := (wU_n _ _ (wne hpl hq0 (Nat.ne_of_beq_eq_false rfl))).trans hpl
  refine wl_getN (T := TX4) C0 hP f9_2 hi_RX4 rfl 1 (by decide) hf_17 rfl dX1_init_16 ?_
  have f9_3 : (wU w q0 (.inr (1, [.int a, .ref pl, .int 0, .long 0]))) q0 = some (.inr (1, [.int a, .ref pl, .int 0, .long 0])) := (wU_s _ _ _)
  refine wl_put (T := TX1) (ty0 := tyX1) (fs2 := [.int a, .ref pl, .int b2, .long 0]) C0 hP hS f9_3 hi_RX1 tyX1_ok nmX1 rfl 2 (by decide) hf_22 rfl rfl rfl rfl (Nat.le_of_ble_eq_true rfl) rfl dX1_init_19 (fun H locs hP hS => ?_)
  rw [wU_c] at hP
  exact wl_vret C0 hr hP hS dX1_init_22 (Nat.le_of_ble_eq_true rfl) (Nat.le_of_ble_eq_true rfl) (⟨rfl, rfl⟩)

set_option maxHeartbeats 4000000 in
set_option maxRecDepth 100000 in
theorem k_X3_init (l : Launch) (hst : l.stackTraces = false) (E : wEn) (w : wW) (sz : Nat) (q0 : Nat) (ca kd : Nat) (hkd : kd ≤ 115) (b c1 d : Int32) (hq0 : w q0 = some (.inr (3, [.null, .int 0, .int 0, .int 0, .int 0, .int 0]))) : wM l yX3_init wsX3_init 0 0 0 E w sz [.ref q0, .ref ca, .int (nI kd), .int b, .int c1, .int d] (fun v w2 => v = none ∧ w2 = wU w q0 (.inr (3, [.ref ca, .int (nI kd), .int b, .int c1, .int d, .int 0]))) (fun _ _ => False) := by
  refine wm_start (own := RX3) (cc := cX3_init) (maxL := 6) (ret := none) rfl (by decide) rfl (Nat.le_of_ble_eq_true rfl) ?_
  intro p e s m args below meth c ls C0 hr hin ht hP hS hl
  have hx := C0.1
  have hb := C0.2.1
  have hts := C0.2.2.2.2.1
  have hown := C0.2.2.2.1
  have hl : lv_has ls 6 [(0, .ref q0), (1, .ref ca), (2, .int (nI kd)), (3, .int b), (4, .int c1), (5, .int d)] := hl
  have hf_7 : (Cond.fieldLink RX3 7 "CallGateway$Entry" "caller" "LCallGateway$Caller;").before args s = true := hts _ (by decide +kernel)
  have hf_13 : (Cond.fieldLink RX3 13 "CallGateway$Entry" "kind" "C").before args s = true := hts _ (by decide +kernel)
  have hf_17 : (Cond.fieldLink RX3 17 "CallGateway$Entry" "taken" "I").before args s = true := hts _ (by decide +kernel)
  have hf_21 : (Cond.fieldLink RX3 21 "CallGateway$Entry" "added" "I").before args s = true := hts _ (by decide +kernel)
  have hf_24 : (Cond.fieldLink RX3 24 "CallGateway$Entry" "canary" "I").before args s = true := hts _ (by decide +kernel)
  have hi_RX3 : ∀ w ∈ u_ws RX3 TX3 6, w ∈ wsX3_init := fun _ h => List.mem_cons_of_mem _ (List.mem_append_right _ h)
  refine lv_aload_n hx hb dX3_init_0 rfl (lv_at hl 0 rfl) ?_
  refine W.objInit hx hb hown (hts (.methodLink RX3 1 objectInit) (by decide +kernel)) (hts (.instanceMethod objectInit) (by decide +kernel)) (hts (.code objectInit ⟨#[0xb1]⟩ 1 none) (by decide +kernel)) rfl (by rw [C0.2.2.1]; exact hl.1) rfl dX3_init_1 (Nat.le_of_ble_eq_true rfl) (Nat.le_of_ble_eq_true rfl) ?_
  refine W.eq (g2 := F0 m 4 ls []) rfl ?_
  refine lv_aload_n hx hb dX3_init_4 rfl (lv_at hl 0 rfl) ?_
  refine lv_aload_n hx hb dX3_init_5 rfl (lv_at hl 1 rfl) ?_
  refine wl_putF (T := TX3) (ty0 := tyX3) (fs2 := [.ref ca, .int 0, .int 0, .int 0, .int 0, .int 0]) C0 hin hP hS hq0 hi_RX3 tyX3_ok nmX3 rfl 0 (by decide) hf_7 rfl rfl rfl rfl rfl (Nat.le_of_ble_eq_true rfl) rfl dX3_init_6 (fun H locs hP hS => ?_)
  refine lv_aload_n hx hb dX3_init_9 rfl (lv_at hl 0 rfl) ?_
  refine lv_iload_n hx hb dX3_init_10 rfl (lv_at hl 2 rfl) ?_
  have f9_1 : (wU w q0 (.inr (3, [.ref ca, .int 0, .int 0, .int 0, .int 0, .int 0]))) q0 = some (.inr (3, [.ref ca, .int 0, .int 0, .int 0, .int 0, .int 0])) := (wU_s _ _ _)
  refine wl_putF (T := TX3) (ty0 := tyX3) (fs2 := [.ref ca, .int (nI kd), .int 0, .int 0, .int 0, .int 0]) C0 hin hP hS f9_1 hi_RX3 tyX3_ok nmX3 rfl 1 (by decide) hf_13 rfl rfl rfl (pk_charN (by omega)).1 (pk_charN (by omega)).2 (Nat.le_of_ble_eq_true rfl) rfl dX3_init_11 (fun H locs hP hS => ?_)
  rw [wU_c] at hP
  refine lv_aload_n hx hb dX3_init_14 rfl (lv_at hl 0 rfl) ?_
  refine lv_iload_n hx hb dX3_init_15 rfl (lv_at hl 3 rfl) ?_
  have f9_2 : (wU w q0 (.inr (3, [.ref ca, .int (nI kd), .int 0, .int 0, .int 0, .int 0]))) q0 = some (.inr (3, [.ref ca, .int (nI kd), .int 0, .int 0, .int 0, .int 0])) := (wU_s _ _ _)
  refine wl_putF (T := TX3) (ty0 := tyX3) (fs2 := [.ref ca, .int (nI kd), .int b, .int 0, .int 0, .int 0]) C0 hin hP hS f9_2 hi_RX3 tyX3_ok nmX3 rfl 2 (by decide) hf_17 rfl rfl rfl rfl rfl (Nat.le_of_ble_eq_true rfl) rfl dX3_init_16 (fun H locs hP hS => ?_)
  rw [wU_c] at hP
  refine lv_aload_n hx hb dX3_init_19 rfl (lv_at hl 0 rfl) ?_
  refine lv_iload hx hb dX3_init_20 (lv_at hl 4 rfl) ?_
  have f9_3 : (wU w q0 (.inr (3, [.ref ca, .int (nI kd), .int b, .int 0, .int 0, .int 0]))) q0 = some (.inr (3, [.ref ca, .int (nI kd), .int b, .int 0, .int 0, .int 0])) := (wU_s _ _ _)
  refine wl_putF (T := TX3) (ty0 := tyX3) (fs2 := [.ref ca, .int (nI kd), .int b, .int c1, .int 0, .int 0]) C0 hin hP hS f9_3 hi_RX3 tyX3_ok nmX3 rfl 3 (by decide) hf_21 rfl rfl rfl rfl rfl (Nat.le_of_ble_eq_true rfl) rfl dX3_init_22 (fun H locs hP hS => ?_)
  rw [wU_c] at hP
  refine lv_aload_n hx hb dX3_init_25 rfl (lv_at hl 0 rfl) ?_
  refine lv_iload hx hb dX3_init_26 (lv_at hl 5 rfl) ?_
  have f9_4 : (wU w q0 (.inr (3, [.ref ca, .int (nI kd), .int b, .int c1, .int 0, .int 0]))) q0 = some (.inr (3, [.ref ca, .int (nI kd), .int b, .int c1, .int 0, .int 0])) := (wU_s _ _ _)
  refine wl_putF (T := TX3) (ty0 := tyX3) (fs2 := [.ref ca, .int (nI kd), .int b, .int c1, .int d, .int 0]) C0 hin hP hS f9_4 hi_RX3 tyX3_ok nmX3 rfl 4 (by decide) hf_24 rfl rfl rfl rfl rfl (Nat.le_of_ble_eq_true rfl) rfl dX3_init_28 (fun H locs hP hS => ?_)
  rw [wU_c] at hP
  exact wl_vret C0 hr hP hS dX3_init_31 (Nat.le_of_ble_eq_true rfl) (Nat.le_of_ble_eq_true rfl) (⟨rfl, rfl⟩)

set_option maxHeartbeats 4000000 in
set_option maxRecDepth 100000 in
theorem k_X0_init (l : Launch) (hst : l.stackTraces = false) (E : wEn) (w : wW) (sz : Nat) (q0 : Nat) (hq0 : w q0 = some (.inr (0, [.null, .int 0]))) : wM l yX0_init wsX0_init 0 1 512 E w sz [.ref q0] (fun v w2 => v = none ∧ ∃ q1, w q1 = none ∧ w2 = wU (wU w q1 (e_q E 7 512 (fun _ => none))) q0 (.inr (0, [.ref q1, .int 0]))) (fun _ _ => False) := by
  refine wm_start (own := RX0) (cc := cX0_init) (maxL := 1) (ret := none) rfl (by decide) rfl (Nat.le_of_ble_eq_true rfl) ?_
  intro p e s m args below meth c ls C0 hr hin ht hP hS hl
  have hx := C0.1
  have hb := C0.2.1
  have hts := C0.2.2.2.2.1
  have hown := C0.2.2.2.1
  have hl : lv_has ls 1 [(0, .ref q0)] := hl
  have hf_11 : (Cond.fieldLink RX0 11 "CallGateway$CallLog" "entries" "[LCallGateway$Entry;").before args s = true := hts _ (by decide +kernel)
  have hi_RX0 : ∀ w ∈ u_ws RX0 TX0 2, w ∈ wsX0_init := fun _ h => List.mem_cons_of_mem _ (List.mem_append_right _ h)
  refine lv_aload_n hx hb dX0_init_0 rfl (lv_at hl 0 rfl) ?_
  refine W.objInit hx hb hown (hts (.methodLink RX0 3 objectInit) (by decide +kernel)) (hts (.instanceMethod objectInit) (by decide +kernel)) (hts (.code objectInit ⟨#[0xb1]⟩ 1 none) (by decide +kernel)) rfl (by rw [C0.2.2.1]; exact hl.1) rfl dX0_init_1 (Nat.le_of_ble_eq_true rfl) (Nat.le_of_ble_eq_true rfl) ?_
  refine W.eq (g2 := F0 m 4 ls []) rfl ?_
  refine lv_aload_n hx hb dX0_init_4 rfl (lv_at hl 0 rfl) ?_
  refine lv_sipush (v := 512) hx hb dX0_init_5 (by decide) ?_
  refine wl_newq (t0 := 7) (N1 := 512) C0 hP hS rfl (hts (.classLink RX0 9 RX3) (by decide +kernel)) (by decide +kernel) (by decide) (by decide) (Nat.le_of_ble_eq_true rfl) (Nat.le_of_ble_eq_true rfl) (Nat.le_of_ble_eq_true rfl) dX0_init_8 (fun q_8 H hq_8 hP hS => ?_)
  refine W.widen (k := 1) (n := 512) (Nat.le_of_ble_eq_true rfl) (Nat.le_of_ble_eq_true rfl) ?_
  have f9_1 : (wU w q_8 (.inl (E.2.1 7, 512, .inr (.inr (.inr (.inr (fun _ => none))))))) q0 = some (.inr (0, [.null, .int 0])) := (wU_n _ _ (wne_f hq_8 hq0)).trans hq0
  refine wl_putF (T := TX0) (ty0 := tyX0) (fs2 := [.ref q_8, .int 0]) C0 hin hP hS f9_1 hi_RX0 tyX0_ok nmX0 rfl 0 (by decide) hf_11 rfl rfl rfl rfl rfl (Nat.le_of_ble_eq_true rfl) rfl dX0_init_11 (fun H locs hP hS => ?_)
  exact wl_vret C0 hr hP hS dX0_init_14 (Nat.le_of_ble_eq_true rfl) (Nat.le_of_ble_eq_true rfl) (⟨rfl, q_8, hq_8, rfl⟩)

set_option maxHeartbeats 4000000 in
set_option maxRecDepth 100000 in
theorem k_X6_init (l : Launch) (hst : l.stackTraces = false) (E : wEn) (w : wW) (sz : Nat) (q0 : Nat) (hq0 : w q0 = some (.inr (6, [.null, .null, .null, .null, .int 0, .int 0, .int 0, .int 0]))) : wM l yX6_init wsX6_init 1 5 531 E w sz [.ref q0] (fun v w2 => v = none ∧ ∃ AD : AT, wSys E F00 AD w2 ∧ AD 5 0 = q0 ∧ wKp w w2) (fun _ _ => False) := by
  refine wm_start (own := RX6) (cc := cX6_init) (maxL := 1) (ret := none) rfl (by decide) rfl (Nat.le_of_ble_eq_true rfl) ?_
  intro p e s m args below meth c ls C0 hr hin ht hP hS hl
  have hx := C0.1
  have hb := C0.2.1
  have hts := C0.2.2.2.2.1
  have hown := C0.2.2.2.1
  have hl : lv_has ls 1 [(0, .ref q0)] := hl
  have hf_11 : (Cond.fieldLink RX6 11 "CallGateway" "routes" "[LCallGateway$Route;").before args s = true := hts _ (by decide +kernel)
  have hf_17 : (Cond.fieldLink RX6 17 "CallGateway" "plans" "[LCallGateway$Plan;").before args s = true := hts _ (by decide +kernel)
  have hf_23 : (Cond.fieldLink RX6 23 "CallGateway" "callers" "[LCallGateway$Caller;").before args s = true := hts _ (by decide +kernel)
  have hf_30 : (Cond.fieldLink RX6 30 "CallGateway" "log" "LCallGateway$CallLog;").before args s = true := hts _ (by decide +kernel)
  have hi_RX0 : ∀ w ∈ u_ws RX0 TX0 2, w ∈ wsX6_init := fun _ h => List.mem_cons_of_mem _ (List.mem_append_right _ h)
  have hi_RX6 : ∀ w ∈ u_ws RX6 TX6 8, w ∈ wsX6_init := fun _ h => List.mem_cons_of_mem _ (List.mem_append_left _ (List.mem_append_right _ h))
  refine lv_aload_n hx hb dX6_init_0 rfl (lv_at hl 0 rfl) ?_
  refine W.objInit hx hb hown (hts (.methodLink RX6 1 objectInit) (by decide +kernel)) (hts (.instanceMethod objectInit) (by decide +kernel)) (hts (.code objectInit ⟨#[0xb1]⟩ 1 none) (by decide +kernel)) rfl (by rw [C0.2.2.1]; exact hl.1) rfl dX6_init_1 (Nat.le_of_ble_eq_true rfl) (Nat.le_of_ble_eq_true rfl) ?_
  refine W.eq (g2 := F0 m 4 ls []) rfl ?_
  refine lv_aload_n hx hb dX6_init_4 rfl (lv_at hl 0 rfl) ?_
  refine lv_bipush (v := 8) hx hb dX6_init_5 (by decide) ?_
  refine wl_newq (t0 := 4) (N1 := 8) C0 hP hS rfl (hts (.classLink RX6 9 RX5) (by decide +kernel)) (by decide +kernel) (by decide) (by decide) (Nat.le_of_ble_eq_true rfl) (Nat.le_of_ble_eq_true rfl) (Nat.le_of_ble_eq_true rfl) dX6_init_7 (fun q_7 H hq_7 hP hS => ?_)
  refine W.widen (k := 1) (n := 8) (Nat.le_of_ble_eq_true rfl) (Nat.le_of_ble_eq_true rfl) ?_
  have f9_1 : (wU w q_7 (.inl (E.2.1 4, 8, .inr (.inr (.inr (.inr (fun _ => none))))))) q0 = some (.inr (6, [.null, .null, .null, .null, .int 0, .int 0, .int 0, .int 0])) := (wU_n _ _ (wne_f hq_7 hq0)).trans hq0
  refine wl_putF (T := TX6) (ty0 := tyX6) (fs2 := [.ref q_7, .null, .null, .null, .int 0, .int 0, .int 0, .int 0]) C0 hin hP hS f9_1 hi_RX6 tyX6_ok nmX6 rfl 0 (by decide) hf_11 rfl rfl rfl rfl rfl (Nat.le_of_ble_eq_true rfl) rfl dX6_init_10 (fun H locs hP hS => ?_)
  refine lv_aload_n hx hb dX6_init_13 rfl (lv_at hl 0 rfl) ?_
  refine lv_iconst (v := 3) hx hb dX6_init_14 (by decide) ?_
  refine wl_newq (t0 := 5) (N1 := 3) C0 hP hS rfl (hts (.classLink RX6 15 RX4) (by decide +kernel)) (by decide +kernel) (by decide) (by decide) (Nat.le_of_ble_eq_true rfl) (Nat.le_of_ble_eq_true rfl) (Nat.le_of_ble_eq_true rfl) dX6_init_15 (fun q_15 H hq_15 hP hS => ?_)
  refine W.widen (k := 2) (n := 11) (Nat.le_of_ble_eq_true rfl) (Nat.le_of_ble_eq_true rfl) ?_
  have f9_2 : (wU (wU w q_7 (.inl (E.2.1 4, 8, .inr (.inr (.inr (.inr (fun _ => none))))))) q0 (.inr (6, [.ref q_7, .null, .null, .null, .int 0, .int 0, .int 0, .int 0]))) q0 = some (.inr (6, [.ref q_7, .null, .null, .null, .int 0, .int 0, .int 0, .int 0])) := (wU_s _ _ _)
  have f9_3 : (wU (wU (wU w q_7 (.inl (E.2.1 4, 8, .inr (.inr (.inr (.inr (fun _ => none))))))) q0 (.inr (6, [.ref q_7, .null, .null, .null, .int 0, .int 0, .int 0, .int 0]))) q_15 (.inl (E.2.1 5, 3, .inr (.inr (.inr (.inr (fun _ => none))))))) q0 = some (.inr (6, [.ref q_7, .null, .null, .null, .int 0, .int 0, .int 0, .int 0])) := (wU_n _ _ (wne_f hq_15 f9_2)).trans f9_2
  refine wl_putF (T := TX6) (ty0 := tyX6) (fs2 := [.ref q_7, .ref q_15, .null, .null, .int 0, .int 0, .int 0, .int 0]) C0 hin hP hS f9_3 hi_RX6 tyX6_ok nmX6 rfl 1 (by decide) hf_17 rfl rfl rfl rfl rfl (Nat.le_of_ble_eq_true rfl) rfl dX6_init_18 (fun H locs hP hS => ?_)
  refine lv_aload_n hx hb dX6_init_21 rfl (lv_at hl 0 rfl) ?_
  refine lv_bipush (v := 6) hx hb dX6_init_22 (by decide) ?_
  refine wl_newq (t0 := 6) (N1 := 6) C0 hP hS rfl (hts (.classLink RX6 21 RX1) (by decide +kernel)) (by decide +kernel) (by decide) (by decide) (Nat.le_of_ble_eq_true rfl) (Nat.le_of_ble_eq_true rfl) (Nat.le_of_ble_eq_true rfl) dX6_init_24 (fun q_24 H hq_24 hP hS => ?_)
  refine W.widen (k := 3) (n := 17) (Nat.le_of_ble_eq_true rfl) (Nat.le_of_ble_eq_true rfl) ?_
  have f9_4 : (wU (wU (wU (wU w q_7 (.inl (E.2.1 4, 8, .inr (.inr (.inr (.inr (fun _ => none))))))) q0 (.inr (6, [.ref q_7, .null, .null, .null, .int 0, .int 0, .int 0, .int 0]))) q_15 (.inl (E.2.1 5, 3, .inr (.inr (.inr (.inr (fun _ => none))))))) q0 (.inr (6, [.ref q_7, .ref q_15, .null, .null, .int 0, .int 0, .int 0, .int 0]))) q0 = some (.inr (6, [.ref q_7, .ref q_15, .null, .null, .int 0, .int 0, .int 0, .int 0])) := (wU_s _ _ _)
  have f9_5 : (wU (wU (wU (wU (wU w q_7 (.inl (E.2.1 4, 8, .inr (.inr (.inr (.inr (fun _ => none))))))) q0 (.inr (6, [.ref q_7, .null, .null, .null, .int 0, .int 0, .int 0, .int 0]))) q_15 (.inl (E.2.1 5, 3, .inr (.inr (.inr (.inr (fun _ => none))))))) q0 (.inr (6, [.ref q_7, .ref q_15, .null, .null, .int 0, .int 0, .int 0, .int 0]))) q_24 (.inl (E.2.1 6, 6, .inr (.inr (.inr (.inr (fun _ => none))))))) q0 = some (.inr (6, [.ref q_7, .ref q_15, .null, .null, .int 0, .int 0, .int 0, .int 0])) := (wU_n _ _ (wne_f hq_24 f9_4)).trans f9_4
  refine wl_putF (T := TX6) (ty0 := tyX6) (fs2 := [.ref q_7, .ref q_15, .ref q_24, .null, .int 0, .int 0, .int 0, .int 0]) C0 hin hP hS f9_5 hi_RX6 tyX6_ok nmX6 rfl 2 (by decide) hf_23 rfl rfl rfl rfl rfl (Nat.le_of_ble_eq_true rfl) rfl dX6_init_27 (fun H locs hP hS => ?_)
  refine lv_aload_n hx hb dX6_init_30 rfl (lv_at hl 0 rfl) ?_
  refine wl_new (T := TX0) (N := 2) (fs := [.null, .int 0]) (ci := 0) C0 hP hS hi_RX0 tyX0_ok rfl (hts (.classLink RX6 27 RX0) (by decide +kernel)) (hts (.instantiable RX0 2) (by decide +kernel)) (hts (.initialized RX0) (by decide +kernel)) (fun j hj => by rcases (show j = 0 ∨ j = 1 by omega) with rfl | rfl <;> rfl) (Nat.le_of_ble_eq_true rfl) (Nat.le_of_ble_eq_true rfl) dX6_init_31 (fun q_31 H hq_31 hP hS => ?_)
  refine W.widen (k := 4) (n := 19) (Nat.le_of_ble_eq_true rfl) (Nat.le_of_ble_eq_true rfl) ?_
  refine lv_dup hx hb dX6_init_34 rfl ?_
  have f9_6 : (wU (wU (wU (wU (wU (wU (wU w q_7 (.inl (E.2.1 4, 8, .inr (.inr (.inr (.inr (fun _ => none))))))) q0 (.inr (6, [.ref q_7, .null, .null, .null, .int 0, .int 0, .int 0, .int 0]))) q_15 (.inl (E.2.1 5, 3, .inr (.inr (.inr (.inr (fun _ => none))))))) q0 (.inr (6, [.ref q_7, .ref q_15, .null, .null, .int 0, .int 0, .int 0, .int 0]))) q_24 (.inl (E.2.1 6, 6, .inr (.inr (.inr (.inr (fun _ => none))))))) q0 (.inr (6, [.ref q_7, .ref q_15, .ref q_24, .null, .int 0, .int 0, .int 0, .int 0]))) q_31 (.inr (0, [.null, .int 0]))) q_31 = some (.inr (0, [.null, .int 0])) := (wU_s _ _ _)
  refine wl_on C0 ht hP hS (wl_runIN (host := "CallGateway") (As := []) (rest := [.ref q_31, .ref q0]) C0 hP hS (k_X0_init l hst E (wU (wU (wU (wU (wU (wU (wU w q_7 (.inl (E.2.1 4, 8, .inr (.inr (.inr (.inr (fun _ => none))))))) q0 (.inr (6, [.ref q_7, .null, .null, .null, .int 0, .int 0, .int 0, .int 0]))) q_15 (.inl (E.2.1 5, 3, .inr (.inr (.inr (.inr (fun _ => none))))))) q0 (.inr (6, [.ref q_7, .ref q_15, .null, .null, .int 0, .int 0, .int 0, .int 0]))) q_24 (.inl (E.2.1 6, 6, .inr (.inr (.inr (.inr (fun _ => none))))))) q0 (.inr (6, [.ref q_7, .ref q_15, .ref q_24, .null, .int 0, .int 0, .int 0, .int 0]))) q_31 (.inr (0, [.null, .int 0]))) H.size q_31 f9_6) ⟨va_cnB 0 hts gX6_init_X0_init_n29 rfl rfl rfl (C0.2.2.2.2.2.2.2.1.1 _ (by decide +kernel)) (hts _ (by decide +kernel)) (by decide +kernel) ⟨(Nat.le_of_ble_eq_true rfl), (Nat.le_of_ble_eq_true rfl)⟩, rfl, hts _ (by decide +kernel)⟩ rfl rfl hl.1 (Nat.le_of_ble_eq_true rfl) dX6_init_35 ⟨(Nat.le_of_ble_eq_true rfl), (Nat.le_of_ble_eq_true rfl)⟩) (Nat.le_of_ble_eq_true rfl) (Nat.le_of_ble_eq_true rfl) (fun _ _ h => h.elim) (fun v_35 w_35 H locs hq hP hS => ?_)
  obtain ⟨rfl, qe, hqe, hw9⟩ := hq
  rw [hw9] at hP
  have f9_7 : (wU (wU (wU (wU (wU (wU (wU (wU w q_7 (.inl (E.2.1 4, 8, .inr (.inr (.inr (.inr (fun _ => none))))))) q0 (.inr (6, [.ref q_7, .null, .null, .null, .int 0, .int 0, .int 0, .int 0]))) q_15 (.inl (E.2.1 5, 3, .inr (.inr (.inr (.inr (fun _ => none))))))) q0 (.inr (6, [.ref q_7, .ref q_15, .null, .null, .int 0, .int 0, .int 0, .int 0]))) q_24 (.inl (E.2.1 6, 6, .inr (.inr (.inr (.inr (fun _ => none))))))) q0 (.inr (6, [.ref q_7, .ref q_15, .ref q_24, .null, .int 0, .int 0, .int 0, .int 0]))) q_31 (.inr (0, [.null, .int 0]))) qe (.inl (E.2.1 7, 512, .inr (.inr (.inr (.inr (fun _ => none))))))) q_31 = some (.inr (0, [.null, .int 0])) := (wU_n _ _ (wne_f hqe f9_6)).trans f9_6
  refine W.eq (g2 := F0 m 38 ls [.ref q_31, .ref q0]) rfl ?_
  refine W.widen (k := 5) (n := 531) (Nat.le_of_ble_eq_true rfl) (Nat.le_of_ble_eq_true rfl) ?_
  have f9_8 : (wU (wU (wU (wU (wU (wU w q_7 (.inl (E.2.1 4, 8, .inr (.inr (.inr (.inr (fun _ => none))))))) q0 (.inr (6, [.ref q_7, .null, .null, .null, .int 0, .int 0, .int 0, .int 0]))) q_15 (.inl (E.2.1 5, 3, .inr (.inr (.inr (.inr (fun _ => none))))))) q0 (.inr (6, [.ref q_7, .ref q_15, .null, .null, .int 0, .int 0, .int 0, .int 0]))) q_24 (.inl (E.2.1 6, 6, .inr (.inr (.inr (.inr (fun _ => none))))))) q0 (.inr (6, [.ref q_7, .ref q_15, .ref q_24, .null, .int 0, .int 0, .int 0, .int 0]))) q0 = some (.inr (6, [.ref q_7, .ref q_15, .ref q_24, .null, .int 0, .int 0, .int 0, .int 0])) := (wU_s _ _ _)
  have f9_9 : (wU (wU (wU (wU (wU (wU (wU w q_7 (.inl (E.2.1 4, 8, .inr (.inr (.inr (.inr (fun _ => none))))))) q0 (.inr (6, [.ref q_7, .null, .null, .null, .int 0, .int 0, .int 0, .int 0]))) q_15 (.inl (E.2.1 5, 3, .inr (.inr (.inr (.inr (fun _ => none))))))) q0 (.inr (6, [.ref q_7, .ref q_15, .null, .null, .int 0, .int 0, .int 0, .int 0]))) q_24 (.inl (E.2.1 6, 6, .inr (.inr (.inr (.inr (fun _ => none))))))) q0 (.inr (6, [.ref q_7, .ref q_15, .ref q_24, .null, .int 0, .int 0, .int 0, .int 0]))) q_31 (.inr (0, [.null, .int 0]))) q0 = some (.inr (6, [.ref q_7, .ref q_15, .ref q_24, .null, .int 0, .int 0, .int 0, .int 0])) := (wU_n _ _ (wne_f hq_31 f9_8)).trans f9_8
  have f9_10 : (wU (wU (wU (wU (wU (wU (wU (wU w q_7 (.inl (E.2.1 4, 8, .inr (.inr (.inr (.inr (fun _ => none))))))) q0 (.inr (6, [.ref q_7, .null, .null, .null, .int 0, .int 0, .int 0, .int 0]))) q_15 (.inl (E.2.1 5, 3, .inr (.inr (.inr (.inr (fun _ => none))))))) q0 (.inr (6, [.ref q_7, .ref q_15, .null, .null, .int 0, .int 0, .int 0, .int 0]))) q_24 (.inl (E.2.1 6, 6, .inr (.inr (.inr (.inr (fun _ => none))))))) q0 (.inr (6, [.ref q_7, .ref q_15, .ref q_24, .null, .int 0, .int 0, .int 0, .int 0]))) q_31 (.inr (0, [.null, .int 0]))) qe (.inl (E.2.1 7, 512, .inr (.inr (.inr (.inr (fun _ => none))))))) q0 = some (.inr (6, [.ref q_7, .ref q_15, .ref q_24, .null, .int 0, .int 0, .int 0, .int 0])) := (wU_n _ _ (wne_f hqe f9_9)).trans f9_9
  have f9_11 : (wU (wU (wU (wU (wU (wU (wU (wU (wU w q_7 (.inl (E.2.1 4, 8, .inr (.inr (.inr (.inr (fun _ => none))))))) q0 (.inr (6, [.ref q_7, .null, .null, .null, .int 0, .int 0, .int 0, .int 0]))) q_15 (.inl (E.2.1 5, 3, .inr (.inr (.inr (.inr (fun _ => none))))))) q0 (.inr (6, [.ref q_7, .ref q_15, .null, .null, .int 0, .int 0, .int 0, .int 0]))) q_24 (.inl (E.2.1 6, 6, .inr (.inr (.inr (.inr (fun _ => none))))))) q0 (.inr (6, [.ref q_7, .ref q_15, .ref q_24, .null, .int 0, .int 0, .int 0, .int 0]))) q_31 (.inr (0, [.null, .int 0]))) qe (.inl (E.2.1 7, 512, .inr (.inr (.inr (.inr (fun _ => none))))))) q_31 (.inr (0, [.ref qe, .int 0]))) q0 = some (.inr (6, [.ref q_7, .ref q_15, .ref q_24, .null, .int 0, .int 0, .int 0, .int 0])) := (wU_n _ _ (wne f9_10 f9_7 (Nat.ne_of_beq_eq_false rfl))).trans f9_10
  refine wl_putF (T := TX6) (ty0 := tyX6) (fs2 := [.ref q_7, .ref q_15, .ref q_24, .ref q_31, .int 0, .int 0, .int 0, .int 0]) C0 hin hP hS f9_11 hi_RX6 tyX6_ok nmX6 rfl 3 (by decide) hf_30 rfl rfl rfl rfl rfl (Nat.le_of_ble_eq_true rfl) rfl dX6_init_38 (fun H locs hP hS => ?_)
  have f9_12 : (wU (wU (wU (wU (wU (wU (wU (wU (wU (wU w q_7 (.inl (E.2.1 4, 8, .inr (.inr (.inr (.inr (fun _ => none))))))) q0 (.inr (6, [.ref q_7, .null, .null, .null, .int 0, .int 0, .int 0, .int 0]))) q_15 (.inl (E.2.1 5, 3, .inr (.inr (.inr (.inr (fun _ => none))))))) q0 (.inr (6, [.ref q_7, .ref q_15, .null, .null, .int 0, .int 0, .int 0, .int 0]))) q_24 (.inl (E.2.1 6, 6, .inr (.inr (.inr (.inr (fun _ => none))))))) q0 (.inr (6, [.ref q_7, .ref q_15, .ref q_24, .null, .int 0, .int 0, .int 0, .int 0]))) q_31 (.inr (0, [.null, .int 0]))) qe (.inl (E.2.1 7, 512, .inr (.inr (.inr (.inr (fun _ => none))))))) q_31 (.inr (0, [.ref qe, .int 0]))) q0 (.inr (6, [.ref q_7, .ref q_15, .ref q_24, .ref q_31, .int 0, .int 0, .int 0, .int 0]))) q0 = some (.inr (6, [.ref q_7, .ref q_15, .ref q_24, .ref q_31, .int 0, .int 0, .int 0, .int 0])) := (wU_s _ _ _)
  have f9_13 : (wU w q_7 (.inl (E.2.1 4, 8, .inr (.inr (.inr (.inr (fun _ => none))))))) q_7 = some (.inl (E.2.1 4, 8, .inr (.inr (.inr (.inr (fun _ => none)))))) := (wU_s _ _ _)
  have f9_14 : (wU (wU w q_7 (.inl (E.2.1 4, 8, .inr (.inr (.inr (.inr (fun _ => none))))))) q0 (.inr (6, [.ref q_7, .null, .null, .null, .int 0, .int 0, .int 0, .int 0]))) q_7 = some (.inl (E.2.1 4, 8, .inr (.inr (.inr (.inr (fun _ => none)))))) := (wU_n _ _ (wne f9_13 f9_1 (Nat.ne_of_beq_eq_false rfl))).trans f9_13
  have f9_15 : (wU (wU (wU w q_7 (.inl (E.2.1 4, 8, .inr (.inr (.inr (.inr (fun _ => none))))))) q0 (.inr (6, [.ref q_7, .null, .null, .null, .int 0, .int 0, .int 0, .int 0]))) q_15 (.inl (E.2.1 5, 3, .inr (.inr (.inr (.inr (fun _ => none))))))) q_7 = some (.inl (E.2.1 4, 8, .inr (.inr (.inr (.inr (fun _ => none)))))) := (wU_n _ _ (wne_f hq_15 f9_14)).trans f9_14
  have f9_16 : (wU (wU (wU (wU w q_7 (.inl (E.2.1 4, 8, .inr (.inr (.inr (.inr (fun _ => none))))))) q0 (.inr (6, [.ref q_7, .null, .null, .null, .int 0, .int 0, .int 0, .int 0]))) q_15 (.inl (E.2.1 5, 3, .inr (.inr (.inr (.inr (fun _ => none))))))) q0 (.inr (6, [.ref q_7, .ref q_15, .null, .null, .int 0, .int 0, .int 0, .int 0]))) q_7 = some (.inl (E.2.1 4, 8, .inr (.inr (.inr (.inr (fun _ => none)))))) := (wU_n _ _ (wne f9_15 f9_3 (Nat.ne_of_beq_eq_false rfl))).trans f9_15
  have f9_17 : (wU (wU (wU (wU (wU w q_7 (.inl (E.2.1 4, 8, .inr (.inr (.inr (.inr (fun _ => none))))))) q0 (.inr (6, [.ref q_7, .null, .null, .null, .int 0, .int 0, .int 0, .int 0]))) q_15 (.inl (E.2.1 5, 3, .inr (.inr (.inr (.inr (fun _ => none))))))) q0 (.inr (6, [.ref q_7, .ref q_15, .null, .null, .int 0, .int 0, .int 0, .int 0]))) q_24 (.inl (E.2.1 6, 6, .inr (.inr (.inr (.inr (fun _ => none))))))) q_7 = some (.inl (E.2.1 4, 8, .inr (.inr (.inr (.inr (fun _ => none)))))) := (wU_n _ _ (wne_f hq_24 f9_16)).trans f9_16
  have f9_18 : (wU (wU (wU (wU (wU (wU w q_7 (.inl (E.2.1 4, 8, .inr (.inr (.inr (.inr (fun _ => none))))))) q0 (.inr (6, [.ref q_7, .null, .null, .null, .int 0, .int 0, .int 0, .int 0]))) q_15 (.inl (E.2.1 5, 3, .inr (.inr (.inr (.inr (fun _ => none))))))) q0 (.inr (6, [.ref q_7, .ref q_15, .null, .null, .int 0, .int 0, .int 0, .int 0]))) q_24 (.inl (E.2.1 6, 6, .inr (.inr (.inr (.inr (fun _ => none))))))) q0 (.inr (6, [.ref q_7, .ref q_15, .ref q_24, .null, .int 0, .int 0, .int 0, .int 0]))) q_7 = some (.inl (E.2.1 4, 8, .inr (.inr (.inr (.inr (fun _ => none)))))) := (wU_n _ _ (wne f9_17 f9_5 (Nat.ne_of_beq_eq_false rfl))).trans f9_17
  have f9_19 : (wU (wU (wU (wU (wU (wU (wU w q_7 (.inl (E.2.1 4, 8, .inr (.inr (.inr (.inr (fun _ => none))))))) q0 (.inr (6, [.ref q_7, .null, .null, .null, .int 0, .int 0, .int 0, .int 0]))) q_15 (.inl (E.2.1 5, 3, .inr (.inr (.inr (.inr (fun _ => none))))))) q0 (.inr (6, [.ref q_7, .ref q_15, .null, .null, .int 0, .int 0, .int 0, .int 0]))) q_24 (.inl (E.2.1 6, 6, .inr (.inr (.inr (.inr (fun _ => none))))))) q0 (.inr (6, [.ref q_7, .ref q_15, .ref q_24, .null, .int 0, .int 0, .int 0, .int 0]))) q_31 (.inr (0, [.null, .int 0]))) q_7 = some (.inl (E.2.1 4, 8, .inr (.inr (.inr (.inr (fun _ => none)))))) := (wU_n _ _ (wne_f hq_31 f9_18)).trans f9_18
  have f9_20 : (wU (wU (wU (wU (wU (wU (wU (wU w q_7 (.inl (E.2.1 4, 8, .inr (.inr (.inr (.inr (fun _ => none))))))) q0 (.inr (6, [.ref q_7, .null, .null, .null, .int 0, .int 0, .int 0, .int 0]))) q_15 (.inl (E.2.1 5, 3, .inr (.inr (.inr (.inr (fun _ => none))))))) q0 (.inr (6, [.ref q_7, .ref q_15, .null, .null, .int 0, .int 0, .int 0, .int 0]))) q_24 (.inl (E.2.1 6, 6, .inr (.inr (.inr (.inr (fun _ => none))))))) q0 (.inr (6, [.ref q_7, .ref q_15, .ref q_24, .null, .int 0, .int 0, .int 0, .int 0]))) q_31 (.inr (0, [.null, .int 0]))) qe (.inl (E.2.1 7, 512, .inr (.inr (.inr (.inr (fun _ => none))))))) q_7 = some (.inl (E.2.1 4, 8, .inr (.inr (.inr (.inr (fun _ => none)))))) := (wU_n _ _ (wne_f hqe f9_19)).trans f9_19
  have f9_21 : (wU (wU (wU (wU (wU (wU (wU (wU (wU w q_7 (.inl (E.2.1 4, 8, .inr (.inr (.inr (.inr (fun _ => none))))))) q0 (.inr (6, [.ref q_7, .null, .null, .null, .int 0, .int 0, .int 0, .int 0]))) q_15 (.inl (E.2.1 5, 3, .inr (.inr (.inr (.inr (fun _ => none))))))) q0 (.inr (6, [.ref q_7, .ref q_15, .null, .null, .int 0, .int 0, .int 0, .int 0]))) q_24 (.inl (E.2.1 6, 6, .inr (.inr (.inr (.inr (fun _ => none))))))) q0 (.inr (6, [.ref q_7, .ref q_15, .ref q_24, .null, .int 0, .int 0, .int 0, .int 0]))) q_31 (.inr (0, [.null, .int 0]))) qe (.inl (E.2.1 7, 512, .inr (.inr (.inr (.inr (fun _ => none))))))) q_31 (.inr (0, [.ref qe, .int 0]))) q_7 = some (.inl (E.2.1 4, 8, .inr (.inr (.inr (.inr (fun _ => none)))))) := (wU_n _ _ (wne f9_20 f9_7 (Nat.ne_of_beq_eq_false rfl))).trans f9_20
  have f9_22 : (wU (wU (wU (wU (wU (wU (wU (wU (wU (wU w q_7 (.inl (E.2.1 4, 8, .inr (.inr (.inr (.inr (fun _ => none))))))) q0 (.inr (6, [.ref q_7, .null, .null, .null, .int 0, .int 0, .int 0, .int 0]))) q_15 (.inl (E.2.1 5, 3, .inr (.inr (.inr (.inr (fun _ => none))))))) q0 (.inr (6, [.ref q_7, .ref q_15, .null, .null, .int 0, .int 0, .int 0, .int 0]))) q_24 (.inl (E.2.1 6, 6, .inr (.inr (.inr (.inr (fun _ => none))))))) q0 (.inr (6, [.ref q_7, .ref q_15, .ref q_24, .null, .int 0, .int 0, .int 0, .int 0]))) q_31 (.inr (0, [.null, .int 0]))) qe (.inl (E.2.1 7, 512, .inr (.inr (.inr (.inr (fun _ => none))))))) q_31 (.inr (0, [.ref qe, .int 0]))) q0 (.inr (6, [.ref q_7, .ref q_15, .ref q_24, .ref q_31, .int 0, .int 0, .int 0, .int 0]))) q_7 = some (.inl (E.2.1 4, 8, .inr (.inr (.inr (.inr (fun _ => none)))))) := (wU_n _ _ (wne f9_21 f9_11 (Nat.ne_of_beq_eq_false rfl))).trans f9_21
  have f9_23 : (wU (wU (wU w q_7 (.inl (E.2.1 4, 8, .inr (.inr (.inr (.inr (fun _ => none))))))) q0 (.inr (6, [.ref q_7, .null, .null, .null, .int 0, .int 0, .int 0, .int 0]))) q_15 (.inl (E.2.1 5, 3, .inr (.inr (.inr (.inr (fun _ => none))))))) q_15 = some (.inl (E.2.1 5, 3, .inr (.inr (.inr (.inr (fun _ => none)))))) := (wU_s _ _ _)
  have f9_24 : (wU (wU (wU (wU w q_7 (.inl (E.2.1 4, 8, .inr (.inr (.inr (.inr (fun _ => none))))))) q0 (.inr (6, [.ref q_7, .null, .null, .null, .int 0, .int 0, .int 0, .int 0]))) q_15 (.inl (E.2.1 5, 3, .inr (.inr (.inr (.inr (fun _ => none))))))) q0 (.inr (6, [.ref q_7, .ref q_15, .null, .null, .int 0, .int 0, .int 0, .int 0]))) q_15 = some (.inl (E.2.1 5, 3, .inr (.inr (.inr (.inr (fun _ => none)))))) := (wU_n _ _ (wne f9_23 f9_3 (Nat.ne_of_beq_eq_false rfl))).trans f9_23
  have f9_25 : (wU (wU (wU (wU (wU w q_7 (.inl (E.2.1 4, 8, .inr (.inr (.inr (.inr (fun _ => none))))))) q0 (.inr (6, [.ref q_7, .null, .null, .null, .int 0, .int 0, .int 0, .int 0]))) q_15 (.inl (E.2.1 5, 3, .inr (.inr (.inr (.inr (fun _ => none))))))) q0 (.inr (6, [.ref q_7, .ref q_15, .null, .null, .int 0, .int 0, .int 0, .int 0]))) q_24 (.inl (E.2.1 6, 6, .inr (.inr (.inr (.inr (fun _ => none))))))) q_15 = some (.inl (E.2.1 5, 3, .inr (.inr (.inr (.inr (fun _ => none)))))) := (wU_n _ _ (wne_f hq_24 f9_24)).trans f9_24
  have f9_26 : (wU (wU (wU (wU (wU (wU w q_7 (.inl (E.2.1 4, 8, .inr (.inr (.inr (.inr (fun _ => none))))))) q0 (.inr (6, [.ref q_7, .null, .null, .null, .int 0, .int 0, .int 0, .int 0]))) q_15 (.inl (E.2.1 5, 3, .inr (.inr (.inr (.inr (fun _ => none))))))) q0 (.inr (6, [.ref q_7, .ref q_15, .null, .null, .int 0, .int 0, .int 0, .int 0]))) q_24 (.inl (E.2.1 6, 6, .inr (.inr (.inr (.inr (fun _ => none))))))) q0 (.inr (6, [.ref q_7, .ref q_15, .ref q_24, .null, .int 0, .int 0, .int 0, .int 0]))) q_15 = some (.inl (E.2.1 5, 3, .inr (.inr (.inr (.inr (fun _ => none)))))) := (wU_n _ _ (wne f9_25 f9_5 (Nat.ne_of_beq_eq_false rfl))).trans f9_25
  have f9_27 : (wU (wU (wU (wU (wU (wU (wU w q_7 (.inl (E.2.1 4, 8, .inr (.inr (.inr (.inr (fun _ => none))))))) q0 (.inr (6, [.ref q_7, .null, .null, .null, .int 0, .int 0, .int 0, .int 0]))) q_15 (.inl (E.2.1 5, 3, .inr (.inr (.inr (.inr (fun _ => none))))))) q0 (.inr (6, [.ref q_7, .ref q_15, .null, .null, .int 0, .int 0, .int 0, .int 0]))) q_24 (.inl (E.2.1 6, 6, .inr (.inr (.inr (.inr (fun _ => none))))))) q0 (.inr (6, [.ref q_7, .ref q_15, .ref q_24, .null, .int 0, .int 0, .int 0, .int 0]))) q_31 (.inr (0, [.null, .int 0]))) q_15 = some (.inl (E.2.1 5, 3, .inr (.inr (.inr (.inr (fun _ => none)))))) := (wU_n _ _ (wne_f hq_31 f9_26)).trans f9_26
  have f9_28 : (wU (wU (wU (wU (wU (wU (wU (wU w q_7 (.inl (E.2.1 4, 8, .inr (.inr (.inr (.inr (fun _ => none))))))) q0 (.inr (6, [.ref q_7, .null, .null, .null, .int 0, .int 0, .int 0, .int 0]))) q_15 (.inl (E.2.1 5, 3, .inr (.inr (.inr (.inr (fun _ => none))))))) q0 (.inr (6, [.ref q_7, .ref q_15, .null, .null, .int 0, .int 0, .int 0, .int 0]))) q_24 (.inl (E.2.1 6, 6, .inr (.inr (.inr (.inr (fun _ => none))))))) q0 (.inr (6, [.ref q_7, .ref q_15, .ref q_24, .null, .int 0, .int 0, .int 0, .int 0]))) q_31 (.inr (0, [.null, .int 0]))) qe (.inl (E.2.1 7, 512, .inr (.inr (.inr (.inr (fun _ => none))))))) q_15 = some (.inl (E.2.1 5, 3, .inr (.inr (.inr (.inr (fun _ => none)))))) := (wU_n _ _ (wne_f hqe f9_27)).trans f9_27
  have f9_29 : (wU (wU (wU (wU (wU (wU (wU (wU (wU w q_7 (.inl (E.2.1 4, 8, .inr (.inr (.inr (.inr (fun _ => none))))))) q0 (.inr (6, [.ref q_7, .null, .null, .null, .int 0, .int 0, .int 0, .int 0]))) q_15 (.inl (E.2.1 5, 3, .inr (.inr (.inr (.inr (fun _ => none))))))) q0 (.inr (6, [.ref q_7, .ref q_15, .null, .null, .int 0, .int 0, .int 0, .int 0]))) q_24 (.inl (E.2.1 6, 6, .inr (.inr (.inr (.inr (fun _ => none))))))) q0 (.inr (6, [.ref q_7, .ref q_15, .ref q_24, .null, .int 0, .int 0, .int 0, .int 0]))) q_31 (.inr (0, [.null, .int 0]))) qe (.inl (E.2.1 7, 512, .inr (.inr (.inr (.inr (fun _ => none))))))) q_31 (.inr (0, [.ref qe, .int 0]))) q_15 = some (.inl (E.2.1 5, 3, .inr (.inr (.inr (.inr (fun _ => none)))))) := (wU_n _ _ (wne f9_28 f9_7 (Nat.ne_of_beq_eq_false rfl))).trans f9_28
  have f9_30 : (wU (wU (wU (wU (wU (wU (wU (wU (wU (wU w q_7 (.inl (E.2.1 4, 8, .inr (.inr (.inr (.inr (fun _ => none))))))) q0 (.inr (6, [.ref q_7, .null, .null, .null, .int 0, .int 0, .int 0, .int 0]))) q_15 (.inl (E.2.1 5, 3, .inr (.inr (.inr (.inr (fun _ => none))))))) q0 (.inr (6, [.ref q_7, .ref q_15, .null, .null, .int 0, .int 0, .int 0, .int 0]))) q_24 (.inl (E.2.1 6, 6, .inr (.inr (.inr (.inr (fun _ => none))))))) q0 (.inr (6, [.ref q_7, .ref q_15, .ref q_24, .null, .int 0, .int 0, .int 0, .int 0]))) q_31 (.inr (0, [.null, .int 0]))) qe (.inl (E.2.1 7, 512, .inr (.inr (.inr (.inr (fun _ => none))))))) q_31 (.inr (0, [.ref qe, .int 0]))) q0 (.inr (6, [.ref q_7, .ref q_15, .ref q_24, .ref q_31, .int 0, .int 0, .int 0, .int 0]))) q_15 = some (.inl (E.2.1 5, 3, .inr (.inr (.inr (.inr (fun _ => none)))))) := (wU_n _ _ (wne f9_29 f9_11 (Nat.ne_of_beq_eq_false rfl))).trans f9_29
  have f9_31 : (wU (wU (wU (wU (wU w q_7 (.inl (E.2.1 4, 8, .inr (.inr (.inr (.inr (fun _ => none))))))) q0 (.inr (6, [.ref q_7, .null, .null, .null, .int 0, .int 0, .int 0, .int 0]))) q_15 (.inl (E.2.1 5, 3, .inr (.inr (.inr (.inr (fun _ => none))))))) q0 (.inr (6, [.ref q_7, .ref q_15, .null, .null, .int 0, .int 0, .int 0, .int 0]))) q_24 (.inl (E.2.1 6, 6, .inr (.inr (.inr (.inr (fun _ => none))))))) q_24 = some (.inl (E.2.1 6, 6, .inr (.inr (.inr (.inr (fun _ => none)))))) := (wU_s _ _ _)
  have f9_32 : (wU (wU (wU (wU (wU (wU w q_7 (.inl (E.2.1 4, 8, .inr (.inr (.inr (.inr (fun _ => none))))))) q0 (.inr (6, [.ref q_7, .null, .null, .null, .int 0, .int 0, .int 0, .int 0]))) q_15 (.inl (E.2.1 5, 3, .inr (.inr (.inr (.inr (fun _ => none))))))) q0 (.inr (6, [.ref q_7, .ref q_15, .null, .null, .int 0, .int 0, .int 0, .int 0]))) q_24 (.inl (E.2.1 6, 6, .inr (.inr (.inr (.inr (fun _ => none))))))) q0 (.inr (6, [.ref q_7, .ref q_15, .ref q_24, .null, .int 0, .int 0, .int 0, .int 0]))) q_24 = some (.inl (E.2.1 6, 6, .inr (.inr (.inr (.inr (fun _ => none)))))) := (wU_n _ _ (wne f9_31 f9_5 (Nat.ne_of_beq_eq_false rfl))).trans f9_31
  have f9_33 : (wU (wU (wU (wU (wU (wU (wU w q_7 (.inl (E.2.1 4, 8, .inr (.inr (.inr (.inr (fun _ => none))))))) q0 (.inr (6, [.ref q_7, .null, .null, .null, .int 0, .int 0, .int 0, .int 0]))) q_15 (.inl (E.2.1 5, 3, .inr (.inr (.inr (.inr (fun _ => none))))))) q0 (.inr (6, [.ref q_7, .ref q_15, .null, .null, .int 0, .int 0, .int 0, .int 0]))) q_24 (.inl (E.2.1 6, 6, .inr (.inr (.inr (.inr (fun _ => none))))))) q0 (.inr (6, [.ref q_7, .ref q_15, .ref q_24, .null, .int 0, .int 0, .int 0, .int 0]))) q_31 (.inr (0, [.null, .int 0]))) q_24 = some (.inl (E.2.1 6, 6, .inr (.inr (.inr (.inr (fun _ => none)))))) := (wU_n _ _ (wne_f hq_31 f9_32)).trans f9_32
  have f9_34 : (wU (wU (wU (wU (wU (wU (wU (wU w q_7 (.inl (E.2.1 4, 8, .inr (.inr (.inr (.inr (fun _ => none))))))) q0 (.inr (6, [.ref q_7, .null, .null, .null, .int 0, .int 0, .int 0, .int 0]))) q_15 (.inl (E.2.1 5, 3, .inr (.inr (.inr (.inr (fun _ => none))))))) q0 (.inr (6, [.ref q_7, .ref q_15, .null, .null, .int 0, .int 0, .int 0, .int 0]))) q_24 (.inl (E.2.1 6, 6, .inr (.inr (.inr (.inr (fun _ => none))))))) q0 (.inr (6, [.ref q_7, .ref q_15, .ref q_24, .null, .int 0, .int 0, .int 0, .int 0]))) q_31 (.inr (0, [.null, .int 0]))) qe (.inl (E.2.1 7, 512, .inr (.inr (.inr (.inr (fun _ => none))))))) q_24 = some (.inl (E.2.1 6, 6, .inr (.inr (.inr (.inr (fun _ => none)))))) := (wU_n _ _ (wne_f hqe f9_33)).trans f9_33
  have f9_35 : (wU (wU (wU (wU (wU (wU (wU (wU (wU w q_7 (.inl (E.2.1 4, 8, .inr (.inr (.inr (.inr (fun _ => none))))))) q0 (.inr (6, [.ref q_7, .null, .null, .null, .int 0, .int 0, .int 0, .int 0]))) q_15 (.inl (E.2.1 5, 3, .inr (.inr (.inr (.inr (fun _ => none))))))) q0 (.inr (6, [.ref q_7, .ref q_15, .null, .null, .int 0, .int 0, .int 0, .int 0]))) q_24 (.inl (E.2.1 6, 6, .inr (.inr (.inr (.inr (fun _ => none))))))) q0 (.inr (6, [.ref q_7, .ref q_15, .ref q_24, .null, .int 0, .int 0, .int 0, .int 0]))) q_31 (.inr (0, [.null, .int 0]))) qe (.inl (E.2.1 7, 512, .inr (.inr (.inr (.inr (fun _ => none))))))) q_31 (.inr (0, [.ref qe, .int 0]))) q_24 = some (.inl (E.2.1 6, 6, .inr (.inr (.inr (.inr (fun _ => none)))))) := (wU_n _ _ (wne f9_34 f9_7 (Nat.ne_of_beq_eq_false rfl))).trans f9_34
  have f9_36 : (wU (wU (wU (wU (wU (wU (wU (wU (wU (wU w q_7 (.inl (E.2.1 4, 8, .inr (.inr (.inr (.inr (fun _ => none))))))) q0 (.inr (6, [.ref q_7, .null, .null, .null, .int 0, .int 0, .int 0, .int 0]))) q_15 (.inl (E.2.1 5, 3, .inr (.inr (.inr (.inr (fun _ => none))))))) q0 (.inr (6, [.ref q_7, .ref q_15, .null, .null, .int 0, .int 0, .int 0, .int 0]))) q_24 (.inl (E.2.1 6, 6, .inr (.inr (.inr (.inr (fun _ => none))))))) q0 (.inr (6, [.ref q_7, .ref q_15, .ref q_24, .null, .int 0, .int 0, .int 0, .int 0]))) q_31 (.inr (0, [.null, .int 0]))) qe (.inl (E.2.1 7, 512, .inr (.inr (.inr (.inr (fun _ => none))))))) q_31 (.inr (0, [.ref qe, .int 0]))) q0 (.inr (6, [.ref q_7, .ref q_15, .ref q_24, .ref q_31, .int 0, .int 0, .int 0, .int 0]))) q_24 = some (.inl (E.2.1 6, 6, .inr (.inr (.inr (.inr (fun _ => none)))))) := (wU_n _ _ (wne f9_35 f9_11 (Nat.ne_of_beq_eq_false rfl))).trans f9_35
  have f9_37 : (wU (wU (wU (wU (wU (wU (wU (wU (wU w q_7 (.inl (E.2.1 4, 8, .inr (.inr (.inr (.inr (fun _ => none))))))) q0 (.inr (6, [.ref q_7, .null, .null, .null, .int 0, .int 0, .int 0, .int 0]))) q_15 (.inl (E.2.1 5, 3, .inr (.inr (.inr (.inr (fun _ => none))))))) q0 (.inr (6, [.ref q_7, .ref q_15, .null, .null, .int 0, .int 0, .int 0, .int 0]))) q_24 (.inl (E.2.1 6, 6, .inr (.inr (.inr (.inr (fun _ => none))))))) q0 (.inr (6, [.ref q_7, .ref q_15, .ref q_24, .null, .int 0, .int 0, .int 0, .int 0]))) q_31 (.inr (0, [.null, .int 0]))) qe (.inl (E.2.1 7, 512, .inr (.inr (.inr (.inr (fun _ => none))))))) q_31 (.inr (0, [.ref qe, .int 0]))) q_31 = some (.inr (0, [.ref qe, .int 0])) := (wU_s _ _ _)
  have f9_38 : (wU (wU (wU (wU (wU (wU (wU (wU (wU (wU w q_7 (.inl (E.2.1 4, 8, .inr (.inr (.inr (.inr (fun _ => none))))))) q0 (.inr (6, [.ref q_7, .null, .null, .null, .int 0, .int 0, .int 0, .int 0]))) q_15 (.inl (E.2.1 5, 3, .inr (.inr (.inr (.inr (fun _ => none))))))) q0 (.inr (6, [.ref q_7, .ref q_15, .null, .null, .int 0, .int 0, .int 0, .int 0]))) q_24 (.inl (E.2.1 6, 6, .inr (.inr (.inr (.inr (fun _ => none))))))) q0 (.inr (6, [.ref q_7, .ref q_15, .ref q_24, .null, .int 0, .int 0, .int 0, .int 0]))) q_31 (.inr (0, [.null, .int 0]))) qe (.inl (E.2.1 7, 512, .inr (.inr (.inr (.inr (fun _ => none))))))) q_31 (.inr (0, [.ref qe, .int 0]))) q0 (.inr (6, [.ref q_7, .ref q_15, .ref q_24, .ref q_31, .int 0, .int 0, .int 0, .int 0]))) q_31 = some (.inr (0, [.ref qe, .int 0])) := (wU_n _ _ (wne f9_37 f9_11 (Nat.ne_of_beq_eq_false rfl))).trans f9_37
  have f9_39 : (wU (wU (wU (wU (wU (wU (wU (wU w q_7 (.inl (E.2.1 4, 8, .inr (.inr (.inr (.inr (fun _ => none))))))) q0 (.inr (6, [.ref q_7, .null, .null, .null, .int 0, .int 0, .int 0, .int 0]))) q_15 (.inl (E.2.1 5, 3, .inr (.inr (.inr (.inr (fun _ => none))))))) q0 (.inr (6, [.ref q_7, .ref q_15, .null, .null, .int 0, .int 0, .int 0, .int 0]))) q_24 (.inl (E.2.1 6, 6, .inr (.inr (.inr (.inr (fun _ => none))))))) q0 (.inr (6, [.ref q_7, .ref q_15, .ref q_24, .null, .int 0, .int 0, .int 0, .int 0]))) q_31 (.inr (0, [.null, .int 0]))) qe (.inl (E.2.1 7, 512, .inr (.inr (.inr (.inr (fun _ => none))))))) qe = some (.inl (E.2.1 7, 512, .inr (.inr (.inr (.inr (fun _ => none)))))) := (wU_s _ _ _)
  have f9_40 : (wU (wU (wU (wU (wU (wU (wU (wU (wU w q_7 (.inl (E.2.1 4, 8, .inr (.inr (.inr (.inr (fun _ => none))))))) q0 (.inr (6, [.ref q_7, .null, .null, .null, .int 0, .int 0, .int 0, .int 0]))) q_15 (.inl (E.2.1 5, 3, .inr (.inr (.inr (.inr (fun _ => none))))))) q0 (.inr (6, [.ref q_7, .ref q_15, .null, .null, .int 0, .int 0, .int 0, .int 0]))) q_24 (.inl (E.2.1 6, 6, .inr (.inr (.inr (.inr (fun _ => none))))))) q0 (.inr (6, [.ref q_7, .ref q_15, .ref q_24, .null, .int 0, .int 0, .int 0, .int 0]))) q_31 (.inr (0, [.null, .int 0]))) qe (.inl (E.2.1 7, 512, .inr (.inr (.inr (.inr (fun _ => none))))))) q_31 (.inr (0, [.ref qe, .int 0]))) qe = some (.inl (E.2.1 7, 512, .inr (.inr (.inr (.inr (fun _ => none)))))) := (wU_n _ _ (wne f9_39 f9_7 (Nat.ne_of_beq_eq_false rfl))).trans f9_39
  have f9_41 : (wU (wU (wU (wU (wU (wU (wU (wU (wU (wU w q_7 (.inl (E.2.1 4, 8, .inr (.inr (.inr (.inr (fun _ => none))))))) q0 (.inr (6, [.ref q_7, .null, .null, .null, .int 0, .int 0, .int 0, .int 0]))) q_15 (.inl (E.2.1 5, 3, .inr (.inr (.inr (.inr (fun _ => none))))))) q0 (.inr (6, [.ref q_7, .ref q_15, .null, .null, .int 0, .int 0, .int 0, .int 0]))) q_24 (.inl (E.2.1 6, 6, .inr (.inr (.inr (.inr (fun _ => none))))))) q0 (.inr (6, [.ref q_7, .ref q_15, .ref q_24, .null, .int 0, .int 0, .int 0, .int 0]))) q_31 (.inr (0, [.null, .int 0]))) qe (.inl (E.2.1 7, 512, .inr (.inr (.inr (.inr (fun _ => none))))))) q_31 (.inr (0, [.ref qe, .int 0]))) q0 (.inr (6, [.ref q_7, .ref q_15, .ref q_24, .ref q_31, .int 0, .int 0, .int 0, .int 0]))) qe = some (.inl (E.2.1 7, 512, .inr (.inr (.inr (.inr (fun _ => none)))))) := (wU_n _ _ (wne f9_40 f9_11 (Nat.ne_of_beq_eq_false rfl))).trans f9_40
  exact wl_vret C0 hr hP hS dX6_init_41 (Nat.le_of_ble_eq_true rfl) (Nat.le_of_ble_eq_true rfl) (by
    refine ⟨rfl, fun a b => if b = 0 then q0 else if b = 1 then q_7 else if b = 2 then q_15 else if b = 3 then q_24 else if b = 4 then q_31 else qe, ?_, rfl, ?_⟩
    · refine ⟨(by have h := f9_12; simpa [F00, rfU_0, nI_0, e_x, e_q, e_log] using h), (by have h := f9_22; simpa [F00, rfU_0, nI_0, e_x, e_q, e_log] using h), (by have h := f9_30; simpa [F00, rfU_0, nI_0, e_x, e_q, e_log] using h), (by have h := f9_36; simpa [F00, rfU_0, nI_0, e_x, e_q, e_log] using h), (by have h := f9_38; simpa [F00, rfU_0, nI_0, e_x, e_q, e_log] using h), (by have h := f9_41; simpa [F00, rfU_0, nI_0, e_x, e_q, e_log] using h), ?_, ?_, ?_, ?_, ?_, ?_⟩ <;> first | (intro i hi; exact absurd hi (Nat.not_lt_zero _)) | (intro i j hi; exact absurd hi (Nat.not_lt_zero _))
    · exact (wKp.u (wKp.u (wKp.f (wKp.f (wKp.u (wKp.f (wKp.u (wKp.f (wKp.u (wKp.f wKp.rf hq_7) f9_1 rfl) hq_15) f9_3 rfl) hq_24) f9_5 rfl) hq_31) hqe) f9_7 rfl) f9_11 rfl))
