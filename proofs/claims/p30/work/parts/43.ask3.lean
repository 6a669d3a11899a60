set_option maxHeartbeats 4000000 in
set_option maxRecDepth 100000 in
theorem k_L_ask_ticksUntil (l : Launch) (hst : l.stackTraces = false) (E : wEn) (w : wW) (sz : Nat) (F : FF) (x N : Nat) (w0 : wW) (hI : wInv F N) (hz : zK E F x w0 w) (a1 b1 c1 d1 : Int32) : wMt l yL_ask wsL_ask 6 3 18 E w sz [.ref x, .int 16, .int a1, .int b1, .int c1, .int d1] (pZ E F x w0 (aE [-1001, -1005] (s_ticksUntil F a1 b1))) := by
  obtain ⟨⟨AD, hs, rfl⟩, hk0⟩ := hz
  refine wt_startH (own := RL) (cc := cL_ask) (maxL := 7) (ret := (some .int)) (hh := hhA) rfl (by decide) rfl (Nat.le_of_ble_eq_true rfl) ?_
  intro p e s m args below meth c ls C1 hr hT hP hS hl
  have C0 := C1.1
  have hx := C0.1
  have hb := C0.2.1
  have hts := C0.2.2.2.2.1
  have hl : lv_has ls 7 [(0, .ref (AD 5 0)), (1, .int 16), (2, .int a1), (3, .int b1), (4, .int c1), (5, .int d1)] := hl
  refine lv_iload_n hx hb dL_ask_0 rfl (lv_at hl 1 rfl) ?_
  refine lv_tableIn (tgt := 231) hx hb dL_ask_1 (by decide) (by decide) (off := 230) (by rfl) (by decide) ?_
  refine lv_aload_n hx hb dL_ask_231 rfl (lv_at hl 0 rfl) ?_
  refine lv_iload_n hx hb dL_ask_232 rfl (lv_at hl 2 rfl) ?_
  refine lv_iload_n hx hb dL_ask_233 rfl (lv_at hl 3 rfl) ?_
  refine wl_go (wl_runV (As := [.int a1, .int b1]) (rest := []) C0 hP hS (k_X6_ticksUntil l hst E w s.heap.size F AD N hI hs a1 b1) (cwV 2 hts gL_ask_X6_ticksUntil rfl rfl rfl (by decide +kernel) ⟨(Nat.le_of_ble_eq_true rfl), (Nat.le_of_ble_eq_true rfl)⟩) hs.x rfl rfl rfl hl.1 (Nat.le_of_ble_eq_true rfl) dL_ask_234 ⟨(Nat.le_of_ble_eq_true rfl), (Nat.le_of_ble_eq_true rfl)⟩) hS (wA_in hP hS C0.2.2.2.2.2.2.2.2 rfl) (fun X ce q9 w2 H locs hpx hP _ hS _ _ hce hcv hcl => ?_) (fun v w2 H locs hq hP _ hS _ _ => ?_)
  · obtain ⟨hw9, hx9⟩ := hpx
    rw [hw9] at hP
    have hix : ∀ q ∈ ixA, (Cond.classLink RL q.1 q.2).before args s = true := fun q hq => hts _ (ixA_in q hq)
    rcases hx9 with ⟨hk9, rfl⟩ | ⟨hk9, rfl⟩
    · refine wt_catch 16 (x := (231, 237, 294, 93)) C1 hT hix (by rfl) (by decide +kernel) (by decide) (by decide) (by decide +kernel) xc_IOB hce hcv hcl ?_
      refine W.eq (g2 := F0 m 294 ls [.ref q9]) rfl ?_
      refine W.widen (k := 3) (n := 18) (Nat.le_of_ble_eq_true rfl) (Nat.le_of_ble_eq_true rfl) ?_
      refine lv_astore (lv' := [(6, .ref q9), (0, .ref (AD 5 0)), (1, .int 16), (2, .int a1), (3, .int b1), (4, .int c1), (5, .int d1)]) hx hb dL_ask_294 hl (by decide) rfl (fun ls hl => ?_)
      refine lv_sipush (v := -1001) hx hb dL_ask_296 (by decide) ?_
      exact wl_iret C0 hr rfl hP hS dL_ask_299 (Nat.le_of_ble_eq_true rfl) (Nat.le_of_ble_eq_true rfl) (⟨by rw [aE_x (k := 0) (v := -1001) hk9 rfl], ⟨AD, hs, rfl⟩, hk0⟩)
    · refine wt_catch 112 (x := (231, 237, 318, 101)) C1 hT hix (by rfl) (by decide +kernel) (by decide) (by decide) (by decide +kernel) xc_NSE hce hcv hcl ?_
      refine W.eq (g2 := F0 m 318 ls [.ref q9]) rfl ?_
      refine W.widen (k := 3) (n := 18) (Nat.le_of_ble_eq_true rfl) (Nat.le_of_ble_eq_true rfl) ?_
      refine lv_astore (lv' := [(6, .ref q9), (0, .ref (AD 5 0)), (1, .int 16), (2, .int a1), (3, .int b1), (4, .int c1), (5, .int d1)]) hx hb dL_ask_318 hl (by decide) rfl (fun ls hl => ?_)
      refine lv_sipush (v := -1005) hx hb dL_ask_320 (by decide) ?_
      exact wl_iret C0 hr rfl hP hS dL_ask_323 (Nat.le_of_ble_eq_true rfl) (Nat.le_of_ble_eq_true rfl) (⟨by rw [aE_x (k := 1) (v := -1005) hk9 rfl], ⟨AD, hs, rfl⟩, hk0⟩)
  · obtain ⟨AD2, h0, rfl, hs2, ha2, hk2⟩ := hq
    rw [lk_s_ticksUntil] at hs2
    refine W.eq (g2 := F0 m 237 ls [.int ((s_ticksUntil F a1 b1).2.1)]) rfl ?_
    refine W.widen (k := 3) (n := 18) (Nat.le_of_ble_eq_true rfl) (Nat.le_of_ble_eq_true rfl) ?_
    exact wl_iret C0 hr rfl hP hS dL_ask_237 (Nat.le_of_ble_eq_true rfl) (Nat.le_of_ble_eq_true rfl) (⟨by rw [aE_0 h0], ⟨AD2, hs2, ha2⟩, hk0.tr hk2⟩)
set_option maxHeartbeats 4000000 in
set_option maxRecDepth 100000 in
theorem k_L_ask_bill (l : Launch) (hst : l.stackTraces = false) (E : wEn) (w : wW) (sz : Nat) (F : FF) (x N : Nat) (w0 : wW) (hI : wInv F N) (hz : zK E F x w0 w) (a1 b1 c1 d1 : Int32) : wMt l yL_ask wsL_ask 6 3 18 E w sz [.ref x, .int 17, .int a1, .int b1, .int c1, .int d1] (pZ E F x w0 (aE [-1001] (s_bill32 F a1))) := by
  obtain ⟨⟨AD, hs, rfl⟩, hk0⟩ := hz
  refine wt_startH (own := RL) (cc := cL_ask) (maxL := 7) (ret := (some .int)) (hh := hhA) rfl (by decide) rfl (Nat.le_of_ble_eq_true rfl) ?_
  intro p e s m args below meth c ls C1 hr hT hP hS hl
  have C0 := C1.1
  have hx := C0.1
  have hb := C0.2.1
  have hts := C0.2.2.2.2.1
  have hl : lv_has ls 7 [(0, .ref (AD 5 0)), (1, .int 17), (2, .int a1), (3, .int b1), (4, .int c1), (5, .int d1)] := hl
  refine lv_iload_n hx hb dL_ask_0 rfl (lv_at hl 1 rfl) ?_
  refine lv_tableIn (tgt := 238) hx hb dL_ask_1 (by decide) (by decide) (off := 237) (by rfl) (by decide) ?_
  refine lv_aload_n hx hb dL_ask_238 rfl (lv_at hl 0 rfl) ?_
  refine lv_iload_n hx hb dL_ask_239 rfl (lv_at hl 2 rfl) ?_
  refine wl_go (wl_runV (As := [.int a1]) (rest := []) C0 hP hS (k_X6_bill l hst E w s.heap.size F AD N hI hs a1) (cwV 1 hts gL_ask_X6_bill rfl rfl rfl (by decide +kernel) ⟨(Nat.le_of_ble_eq_true rfl), (Nat.le_of_ble_eq_true rfl)⟩) hs.x rfl rfl rfl hl.1 (Nat.le_of_ble_eq_true rfl) dL_ask_240 ⟨(Nat.le_of_ble_eq_true rfl), (Nat.le_of_ble_eq_true rfl)⟩) hS (wA_in hP hS C0.2.2.2.2.2.2.2.2 rfl) (fun X ce q9 w2 H locs hpx hP _ hS _ _ hce hcv hcl => ?_) (fun v w2 H locs hq hP _ hS _ _ => ?_)
  · obtain ⟨hw9, hx9⟩ := hpx
    rw [hw9] at hP
    have hix : ∀ q ∈ ixA, (Cond.classLink RL q.1 q.2).before args s = true := fun q hq => hts _ (ixA_in q hq)
    obtain ⟨hk9, rfl⟩ := hx9
    refine wt_catch 17 (x := (238, 244, 294, 93)) C1 hT hix (by rfl) (by decide +kernel) (by decide) (by decide) (by decide +kernel) xc_IOB hce hcv hcl ?_
    refine W.eq (g2 := F0 m 294 ls [.ref q9]) rfl ?_
    refine W.widen (k := 3) (n := 18) (Nat.le_of_ble_eq_true rfl) (Nat.le_of_ble_eq_true rfl) ?_
    refine lv_astore (lv' := [(6, .ref q9), (0, .ref (AD 5 0)), (1, .int 17), (2, .int a1), (3, .int b1), (4, .int c1), (5, .int d1)]) hx hb dL_ask_294 hl (by decide) rfl (fun ls hl => ?_)
    refine lv_sipush (v := -1001) hx hb dL_ask_296 (by decide) ?_
    exact wl_iret C0 hr rfl hP hS dL_ask_299 (Nat.le_of_ble_eq_true rfl) (Nat.le_of_ble_eq_true rfl) (⟨by rw [aE_x (k := 0) (v := -1001) hk9 rfl], ⟨AD, hs, rfl⟩, hk0⟩)
  · obtain ⟨AD2, h0, rfl, hs2, ha2, hk2⟩ := hq
    rw [lk_s_bill] at hs2
    refine W.eq (g2 := F0 m 243 ls [.long ((s_bill F a1).2.1)]) rfl ?_
    refine W.widen (k := 3) (n := 18) (Nat.le_of_ble_eq_true rfl) (Nat.le_of_ble_eq_true rfl) ?_
    refine lv_l2i (v := (s_bill F a1).2.1.toInt32) hx hb dL_ask_243 rfl ?_
    exact wl_iret C0 hr rfl hP hS dL_ask_244 (Nat.le_of_ble_eq_true rfl) (Nat.le_of_ble_eq_true rfl) (⟨by rw [aE_0 (r := s_bill32 F a1) h0]; rfl, ⟨AD2, hs2, ha2⟩, hk0.tr hk2⟩)
set_option maxHeartbeats 4000000 in
set_option maxRecDepth 100000 in
theorem k_L_ask_call (l : Launch) (hst : l.stackTraces = false) (E : wEn) (w : wW) (sz : Nat) (F : FF) (x N : Nat) (w0 : wW) (hI : wInv F N) (hz : zK E F x w0 w) (h3 : F 24 3 < 512) (a1 b1 c1 d1 : Int32) : wMt l yL_ask wsL_ask 6 3 18 E w sz [.ref x, .int 19, .int a1, .int b1, .int c1, .int d1] (pZ E ((s_call F a1 b1 c1).2.2) x w0 (aE [-1001, -1002] (s_call F a1 b1 c1))) := by
  obtain ⟨⟨AD, hs, rfl⟩, hk0⟩ := hz
  refine wt_startH (own := RL) (cc := cL_ask) (maxL := 7) (ret := (some .int)) (hh := hhA) rfl (by decide) rfl (Nat.le_of_ble_eq_true rfl) ?_
  intro p e s m args below meth c ls C1 hr hT hP hS hl
  have C0 := C1.1
  have hx := C0.1
  have hb := C0.2.1
  have hts := C0.2.2.2.2.1
  have hl : lv_has ls 7 [(0, .ref (AD 5 0)), (1, .int 19), (2, .int a1), (3, .int b1), (4, .int c1), (5, .int d1)] := hl
  refine lv_iload_n hx hb dL_ask_0 rfl (lv_at hl 1 rfl) ?_
  refine lv_tableIn (tgt := 252) hx hb dL_ask_1 (by decide) (by decide) (off := 251) (by rfl) (by decide) ?_
  refine lv_aload_n hx hb dL_ask_252 rfl (lv_at hl 0 rfl) ?_
  refine lv_iload_n hx hb dL_ask_253 rfl (lv_at hl 2 rfl) ?_
  refine lv_iload_n hx hb dL_ask_254 rfl (lv_at hl 3 rfl) ?_
  refine lv_iload hx hb dL_ask_255 (lv_at hl 4 rfl) ?_
  refine wl_go (wl_runV (As := [.int a1, .int b1, .int c1]) (rest := []) C0 hP hS (k_X6_call l hst E w s.heap.size F AD N hI hs h3 a1 b1 c1) (cwV 3 hts gL_ask_X6_call rfl rfl rfl (by decide +kernel) ⟨(Nat.le_of_ble_eq_true rfl), (Nat.le_of_ble_eq_true rfl)⟩) hs.x rfl rfl rfl hl.1 (Nat.le_of_ble_eq_true rfl) dL_ask_257 ⟨(Nat.le_of_ble_eq_true rfl), (Nat.le_of_ble_eq_true rfl)⟩) hS (wA_in hP hS C0.2.2.2.2.2.2.2.2 rfl) (fun X ce q9 w2 H locs hpx hP _ hS _ _ hce hcv hcl => ?_) (fun v w2 H locs hq hP _ hS _ _ => ?_)
  · obtain ⟨hw9, hx9⟩ := hpx
    rw [hw9] at hP
    have hix : ∀ q ∈ ixA, (Cond.classLink RL q.1 q.2).before args s = true := fun q hq => hts _ (ixA_in q hq)
    rcases hx9 with ⟨hk9, rfl⟩ | ⟨hk9, rfl⟩
    · refine wt_catch 19 (x := (252, 260, 294, 93)) C1 hT hix (by rfl) (by decide +kernel) (by decide) (by decide) (by decide +kernel) xc_IOB hce hcv hcl ?_
      refine W.eq (g2 := F0 m 294 ls [.ref q9]) rfl ?_
      refine W.widen (k := 3) (n := 18) (Nat.le_of_ble_eq_true rfl) (Nat.le_of_ble_eq_true rfl) ?_
      refine lv_astore (lv' := [(6, .ref q9), (0, .ref (AD 5 0)), (1, .int 19), (2, .int a1), (3, .int b1), (4, .int c1), (5, .int d1)]) hx hb dL_ask_294 hl (by decide) rfl (fun ls hl => ?_)
      refine lv_sipush (v := -1001) hx hb dL_ask_296 (by decide) ?_
      exact wl_iret C0 hr rfl hP hS dL_ask_299 (Nat.le_of_ble_eq_true rfl) (Nat.le_of_ble_eq_true rfl) (⟨by rw [aE_x (k := 0) (v := -1001) hk9 rfl], ⟨AD, by rw [er_s_call (by rw [hk9]; decide)]; exact hs, rfl⟩, hk0⟩)
    · refine wt_catch 43 (x := (252, 260, 300, 95)) C1 hT hix (by rfl) (by decide +kernel) (by decide) (by decide) (by decide +kernel) xc_IAE hce hcv hcl ?_
      refine W.eq (g2 := F0 m 300 ls [.ref q9]) rfl ?_
      refine W.widen (k := 3) (n := 18) (Nat.le_of_ble_eq_true rfl) (Nat.le_of_ble_eq_true rfl) ?_
      refine lv_astore (lv' := [(6, .ref q9), (0, .ref (AD 5 0)), (1, .int 19), (2, .int a1), (3, .int b1), (4, .int c1), (5, .int d1)]) hx hb dL_ask_300 hl (by decide) rfl (fun ls hl => ?_)
      refine lv_sipush (v := -1002) hx hb dL_ask_302 (by decide) ?_
      exact wl_iret C0 hr rfl hP hS dL_ask_305 (Nat.le_of_ble_eq_true rfl) (Nat.le_of_ble_eq_true rfl) (⟨by rw [aE_x (k := 1) (v := -1002) hk9 rfl], ⟨AD, by rw [er_s_call (by rw [hk9]; decide)]; exact hs, rfl⟩, hk0⟩)
  · obtain ⟨AD2, h0, rfl, hs2, ha2, hk2⟩ := hq
    refine W.eq (g2 := F0 m 260 ls [.int ((s_call F a1 b1 c1).2.1)]) rfl ?_
    refine W.widen (k := 3) (n := 18) (Nat.le_of_ble_eq_true rfl) (Nat.le_of_ble_eq_true rfl) ?_
    exact wl_iret C0 hr rfl hP hS dL_ask_260 (Nat.le_of_ble_eq_true rfl) (Nat.le_of_ble_eq_true rfl) (⟨by rw [aE_0 h0], ⟨AD2, hs2, ha2⟩, hk0.tr hk2⟩)
set_option maxHeartbeats 4000000 in
set_option maxRecDepth 100000 in
theorem k_L_ask_pass (l : Launch) (hst : l.stackTraces = false) (E : wEn) (w : wW) (sz : Nat) (F : FF) (x N : Nat) (w0 : wW) (hI : wInv F N) (hz : zK E F x w0 w) (a1 b1 c1 d1 : Int32) : wMt l yL_ask wsL_ask 6 3 18 E w sz [.ref x, .int 20, .int a1, .int b1, .int c1, .int d1] (pZ E ((s_pass F a1).2.2) x w0 (aE [-1002] (s_pass F a1))) := by
  obtain ⟨⟨AD, hs, rfl⟩, hk0⟩ := hz
  refine wt_startH (own := RL) (cc := cL_ask) (maxL := 7) (ret := (some .int)) (hh := hhA) rfl (by decide) rfl (Nat.le_of_ble_eq_true rfl) ?_
  intro p e s m args below meth c ls C1 hr hT hP hS hl
  have C0 := C1.1
  have hx := C0.1
  have hb := C0.2.1
  have hts := C0.2.2.2.2.1
  have hl : lv_has ls 7 [(0, .ref (AD 5 0)), (1, .int 20), (2, .int a1), (3, .int b1), (4, .int c1), (5, .int d1)] := hl
  refine lv_iload_n hx hb dL_ask_0 rfl (lv_at hl 1 rfl) ?_
  refine lv_tableIn (tgt := 261) hx hb dL_ask_1 (by decide) (by decide) (off := 260) (by rfl) (by decide) ?_
  refine lv_aload_n hx hb dL_ask_261 rfl (lv_at hl 0 rfl) ?_
  refine lv_iload_n hx hb dL_ask_262 rfl (lv_at hl 2 rfl) ?_
  refine wl_go (wl_runV (As := [.int a1]) (rest := []) C0 hP hS (k_X6_pass l hst E w s.heap.size F AD N hI hs a1) (cwV 1 hts gL_ask_X6_pass rfl rfl rfl (by decide +kernel) ⟨(Nat.le_of_ble_eq_true rfl), (Nat.le_of_ble_eq_true rfl)⟩) hs.x rfl rfl rfl hl.1 (Nat.le_of_ble_eq_true rfl) dL_ask_263 ⟨(Nat.le_of_ble_eq_true rfl), (Nat.le_of_ble_eq_true rfl)⟩) hS (wA_in hP hS C0.2.2.2.2.2.2.2.2 rfl) (fun X ce q9 w2 H locs hpx hP _ hS _ _ hce hcv hcl => ?_) (fun v w2 H locs hq hP _ hS _ _ => ?_)
  · obtain ⟨hw9, hx9⟩ := hpx
    rw [hw9] at hP
    have hix : ∀ q ∈ ixA, (Cond.classLink RL q.1 q.2).before args s = true := fun q hq => hts _ (ixA_in q hq)
    obtain ⟨hk9, rfl⟩ := hx9
    refine wt_catch 44 (x := (261, 266, 300, 95)) C1 hT hix (by rfl) (by decide +kernel) (by decide) (by decide) (by decide +kernel) xc_IAE hce hcv hcl ?_
    refine W.eq (g2 := F0 m 300 ls [.ref q9]) rfl ?_
    refine W.widen (k := 3) (n := 18) (Nat.le_of_ble_eq_true rfl) (Nat.le_of_ble_eq_true rfl) ?_
    refine lv_astore (lv' := [(6, .ref q9), (0, .ref (AD 5 0)), (1, .int 20), (2, .int a1), (3, .int b1), (4, .int c1), (5, .int d1)]) hx hb dL_ask_300 hl (by decide) rfl (fun ls hl => ?_)
    refine lv_sipush (v := -1002) hx hb dL_ask_302 (by decide) ?_
    exact wl_iret C0 hr rfl hP hS dL_ask_305 (Nat.le_of_ble_eq_true rfl) (Nat.le_of_ble_eq_true rfl) (⟨by rw [aE_x (k := 0) (v := -1002) hk9 rfl], ⟨AD, by rw [er_s_pass (by rw [hk9]; decide)]; exact hs, rfl⟩, hk0⟩)
  · obtain ⟨AD2, h0, rfl, hs2, ha2, hk2⟩ := hq
    refine W.eq (g2 := F0 m 266 ls [.int ((s_pass F a1).2.1)]) rfl ?_
    refine W.widen (k := 3) (n := 18) (Nat.le_of_ble_eq_true rfl) (Nat.le_of_ble_eq_true rfl) ?_
    exact wl_iret C0 hr rfl hP hS dL_ask_266 (Nat.le_of_ble_eq_true rfl) (Nat.le_of_ble_eq_true rfl) (⟨by rw [aE_0 h0], ⟨AD2, hs2, ha2⟩, hk0.tr hk2⟩)
set_option maxHeartbeats 4000000 in
set_option maxRecDepth 100000 in
theorem k_L_ask_count (l : Launch) (hst : l.stackTraces = false) (E : wEn) (w : wW) (sz : Nat) (F : FF) (x N : Nat) (w0 : wW) (hI : wInv F N) (hz : zK E F x w0 w) (a1 b1 c1 d1 : Int32) (hb1 : (b1.toUInt32 % 65536).toInt32 = b1) : wMt l yL_ask wsL_ask 6 3 18 E w sz [.ref x, .int 21, .int a1, .int b1, .int c1, .int d1] (pZ E F x w0 (aE [-1001, -1002] (s_count F a1 b1))) := by
  obtain ⟨⟨AD, hs, rfl⟩, hk0⟩ := hz
  refine wt_startH (own := RL) (cc := cL_ask) (maxL := 7) (ret := (some .int)) (hh := hhA) rfl (by decide) rfl (Nat.le_of_ble_eq_true rfl) ?_
  intro p e s m args below meth c ls C1 hr hT hP hS hl
  have C0 := C1.1
  have hx := C0.1
  have hb := C0.2.1
  have hts := C0.2.2.2.2.1
  have hl : lv_has ls 7 [(0, .ref (AD 5 0)), (1, .int 21), (2, .int a1), (3, .int b1), (4, .int c1), (5, .int d1)] := hl
  refine lv_iload_n hx hb dL_ask_0 rfl (lv_at hl 1 rfl) ?_
  refine lv_tableIn (tgt := 267) hx hb dL_ask_1 (by decide) (by decide) (off := 266) (by rfl) (by decide) ?_
  refine lv_aload_n hx hb dL_ask_267 rfl (lv_at hl 0 rfl) ?_
  refine lv_iload_n hx hb dL_ask_268 rfl (lv_at hl 2 rfl) ?_
  refine lv_iload_n hx hb dL_ask_269 rfl (lv_at hl 3 rfl) ?_
  refine lv_i2c (v := b1) hx hb dL_ask_270 hb1 ?_
  refine wl_go (wl_runV (As := [.int a1, .int b1]) (rest := []) C0 hP hS (k_X6_count l hst E w s.heap.size F AD N hI hs a1 b1) (cwV 2 hts gL_ask_X6_count rfl rfl rfl (by decide +kernel) ⟨(Nat.le_of_ble_eq_true rfl), (Nat.le_of_ble_eq_true rfl)⟩) hs.x rfl rfl rfl hl.1 (Nat.le_of_ble_eq_true rfl) dL_ask_271 ⟨(Nat.le_of_ble_eq_true rfl), (Nat.le_of_ble_eq_true rfl)⟩) hS (wA_in hP hS C0.2.2.2.2.2.2.2.2 rfl) (fun X ce q9 w2 H locs hpx hP _ hS _ _ hce hcv hcl => ?_) (fun v w2 H locs hq hP _ hS _ _ => ?_)
  · obtain ⟨hw9, hx9⟩ := hpx
    rw [hw9] at hP
    have hix : ∀ q ∈ ixA, (Cond.classLink RL q.1 q.2).before args s = true := fun q hq => hts _ (ixA_in q hq)
    rcases hx9 with ⟨hk9, rfl⟩ | ⟨hk9, rfl⟩
    · refine wt_catch 21 (x := (267, 274, 294, 93)) C1 hT hix (by rfl) (by decide +kernel) (by decide) (by decide) (by decide +kernel) xc_IOB hce hcv hcl ?_
      refine W.eq (g2 := F0 m 294 ls [.ref q9]) rfl ?_
      refine W.widen (k := 3) (n := 18) (Nat.le_of_ble_eq_true rfl) (Nat.le_of_ble_eq_true rfl) ?_
      refine lv_astore (lv' := [(6, .ref q9), (0, .ref (AD 5 0)), (1, .int 21), (2, .int a1), (3, .int b1), (4, .int c1), (5, .int d1)]) hx hb dL_ask_294 hl (by decide) rfl (fun ls hl => ?_)
      refine lv_sipush (v := -1001) hx hb dL_ask_296 (by decide) ?_
      exact wl_iret C0 hr rfl hP hS dL_ask_299 (Nat.le_of_ble_eq_true rfl) (Nat.le_of_ble_eq_true rfl) (⟨by rw [aE_x (k := 0) (v := -1001) hk9 rfl], ⟨AD, hs, rfl⟩, hk0⟩)
    · refine wt_catch 45 (x := (267, 274, 300, 95)) C1 hT hix (by rfl) (by decide +kernel) (by decide) (by decide) (by decide +kernel) xc_IAE hce hcv hcl ?_
      refine W.eq (g2 := F0 m 300 ls [.ref q9]) rfl ?_
      refine W.widen (k := 3) (n := 18) (Nat.le_of_ble_eq_true rfl) (Nat.le_of_ble_eq_true rfl) ?_
      refine lv_astore (lv' := [(6, .ref q9), (0, .ref (AD 5 0)), (1, .int 21), (2, .int a1), (3, .int b1), (4, .int c1), (5, .int d1)]) hx hb dL_ask_300 hl (by decide) rfl (fun ls hl => ?_)
      refine lv_sipush (v := -1002) hx hb dL_ask_302 (by decide) ?_
      exact wl_iret C0 hr rfl hP hS dL_ask_305 (Nat.le_of_ble_eq_true rfl) (Nat.le_of_ble_eq_true rfl) (⟨by rw [aE_x (k := 1) (v := -1002) hk9 rfl], ⟨AD, hs, rfl⟩, hk0⟩)
  · obtain ⟨AD2, h0, rfl, hs2, ha2, hk2⟩ := hq
    rw [lk_s_count] at hs2
    refine W.eq (g2 := F0 m 274 ls [.int ((s_count F a1 b1).2.1)]) rfl ?_
    refine W.widen (k := 3) (n := 18) (Nat.le_of_ble_eq_true rfl) (Nat.le_of_ble_eq_true rfl) ?_
    exact wl_iret C0 hr rfl hP hS dL_ask_274 (Nat.le_of_ble_eq_true rfl) (Nat.le_of_ble_eq_true rfl) (⟨by rw [aE_0 h0], ⟨AD2, hs2, ha2⟩, hk0.tr hk2⟩)
set_option maxHeartbeats 4000000 in
set_option maxRecDepth 100000 in
theorem k_L_ask_isUndone (l : Launch) (hst : l.stackTraces = false) (E : wEn) (w : wW) (sz : Nat) (F : FF) (x N : Nat) (w0 : wW) (hI : wInv F N) (hz : zK E F x w0 w) (a1 b1 c1 d1 : Int32) : wMt l yL_ask wsL_ask 6 3 18 E w sz [.ref x, .int 22, .int a1, .int b1, .int c1, .int d1] (pZ E F x w0 (aE [-1001] (s_isUndone F a1))) := by
  obtain ⟨⟨AD, hs, rfl⟩, hk0⟩ := hz
  refine wt_startH (own := RL) (cc := cL_ask) (maxL := 7) (ret := (some .int)) (hh := hhA) rfl (by decide) rfl (Nat.le_of_ble_eq_true rfl) ?_
  intro p e s m args below meth c ls C1 hr hT hP hS hl
  have C0 := C1.1
  have hx := C0.1
  have hb := C0.2.1
  have hts := C0.2.2.2.2.1
  have hl : lv_has ls 7 [(0, .ref (AD 5 0)), (1, .int 22), (2, .int a1), (3, .int b1), (4, .int c1), (5, .int d1)] := hl
  refine lv_iload_n hx hb dL_ask_0 rfl (lv_at hl 1 rfl) ?_
  refine lv_tableIn (tgt := 275) hx hb dL_ask_1 (by decide) (by decide) (off := 274) (by rfl) (by decide) ?_
  refine lv_aload_n hx hb dL_ask_275 rfl (lv_at hl 0 rfl) ?_
  refine lv_iload_n hx hb dL_ask_276 rfl (lv_at hl 2 rfl) ?_
  refine wl_go (wl_runV (As := [.int a1]) (rest := []) C0 hP hS (k_X6_isUndone l hst E w s.heap.size F AD N hI hs a1) (cwV 1 hts gL_ask_X6_isUndone rfl rfl rfl (by decide +kernel) ⟨(Nat.le_of_ble_eq_true rfl), (Nat.le_of_ble_eq_true rfl)⟩) hs.x rfl rfl rfl hl.1 (Nat.le_of_ble_eq_true rfl) dL_ask_277 ⟨(Nat.le_of_ble_eq_true rfl), (Nat.le_of_ble_eq_true rfl)⟩) hS (wA_in hP hS C0.2.2.2.2.2.2.2.2 rfl) (fun X ce q9 w2 H locs hpx hP _ hS _ _ hce hcv hcl => ?_) (fun v w2 H locs hq hP _ hS _ _ => ?_)
  · obtain ⟨hw9, hx9⟩ := hpx
    rw [hw9] at hP
    have hix : ∀ q ∈ ixA, (Cond.classLink RL q.1 q.2).before args s = true := fun q hq => hts _ (ixA_in q hq)
    obtain ⟨hk9, rfl⟩ := hx9
    refine wt_catch 22 (x := (275, 288, 294, 93)) C1 hT hix (by rfl) (by decide +kernel) (by decide) (by decide) (by decide +kernel) xc_IOB hce hcv hcl ?_
    refine W.eq (g2 := F0 m 294 ls [.ref q9]) rfl ?_
    refine W.widen (k := 3) (n := 18) (Nat.le_of_ble_eq_true rfl) (Nat.le_of_ble_eq_true rfl) ?_
    refine lv_astore (lv' := [(6, .ref q9), (0, .ref (AD 5 0)), (1, .int 22), (2, .int a1), (3, .int b1), (4, .int c1), (5, .int d1)]) hx hb dL_ask_294 hl (by decide) rfl (fun ls hl => ?_)
    refine lv_sipush (v := -1001) hx hb dL_ask_296 (by decide) ?_
    exact wl_iret C0 hr rfl hP hS dL_ask_299 (Nat.le_of_ble_eq_true rfl) (Nat.le_of_ble_eq_true rfl) (⟨by rw [aE_x (k := 0) (v := -1001) hk9 rfl], ⟨AD, hs, rfl⟩, hk0⟩)
  · obtain ⟨AD2, h0, rfl, hs2, ha2, hk2⟩ := hq
    rw [lk_s_isUndone] at hs2
    refine W.eq (g2 := F0 m 280 ls [.int ((s_isUndone F a1).2.1)]) rfl ?_
    refine W.widen (k := 3) (n := 18) (Nat.le_of_ble_eq_true rfl) (Nat.le_of_ble_eq_true rfl) ?_
    refine lv_if_eq (tgt := 287) hx hb dL_ask_280 (by decide) (fun c9 => ?_) (fun c9 => ?_)
    · refine lv_iconst (v := 0) hx hb dL_ask_287 (by decide) ?_
      exact wl_iret C0 hr rfl hP hS dL_ask_288 (Nat.le_of_ble_eq_true rfl) (Nat.le_of_ble_eq_true rfl) (⟨by rw [aE_0 h0, c9], ⟨AD2, hs2, ha2⟩, hk0.tr hk2⟩)
    · refine lv_iconst (v := 1) hx hb dL_ask_283 (by decide) ?_
      refine lv_goto (tgt := 288) hx hb dL_ask_284 (by decide) ?_
      exact wl_iret C0 hr rfl hP hS dL_ask_288 (Nat.le_of_ble_eq_true rfl) (Nat.le_of_ble_eq_true rfl) (⟨by rw [aE_0 h0, b01_s_isUndone.resolve_left c9], ⟨AD2, hs2, ha2⟩, hk0.tr hk2⟩)
set_option maxHeartbeats 4000000 in
set_option maxRecDepth 100000 in
theorem k_L_ask_greatest (l : Launch) (hst : l.stackTraces = false) (E : wEn) (w : wW) (sz : Nat) (F : FF) (x N : Nat) (w0 : wW) (hI : wInv F N) (hz : zK E F x w0 w) (a1 b1 c1 d1 : Int32) : wMt l yL_ask wsL_ask 6 3 18 E w sz [.ref x, .int 23, .int a1, .int b1, .int c1, .int d1] (pZ E F x w0 (aE [-1005] (s_greatest F))) := by
  obtain ⟨⟨AD, hs, rfl⟩, hk0⟩ := hz
  refine wt_startH (own := RL) (cc := cL_ask) (maxL := 7) (ret := (some .int)) (hh := hhA) rfl (by decide) rfl (Nat.le_of_ble_eq_true rfl) ?_
  intro p e s m args below meth c ls C1 hr hT hP hS hl
  have C0 := C1.1
  have hx := C0.1
  have hb := C0.2.1
  have hts := C0.2.2.2.2.1
  have hl : lv_has ls 7 [(0, .ref (AD 5 0)), (1, .int 23), (2, .int a1), (3, .int b1), (4, .int c1), (5, .int d1)] := hl
  refine lv_iload_n hx hb dL_ask_0 rfl (lv_at hl 1 rfl) ?_
  refine lv_tableOut (tgt := 289) hx hb dL_ask_1 (Or.inr (by decide)) (by decide) ?_
  refine lv_aload_n hx hb dL_ask_289 rfl (lv_at hl 0 rfl) ?_
  refine wl_go (wl_runV (As := []) (rest := []) C0 hP hS (k_X6_greatest l hst E w s.heap.size F AD N hI hs ) (cwV 0 hts gL_ask_X6_greatest rfl rfl rfl (by decide +kernel) ⟨(Nat.le_of_ble_eq_true rfl), (Nat.le_of_ble_eq_true rfl)⟩) hs.x rfl rfl rfl hl.1 (Nat.le_of_ble_eq_true rfl) dL_ask_290 ⟨(Nat.le_of_ble_eq_true rfl), (Nat.le_of_ble_eq_true rfl)⟩) hS (wA_in hP hS C0.2.2.2.2.2.2.2.2 rfl) (fun X ce q9 w2 H locs hpx hP _ hS _ _ hce hcv hcl => ?_) (fun v w2 H locs hq hP _ hS _ _ => ?_)
  · obtain ⟨hw9, hx9⟩ := hpx
    rw [hw9] at hP
    have hix : ∀ q ∈ ixA, (Cond.classLink RL q.1 q.2).before args s = true := fun q hq => hts _ (ixA_in q hq)
    obtain ⟨hk9, rfl⟩ := hx9
    refine wt_catch 119 (x := (289, 293, 318, 101)) C1 hT hix (by rfl) (by decide +kernel) (by decide) (by decide) (by decide +kernel) xc_NSE hce hcv hcl ?_
    refine W.eq (g2 := F0 m 318 ls [.ref q9]) rfl ?_
    refine W.widen (k := 3) (n := 18) (Nat.le_of_ble_eq_true rfl) (Nat.le_of_ble_eq_true rfl) ?_
    refine lv_astore (lv' := [(6, .ref q9), (0, .ref (AD 5 0)), (1, .int 23), (2, .int a1), (3, .int b1), (4, .int c1), (5, .int d1)]) hx hb dL_ask_318 hl (by decide) rfl (fun ls hl => ?_)
    refine lv_sipush (v := -1005) hx hb dL_ask_320 (by decide) ?_
    exact wl_iret C0 hr rfl hP hS dL_ask_323 (Nat.le_of_ble_eq_true rfl) (Nat.le_of_ble_eq_true rfl) (⟨by rw [aE_x (k := 0) (v := -1005) hk9 rfl], ⟨AD, hs, rfl⟩, hk0⟩)
  · obtain ⟨AD2, h0, rfl, hs2, ha2, hk2⟩ := hq
    rw [lk_s_greatest] at hs2
    refine W.eq (g2 := F0 m 293 ls [.int ((s_greatest F).2.1)]) rfl ?_
    refine W.widen (k := 3) (n := 18) (Nat.le_of_ble_eq_true rfl) (Nat.le_of_ble_eq_true rfl) ?_
    exact wl_iret C0 hr rfl hP hS dL_ask_293 (Nat.le_of_ble_eq_true rfl) (Nat.le_of_ble_eq_true rfl) (⟨by rw [aE_0 h0], ⟨AD2, hs2, ha2⟩, hk0.tr hk2⟩)
