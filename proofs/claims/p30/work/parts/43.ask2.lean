set_option maxHeartbeats 4000000 in
set_option maxRecDepth 100000 in
theorem k_L_ask_takeBack (l : Launch) (hst : l.stackTraces = false) (E : wEn) (w : wW) (sz : Nat) (F : FF) (x N : Nat) (w0 : wW) (hI : wInv F N) (hz : zK E F x w0 w) (a1 b1 c1 d1 : Int32) : wMt l yL_ask wsL_ask 6 3 18 E w sz [.ref x, .int 9, .int a1, .int b1, .int c1, .int d1] (pZ E ((s_takeBack F a1).2.2) x w0 (aE [-1001, -1003] (s_takeBack F a1))) := by
  obtain ⟨⟨AD, hs, rfl⟩, hk0⟩ := hz
  refine wt_startH (own := RL) (cc := cL_ask) (maxL := 7) (ret := (some .int)) (hh := hhA) rfl (by decide) rfl (Nat.le_of_ble_eq_true rfl) ?_
  intro p e s m args below meth c ls C1 hr hT hP hS hl
  have C0 := C1.1
  have hx := C0.1
  have hb := C0.2.1
  have hts := C0.2.2.2.2.1
  have hl : lv_has ls 7 [(0, .ref (AD 5 0)), (1, .int 9), (2, .int a1), (3, .int b1), (4, .int c1), (5, .int d1)] := hl
  refine lv_iload_n hx hb dL_ask_0 rfl (lv_at hl 1 rfl) ?_
  refine lv_tableIn (tgt := 177) hx hb dL_ask_1 (by decide) (by decide) (off := 176) (by rfl) (by decide) ?_
  refine lv_aload_n hx hb dL_ask_177 rfl (lv_at hl 0 rfl) ?_
  refine lv_iload_n hx hb dL_ask_178 rfl (lv_at hl 2 rfl) ?_
  refine wl_go (wl_runV (As := [.int a1]) (rest := []) C0 hP hS (k_X6_takeBack l hst E w s.heap.size F AD N hI hs a1) (cwV 1 hts gL_ask_X6_takeBack rfl rfl rfl (by decide +kernel) ⟨(Nat.le_of_ble_eq_true rfl), (Nat.le_of_ble_eq_true rfl)⟩) hs.x rfl rfl rfl hl.1 (Nat.le_of_ble_eq_true rfl) dL_ask_179 ⟨(Nat.le_of_ble_eq_true rfl), (Nat.le_of_ble_eq_true rfl)⟩) hS (wA_in hP hS C0.2.2.2.2.2.2.2.2 rfl) (fun X ce q9 w2 H locs hpx hP _ hS _ _ hce hcv hcl => ?_) (fun v w2 H locs hq hP _ hS _ _ => ?_)
  · obtain ⟨hw9, hx9⟩ := hpx
    rw [hw9] at hP
    have hix : ∀ q ∈ ixA, (Cond.classLink RL q.1 q.2).before args s = true := fun q hq => hts _ (ixA_in q hq)
    rcases hx9 with ⟨hk9, rfl⟩ | ⟨hk9, rfl⟩
    · refine wt_catch 9 (x := (177, 182, 294, 93)) C1 hT hix (by rfl) (by decide +kernel) (by decide) (by decide) (by decide +kernel) xc_IOB hce hcv hcl ?_
      refine W.eq (g2 := F0 m 294 ls [.ref q9]) rfl ?_
      refine W.widen (k := 3) (n := 18) (Nat.le_of_ble_eq_true rfl) (Nat.le_of_ble_eq_true rfl) ?_
      refine lv_astore (lv' := [(6, .ref q9), (0, .ref (AD 5 0)), (1, .int 9), (2, .int a1), (3, .int b1), (4, .int c1), (5, .int d1)]) hx hb dL_ask_294 hl (by decide) rfl (fun ls hl => ?_)
      refine lv_sipush (v := -1001) hx hb dL_ask_296 (by decide) ?_
      exact wl_iret C0 hr rfl hP hS dL_ask_299 (Nat.le_of_ble_eq_true rfl) (Nat.le_of_ble_eq_true rfl) (⟨by rw [aE_x (k := 0) (v := -1001) hk9 rfl], ⟨AD, by rw [er_s_takeBack (by rw [hk9]; decide)]; exact hs, rfl⟩, hk0⟩)
    · refine wt_catch 57 (x := (177, 182, 306, 97)) C1 hT hix (by rfl) (by decide +kernel) (by decide) (by decide) (by decide +kernel) xc_ISE hce hcv hcl ?_
      refine W.eq (g2 := F0 m 306 ls [.ref q9]) rfl ?_
      refine W.widen (k := 3) (n := 18) (Nat.le_of_ble_eq_true rfl) (Nat.le_of_ble_eq_true rfl) ?_
      refine lv_astore (lv' := [(6, .ref q9), (0, .ref (AD 5 0)), (1, .int 9), (2, .int a1), (3, .int b1), (4, .int c1), (5, .int d1)]) hx hb dL_ask_306 hl (by decide) rfl (fun ls hl => ?_)
      refine lv_sipush (v := -1003) hx hb dL_ask_308 (by decide) ?_
      exact wl_iret C0 hr rfl hP hS dL_ask_311 (Nat.le_of_ble_eq_true rfl) (Nat.le_of_ble_eq_true rfl) (⟨by rw [aE_x (k := 1) (v := -1003) hk9 rfl], ⟨AD, by rw [er_s_takeBack (by rw [hk9]; decide)]; exact hs, rfl⟩, hk0⟩)
  · obtain ⟨AD2, h0, rfl, hs2, ha2, hk2⟩ := hq
    refine W.eq (g2 := F0 m 182 ls [.int ((s_takeBack F a1).2.1)]) rfl ?_
    refine W.widen (k := 3) (n := 18) (Nat.le_of_ble_eq_true rfl) (Nat.le_of_ble_eq_true rfl) ?_
    exact wl_iret C0 hr rfl hP hS dL_ask_182 (Nat.le_of_ble_eq_true rfl) (Nat.le_of_ble_eq_true rfl) (⟨by rw [aE_0 h0], ⟨AD2, hs2, ha2⟩, hk0.tr hk2⟩)
set_option maxHeartbeats 4000000 in
set_option maxRecDepth 100000 in
theorem k_L_ask_hasCanary (l : Launch) (hst : l.stackTraces = false) (E : wEn) (w : wW) (sz : Nat) (F : FF) (x N : Nat) (w0 : wW) (hI : wInv F N) (hz : zK E F x w0 w) (a1 b1 c1 d1 : Int32) : wMt l yL_ask wsL_ask 6 3 18 E w sz [.ref x, .int 10, .int a1, .int b1, .int c1, .int d1] (pZ E F x w0 (aE [-1001] (s_hasCanary F a1))) := by
  obtain ⟨⟨AD, hs, rfl⟩, hk0⟩ := hz
  refine wt_startH (own := RL) (cc := cL_ask) (maxL := 7) (ret := (some .int)) (hh := hhA) rfl (by decide) rfl (Nat.le_of_ble_eq_true rfl) ?_
  intro p e s m args below meth c ls C1 hr hT hP hS hl
  have C0 := C1.1
  have hx := C0.1
  have hb := C0.2.1
  have hts := C0.2.2.2.2.1
  have hl : lv_has ls 7 [(0, .ref (AD 5 0)), (1, .int 10), (2, .int a1), (3, .int b1), (4, .int c1), (5, .int d1)] := hl
  refine lv_iload_n hx hb dL_ask_0 rfl (lv_at hl 1 rfl) ?_
  refine lv_tableIn (tgt := 183) hx hb dL_ask_1 (by decide) (by decide) (off := 182) (by rfl) (by decide) ?_
  refine lv_aload_n hx hb dL_ask_183 rfl (lv_at hl 0 rfl) ?_
  refine lv_iload_n hx hb dL_ask_184 rfl (lv_at hl 2 rfl) ?_
  refine wl_go (wl_runV (As := [.int a1]) (rest := []) C0 hP hS (k_X6_hasCanary l hst E w s.heap.size F AD N hI hs a1) (cwV 1 hts gL_ask_X6_hasCanary rfl rfl rfl (by decide +kernel) ⟨(Nat.le_of_ble_eq_true rfl), (Nat.le_of_ble_eq_true rfl)⟩) hs.x rfl rfl rfl hl.1 (Nat.le_of_ble_eq_true rfl) dL_ask_185 ⟨(Nat.le_of_ble_eq_true rfl), (Nat.le_of_ble_eq_true rfl)⟩) hS (wA_in hP hS C0.2.2.2.2.2.2.2.2 rfl) (fun X ce q9 w2 H locs hpx hP _ hS _ _ hce hcv hcl => ?_) (fun v w2 H locs hq hP _ hS _ _ => ?_)
  · obtain ⟨hw9, hx9⟩ := hpx
    rw [hw9] at hP
    have hix : ∀ q ∈ ixA, (Cond.classLink RL q.1 q.2).before args s = true := fun q hq => hts _ (ixA_in q hq)
    obtain ⟨hk9, rfl⟩ := hx9
    refine wt_catch 10 (x := (183, 196, 294, 93)) C1 hT hix (by rfl) (by decide +kernel) (by decide) (by decide) (by decide +kernel) xc_IOB hce hcv hcl ?_
    refine W.eq (g2 := F0 m 294 ls [.ref q9]) rfl ?_
    refine W.widen (k := 3) (n := 18) (Nat.le_of_ble_eq_true rfl) (Nat.le_of_ble_eq_true rfl) ?_
    refine lv_astore (lv' := [(6, .ref q9), (0, .ref (AD 5 0)), (1, .int 10), (2, .int a1), (3, .int b1), (4, .int c1), (5, .int d1)]) hx hb dL_ask_294 hl (by decide) rfl (fun ls hl => ?_)
    refine lv_sipush (v := -1001) hx hb dL_ask_296 (by decide) ?_
    exact wl_iret C0 hr rfl hP hS dL_ask_299 (Nat.le_of_ble_eq_true rfl) (Nat.le_of_ble_eq_true rfl) (⟨by rw [aE_x (k := 0) (v := -1001) hk9 rfl], ⟨AD, hs, rfl⟩, hk0⟩)
  · obtain ⟨AD2, h0, rfl, hs2, ha2, hk2⟩ := hq
    rw [lk_s_hasCanary] at hs2
    refine W.eq (g2 := F0 m 188 ls [.int ((s_hasCanary F a1).2.1)]) rfl ?_
    refine W.widen (k := 3) (n := 18) (Nat.le_of_ble_eq_true rfl) (Nat.le_of_ble_eq_true rfl) ?_
    refine lv_if_eq (tgt := 195) hx hb dL_ask_188 (by decide) (fun c9 => ?_) (fun c9 => ?_)
    · refine lv_iconst (v := 0) hx hb dL_ask_195 (by decide) ?_
      exact wl_iret C0 hr rfl hP hS dL_ask_196 (Nat.le_of_ble_eq_true rfl) (Nat.le_of_ble_eq_true rfl) (⟨by rw [aE_0 h0, c9], ⟨AD2, hs2, ha2⟩, hk0.tr hk2⟩)
    · refine lv_iconst (v := 1) hx hb dL_ask_191 (by decide) ?_
      refine lv_goto (tgt := 196) hx hb dL_ask_192 (by decide) ?_
      exact wl_iret C0 hr rfl hP hS dL_ask_196 (Nat.le_of_ble_eq_true rfl) (Nat.le_of_ble_eq_true rfl) (⟨by rw [aE_0 h0, b01_s_hasCanary.resolve_left c9], ⟨AD2, hs2, ha2⟩, hk0.tr hk2⟩)
set_option maxHeartbeats 4000000 in
set_option maxRecDepth 100000 in
theorem k_L_ask_faults (l : Launch) (hst : l.stackTraces = false) (E : wEn) (w : wW) (sz : Nat) (F : FF) (x N : Nat) (w0 : wW) (hI : wInv F N) (hz : zK E F x w0 w) (a1 b1 c1 d1 : Int32) : wMt l yL_ask wsL_ask 6 3 18 E w sz [.ref x, .int 11, .int a1, .int b1, .int c1, .int d1] (pZ E F x w0 (aE [-1001, -1005] (s_faults F a1))) := by
  obtain ⟨⟨AD, hs, rfl⟩, hk0⟩ := hz
  refine wt_startH (own := RL) (cc := cL_ask) (maxL := 7) (ret := (some .int)) (hh := hhA) rfl (by decide) rfl (Nat.le_of_ble_eq_true rfl) ?_
  intro p e s m args below meth c ls C1 hr hT hP hS hl
  have C0 := C1.1
  have hx := C0.1
  have hb := C0.2.1
  have hts := C0.2.2.2.2.1
  have hl : lv_has ls 7 [(0, .ref (AD 5 0)), (1, .int 11), (2, .int a1), (3, .int b1), (4, .int c1), (5, .int d1)] := hl
  refine lv_iload_n hx hb dL_ask_0 rfl (lv_at hl 1 rfl) ?_
  refine lv_tableIn (tgt := 197) hx hb dL_ask_1 (by decide) (by decide) (off := 196) (by rfl) (by decide) ?_
  refine lv_aload_n hx hb dL_ask_197 rfl (lv_at hl 0 rfl) ?_
  refine lv_iload_n hx hb dL_ask_198 rfl (lv_at hl 2 rfl) ?_
  refine wl_go (wl_runV (As := [.int a1]) (rest := []) C0 hP hS (k_X6_faults l hst E w s.heap.size F AD N hI hs a1) (cwV 1 hts gL_ask_X6_faults rfl rfl rfl (by decide +kernel) ⟨(Nat.le_of_ble_eq_true rfl), (Nat.le_of_ble_eq_true rfl)⟩) hs.x rfl rfl rfl hl.1 (Nat.le_of_ble_eq_true rfl) dL_ask_199 ⟨(Nat.le_of_ble_eq_true rfl), (Nat.le_of_ble_eq_true rfl)⟩) hS (wA_in hP hS C0.2.2.2.2.2.2.2.2 rfl) (fun X ce q9 w2 H locs hpx hP _ hS _ _ hce hcv hcl => ?_) (fun v w2 H locs hq hP _ hS _ _ => ?_)
  · obtain ⟨hw9, hx9⟩ := hpx
    rw [hw9] at hP
    have hix : ∀ q ∈ ixA, (Cond.classLink RL q.1 q.2).before args s = true := fun q hq => hts _ (ixA_in q hq)
    rcases hx9 with ⟨hk9, rfl⟩ | ⟨hk9, rfl⟩
    · refine wt_catch 11 (x := (197, 202, 294, 93)) C1 hT hix (by rfl) (by decide +kernel) (by decide) (by decide) (by decide +kernel) xc_IOB hce hcv hcl ?_
      refine W.eq (g2 := F0 m 294 ls [.ref q9]) rfl ?_
      refine W.widen (k := 3) (n := 18) (Nat.le_of_ble_eq_true rfl) (Nat.le_of_ble_eq_true rfl) ?_
      refine lv_astore (lv' := [(6, .ref q9), (0, .ref (AD 5 0)), (1, .int 11), (2, .int a1), (3, .int b1), (4, .int c1), (5, .int d1)]) hx hb dL_ask_294 hl (by decide) rfl (fun ls hl => ?_)
      refine lv_sipush (v := -1001) hx hb dL_ask_296 (by decide) ?_
      exact wl_iret C0 hr rfl hP hS dL_ask_299 (Nat.le_of_ble_eq_true rfl) (Nat.le_of_ble_eq_true rfl) (⟨by rw [aE_x (k := 0) (v := -1001) hk9 rfl], ⟨AD, hs, rfl⟩, hk0⟩)
    · refine wt_catch 107 (x := (197, 202, 318, 101)) C1 hT hix (by rfl) (by decide +kernel) (by decide) (by decide) (by decide +kernel) xc_NSE hce hcv hcl ?_
      refine W.eq (g2 := F0 m 318 ls [.ref q9]) rfl ?_
      refine W.widen (k := 3) (n := 18) (Nat.le_of_ble_eq_true rfl) (Nat.le_of_ble_eq_true rfl) ?_
      refine lv_astore (lv' := [(6, .ref q9), (0, .ref (AD 5 0)), (1, .int 11), (2, .int a1), (3, .int b1), (4, .int c1), (5, .int d1)]) hx hb dL_ask_318 hl (by decide) rfl (fun ls hl => ?_)
      refine lv_sipush (v := -1005) hx hb dL_ask_320 (by decide) ?_
      exact wl_iret C0 hr rfl hP hS dL_ask_323 (Nat.le_of_ble_eq_true rfl) (Nat.le_of_ble_eq_true rfl) (⟨by rw [aE_x (k := 1) (v := -1005) hk9 rfl], ⟨AD, hs, rfl⟩, hk0⟩)
  · obtain ⟨AD2, h0, rfl, hs2, ha2, hk2⟩ := hq
    rw [lk_s_faults] at hs2
    refine W.eq (g2 := F0 m 202 ls [.int ((s_faults F a1).2.1)]) rfl ?_
    refine W.widen (k := 3) (n := 18) (Nat.le_of_ble_eq_true rfl) (Nat.le_of_ble_eq_true rfl) ?_
    exact wl_iret C0 hr rfl hP hS dL_ask_202 (Nat.le_of_ble_eq_true rfl) (Nat.le_of_ble_eq_true rfl) (⟨by rw [aE_0 h0], ⟨AD2, hs2, ha2⟩, hk0.tr hk2⟩)
set_option maxHeartbeats 4000000 in
set_option maxRecDepth 100000 in
theorem k_L_ask_addPlan (l : Launch) (hst : l.stackTraces = false) (E : wEn) (w : wW) (sz : Nat) (F : FF) (x N : Nat) (w0 : wW) (hI : wInv F N) (hz : zK E F x w0 w) (a1 b1 c1 d1 : Int32) : wMt l yL_ask wsL_ask 6 3 18 E w sz [.ref x, .int 12, .int a1, .int b1, .int c1, .int d1] (pZ E ((s_addPlan F a1 b1 c1).2.2) x w0 (aE [-1002, -1003] (s_addPlan F a1 b1 c1))) := by
  obtain ⟨⟨AD, hs, rfl⟩, hk0⟩ := hz
  refine wt_startH (own := RL) (cc := cL_ask) (maxL := 7) (ret := (some .int)) (hh := hhA) rfl (by decide) rfl (Nat.le_of_ble_eq_true rfl) ?_
  intro p e s m args below meth c ls C1 hr hT hP hS hl
  have C0 := C1.1
  have hx := C0.1
  have hb := C0.2.1
  have hts := C0.2.2.2.2.1
  have hl : lv_has ls 7 [(0, .ref (AD 5 0)), (1, .int 12), (2, .int a1), (3, .int b1), (4, .int c1), (5, .int d1)] := hl
  refine lv_iload_n hx hb dL_ask_0 rfl (lv_at hl 1 rfl) ?_
  refine lv_tableIn (tgt := 203) hx hb dL_ask_1 (by decide) (by decide) (off := 202) (by rfl) (by decide) ?_
  refine lv_aload_n hx hb dL_ask_203 rfl (lv_at hl 0 rfl) ?_
  refine lv_iload_n hx hb dL_ask_204 rfl (lv_at hl 2 rfl) ?_
  refine lv_iload_n hx hb dL_ask_205 rfl (lv_at hl 3 rfl) ?_
  refine lv_iload hx hb dL_ask_206 (lv_at hl 4 rfl) ?_
  refine wl_go (wl_runV (As := [.int a1, .int b1, .int c1]) (rest := []) C0 hP hS (k_X6_addPlan l hst E w s.heap.size F AD N hI hs a1 b1 c1) (cwV 3 hts gL_ask_X6_addPlan rfl rfl rfl (by decide +kernel) ⟨(Nat.le_of_ble_eq_true rfl), (Nat.le_of_ble_eq_true rfl)⟩) hs.x rfl rfl rfl hl.1 (Nat.le_of_ble_eq_true rfl) dL_ask_208 ⟨(Nat.le_of_ble_eq_true rfl), (Nat.le_of_ble_eq_true rfl)⟩) hS (wA_in hP hS C0.2.2.2.2.2.2.2.2 rfl) (fun X ce q9 w2 H locs hpx hP _ hS _ _ hce hcv hcl => ?_) (fun v w2 H locs hq hP _ hS _ _ => ?_)
  · obtain ⟨hw9, hx9⟩ := hpx
    rw [hw9] at hP
    have hix : ∀ q ∈ ixA, (Cond.classLink RL q.1 q.2).before args s = true := fun q hq => hts _ (ixA_in q hq)
    rcases hx9 with ⟨hk9, rfl⟩ | ⟨hk9, rfl⟩
    · refine wt_catch 36 (x := (203, 211, 300, 95)) C1 hT hix (by rfl) (by decide +kernel) (by decide) (by decide) (by decide +kernel) xc_IAE hce hcv hcl ?_
      refine W.eq (g2 := F0 m 300 ls [.ref q9]) rfl ?_
      refine W.widen (k := 3) (n := 18) (Nat.le_of_ble_eq_true rfl) (Nat.le_of_ble_eq_true rfl) ?_
      refine lv_astore (lv' := [(6, .ref q9), (0, .ref (AD 5 0)), (1, .int 12), (2, .int a1), (3, .int b1), (4, .int c1), (5, .int d1)]) hx hb dL_ask_300 hl (by decide) rfl (fun ls hl => ?_)
      refine lv_sipush (v := -1002) hx hb dL_ask_302 (by decide) ?_
      exact wl_iret C0 hr rfl hP hS dL_ask_305 (Nat.le_of_ble_eq_true rfl) (Nat.le_of_ble_eq_true rfl) (⟨by rw [aE_x (k := 0) (v := -1002) hk9 rfl], ⟨AD, by rw [er_s_addPlan (by rw [hk9]; decide)]; exact hs, rfl⟩, hk0⟩)
    · refine wt_catch 60 (x := (203, 211, 306, 97)) C1 hT hix (by rfl) (by decide +kernel) (by decide) (by decide) (by decide +kernel) xc_ISE hce hcv hcl ?_
      refine W.eq (g2 := F0 m 306 ls [.ref q9]) rfl ?_
      refine W.widen (k := 3) (n := 18) (Nat.le_of_ble_eq_true rfl) (Nat.le_of_ble_eq_true rfl) ?_
      refine lv_astore (lv' := [(6, .ref q9), (0, .ref (AD 5 0)), (1, .int 12), (2, .int a1), (3, .int b1), (4, .int c1), (5, .int d1)]) hx hb dL_ask_306 hl (by decide) rfl (fun ls hl => ?_)
      refine lv_sipush (v := -1003) hx hb dL_ask_308 (by decide) ?_
      exact wl_iret C0 hr rfl hP hS dL_ask_311 (Nat.le_of_ble_eq_true rfl) (Nat.le_of_ble_eq_true rfl) (⟨by rw [aE_x (k := 1) (v := -1003) hk9 rfl], ⟨AD, by rw [er_s_addPlan (by rw [hk9]; decide)]; exact hs, rfl⟩, hk0⟩)
  · obtain ⟨AD2, h0, rfl, hs2, ha2, hk2⟩ := hq
    refine W.eq (g2 := F0 m 211 ls [.int ((s_addPlan F a1 b1 c1).2.1)]) rfl ?_
    refine W.widen (k := 3) (n := 18) (Nat.le_of_ble_eq_true rfl) (Nat.le_of_ble_eq_true rfl) ?_
    exact wl_iret C0 hr rfl hP hS dL_ask_211 (Nat.le_of_ble_eq_true rfl) (Nat.le_of_ble_eq_true rfl) (⟨by rw [aE_0 h0], ⟨AD2, hs2, ha2⟩, hk0.tr hk2⟩)
set_option maxHeartbeats 4000000 in
set_option maxRecDepth 100000 in
theorem k_L_ask_addCaller (l : Launch) (hst : l.stackTraces = false) (E : wEn) (w : wW) (sz : Nat) (F : FF) (x N : Nat) (w0 : wW) (hI : wInv F N) (hz : zK E F x w0 w) (a1 b1 c1 d1 : Int32) : wMt l yL_ask wsL_ask 6 3 18 E w sz [.ref x, .int 13, .int a1, .int b1, .int c1, .int d1] (pZ E ((s_addCaller F a1).2.2) x w0 (aE [-1001, -1003] (s_addCaller F a1))) := by
  obtain ⟨⟨AD, hs, rfl⟩, hk0⟩ := hz
  refine wt_startH (own := RL) (cc := cL_ask) (maxL := 7) (ret := (some .int)) (hh := hhA) rfl (by decide) rfl (Nat.le_of_ble_eq_true rfl) ?_
  intro p e s m args below meth c ls C1 hr hT hP hS hl
  have C0 := C1.1
  have hx := C0.1
  have hb := C0.2.1
  have hts := C0.2.2.2.2.1
  have hl : lv_has ls 7 [(0, .ref (AD 5 0)), (1, .int 13), (2, .int a1), (3, .int b1), (4, .int c1), (5, .int d1)] := hl
  refine lv_iload_n hx hb dL_ask_0 rfl (lv_at hl 1 rfl) ?_
  refine lv_tableIn (tgt := 212) hx hb dL_ask_1 (by decide) (by decide) (off := 211) (by rfl) (by decide) ?_
  refine lv_aload_n hx hb dL_ask_212 rfl (lv_at hl 0 rfl) ?_
  refine lv_iload_n hx hb dL_ask_213 rfl (lv_at hl 2 rfl) ?_
  refine wl_go (wl_runV (As := [.int a1]) (rest := []) C0 hP hS (k_X6_addCaller l hst E w s.heap.size F AD N hI hs a1) (cwV 1 hts gL_ask_X6_addCaller rfl rfl rfl (by decide +kernel) ⟨(Nat.le_of_ble_eq_true rfl), (Nat.le_of_ble_eq_true rfl)⟩) hs.x rfl rfl rfl hl.1 (Nat.le_of_ble_eq_true rfl) dL_ask_214 ⟨(Nat.le_of_ble_eq_true rfl), (Nat.le_of_ble_eq_true rfl)⟩) hS (wA_in hP hS C0.2.2.2.2.2.2.2.2 rfl) (fun X ce q9 w2 H locs hpx hP _ hS _ _ hce hcv hcl => ?_) (fun v w2 H locs hq hP _ hS _ _ => ?_)
  · obtain ⟨hw9, hx9⟩ := hpx
    rw [hw9] at hP
    have hix : ∀ q ∈ ixA, (Cond.classLink RL q.1 q.2).before args s = true := fun q hq => hts _ (ixA_in q hq)
    rcases hx9 with ⟨hk9, rfl⟩ | ⟨hk9, rfl⟩
    · refine wt_catch 13 (x := (212, 217, 294, 93)) C1 hT hix (by rfl) (by decide +kernel) (by decide) (by decide) (by decide +kernel) xc_IOB hce hcv hcl ?_
      refine W.eq (g2 := F0 m 294 ls [.ref q9]) rfl ?_
      refine W.widen (k := 3) (n := 18) (Nat.le_of_ble_eq_true rfl) (Nat.le_of_ble_eq_true rfl) ?_
      refine lv_astore (lv' := [(6, .ref q9), (0, .ref (AD 5 0)), (1, .int 13), (2, .int a1), (3, .int b1), (4, .int c1), (5, .int d1)]) hx hb dL_ask_294 hl (by decide) rfl (fun ls hl => ?_)
      refine lv_sipush (v := -1001) hx hb dL_ask_296 (by decide) ?_
      exact wl_iret C0 hr rfl hP hS dL_ask_299 (Nat.le_of_ble_eq_true rfl) (Nat.le_of_ble_eq_true rfl) (⟨by rw [aE_x (k := 0) (v := -1001) hk9 rfl], ⟨AD, by rw [er_s_addCaller (by rw [hk9]; decide)]; exact hs, rfl⟩, hk0⟩)
    · refine wt_catch 61 (x := (212, 217, 306, 97)) C1 hT hix (by rfl) (by decide +kernel) (by decide) (by decide) (by decide +kernel) xc_ISE hce hcv hcl ?_
      refine W.eq (g2 := F0 m 306 ls [.ref q9]) rfl ?_
      refine W.widen (k := 3) (n := 18) (Nat.le_of_ble_eq_true rfl) (Nat.le_of_ble_eq_true rfl) ?_
      refine lv_astore (lv' := [(6, .ref q9), (0, .ref (AD 5 0)), (1, .int 13), (2, .int a1), (3, .int b1), (4, .int c1), (5, .int d1)]) hx hb dL_ask_306 hl (by decide) rfl (fun ls hl => ?_)
      refine lv_sipush (v := -1003) hx hb dL_ask_308 (by decide) ?_
      exact wl_iret C0 hr rfl hP hS dL_ask_311 (Nat.le_of_ble_eq_true rfl) (Nat.le_of_ble_eq_true rfl) (⟨by rw [aE_x (k := 1) (v := -1003) hk9 rfl], ⟨AD, by rw [er_s_addCaller (by rw [hk9]; decide)]; exact hs, rfl⟩, hk0⟩)
  · obtain ⟨AD2, h0, rfl, hs2, ha2, hk2⟩ := hq
    refine W.eq (g2 := F0 m 217 ls [.int ((s_addCaller F a1).2.1)]) rfl ?_
    refine W.widen (k := 3) (n := 18) (Nat.le_of_ble_eq_true rfl) (Nat.le_of_ble_eq_true rfl) ?_
    exact wl_iret C0 hr rfl hP hS dL_ask_217 (Nat.le_of_ble_eq_true rfl) (Nat.le_of_ble_eq_true rfl) (⟨by rw [aE_0 h0], ⟨AD2, hs2, ha2⟩, hk0.tr hk2⟩)
set_option maxHeartbeats 4000000 in
set_option maxRecDepth 100000 in
theorem k_L_ask_setPlan (l : Launch) (hst : l.stackTraces = false) (E : wEn) (w : wW) (sz : Nat) (F : FF) (x N : Nat) (w0 : wW) (hI : wInv F N) (hz : zK E F x w0 w) (a1 b1 c1 d1 : Int32) : wMt l yL_ask wsL_ask 6 3 18 E w sz [.ref x, .int 14, .int a1, .int b1, .int c1, .int d1] (pZ E ((s_setPlan F a1 b1).2.2) x w0 (aE [-1001] (s_setPlan F a1 b1))) := by
  obtain ⟨⟨AD, hs, rfl⟩, hk0⟩ := hz
  refine wt_startH (own := RL) (cc := cL_ask) (maxL := 7) (ret := (some .int)) (hh := hhA) rfl (by decide) rfl (Nat.le_of_ble_eq_true rfl) ?_
  intro p e s m args below meth c ls C1 hr hT hP hS hl
  have C0 := C1.1
  have hx := C0.1
  have hb := C0.2.1
  have hts := C0.2.2.2.2.1
  have hl : lv_has ls 7 [(0, .ref (AD 5 0)), (1, .int 14), (2, .int a1), (3, .int b1), (4, .int c1), (5, .int d1)] := hl
  refine lv_iload_n hx hb dL_ask_0 rfl (lv_at hl 1 rfl) ?_
  refine lv_tableIn (tgt := 218) hx hb dL_ask_1 (by decide) (by decide) (off := 217) (by rfl) (by decide) ?_
  refine lv_aload_n hx hb dL_ask_218 rfl (lv_at hl 0 rfl) ?_
  refine lv_iload_n hx hb dL_ask_219 rfl (lv_at hl 2 rfl) ?_
  refine lv_iload_n hx hb dL_ask_220 rfl (lv_at hl 3 rfl) ?_
  refine wl_go (wl_runV (As := [.int a1, .int b1]) (rest := []) C0 hP hS (k_X6_setPlan l hst E w s.heap.size F AD N hI hs a1 b1) (cwV 2 hts gL_ask_X6_setPlan rfl rfl rfl (by decide +kernel) ⟨(Nat.le_of_ble_eq_true rfl), (Nat.le_of_ble_eq_true rfl)⟩) hs.x rfl rfl rfl hl.1 (Nat.le_of_ble_eq_true rfl) dL_ask_221 ⟨(Nat.le_of_ble_eq_true rfl), (Nat.le_of_ble_eq_true rfl)⟩) hS (wA_in hP hS C0.2.2.2.2.2.2.2.2 rfl) (fun X ce q9 w2 H locs hpx hP _ hS _ _ hce hcv hcl => ?_) (fun v w2 H locs hq hP _ hS _ _ => ?_)
  · obtain ⟨hw9, hx9⟩ := hpx
    rw [hw9] at hP
    have hix : ∀ q ∈ ixA, (Cond.classLink RL q.1 q.2).before args s = true := fun q hq => hts _ (ixA_in q hq)
    obtain ⟨hk9, rfl⟩ := hx9
    refine wt_catch 14 (x := (218, 224, 294, 93)) C1 hT hix (by rfl) (by decide +kernel) (by decide) (by decide) (by decide +kernel) xc_IOB hce hcv hcl ?_
    refine W.eq (g2 := F0 m 294 ls [.ref q9]) rfl ?_
    refine W.widen (k := 3) (n := 18) (Nat.le_of_ble_eq_true rfl) (Nat.le_of_ble_eq_true rfl) ?_
    refine lv_astore (lv' := [(6, .ref q9), (0, .ref (AD 5 0)), (1, .int 14), (2, .int a1), (3, .int b1), (4, .int c1), (5, .int d1)]) hx hb dL_ask_294 hl (by decide) rfl (fun ls hl => ?_)
    refine lv_sipush (v := -1001) hx hb dL_ask_296 (by decide) ?_
    exact wl_iret C0 hr rfl hP hS dL_ask_299 (Nat.le_of_ble_eq_true rfl) (Nat.le_of_ble_eq_true rfl) (⟨by rw [aE_x (k := 0) (v := -1001) hk9 rfl], ⟨AD, by rw [er_s_setPlan (by rw [hk9]; decide)]; exact hs, rfl⟩, hk0⟩)
  · obtain ⟨AD2, h0, rfl, hs2, ha2, hk2⟩ := hq
    refine W.eq (g2 := F0 m 224 ls [.int ((s_setPlan F a1 b1).2.1)]) rfl ?_
    refine W.widen (k := 3) (n := 18) (Nat.le_of_ble_eq_true rfl) (Nat.le_of_ble_eq_true rfl) ?_
    exact wl_iret C0 hr rfl hP hS dL_ask_224 (Nat.le_of_ble_eq_true rfl) (Nat.le_of_ble_eq_true rfl) (⟨by rw [aE_0 h0], ⟨AD2, hs2, ha2⟩, hk0.tr hk2⟩)
set_option maxHeartbeats 4000000 in
set_option maxRecDepth 100000 in
theorem k_L_ask_tokens (l : Launch) (hst : l.stackTraces = false) (E : wEn) (w : wW) (sz : Nat) (F : FF) (x N : Nat) (w0 : wW) (hI : wInv F N) (hz : zK E F x w0 w) (a1 b1 c1 d1 : Int32) : wMt l yL_ask wsL_ask 6 3 18 E w sz [.ref x, .int 15, .int a1, .int b1, .int c1, .int d1] (pZ E F x w0 (aE [-1001] (s_tokens F a1))) := by
  obtain ⟨⟨AD, hs, rfl⟩, hk0⟩ := hz
  refine wt_startH (own := RL) (cc := cL_ask) (maxL := 7) (ret := (some .int)) (hh := hhA) rfl (by decide) rfl (Nat.le_of_ble_eq_true rfl) ?_
  intro p e s m args below meth c ls C1 hr hT hP hS hl
  have C0 := C1.1
  have hx := C0.1
  have hb := C0.2.1
  have hts := C0.2.2.2.2.1
  have hl : lv_has ls 7 [(0, .ref (AD 5 0)), (1, .int 15), (2, .int a1), (3, .int b1), (4, .int c1), (5, .int d1)] := hl
  refine lv_iload_n hx hb dL_ask_0 rfl (lv_at hl 1 rfl) ?_
  refine lv_tableIn (tgt := 225) hx hb dL_ask_1 (by decide) (by decide) (off := 224) (by rfl) (by decide) ?_
  refine lv_aload_n hx hb dL_ask_225 rfl (lv_at hl 0 rfl) ?_
  refine lv_iload_n hx hb dL_ask_226 rfl (lv_at hl 2 rfl) ?_
  refine wl_go (wl_runV (As := [.int a1]) (rest := []) C0 hP hS (k_X6_tokens l hst E w s.heap.size F AD N hI hs a1) (cwV 1 hts gL_ask_X6_tokens rfl rfl rfl (by decide +kernel) ⟨(Nat.le_of_ble_eq_true rfl), (Nat.le_of_ble_eq_true rfl)⟩) hs.x rfl rfl rfl hl.1 (Nat.le_of_ble_eq_true rfl) dL_ask_227 ⟨(Nat.le_of_ble_eq_true rfl), (Nat.le_of_ble_eq_true rfl)⟩) hS (wA_in hP hS C0.2.2.2.2.2.2.2.2 rfl) (fun X ce q9 w2 H locs hpx hP _ hS _ _ hce hcv hcl => ?_) (fun v w2 H locs hq hP _ hS _ _ => ?_)
  · obtain ⟨hw9, hx9⟩ := hpx
    rw [hw9] at hP
    have hix : ∀ q ∈ ixA, (Cond.classLink RL q.1 q.2).before args s = true := fun q hq => hts _ (ixA_in q hq)
    obtain ⟨hk9, rfl⟩ := hx9
    refine wt_catch 15 (x := (225, 230, 294, 93)) C1 hT hix (by rfl) (by decide +kernel) (by decide) (by decide) (by decide +kernel) xc_IOB hce hcv hcl ?_
    refine W.eq (g2 := F0 m 294 ls [.ref q9]) rfl ?_
    refine W.widen (k := 3) (n := 18) (Nat.le_of_ble_eq_true rfl) (Nat.le_of_ble_eq_true rfl) ?_
    refine lv_astore (lv' := [(6, .ref q9), (0, .ref (AD 5 0)), (1, .int 15), (2, .int a1), (3, .int b1), (4, .int c1), (5, .int d1)]) hx hb dL_ask_294 hl (by decide) rfl (fun ls hl => ?_)
    refine lv_sipush (v := -1001) hx hb dL_ask_296 (by decide) ?_
    exact wl_iret C0 hr rfl hP hS dL_ask_299 (Nat.le_of_ble_eq_true rfl) (Nat.le_of_ble_eq_true rfl) (⟨by rw [aE_x (k := 0) (v := -1001) hk9 rfl], ⟨AD, hs, rfl⟩, hk0⟩)
  · obtain ⟨AD2, h0, rfl, hs2, ha2, hk2⟩ := hq
    rw [lk_s_tokens] at hs2
    refine W.eq (g2 := F0 m 230 ls [.int ((s_tokens F a1).2.1)]) rfl ?_
    refine W.widen (k := 3) (n := 18) (Nat.le_of_ble_eq_true rfl) (Nat.le_of_ble_eq_true rfl) ?_
    exact wl_iret C0 hr rfl hP hS dL_ask_230 (Nat.le_of_ble_eq_true rfl) (Nat.le_of_ble_eq_true rfl) (⟨by rw [aE_0 h0], ⟨AD2, hs2, ha2⟩, hk0.tr hk2⟩)
