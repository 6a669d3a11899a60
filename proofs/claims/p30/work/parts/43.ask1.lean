/-! What ask answers. -/
def s_bill32 (F : FF) (c : Int32) : Nat × Int32 × FF := ((s_bill F c).1, (s_bill F c).2.1.toInt32, (s_bill F c).2.2)
theorem aE_0 {l : List Int32} {r : Nat × Int32 × FF} (h : r.1 = 0) : aE l r = r.2.1 := if_pos h
theorem aE_x {l : List Int32} {r : Nat × Int32 × FF} {k : Nat} {v : Int32} (h : r.1 = k + 1) (hv : l.getD k 0 = v) : aE l r = v := by
  unfold aE
  rw [if_neg (by rw [h]; exact Nat.succ_ne_zero k), h]
  exact hv
theorem er_s_addRoute {F : FF} {a1 b1 c1 d1 : Int32} (h : (s_addRoute F a1 b1 c1 d1).1 ≠ 0) : (s_addRoute F a1 b1 c1 d1).2.2 = F := by
  unfold s_addRoute at h ⊢
  (repeat' split) <;> first | rfl | (simp_all; done)
theorem er_s_route {F : FF} {a1 : Int32} (h : (s_route F a1).1 ≠ 0) : (s_route F a1).2.2 = F := by
  unfold s_route at h ⊢
  (repeat' split) <;> first | rfl | (simp_all; done)
theorem lk_s_route {F : FF} {a1 : Int32} : (s_route F a1).2.2 = F := by
  unfold s_route
  (repeat' split) <;> rfl
theorem er_s_setContract {F : FF} {a1 b1 c1 : Int32} (h : (s_setContract F a1 b1 c1).1 ≠ 0) : (s_setContract F a1 b1 c1).2.2 = F := by
  unfold s_setContract at h ⊢
  (repeat' split) <;> first | rfl | (simp_all; done)
theorem er_s_setAnswer {F : FF} {a1 b1 : Int32} (h : (s_setAnswer F a1 b1).1 ≠ 0) : (s_setAnswer F a1 b1).2.2 = F := by
  unfold s_setAnswer at h ⊢
  (repeat' split) <;> first | rfl | (simp_all; done)
theorem er_s_broken {F : FF} {a1 : Int32} (h : (s_broken F a1).1 ≠ 0) : (s_broken F a1).2.2 = F := by
  unfold s_broken at h ⊢
  (repeat' split) <;> first | rfl | (simp_all; done)
theorem lk_s_broken {F : FF} {a1 : Int32} : (s_broken F a1).2.2 = F := by
  unfold s_broken
  (repeat' split) <;> rfl
theorem er_s_begin {F : FF} {a1 b1 c1 d1 : Int32} (h : (s_begin F a1 b1 c1 d1).1 ≠ 0) : (s_begin F a1 b1 c1 d1).2.2 = F := by
  unfold s_begin at h ⊢
  (repeat' split) <;> first | rfl | (simp_all; done)
theorem er_s_promote {F : FF} {a1 : Int32} (h : (s_promote F a1).1 ≠ 0) : (s_promote F a1).2.2 = F := by
  unfold s_promote at h ⊢
  (repeat' split) <;> first | rfl | (simp_all; done)
theorem er_s_takeBack {F : FF} {a1 : Int32} (h : (s_takeBack F a1).1 ≠ 0) : (s_takeBack F a1).2.2 = F := by
  unfold s_takeBack at h ⊢
  (repeat' split) <;> first | rfl | (simp_all; done)
theorem er_s_hasCanary {F : FF} {a1 : Int32} (h : (s_hasCanary F a1).1 ≠ 0) : (s_hasCanary F a1).2.2 = F := by
  unfold s_hasCanary at h ⊢
  (repeat' split) <;> first | rfl | (simp_all; done)
theorem lk_s_hasCanary {F : FF} {a1 : Int32} : (s_hasCanary F a1).2.2 = F := by
  unfold s_hasCanary
  (repeat' split) <;> rfl
theorem er_s_faults {F : FF} {a1 : Int32} (h : (s_faults F a1).1 ≠ 0) : (s_faults F a1).2.2 = F := by
  unfold s_faults at h ⊢
  (repeat' split) <;> first | rfl | (simp_all; done)
theorem lk_s_faults {F : FF} {a1 : Int32} : (s_faults F a1).2.2 = F := by
  unfold s_faults
  (repeat' split) <;> rfl
theorem er_s_addPlan {F : FF} {a1 b1 c1 : Int32} (h : (s_addPlan F a1 b1 c1).1 ≠ 0) : (s_addPlan F a1 b1 c1).2.2 = F := by
  unfold s_addPlan at h ⊢
  (repeat' split) <;> first | rfl | (simp_all; done)
theorem er_s_addCaller {F : FF} {a1 : Int32} (h : (s_addCaller F a1).1 ≠ 0) : (s_addCaller F a1).2.2 = F := by
  unfold s_addCaller at h ⊢
  (repeat' split) <;> first | rfl | (simp_all; done)
theorem er_s_setPlan {F : FF} {a1 b1 : Int32} (h : (s_setPlan F a1 b1).1 ≠ 0) : (s_setPlan F a1 b1).2.2 = F := by
  unfold s_setPlan at h ⊢
  (repeat' split) <;> first | rfl | (simp_all; done)
theorem er_s_tokens {F : FF} {a1 : Int32} (h : (s_tokens F a1).1 ≠ 0) : (s_tokens F a1).2.2 = F := by
  unfold s_tokens at h ⊢
  (repeat' split) <;> first | rfl | (simp_all; done)
theorem lk_s_tokens {F : FF} {a1 : Int32} : (s_tokens F a1).2.2 = F := by
  unfold s_tokens
  (repeat' split) <;> rfl
theorem er_s_ticksUntil {F : FF} {a1 b1 : Int32} (h : (s_ticksUntil F a1 b1).1 ≠ 0) : (s_ticksUntil F a1 b1).2.2 = F := by
  unfold s_ticksUntil at h ⊢
  (repeat' split) <;> first | rfl | (simp_all; done)
theorem lk_s_ticksUntil {F : FF} {a1 b1 : Int32} : (s_ticksUntil F a1 b1).2.2 = F := by
  unfold s_ticksUntil
  (repeat' split) <;> rfl
theorem er_s_bill {F : FF} {a1 : Int32} (h : (s_bill F a1).1 ≠ 0) : (s_bill F a1).2.2 = F := by
  unfold s_bill at h ⊢
  (repeat' split) <;> first | rfl | (simp_all; done)
theorem lk_s_bill {F : FF} {a1 : Int32} : (s_bill F a1).2.2 = F := by
  unfold s_bill
  (repeat' split) <;> rfl
theorem er_s_call {F : FF} {a1 b1 c1 : Int32} (h : (s_call F a1 b1 c1).1 ≠ 0) : (s_call F a1 b1 c1).2.2 = F := by
  unfold s_call at h ⊢
  (repeat' split) <;> first | rfl | (simp_all; done)
theorem er_s_pass {F : FF} {a1 : Int32} (h : (s_pass F a1).1 ≠ 0) : (s_pass F a1).2.2 = F := by
  unfold s_pass at h ⊢
  (repeat' split) <;> first | rfl | (simp_all; done)
theorem er_s_count {F : FF} {a1 b1 : Int32} (h : (s_count F a1 b1).1 ≠ 0) : (s_count F a1 b1).2.2 = F := by
  unfold s_count at h ⊢
  (repeat' split) <;> first | rfl | (simp_all; done)
theorem lk_s_count {F : FF} {a1 b1 : Int32} : (s_count F a1 b1).2.2 = F := by
  unfold s_count
  (repeat' split) <;> rfl
theorem er_s_isUndone {F : FF} {a1 : Int32} (h : (s_isUndone F a1).1 ≠ 0) : (s_isUndone F a1).2.2 = F := by
  unfold s_isUndone at h ⊢
  (repeat' split) <;> first | rfl | (simp_all; done)
theorem lk_s_isUndone {F : FF} {a1 : Int32} : (s_isUndone F a1).2.2 = F := by
  unfold s_isUndone
  (repeat' split) <;> rfl
theorem er_s_greatest {F : FF} (h : (s_greatest F).1 ≠ 0) : (s_greatest F).2.2 = F := by
  unfold s_greatest at h ⊢
  (repeat' split) <;> first | rfl | (simp_all; done)
theorem lk_s_greatest {F : FF} : (s_greatest F).2.2 = F := by
  unfold s_greatest
  (repeat' split) <;> rfl
theorem b01_s_hasCanary {F : FF} {r1 : Int32} : (s_hasCanary F r1).2.1 = 0 ∨ (s_hasCanary F r1).2.1 = 1 := by
  unfold s_hasCanary
  split
  · cases decide (F 5 (tn r1) ≠ 0) <;> simp [bI]
  · exact Or.inl rfl
theorem b01_s_isUndone {F : FF} {k1 : Int32} : (s_isUndone F k1).2.1 = 0 ∨ (s_isUndone F k1).2.1 = 1 := by
  unfold s_isUndone
  split
  · cases decide (F 20 (tn k1) ≠ 0) <;> simp [bI]
  · exact Or.inl rfl
theorem ixA_in : ∀ q ∈ ixA, Cond.classLink RL q.1 q.2 ∈ wsL_ask := by decide +kernel
set_option maxHeartbeats 4000000 in
set_option maxRecDepth 100000 in
theorem k_L_ask_addRoute (l : Launch) (hst : l.stackTraces = false) (E : wEn) (w : wW) (sz : Nat) (F : FF) (x N : Nat) (w0 : wW) (hI : wInv F N) (hz : zK E F x w0 w) (a1 b1 c1 d1 : Int32) : wMt l yL_ask wsL_ask 6 3 18 E w sz [.ref x, .int 0, .int a1, .int b1, .int c1, .int d1] (pZ E ((s_addRoute F a1 b1 c1 d1).2.2) x w0 (aE [-1002, -1003] (s_addRoute F a1 b1 c1 d1))) := by
  obtain ⟨⟨AD, hs, rfl⟩, hk0⟩ := hz
  refine wt_startH (own := RL) (cc := cL_ask) (maxL := 7) (ret := (some .int)) (hh := hhA) rfl (by decide) rfl (Nat.le_of_ble_eq_true rfl) ?_
  intro p e s m args below meth c ls C1 hr hT hP hS hl
  have C0 := C1.1
  have hx := C0.1
  have hb := C0.2.1
  have hts := C0.2.2.2.2.1
  have hl : lv_has ls 7 [(0, .ref (AD 5 0)), (1, .int 0), (2, .int a1), (3, .int b1), (4, .int c1), (5, .int d1)] := hl
  refine lv_iload_n hx hb dL_ask_0 rfl (lv_at hl 1 rfl) ?_
  refine lv_tableIn (tgt := 108) hx hb dL_ask_1 (by decide) (by decide) (off := 107) (by rfl) (by decide) ?_
  refine lv_aload_n hx hb dL_ask_108 rfl (lv_at hl 0 rfl) ?_
  refine lv_iload_n hx hb dL_ask_109 rfl (lv_at hl 2 rfl) ?_
  refine lv_iload_n hx hb dL_ask_110 rfl (lv_at hl 3 rfl) ?_
  refine lv_iload hx hb dL_ask_111 (lv_at hl 4 rfl) ?_
  refine lv_iload hx hb dL_ask_113 (lv_at hl 5 rfl) ?_
  refine wl_go (wl_runV (As := [.int a1, .int b1, .int c1, .int d1]) (rest := []) C0 hP hS (k_X6_addRoute l hst E w s.heap.size F AD N hI hs a1 b1 c1 d1) (cwV 4 hts gL_ask_X6_addRoute rfl rfl rfl (by decide +kernel) ⟨(Nat.le_of_ble_eq_true rfl), (Nat.le_of_ble_eq_true rfl)⟩) hs.x rfl rfl rfl hl.1 (Nat.le_of_ble_eq_true rfl) dL_ask_115 ⟨(Nat.le_of_ble_eq_true rfl), (Nat.le_of_ble_eq_true rfl)⟩) hS (wA_in hP hS C0.2.2.2.2.2.2.2.2 rfl) (fun X ce q9 w2 H locs hpx hP _ hS _ _ hce hcv hcl => ?_) (fun v w2 H locs hq hP _ hS _ _ => ?_)
  · obtain ⟨hw9, hx9⟩ := hpx
    rw [hw9] at hP
    have hix : ∀ q ∈ ixA, (Cond.classLink RL q.1 q.2).before args s = true := fun q hq => hts _ (ixA_in q hq)
    rcases hx9 with ⟨hk9, rfl⟩ | ⟨hk9, rfl⟩
    · refine wt_catch 24 (x := (0, 118, 300, 95)) C1 hT hix (by rfl) (by decide +kernel) (by decide) (by decide) (by decide +kernel) xc_IAE hce hcv hcl ?_
      refine W.eq (g2 := F0 m 300 ls [.ref q9]) rfl ?_
      refine W.widen (k := 3) (n := 18) (Nat.le_of_ble_eq_true rfl) (Nat.le_of_ble_eq_true rfl) ?_
      refine lv_astore (lv' := [(6, .ref q9), (0, .ref (AD 5 0)), (1, .int 0), (2, .int a1), (3, .int b1), (4, .int c1), (5, .int d1)]) hx hb dL_ask_300 hl (by decide) rfl (fun ls hl => ?_)
      refine lv_sipush (v := -1002) hx hb dL_ask_302 (by decide) ?_
      exact wl_iret C0 hr rfl hP hS dL_ask_305 (Nat.le_of_ble_eq_true rfl) (Nat.le_of_ble_eq_true rfl) (⟨by rw [aE_x (k := 0) (v := -1002) hk9 rfl], ⟨AD, by rw [er_s_addRoute (by rw [hk9]; decide)]; exact hs, rfl⟩, hk0⟩)
    · refine wt_catch 48 (x := (0, 118, 306, 97)) C1 hT hix (by rfl) (by decide +kernel) (by decide) (by decide) (by decide +kernel) xc_ISE hce hcv hcl ?_
      refine W.eq (g2 := F0 m 306 ls [.ref q9]) rfl ?_
      refine W.widen (k := 3) (n := 18) (Nat.le_of_ble_eq_true rfl) (Nat.le_of_ble_eq_true rfl) ?_
      refine lv_astore (lv' := [(6, .ref q9), (0, .ref (AD 5 0)), (1, .int 0), (2, .int a1), (3, .int b1), (4, .int c1), (5, .int d1)]) hx hb dL_ask_306 hl (by decide) rfl (fun ls hl => ?_)
      refine lv_sipush (v := -1003) hx hb dL_ask_308 (by decide) ?_
      exact wl_iret C0 hr rfl hP hS dL_ask_311 (Nat.le_of_ble_eq_true rfl) (Nat.le_of_ble_eq_true rfl) (⟨by rw [aE_x (k := 1) (v := -1003) hk9 rfl], ⟨AD, by rw [er_s_addRoute (by rw [hk9]; decide)]; exact hs, rfl⟩, hk0⟩)
  · obtain ⟨AD2, h0, rfl, hs2, ha2, hk2⟩ := hq
    refine W.eq (g2 := F0 m 118 ls [.int ((s_addRoute F a1 b1 c1 d1).2.1)]) rfl ?_
    refine W.widen (k := 3) (n := 18) (Nat.le_of_ble_eq_true rfl) (Nat.le_of_ble_eq_true rfl) ?_
    exact wl_iret C0 hr rfl hP hS dL_ask_118 (Nat.le_of_ble_eq_true rfl) (Nat.le_of_ble_eq_true rfl) (⟨by rw [aE_0 h0], ⟨AD2, hs2, ha2⟩, hk0.tr hk2⟩)
set_option maxHeartbeats 4000000 in
set_option maxRecDepth 100000 in
theorem k_L_ask_route (l : Launch) (hst : l.stackTraces = false) (E : wEn) (w : wW) (sz : Nat) (F : FF) (x N : Nat) (w0 : wW) (hI : wInv F N) (hz : zK E F x w0 w) (a1 b1 c1 d1 : Int32) : wMt l yL_ask wsL_ask 6 3 18 E w sz [.ref x, .int 1, .int a1, .int b1, .int c1, .int d1] (pZ E F x w0 (aE [-1002, -1005] (s_route F a1))) := by
  obtain ⟨⟨AD, hs, rfl⟩, hk0⟩ := hz
  refine wt_startH (own := RL) (cc := cL_ask) (maxL := 7) (ret := (some .int)) (hh := hhA) rfl (by decide) rfl (Nat.le_of_ble_eq_true rfl) ?_
  intro p e s m args below meth c ls C1 hr hT hP hS hl
  have C0 := C1.1
  have hx := C0.1
  have hb := C0.2.1
  have hts := C0.2.2.2.2.1
  have hl : lv_has ls 7 [(0, .ref (AD 5 0)), (1, .int 1), (2, .int a1), (3, .int b1), (4, .int c1), (5, .int d1)] := hl
  refine lv_iload_n hx hb dL_ask_0 rfl (lv_at hl 1 rfl) ?_
  refine lv_tableIn (tgt := 119) hx hb dL_ask_1 (by decide) (by decide) (off := 118) (by rfl) (by decide) ?_
  refine lv_aload_n hx hb dL_ask_119 rfl (lv_at hl 0 rfl) ?_
  refine lv_iload_n hx hb dL_ask_120 rfl (lv_at hl 2 rfl) ?_
  refine wl_go (wl_runV (As := [.int a1]) (rest := []) C0 hP hS (k_X6_route l hst E w s.heap.size F AD N hI hs a1) (cwV 1 hts gL_ask_X6_route rfl rfl rfl (by decide +kernel) ⟨(Nat.le_of_ble_eq_true rfl), (Nat.le_of_ble_eq_true rfl)⟩) hs.x rfl rfl rfl hl.1 (Nat.le_of_ble_eq_true rfl) dL_ask_121 ⟨(Nat.le_of_ble_eq_true rfl), (Nat.le_of_ble_eq_true rfl)⟩) hS (wA_in hP hS C0.2.2.2.2.2.2.2.2 rfl) (fun X ce q9 w2 H locs hpx hP _ hS _ _ hce hcv hcl => ?_) (fun v w2 H locs hq hP _ hS _ _ => ?_)
  · obtain ⟨hw9, hx9⟩ := hpx
    rw [hw9] at hP
    have hix : ∀ q ∈ ixA, (Cond.classLink RL q.1 q.2).before args s = true := fun q hq => hts _ (ixA_in q hq)
    rcases hx9 with ⟨hk9, rfl⟩ | ⟨hk9, rfl⟩
    · refine wt_catch 25 (x := (119, 124, 300, 95)) C1 hT hix (by rfl) (by decide +kernel) (by decide) (by decide) (by decide +kernel) xc_IAE hce hcv hcl ?_
      refine W.eq (g2 := F0 m 300 ls [.ref q9]) rfl ?_
      refine W.widen (k := 3) (n := 18) (Nat.le_of_ble_eq_true rfl) (Nat.le_of_ble_eq_true rfl) ?_
      refine lv_astore (lv' := [(6, .ref q9), (0, .ref (AD 5 0)), (1, .int 1), (2, .int a1), (3, .int b1), (4, .int c1), (5, .int d1)]) hx hb dL_ask_300 hl (by decide) rfl (fun ls hl => ?_)
      refine lv_sipush (v := -1002) hx hb dL_ask_302 (by decide) ?_
      exact wl_iret C0 hr rfl hP hS dL_ask_305 (Nat.le_of_ble_eq_true rfl) (Nat.le_of_ble_eq_true rfl) (⟨by rw [aE_x (k := 0) (v := -1002) hk9 rfl], ⟨AD, hs, rfl⟩, hk0⟩)
    · refine wt_catch 97 (x := (119, 124, 318, 101)) C1 hT hix (by rfl) (by decide +kernel) (by decide) (by decide) (by decide +kernel) xc_NSE hce hcv hcl ?_
      refine W.eq (g2 := F0 m 318 ls [.ref q9]) rfl ?_
      refine W.widen (k := 3) (n := 18) (Nat.le_of_ble_eq_true rfl) (Nat.le_of_ble_eq_true rfl) ?_
      refine lv_astore (lv' := [(6, .ref q9), (0, .ref (AD 5 0)), (1, .int 1), (2, .int a1), (3, .int b1), (4, .int c1), (5, .int d1)]) hx hb dL_ask_318 hl (by decide) rfl (fun ls hl => ?_)
      refine lv_sipush (v := -1005) hx hb dL_ask_320 (by decide) ?_
      exact wl_iret C0 hr rfl hP hS dL_ask_323 (Nat.le_of_ble_eq_true rfl) (Nat.le_of_ble_eq_true rfl) (⟨by rw [aE_x (k := 1) (v := -1005) hk9 rfl], ⟨AD, hs, rfl⟩, hk0⟩)
  · obtain ⟨AD2, h0, rfl, hs2, ha2, hk2⟩ := hq
    rw [lk_s_route] at hs2
    refine W.eq (g2 := F0 m 124 ls [.int ((s_route F a1).2.1)]) rfl ?_
    refine W.widen (k := 3) (n := 18) (Nat.le_of_ble_eq_true rfl) (Nat.le_of_ble_eq_true rfl) ?_
    exact wl_iret C0 hr rfl hP hS dL_ask_124 (Nat.le_of_ble_eq_true rfl) (Nat.le_of_ble_eq_true rfl) (⟨by rw [aE_0 h0], ⟨AD2, hs2, ha2⟩, hk0.tr hk2⟩)
set_option maxHeartbeats 4000000 in
set_option maxRecDepth 100000 in
theorem k_L_ask_setContract (l : Launch) (hst : l.stackTraces = false) (E : wEn) (w : wW) (sz : Nat) (F : FF) (x N : Nat) (w0 : wW) (hI : wInv F N) (hz : zK E F x w0 w) (a1 b1 c1 d1 : Int32) : wMt l yL_ask wsL_ask 6 3 18 E w sz [.ref x, .int 3, .int a1, .int b1, .int c1, .int d1] (pZ E ((s_setContract F a1 b1 c1).2.2) x w0 (aE [-1001, -1002] (s_setContract F a1 b1 c1))) := by
  obtain ⟨⟨AD, hs, rfl⟩, hk0⟩ := hz
  refine wt_startH (own := RL) (cc := cL_ask) (maxL := 7) (ret := (some .int)) (hh := hhA) rfl (by decide) rfl (Nat.le_of_ble_eq_true rfl) ?_
  intro p e s m args below meth c ls C1 hr hT hP hS hl
  have C0 := C1.1
  have hx := C0.1
  have hb := C0.2.1
  have hts := C0.2.2.2.2.1
  have hl : lv_has ls 7 [(0, .ref (AD 5 0)), (1, .int 3), (2, .int a1), (3, .int b1), (4, .int c1), (5, .int d1)] := hl
  refine lv_iload_n hx hb dL_ask_0 rfl (lv_at hl 1 rfl) ?_
  refine lv_tableIn (tgt := 131) hx hb dL_ask_1 (by decide) (by decide) (off := 130) (by rfl) (by decide) ?_
  refine lv_aload_n hx hb dL_ask_131 rfl (lv_at hl 0 rfl) ?_
  refine lv_iload_n hx hb dL_ask_132 rfl (lv_at hl 2 rfl) ?_
  refine lv_iload_n hx hb dL_ask_133 rfl (lv_at hl 3 rfl) ?_
  refine lv_iload hx hb dL_ask_134 (lv_at hl 4 rfl) ?_
  refine wl_go (wl_runV (As := [.int a1, .int b1, .int c1]) (rest := []) C0 hP hS (k_X6_setContract l hst E w s.heap.size F AD N hI hs a1 b1 c1) (cwV 3 hts gL_ask_X6_setContract rfl rfl rfl (by decide +kernel) ⟨(Nat.le_of_ble_eq_true rfl), (Nat.le_of_ble_eq_true rfl)⟩) hs.x rfl rfl rfl hl.1 (Nat.le_of_ble_eq_true rfl) dL_ask_136 ⟨(Nat.le_of_ble_eq_true rfl), (Nat.le_of_ble_eq_true rfl)⟩) hS (wA_in hP hS C0.2.2.2.2.2.2.2.2 rfl) (fun X ce q9 w2 H locs hpx hP _ hS _ _ hce hcv hcl => ?_) (fun v w2 H locs hq hP _ hS _ _ => ?_)
  · obtain ⟨hw9, hx9⟩ := hpx
    rw [hw9] at hP
    have hix : ∀ q ∈ ixA, (Cond.classLink RL q.1 q.2).before args s = true := fun q hq => hts _ (ixA_in q hq)
    rcases hx9 with ⟨hk9, rfl⟩ | ⟨hk9, rfl⟩
    · refine wt_catch 3 (x := (131, 139, 294, 93)) C1 hT hix (by rfl) (by decide +kernel) (by decide) (by decide) (by decide +kernel) xc_IOB hce hcv hcl ?_
      refine W.eq (g2 := F0 m 294 ls [.ref q9]) rfl ?_
      refine W.widen (k := 3) (n := 18) (Nat.le_of_ble_eq_true rfl) (Nat.le_of_ble_eq_true rfl) ?_
      refine lv_astore (lv' := [(6, .ref q9), (0, .ref (AD 5 0)), (1, .int 3), (2, .int a1), (3, .int b1), (4, .int c1), (5, .int d1)]) hx hb dL_ask_294 hl (by decide) rfl (fun ls hl => ?_)
      refine lv_sipush (v := -1001) hx hb dL_ask_296 (by decide) ?_
      exact wl_iret C0 hr rfl hP hS dL_ask_299 (Nat.le_of_ble_eq_true rfl) (Nat.le_of_ble_eq_true rfl) (⟨by rw [aE_x (k := 0) (v := -1001) hk9 rfl], ⟨AD, by rw [er_s_setContract (by rw [hk9]; decide)]; exact hs, rfl⟩, hk0⟩)
    · refine wt_catch 27 (x := (131, 139, 300, 95)) C1 hT hix (by rfl) (by decide +kernel) (by decide) (by decide) (by decide +kernel) xc_IAE hce hcv hcl ?_
      refine W.eq (g2 := F0 m 300 ls [.ref q9]) rfl ?_
      refine W.widen (k := 3) (n := 18) (Nat.le_of_ble_eq_true rfl) (Nat.le_of_ble_eq_true rfl) ?_
      refine lv_astore (lv' := [(6, .ref q9), (0, .ref (AD 5 0)), (1, .int 3), (2, .int a1), (3, .int b1), (4, .int c1), (5, .int d1)]) hx hb dL_ask_300 hl (by decide) rfl (fun ls hl => ?_)
      refine lv_sipush (v := -1002) hx hb dL_ask_302 (by decide) ?_
      exact wl_iret C0 hr rfl hP hS dL_ask_305 (Nat.le_of_ble_eq_true rfl) (Nat.le_of_ble_eq_true rfl) (⟨by rw [aE_x (k := 1) (v := -1002) hk9 rfl], ⟨AD, by rw [er_s_setContract (by rw [hk9]; decide)]; exact hs, rfl⟩, hk0⟩)
  · obtain ⟨AD2, h0, rfl, hs2, ha2, hk2⟩ := hq
    refine W.eq (g2 := F0 m 139 ls [.int ((s_setContract F a1 b1 c1).2.1)]) rfl ?_
    refine W.widen (k := 3) (n := 18) (Nat.le_of_ble_eq_true rfl) (Nat.le_of_ble_eq_true rfl) ?_
    exact wl_iret C0 hr rfl hP hS dL_ask_139 (Nat.le_of_ble_eq_true rfl) (Nat.le_of_ble_eq_true rfl) (⟨by rw [aE_0 h0], ⟨AD2, hs2, ha2⟩, hk0.tr hk2⟩)
set_option maxHeartbeats 4000000 in
set_option maxRecDepth 100000 in
theorem k_L_ask_setAnswer (l : Launch) (hst : l.stackTraces = false) (E : wEn) (w : wW) (sz : Nat) (F : FF) (x N : Nat) (w0 : wW) (hI : wInv F N) (hz : zK E F x w0 w) (a1 b1 c1 d1 : Int32) : wMt l yL_ask wsL_ask 6 3 18 E w sz [.ref x, .int 4, .int a1, .int b1, .int c1, .int d1] (pZ E ((s_setAnswer F a1 b1).2.2) x w0 (aE [-1001, -1002] (s_setAnswer F a1 b1))) := by
  obtain ⟨⟨AD, hs, rfl⟩, hk0⟩ := hz
  refine wt_startH (own := RL) (cc := cL_ask) (maxL := 7) (ret := (some .int)) (hh := hhA) rfl (by decide) rfl (Nat.le_of_ble_eq_true rfl) ?_
  intro p e s m args below meth c ls C1 hr hT hP hS hl
  have C0 := C1.1
  have hx := C0.1
  have hb := C0.2.1
  have hts := C0.2.2.2.2.1
  have hl : lv_has ls 7 [(0, .ref (AD 5 0)), (1, .int 4), (2, .int a1), (3, .int b1), (4, .int c1), (5, .int d1)] := hl
  refine lv_iload_n hx hb dL_ask_0 rfl (lv_at hl 1 rfl) ?_
  refine lv_tableIn (tgt := 140) hx hb dL_ask_1 (by decide) (by decide) (off := 139) (by rfl) (by decide) ?_
  refine lv_aload_n hx hb dL_ask_140 rfl (lv_at hl 0 rfl) ?_
  refine lv_iload_n hx hb dL_ask_141 rfl (lv_at hl 2 rfl) ?_
  refine lv_iload_n hx hb dL_ask_142 rfl (lv_at hl 3 rfl) ?_
  refine wl_go (wl_runV (As := [.int a1, .int b1]) (rest := []) C0 hP hS (k_X6_setAnswer l hst E w s.heap.size F AD N hI hs a1 b1) (cwV 2 hts gL_ask_X6_setAnswer rfl rfl rfl (by decide +kernel) ⟨(Nat.le_of_ble_eq_true rfl), (Nat.le_of_ble_eq_true rfl)⟩) hs.x rfl rfl rfl hl.1 (Nat.le_of_ble_eq_true rfl) dL_ask_143 ⟨(Nat.le_of_ble_eq_true rfl), (Nat.le_of_ble_eq_true rfl)⟩) hS (wA_in hP hS C0.2.2.2.2.2.2.2.2 rfl) (fun X ce q9 w2 H locs hpx hP _ hS _ _ hce hcv hcl => ?_) (fun v w2 H locs hq hP _ hS _ _ => ?_)
  · obtain ⟨hw9, hx9⟩ := hpx
    rw [hw9] at hP
    have hix : ∀ q ∈ ixA, (Cond.classLink RL q.1 q.2).before args s = true := fun q hq => hts _ (ixA_in q hq)
    rcases hx9 with ⟨hk9, rfl⟩ | ⟨hk9, rfl⟩
    · refine wt_catch 4 (x := (140, 146, 294, 93)) C1 hT hix (by rfl) (by decide +kernel) (by decide) (by decide) (by decide +kernel) xc_IOB hce hcv hcl ?_
      refine W.eq (g2 := F0 m 294 ls [.ref q9]) rfl ?_
      refine W.widen (k := 3) (n := 18) (Nat.le_of_ble_eq_true rfl) (Nat.le_of_ble_eq_true rfl) ?_
      refine lv_astore (lv' := [(6, .ref q9), (0, .ref (AD 5 0)), (1, .int 4), (2, .int a1), (3, .int b1), (4, .int c1), (5, .int d1)]) hx hb dL_ask_294 hl (by decide) rfl (fun ls hl => ?_)
      refine lv_sipush (v := -1001) hx hb dL_ask_296 (by decide) ?_
      exact wl_iret C0 hr rfl hP hS dL_ask_299 (Nat.le_of_ble_eq_true rfl) (Nat.le_of_ble_eq_true rfl) (⟨by rw [aE_x (k := 0) (v := -1001) hk9 rfl], ⟨AD, by rw [er_s_setAnswer (by rw [hk9]; decide)]; exact hs, rfl⟩, hk0⟩)
    · refine wt_catch 28 (x := (140, 146, 300, 95)) C1 hT hix (by rfl) (by decide +kernel) (by decide) (by decide) (by decide +kernel) xc_IAE hce hcv hcl ?_
      refine W.eq (g2 := F0 m 300 ls [.ref q9]) rfl ?_
      refine W.widen (k := 3) (n := 18) (Nat.le_of_ble_eq_true rfl) (Nat.le_of_ble_eq_true rfl) ?_
      refine lv_astore (lv' := [(6, .ref q9), (0, .ref (AD 5 0)), (1, .int 4), (2, .int a1), (3, .int b1), (4, .int c1), (5, .int d1)]) hx hb dL_ask_300 hl (by decide) rfl (fun ls hl => ?_)
      refine lv_sipush (v := -1002) hx hb dL_ask_302 (by decide) ?_
      exact wl_iret C0 hr rfl hP hS dL_ask_305 (Nat.le_of_ble_eq_true rfl) (Nat.le_of_ble_eq_true rfl) (⟨by rw [aE_x (k := 1) (v := -1002) hk9 rfl], ⟨AD, by rw [er_s_setAnswer (by rw [hk9]; decide)]; exact hs, rfl⟩, hk0⟩)
  · obtain ⟨AD2, h0, rfl, hs2, ha2, hk2⟩ := hq
    refine W.eq (g2 := F0 m 146 ls [.int ((s_setAnswer F a1 b1).2.1)]) rfl ?_
    refine W.widen (k := 3) (n := 18) (Nat.le_of_ble_eq_true rfl) (Nat.le_of_ble_eq_true rfl) ?_
    exact wl_iret C0 hr rfl hP hS dL_ask_146 (Nat.le_of_ble_eq_true rfl) (Nat.le_of_ble_eq_true rfl) (⟨by rw [aE_0 h0], ⟨AD2, hs2, ha2⟩, hk0.tr hk2⟩)
set_option maxHeartbeats 4000000 in
set_option maxRecDepth 100000 in
theorem k_L_ask_broken (l : Launch) (hst : l.stackTraces = false) (E : wEn) (w : wW) (sz : Nat) (F : FF) (x N : Nat) (w0 : wW) (hI : wInv F N) (hz : zK E F x w0 w) (a1 b1 c1 d1 : Int32) : wMt l yL_ask wsL_ask 6 3 18 E w sz [.ref x, .int 5, .int a1, .int b1, .int c1, .int d1] (pZ E F x w0 (aE [-1001] (s_broken F a1))) := by
  obtain ⟨⟨AD, hs, rfl⟩, hk0⟩ := hz
  refine wt_startH (own := RL) (cc := cL_ask) (maxL := 7) (ret := (some .int)) (hh := hhA) rfl (by decide) rfl (Nat.le_of_ble_eq_true rfl) ?_
  intro p e s m args below meth c ls C1 hr hT hP hS hl
  have C0 := C1.1
  have hx := C0.1
  have hb := C0.2.1
  have hts := C0.2.2.2.2.1
  have hl : lv_has ls 7 [(0, .ref (AD 5 0)), (1, .int 5), (2, .int a1), (3, .int b1), (4, .int c1), (5, .int d1)] := hl
  refine lv_iload_n hx hb dL_ask_0 rfl (lv_at hl 1 rfl) ?_
  refine lv_tableIn (tgt := 147) hx hb dL_ask_1 (by decide) (by decide) (off := 146) (by rfl) (by decide) ?_
  refine lv_aload_n hx hb dL_ask_147 rfl (lv_at hl 0 rfl) ?_
  refine lv_iload_n hx hb dL_ask_148 rfl (lv_at hl 2 rfl) ?_
  refine wl_go (wl_runV (As := [.int a1]) (rest := []) C0 hP hS (k_X6_broken l hst E w s.heap.size F AD N hI hs a1) (cwV 1 hts gL_ask_X6_broken rfl rfl rfl (by decide +kernel) ⟨(Nat.le_of_ble_eq_true rfl), (Nat.le_of_ble_eq_true rfl)⟩) hs.x rfl rfl rfl hl.1 (Nat.le_of_ble_eq_true rfl) dL_ask_149 ⟨(Nat.le_of_ble_eq_true rfl), (Nat.le_of_ble_eq_true rfl)⟩) hS (wA_in hP hS C0.2.2.2.2.2.2.2.2 rfl) (fun X ce q9 w2 H locs hpx hP _ hS _ _ hce hcv hcl => ?_) (fun v w2 H locs hq hP _ hS _ _ => ?_)
  · obtain ⟨hw9, hx9⟩ := hpx
    rw [hw9] at hP
    have hix : ∀ q ∈ ixA, (Cond.classLink RL q.1 q.2).before args s = true := fun q hq => hts _ (ixA_in q hq)
    obtain ⟨hk9, rfl⟩ := hx9
    refine wt_catch 5 (x := (147, 152, 294, 93)) C1 hT hix (by rfl) (by decide +kernel) (by decide) (by decide) (by decide +kernel) xc_IOB hce hcv hcl ?_
    refine W.eq (g2 := F0 m 294 ls [.ref q9]) rfl ?_
    refine W.widen (k := 3) (n := 18) (Nat.le_of_ble_eq_true rfl) (Nat.le_of_ble_eq_true rfl) ?_
    refine lv_astore (lv' := [(6, .ref q9), (0, .ref (AD 5 0)), (1, .int 5), (2, .int a1), (3, .int b1), (4, .int c1), (5, .int d1)]) hx hb dL_ask_294 hl (by decide) rfl (fun ls hl => ?_)
    refine lv_sipush (v := -1001) hx hb dL_ask_296 (by decide) ?_
    exact wl_iret C0 hr rfl hP hS dL_ask_299 (Nat.le_of_ble_eq_true rfl) (Nat.le_of_ble_eq_true rfl) (⟨by rw [aE_x (k := 0) (v := -1001) hk9 rfl], ⟨AD, hs, rfl⟩, hk0⟩)
  · obtain ⟨AD2, h0, rfl, hs2, ha2, hk2⟩ := hq
    rw [lk_s_broken] at hs2
    refine W.eq (g2 := F0 m 152 ls [.int ((s_broken F a1).2.1)]) rfl ?_
    refine W.widen (k := 3) (n := 18) (Nat.le_of_ble_eq_true rfl) (Nat.le_of_ble_eq_true rfl) ?_
    exact wl_iret C0 hr rfl hP hS dL_ask_152 (Nat.le_of_ble_eq_true rfl) (Nat.le_of_ble_eq_true rfl) (⟨by rw [aE_0 h0], ⟨AD2, hs2, ha2⟩, hk0.tr hk2⟩)
set_option maxHeartbeats 4000000 in
set_option maxRecDepth 100000 in
theorem k_L_ask_begin (l : Launch) (hst : l.stackTraces = false) (E : wEn) (w : wW) (sz : Nat) (F : FF) (x N : Nat) (w0 : wW) (hI : wInv F N) (hz : zK E F x w0 w) (a1 b1 c1 d1 : Int32) : wMt l yL_ask wsL_ask 6 3 18 E w sz [.ref x, .int 6, .int a1, .int b1, .int c1, .int d1] (pZ E ((s_begin F a1 b1 c1 d1).2.2) x w0 (aE [-1001, -1002, -1003] (s_begin F a1 b1 c1 d1))) := by
  obtain ⟨⟨AD, hs, rfl⟩, hk0⟩ := hz
  refine wt_startH (own := RL) (cc := cL_ask) (maxL := 7) (ret := (some .int)) (hh := hhA) rfl (by decide) rfl (Nat.le_of_ble_eq_true rfl) ?_
  intro p e s m args below meth c ls C1 hr hT hP hS hl
  have C0 := C1.1
  have hx := C0.1
  have hb := C0.2.1
  have hts := C0.2.2.2.2.1
  have hl : lv_has ls 7 [(0, .ref (AD 5 0)), (1, .int 6), (2, .int a1), (3, .int b1), (4, .int c1), (5, .int d1)] := hl
  refine lv_iload_n hx hb dL_ask_0 rfl (lv_at hl 1 rfl) ?_
  refine lv_tableIn (tgt := 153) hx hb dL_ask_1 (by decide) (by decide) (off := 152) (by rfl) (by decide) ?_
  refine lv_aload_n hx hb dL_ask_153 rfl (lv_at hl 0 rfl) ?_
  refine lv_iload_n hx hb dL_ask_154 rfl (lv_at hl 2 rfl) ?_
  refine lv_iload_n hx hb dL_ask_155 rfl (lv_at hl 3 rfl) ?_
  refine lv_iload hx hb dL_ask_156 (lv_at hl 4 rfl) ?_
  refine lv_iload hx hb dL_ask_158 (lv_at hl 5 rfl) ?_
  refine wl_go (wl_runV (As := [.int a1, .int b1, .int c1, .int d1]) (rest := []) C0 hP hS (k_X6_begin l hst E w s.heap.size F AD N hI hs a1 b1 c1 d1) (cwV 4 hts gL_ask_X6_begin rfl rfl rfl (by decide +kernel) ⟨(Nat.le_of_ble_eq_true rfl), (Nat.le_of_ble_eq_true rfl)⟩) hs.x rfl rfl rfl hl.1 (Nat.le_of_ble_eq_true rfl) dL_ask_160 ⟨(Nat.le_of_ble_eq_true rfl), (Nat.le_of_ble_eq_true rfl)⟩) hS (wA_in hP hS C0.2.2.2.2.2.2.2.2 rfl) (fun X ce q9 w2 H locs hpx hP _ hS _ _ hce hcv hcl => ?_) (fun v w2 H locs hq hP _ hS _ _ => ?_)
  · obtain ⟨hw9, hx9⟩ := hpx
    rw [hw9] at hP
    have hix : ∀ q ∈ ixA, (Cond.classLink RL q.1 q.2).before args s = true := fun q hq => hts _ (ixA_in q hq)
    rcases hx9 with ⟨hk9, rfl⟩ | ⟨hk9, rfl⟩ | ⟨hk9, rfl⟩
    · refine wt_catch 6 (x := (153, 163, 294, 93)) C1 hT hix (by rfl) (by decide +kernel) (by decide) (by decide) (by decide +kernel) xc_IOB hce hcv hcl ?_
      refine W.eq (g2 := F0 m 294 ls [.ref q9]) rfl ?_
      refine W.widen (k := 3) (n := 18) (Nat.le_of_ble_eq_true rfl) (Nat.le_of_ble_eq_true rfl) ?_
      refine lv_astore (lv' := [(6, .ref q9), (0, .ref (AD 5 0)), (1, .int 6), (2, .int a1), (3, .int b1), (4, .int c1), (5, .int d1)]) hx hb dL_ask_294 hl (by decide) rfl (fun ls hl => ?_)
      refine lv_sipush (v := -1001) hx hb dL_ask_296 (by decide) ?_
      exact wl_iret C0 hr rfl hP hS dL_ask_299 (Nat.le_of_ble_eq_true rfl) (Nat.le_of_ble_eq_true rfl) (⟨by rw [aE_x (k := 0) (v := -1001) hk9 rfl], ⟨AD, by rw [er_s_begin (by rw [hk9]; decide)]; exact hs, rfl⟩, hk0⟩)
    · refine wt_catch 30 (x := (153, 163, 300, 95)) C1 hT hix (by rfl) (by decide +kernel) (by decide) (by decide) (by decide +kernel) xc_IAE hce hcv hcl ?_
      refine W.eq (g2 := F0 m 300 ls [.ref q9]) rfl ?_
      refine W.widen (k := 3) (n := 18) (Nat.le_of_ble_eq_true rfl) (Nat.le_of_ble_eq_true rfl) ?_
      refine lv_astore (lv' := [(6, .ref q9), (0, .ref (AD 5 0)), (1, .int 6), (2, .int a1), (3, .int b1), (4, .int c1), (5, .int d1)]) hx hb dL_ask_300 hl (by decide) rfl (fun ls hl => ?_)
      refine lv_sipush (v := -1002) hx hb dL_ask_302 (by decide) ?_
      exact wl_iret C0 hr rfl hP hS dL_ask_305 (Nat.le_of_ble_eq_true rfl) (Nat.le_of_ble_eq_true rfl) (⟨by rw [aE_x (k := 1) (v := -1002) hk9 rfl], ⟨AD, by rw [er_s_begin (by rw [hk9]; decide)]; exact hs, rfl⟩, hk0⟩)
    · refine wt_catch 54 (x := (153, 163, 306, 97)) C1 hT hix (by rfl) (by decide +kernel) (by decide) (by decide) (by decide +kernel) xc_ISE hce hcv hcl ?_
      refine W.eq (g2 := F0 m 306 ls [.ref q9]) rfl ?_
      refine W.widen (k := 3) (n := 18) (Nat.le_of_ble_eq_true rfl) (Nat.le_of_ble_eq_true rfl) ?_
      refine lv_astore (lv' := [(6, .ref q9), (0, .ref (AD 5 0)), (1, .int 6), (2, .int a1), (3, .int b1), (4, .int c1), (5, .int d1)]) hx hb dL_ask_306 hl (by decide) rfl (fun ls hl => ?_)
      refine lv_sipush (v := -1003) hx hb dL_ask_308 (by decide) ?_
      exact wl_iret C0 hr rfl hP hS dL_ask_311 (Nat.le_of_ble_eq_true rfl) (Nat.le_of_ble_eq_true rfl) (⟨by rw [aE_x (k := 2) (v := -1003) hk9 rfl], ⟨AD, by rw [er_s_begin (by rw [hk9]; decide)]; exact hs, rfl⟩, hk0⟩)
  · obtain ⟨AD2, h0, rfl, hs2, ha2, hk2⟩ := hq
    refine W.eq (g2 := F0 m 163 ls [.int ((s_begin F a1 b1 c1 d1).2.1)]) rfl ?_
    refine W.widen (k := 3) (n := 18) (Nat.le_of_ble_eq_true rfl) (Nat.le_of_ble_eq_true rfl) ?_
    exact wl_iret C0 hr rfl hP hS dL_ask_163 (Nat.le_of_ble_eq_true rfl) (Nat.le_of_ble_eq_true rfl) (⟨by rw [aE_0 h0], ⟨AD2, hs2, ha2⟩, hk0.tr hk2⟩)
set_option maxHeartbeats 4000000 in
set_option maxRecDepth 100000 in
theorem k_L_ask_promote (l : Launch) (hst : l.stackTraces = false) (E : wEn) (w : wW) (sz : Nat) (F : FF) (x N : Nat) (w0 : wW) (hI : wInv F N) (hz : zK E F x w0 w) (a1 b1 c1 d1 : Int32) : wMt l yL_ask wsL_ask 6 3 18 E w sz [.ref x, .int 8, .int a1, .int b1, .int c1, .int d1] (pZ E ((s_promote F a1).2.2) x w0 (aE [-1001, -1003] (s_promote F a1))) := by
  obtain ⟨⟨AD, hs, rfl⟩, hk0⟩ := hz
  refine wt_startH (own := RL) (cc := cL_ask) (maxL := 7) (ret := (some .int)) (hh := hhA) rfl (by decide) rfl (Nat.le_of_ble_eq_true rfl) ?_
  intro p e s m args below meth c ls C1 hr hT hP hS hl
  have C0 := C1.1
  have hx := C0.1
  have hb := C0.2.1
  have hts := C0.2.2.2.2.1
  have hl : lv_has ls 7 [(0, .ref (AD 5 0)), (1, .int 8), (2, .int a1), (3, .int b1), (4, .int c1), (5, .int d1)] := hl
  refine lv_iload_n hx hb dL_ask_0 rfl (lv_at hl 1 rfl) ?_
  refine lv_tableIn (tgt := 171) hx hb dL_ask_1 (by decide) (by decide) (off := 170) (by rfl) (by decide) ?_
  refine lv_aload_n hx hb dL_ask_171 rfl (lv_at hl 0 rfl) ?_
  refine lv_iload_n hx hb dL_ask_172 rfl (lv_at hl 2 rfl) ?_
  refine wl_go (wl_runV (As := [.int a1]) (rest := []) C0 hP hS (k_X6_promote l hst E w s.heap.size F AD N hI hs a1) (cwV 1 hts gL_ask_X6_promote rfl rfl rfl (by decide +kernel) ⟨(Nat.le_of_ble_eq_true rfl), (Nat.le_of_ble_eq_true rfl)⟩) hs.x rfl rfl rfl hl.1 (Nat.le_of_ble_eq_true rfl) dL_ask_173 ⟨(Nat.le_of_ble_eq_true rfl), (Nat.le_of_ble_eq_true rfl)⟩) hS (wA_in hP hS C0.2.2.2.2.2.2.2.2 rfl) (fun X ce q9 w2 H locs hpx hP _ hS _ _ hce hcv hcl => ?_) (fun v w2 H locs hq hP _ hS _ _ => ?_)
  · obtain ⟨hw9, hx9⟩ := hpx
    rw [hw9] at hP
    have hix : ∀ q ∈ ixA, (Cond.classLink RL q.1 q.2).before args s = true := fun q hq => hts _ (ixA_in q hq)
    rcases hx9 with ⟨hk9, rfl⟩ | ⟨hk9, rfl⟩
    · refine wt_catch 8 (x := (171, 176, 294, 93)) C1 hT hix (by rfl) (by decide +kernel) (by decide) (by decide) (by decide +kernel) xc_IOB hce hcv hcl ?_
      refine W.eq (g2 := F0 m 294 ls [.ref q9]) rfl ?_
      refine W.widen (k := 3) (n := 18) (Nat.le_of_ble_eq_true rfl) (Nat.le_of_ble_eq_true rfl) ?_
      refine lv_astore (lv' := [(6, .ref q9), (0, .ref (AD 5 0)), (1, .int 8), (2, .int a1), (3, .int b1), (4, .int c1), (5, .int d1)]) hx hb dL_ask_294 hl (by decide) rfl (fun ls hl => ?_)
      refine lv_sipush (v := -1001) hx hb dL_ask_296 (by decide) ?_
      exact wl_iret C0 hr rfl hP hS dL_ask_299 (Nat.le_of_ble_eq_true rfl) (Nat.le_of_ble_eq_true rfl) (⟨by rw [aE_x (k := 0) (v := -1001) hk9 rfl], ⟨AD, by rw [er_s_promote (by rw [hk9]; decide)]; exact hs, rfl⟩, hk0⟩)
    · refine wt_catch 56 (x := (171, 176, 306, 97)) C1 hT hix (by rfl) (by decide +kernel) (by decide) (by decide) (by decide +kernel) xc_ISE hce hcv hcl ?_
      refine W.eq (g2 := F0 m 306 ls [.ref q9]) rfl ?_
      refine W.widen (k := 3) (n := 18) (Nat.le_of_ble_eq_true rfl) (Nat.le_of_ble_eq_true rfl) ?_
      refine lv_astore (lv' := [(6, .ref q9), (0, .ref (AD 5 0)), (1, .int 8), (2, .int a1), (3, .int b1), (4, .int c1), (5, .int d1)]) hx hb dL_ask_306 hl (by decide) rfl (fun ls hl => ?_)
      refine lv_sipush (v := -1003) hx hb dL_ask_308 (by decide) ?_
      exact wl_iret C0 hr rfl hP hS dL_ask_311 (Nat.le_of_ble_eq_true rfl) (Nat.le_of_ble_eq_true rfl) (⟨by rw [aE_x (k := 1) (v := -1003) hk9 rfl], ⟨AD, by rw [er_s_promote (by rw [hk9]; decide)]; exact hs, rfl⟩, hk0⟩)
  · obtain ⟨AD2, h0, rfl, hs2, ha2, hk2⟩ := hq
    refine W.eq (g2 := F0 m 176 ls [.int ((s_promote F a1).2.1)]) rfl ?_
    refine W.widen (k := 3) (n := 18) (Nat.le_of_ble_eq_true rfl) (Nat.le_of_ble_eq_true rfl) ?_
    exact wl_iret C0 hr rfl hP hS dL_ask_176 (Nat.le_of_ble_eq_true rfl) (Nat.le_of_ble_eq_true rfl) (⟨by rw [aE_0 h0], ⟨AD2, hs2, ha2⟩, hk0.tr hk2⟩)
