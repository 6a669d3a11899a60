theorem wSys_fr {E : wEn} {F : FF} {AD : AT} {w w2 : wW} (hs : wSys E F AD w) (h : ∀ (a : Nat) (e : va_E), w a = some e → sysK e = true → w2 a = some e) : wSys E F AD w2 :=
  ⟨h _ _ hs.x rfl, h _ _ hs.aR rfl, h _ _ hs.aP rfl, h _ _ hs.aC rfl, h _ _ hs.log rfl, h _ _ hs.aE rfl, fun i hi => h _ _ (hs.ro hi) rfl, fun i hi h5 => h _ _ (hs.ca hi h5) rfl, fun i hi => h _ _ (hs.pl hi) rfl, fun i hi => h _ _ (hs.cl hi) rfl, fun k hk => h _ _ (hs.en hk) rfl, hs.2.2.2.2.2.2.2.2.2.2.2⟩
theorem wSys_o {E : wEn} {F : FF} {AD : AT} {w : wW} {oa : Nat} {e0 e1 : va_E} (hs : wSys E F AD w) (ho : w oa = some e0) (hk : sysK e0 = false) : wSys E F AD (wU w oa e1) :=
  wSys_fr hs (fun a e h k => by
    have hne : a ≠ oa := fun q => by
      subst q
      rw [ho] at h
      cases h
      rw [hk] at k
      cases k
    rw [wU_n _ _ hne]
    exact h)
theorem wKo_o {w w2 : wW} {oa : Nat} {e1 : va_E} (h : wKp w w2) : wKo oa w (wU w2 oa e1) := fun a e ha hk hne => by
  rw [wU_n _ _ hne]
  exact h a e ha hk
theorem er_s_addRoute {F : FF} {p1 c1 l1 g1 : Int32} (h : (s_addRoute F p1 c1 l1 g1).1 ≠ 0) : (s_addRoute F p1 c1 l1 g1).2.2 = F := by
  unfold s_addRoute at h ⊢
  (repeat' split) <;> first | rfl | (simp_all; done)
theorem er_s_route {F : FF} {p1 : Int32} (h : (s_route F p1).1 ≠ 0) : (s_route F p1).2.2 = F := by
  unfold s_route at h ⊢
  (repeat' split) <;> first | rfl | (simp_all; done)
theorem er_s_setContract {F : FF} {r1 l1 g1 : Int32} (h : (s_setContract F r1 l1 g1).1 ≠ 0) : (s_setContract F r1 l1 g1).2.2 = F := by
  unfold s_setContract at h ⊢
  (repeat' split) <;> first | rfl | (simp_all; done)
theorem er_s_setAnswer {F : FF} {r1 a1 : Int32} (h : (s_setAnswer F r1 a1).1 ≠ 0) : (s_setAnswer F r1 a1).2.2 = F := by
  unfold s_setAnswer at h ⊢
  (repeat' split) <;> first | rfl | (simp_all; done)
theorem er_s_broken {F : FF} {r1 : Int32} (h : (s_broken F r1).1 ≠ 0) : (s_broken F r1).2.2 = F := by
  unfold s_broken at h ⊢
  (repeat' split) <;> first | rfl | (simp_all; done)
theorem er_s_begin {F : FF} {r1 a1 sh1 li1 : Int32} (h : (s_begin F r1 a1 sh1 li1).1 ≠ 0) : (s_begin F r1 a1 sh1 li1).2.2 = F := by
  unfold s_begin at h ⊢
  (repeat' split) <;> first | rfl | (simp_all; done)
theorem er_s_setShare {F : FF} {r1 sh1 : Int32} (h : (s_setShare F r1 sh1).1 ≠ 0) : (s_setShare F r1 sh1).2.2 = F := by
  unfold s_setShare at h ⊢
  (repeat' split) <;> first | rfl | (simp_all; done)
theorem er_s_promote {F : FF} {r1 : Int32} (h : (s_promote F r1).1 ≠ 0) : (s_promote F r1).2.2 = F := by
  unfold s_promote at h ⊢
  (repeat' split) <;> first | rfl | (simp_all; done)
theorem er_s_takeBack {F : FF} {r1 : Int32} (h : (s_takeBack F r1).1 ≠ 0) : (s_takeBack F r1).2.2 = F := by
  unfold s_takeBack at h ⊢
  (repeat' split) <;> first | rfl | (simp_all; done)
theorem er_s_hasCanary {F : FF} {r1 : Int32} (h : (s_hasCanary F r1).1 ≠ 0) : (s_hasCanary F r1).2.2 = F := by
  unfold s_hasCanary at h ⊢
  (repeat' split) <;> first | rfl | (simp_all; done)
theorem er_s_faults {F : FF} {r1 : Int32} (h : (s_faults F r1).1 ≠ 0) : (s_faults F r1).2.2 = F := by
  unfold s_faults at h ⊢
  (repeat' split) <;> first | rfl | (simp_all; done)
theorem er_s_addPlan {F : FF} {r1 b1 p1 : Int32} (h : (s_addPlan F r1 b1 p1).1 ≠ 0) : (s_addPlan F r1 b1 p1).2.2 = F := by
  unfold s_addPlan at h ⊢
  (repeat' split) <;> first | rfl | (simp_all; done)
theorem er_s_addCaller {F : FF} {p1 : Int32} (h : (s_addCaller F p1).1 ≠ 0) : (s_addCaller F p1).2.2 = F := by
  unfold s_addCaller at h ⊢
  (repeat' split) <;> first | rfl | (simp_all; done)
theorem er_s_setPlan {F : FF} {c1 p1 : Int32} (h : (s_setPlan F c1 p1).1 ≠ 0) : (s_setPlan F c1 p1).2.2 = F := by
  unfold s_setPlan at h ⊢
  (repeat' split) <;> first | rfl | (simp_all; done)
theorem er_s_tokens {F : FF} {c1 : Int32} (h : (s_tokens F c1).1 ≠ 0) : (s_tokens F c1).2.2 = F := by
  unfold s_tokens at h ⊢
  (repeat' split) <;> first | rfl | (simp_all; done)
theorem er_s_ticksUntil {F : FF} {c1 r1 : Int32} (h : (s_ticksUntil F c1 r1).1 ≠ 0) : (s_ticksUntil F c1 r1).2.2 = F := by
  unfold s_ticksUntil at h ⊢
  (repeat' split) <;> first | rfl | (simp_all; done)
theorem er_s_bill {F : FF} {c1 : Int32} (h : (s_bill F c1).1 ≠ 0) : (s_bill F c1).2.2 = F := by
  unfold s_bill at h ⊢
  (repeat' split) <;> first | rfl | (simp_all; done)
theorem er_s_call {F : FF} {c1 p1 k1 : Int32} (h : (s_call F c1 p1 k1).1 ≠ 0) : (s_call F c1 p1 k1).2.2 = F := by
  unfold s_call at h ⊢
  (repeat' split) <;> first | rfl | (simp_all; done)
theorem er_s_pass {F : FF} {t1 : Int32} (h : (s_pass F t1).1 ≠ 0) : (s_pass F t1).2.2 = F := by
  unfold s_pass at h ⊢
  (repeat' split) <;> first | rfl | (simp_all; done)
theorem er_s_count {F : FF} {c1 k1 : Int32} (h : (s_count F c1 k1).1 ≠ 0) : (s_count F c1 k1).2.2 = F := by
  unfold s_count at h ⊢
  (repeat' split) <;> first | rfl | (simp_all; done)
theorem er_s_isUndone {F : FF} {k1 : Int32} (h : (s_isUndone F k1).1 ≠ 0) : (s_isUndone F k1).2.2 = F := by
  unfold s_isUndone at h ⊢
  (repeat' split) <;> first | rfl | (simp_all; done)
theorem er_s_greatest {F : FF} (h : (s_greatest F).1 ≠ 0) : (s_greatest F).2.2 = F := by
  unfold s_greatest at h ⊢
  (repeat' split) <;> first | rfl | (simp_all; done)
theorem b01_s_hasCanary {F : FF} {r1 : Int32} : (s_hasCanary F r1).2.1 = 0 ∨ (s_hasCanary F r1).2.1 = 1 := by
  unfold s_hasCanary
  split
  · cases decide (F 5 (tn r1) ≠ 0) <;> simp [bI]
  · exact Or.inl rfl
theorem b01_s_isUndone {F : FF} {k1 : Int32} : (s_isUndone F k1).2.1 = 0 ∨ (s_isUndone F k1).2.1 = 1 := by
  unfold s_isUndone
  split
  · cases decide (F 20 (tn k1) ≠ 0) <;> simp [bI]
  · exact Or.inl rfl
set_option maxHeartbeats 4000000 in
set_option maxRecDepth 100000 in
theorem k_L_addRoute (l : Launch) (hst : l.stackTraces = false) (E : wEn) (w : wW) (sz : Nat) (F : FF) (AD : AT) (N : Nat) (hI : wInv F N) (hs : wSys E F AD w) (oa : Nat) (fo : Nat → Int64) (ho : w oa = some (.inl (E.2.1 1, 1, .inr (.inl fo)))) (p1 c1 l1 g1 : Int32) : wMn l yL_addRoute wsL_addRoute 4 1 7 E w sz [.ref (AD 5 0), .int p1, .int c1, .int l1, .int g1, .ref oa] (fun v w2 => v = some (.int (nI (s_addRoute F p1 c1 l1 g1).1)) ∧ ∃ AD2 : AT, wSys E (s_addRoute F p1 c1 l1 g1).2.2 AD2 w2 ∧ AD2 5 0 = AD 5 0 ∧ wKo oa w w2 ∧ ∃ f2 : Nat → Int64, w2 oa = some (.inl (E.2.1 1, 1, .inr (.inl f2))) ∧ ((s_addRoute F p1 c1 l1 g1).1 = 0 → f2 0 = (s_addRoute F p1 c1 l1 g1).2.1.toInt64)) := by
  refine wm_startH (own := RL) (cc := cL_addRoute) (maxL := 7) (ret := (some .int)) (hh := [(0, 14, 17, 13), (0, 14, 21, 15)]) rfl (by decide) rfl (Nat.le_of_ble_eq_true rfl) ?_
  intro p e s m args below meth c ls C0 hr hT hnc hP hS hl
  have hx := C0.1
  have hb := C0.2.1
  have hts := C0.2.2.2.2.1
  have hown := C0.2.2.2.1
  have hl : lv_has ls 7 [(0, .ref (AD 5 0)), (1, .int p1), (2, .int c1), (3, .int l1), (4, .int g1), (5, .ref oa)] := hl
  refine lv_aload hx hb dL_addRoute_0 (lv_at hl 5 rfl) ?_
  refine lv_iconst (v := 0) hx hb dL_addRoute_2 (by decide) ?_
  refine lv_aload_n hx hb dL_addRoute_3 rfl (lv_at hl 0 rfl) ?_
  refine lv_iload_n hx hb dL_addRoute_4 rfl (lv_at hl 1 rfl) ?_
  refine lv_iload_n hx hb dL_addRoute_5 rfl (lv_at hl 2 rfl) ?_
  refine lv_iload_n hx hb dL_addRoute_6 rfl (lv_at hl 3 rfl) ?_
  refine lv_iload hx hb dL_addRoute_7 (lv_at hl 4 rfl) ?_
  refine wl_go (wl_runV (As := [.int p1, .int c1, .int l1, .int g1]) (rest := [.int 0, .ref oa]) C0 hP hS (k_X6_addRoute l hst E w s.heap.size F AD N hI hs p1 c1 l1 g1) (cwV 4 hts gL_addRoute_X6_addRoute rfl rfl rfl (by decide +kernel) ⟨(Nat.le_of_ble_eq_true rfl), (Nat.le_of_ble_eq_true rfl)⟩) hs.x rfl rfl rfl hl.1 (Nat.le_of_ble_eq_true rfl) dL_addRoute_9 ⟨(Nat.le_of_ble_eq_true rfl), (Nat.le_of_ble_eq_true rfl)⟩) hS (wA_in hP hS C0.2.2.2.2.2.2.2.2 rfl) (fun X ce q9 w2 H locs hpx hP _ hS _ _ hce hcv hcl => ?_) (fun v w2 H locs hq hP _ hS _ _ => ?_)
  · obtain ⟨hw9, hx9⟩ := hpx
    rw [hw9] at hP
    rcases hx9 with ⟨hk9, rfl⟩ | ⟨hk9, rfl⟩
    · refine wl_catch (hh := [(0, 14, 17, 13), (0, 14, 21, 15)]) (pre := []) (x := (0, 14, 17, 13)) (suf := [(0, 14, 21, 15)]) C0 hT rfl (fun z hz => absurd hz List.not_mem_nil) rfl (by decide) (hts _ (by decide +kernel)) xc_IAE hce hcv hcl ?_
      refine W.eq (g2 := F0 m 17 ls [.ref q9]) rfl ?_
      refine W.widen (k := 1) (n := 7) (Nat.le_of_ble_eq_true rfl) (Nat.le_of_ble_eq_true rfl) ?_
      refine lv_astore (lv' := [(6, .ref q9), (0, .ref (AD 5 0)), (1, .int p1), (2, .int c1), (3, .int l1), (4, .int g1), (5, .ref oa)]) hx hb dL_addRoute_17 hl (by decide) rfl (fun ls hl => ?_)
      refine lv_iconst (v := 1) hx hb dL_addRoute_19 (by decide) ?_
      exact wl_iret C0 hr rfl hP hS dL_addRoute_20 (Nat.le_of_ble_eq_true rfl) (Nat.le_of_ble_eq_true rfl) (⟨by rw [hk9]; rfl, AD, by rw [er_s_addRoute (by rw [hk9]; decide)]; exact hs, rfl, fun a e h _ _ => h, fo, ho, fun h => absurd (hk9.symm.trans h) (by decide)⟩)
    · refine wl_catch (hh := [(0, 14, 17, 13), (0, 14, 21, 15)]) (pre := [(0, 14, 17, 13)]) (x := (0, 14, 21, 15)) (suf := []) C0 hT rfl (fun z hz => by
          simp only [List.mem_cons, List.not_mem_nil, or_false] at hz
          subst hz
          exact ⟨by decide, xIAE, hts _ (by decide +kernel), hnc (xISE, xIAE) (by decide +kernel)⟩) rfl (by decide) (hts _ (by decide +kernel)) xc_ISE hce hcv hcl ?_
      refine W.eq (g2 := F0 m 21 ls [.ref q9]) rfl ?_
      refine W.widen (k := 1) (n := 7) (Nat.le_of_ble_eq_true rfl) (Nat.le_of_ble_eq_true rfl) ?_
      refine lv_astore (lv' := [(6, .ref q9), (0, .ref (AD 5 0)), (1, .int p1), (2, .int c1), (3, .int l1), (4, .int g1), (5, .ref oa)]) hx hb dL_addRoute_21 hl (by decide) rfl (fun ls hl => ?_)
      refine lv_iconst (v := 2) hx hb dL_addRoute_23 (by decide) ?_
      exact wl_iret C0 hr rfl hP hS dL_addRoute_24 (Nat.le_of_ble_eq_true rfl) (Nat.le_of_ble_eq_true rfl) (⟨by rw [hk9]; rfl, AD, by rw [er_s_addRoute (by rw [hk9]; decide)]; exact hs, rfl, fun a e h _ _ => h, fo, ho, fun h => absurd (hk9.symm.trans h) (by decide)⟩)
  · obtain ⟨AD2, h0, rfl, hs2, ha2, hk2⟩ := hq
    refine W.eq (g2 := F0 m 12 ls [.int ((s_addRoute F p1 c1 l1 g1).2.1), .int 0, .ref oa]) rfl ?_
    refine W.widen (k := 1) (n := 7) (Nat.le_of_ble_eq_true rfl) (Nat.le_of_ble_eq_true rfl) ?_
    refine lv_i2l (v := ((s_addRoute F p1 c1 l1 g1).2.1).toInt64) hx hb dL_addRoute_12 rfl ?_
    refine wl_last C0 hP hS (hk2 oa _ ho rfl) (show vp_in (nI 0) 1 from vp_in_nI (by omega) (by omega)) dL_addRoute_13 (fun H locs hP hS => ?_)
    refine lv_goto (tgt := 25) hx hb dL_addRoute_14 (by decide) ?_
    refine lv_iconst (v := 0) hx hb dL_addRoute_25 (by decide) ?_
    have f9_1 : (wU w2 oa (.inl (E.2.1 1, 1, .inr (.inl (vp_updL fo ((0 : Int32).toNatClampNeg) (((s_addRoute F p1 c1 l1 g1).2.1).toInt64)))))) oa = some (.inl (E.2.1 1, 1, .inr (.inl (vp_updL fo ((0 : Int32).toNatClampNeg) (((s_addRoute F p1 c1 l1 g1).2.1).toInt64))))) := (wU_s _ _ _)
    exact wl_iret C0 hr rfl hP hS dL_addRoute_26 (Nat.le_of_ble_eq_true rfl) (Nat.le_of_ble_eq_true rfl) (⟨by rw [h0]; rfl, AD2, wSys_o hs2 (hk2 oa _ ho rfl) rfl, ha2, wKo_o hk2, _, wU_s _ _ _, fun _ => by simp [vp_updL]⟩)

set_option maxHeartbeats 4000000 in
set_option maxRecDepth 100000 in
theorem k_L_route (l : Launch) (hst : l.stackTraces = false) (E : wEn) (w : wW) (sz : Nat) (F : FF) (AD : AT) (N : Nat) (hI : wInv F N) (hs : wSys E F AD w) (oa : Nat) (fo : Nat → Int64) (ho : w oa = some (.inl (E.2.1 1, 1, .inr (.inl fo)))) (p1 : Int32) : wMn l yL_route wsL_route 4 2 12 E w sz [.ref (AD 5 0), .int p1, .ref oa] (fun v w2 => v = some (.int (nI (s_route F p1).1)) ∧ ∃ AD2 : AT, wSys E (s_route F p1).2.2 AD2 w2 ∧ AD2 5 0 = AD 5 0 ∧ wKo oa w w2 ∧ ∃ f2 : Nat → Int64, w2 oa = some (.inl (E.2.1 1, 1, .inr (.inl f2))) ∧ ((s_route F p1).1 = 0 → f2 0 = (s_route F p1).2.1.toInt64)) := by
  refine wm_startH (own := RL) (cc := cL_route) (maxL := 4) (ret := (some .int)) (hh := [(0, 9, 12, 13), (0, 9, 15, 21)]) rfl (by decide) rfl (Nat.le_of_ble_eq_true rfl) ?_
  intro p e s m args below meth c ls C0 hr hT hnc hP hS hl
  have hx := C0.1
  have hb := C0.2.1
  have hts := C0.2.2.2.2.1
  have hown := C0.2.2.2.1
  have hl : lv_has ls 4 [(0, .ref (AD 5 0)), (1, .int p1), (2, .ref oa)] := hl
  refine lv_aload_n hx hb dL_route_0 rfl (lv_at hl 2 rfl) ?_
  refine lv_iconst (v := 0) hx hb dL_route_1 (by decide) ?_
  refine lv_aload_n hx hb dL_route_2 rfl (lv_at hl 0 rfl) ?_
  refine lv_iload_n hx hb dL_route_3 rfl (lv_at hl 1 rfl) ?_
  refine wl_go (wl_runV (As := [.int p1]) (rest := [.int 0, .ref oa]) C0 hP hS (k_X6_route l hst E w s.heap.size F AD N hI hs p1) (cwV 1 hts gL_route_X6_route rfl rfl rfl (by decide +kernel) ⟨(Nat.le_of_ble_eq_true rfl), (Nat.le_of_ble_eq_true rfl)⟩) hs.x rfl rfl rfl hl.1 (Nat.le_of_ble_eq_true rfl) dL_route_4 ⟨(Nat.le_of_ble_eq_true rfl), (Nat.le_of_ble_eq_true rfl)⟩) hS (wA_in hP hS C0.2.2.2.2.2.2.2.2 rfl) (fun X ce q9 w2 H locs hpx hP _ hS _ _ hce hcv hcl => ?_) (fun v w2 H locs hq hP _ hS _ _ => ?_)
  · obtain ⟨hw9, hx9⟩ := hpx
    rw [hw9] at hP
    rcases hx9 with ⟨hk9, rfl⟩ | ⟨hk9, rfl⟩
    · refine wl_catch (hh := [(0, 9, 12, 13), (0, 9, 15, 21)]) (pre := []) (x := (0, 9, 12, 13)) (suf := [(0, 9, 15, 21)]) C0 hT rfl (fun z hz => absurd hz List.not_mem_nil) rfl (by decide) (hts _ (by decide +kernel)) xc_IAE hce hcv hcl ?_
      refine W.eq (g2 := F0 m 12 ls [.ref q9]) rfl ?_
      refine W.widen (k := 2) (n := 12) (Nat.le_of_ble_eq_true rfl) (Nat.le_of_ble_eq_true rfl) ?_
      refine lv_astore_n (lv' := [(3, .ref q9), (0, .ref (AD 5 0)), (1, .int p1), (2, .ref oa)]) hx hb dL_route_12 rfl hl (by decide) rfl (fun ls hl => ?_)
      refine lv_iconst (v := 1) hx hb dL_route_13 (by decide) ?_
      exact wl_iret C0 hr rfl hP hS dL_route_14 (Nat.le_of_ble_eq_true rfl) (Nat.le_of_ble_eq_true rfl) (⟨by rw [hk9]; rfl, AD, by rw [er_s_route (by rw [hk9]; decide)]; exact hs, rfl, fun a e h _ _ => h, fo, ho, fun h => absurd (hk9.symm.trans h) (by decide)⟩)
    · refine wl_catch (hh := [(0, 9, 12, 13), (0, 9, 15, 21)]) (pre := [(0, 9, 12, 13)]) (x := (0, 9, 15, 21)) (suf := []) C0 hT rfl (fun z hz => by
          simp only [List.mem_cons, List.not_mem_nil, or_false] at hz
          subst hz
          exact ⟨by decide, xIAE, hts _ (by decide +kernel), hnc (xNSE, xIAE) (by decide +kernel)⟩) rfl (by decide) (hts _ (by decide +kernel)) xc_NSE hce hcv hcl ?_
      refine W.eq (g2 := F0 m 15 ls [.ref q9]) rfl ?_
      refine W.widen (k := 2) (n := 12) (Nat.le_of_ble_eq_true rfl) (Nat.le_of_ble_eq_true rfl) ?_
      refine lv_astore_n (lv' := [(3, .ref q9), (0, .ref (AD 5 0)), (1, .int p1), (2, .ref oa)]) hx hb dL_route_15 rfl hl (by decide) rfl (fun ls hl => ?_)
      refine lv_iconst (v := 2) hx hb dL_route_16 (by decide) ?_
      exact wl_iret C0 hr rfl hP hS dL_route_17 (Nat.le_of_ble_eq_true rfl) (Nat.le_of_ble_eq_true rfl) (⟨by rw [hk9]; rfl, AD, by rw [er_s_route (by rw [hk9]; decide)]; exact hs, rfl, fun a e h _ _ => h, fo, ho, fun h => absurd (hk9.symm.trans h) (by decide)⟩)
  · obtain ⟨AD2, h0, rfl, hs2, ha2, hk2⟩ := hq
    refine W.eq (g2 := F0 m 7 ls [.int ((s_route F p1).2.1), .int 0, .ref oa]) rfl ?_
    refine W.widen (k := 2) (n := 12) (Nat.le_of_ble_eq_true rfl) (Nat.le_of_ble_eq_true rfl) ?_
    refine lv_i2l (v := ((s_route F p1).2.1).toInt64) hx hb dL_route_7 rfl ?_
    refine wl_last C0 hP hS (hk2 oa _ ho rfl) (show vp_in (nI 0) 1 from vp_in_nI (by omega) (by omega)) dL_route_8 (fun H locs hP hS => ?_)
    refine lv_goto (tgt := 18) hx hb dL_route_9 (by decide) ?_
    refine lv_iconst (v := 0) hx hb dL_route_18 (by decide) ?_
    have f9_1 : (wU w2 oa (.inl (E.2.1 1, 1, .inr (.inl (vp_updL fo ((0 : Int32).toNatClampNeg) (((s_route F p1).2.1).toInt64)))))) oa = some (.inl (E.2.1 1, 1, .inr (.inl (vp_updL fo ((0 : Int32).toNatClampNeg) (((s_route F p1).2.1).toInt64))))) := (wU_s _ _ _)
    exact wl_iret C0 hr rfl hP hS dL_route_19 (Nat.le_of_ble_eq_true rfl) (Nat.le_of_ble_eq_true rfl) (⟨by rw [h0]; rfl, AD2, wSys_o hs2 (hk2 oa _ ho rfl) rfl, ha2, wKo_o hk2, _, wU_s _ _ _, fun _ => by simp [vp_updL]⟩)

set_option maxHeartbeats 4000000 in
set_option maxRecDepth 100000 in
theorem k_L_routeByComparing (l : Launch) (hst : l.stackTraces = false) (E : wEn) (w : wW) (sz : Nat) (F : FF) (AD : AT) (N : Nat) (hI : wInv F N) (hs : wSys E F AD w) (oa : Nat) (fo : Nat → Int64) (ho : w oa = some (.inl (E.2.1 1, 1, .inr (.inl fo)))) (p1 : Int32) : wMn l yL_routeByComparing wsL_routeByComparing 4 2 12 E w sz [.ref (AD 5 0), .int p1, .ref oa] (fun v w2 => v = some (.int (nI (s_route F p1).1)) ∧ ∃ AD2 : AT, wSys E (s_route F p1).2.2 AD2 w2 ∧ AD2 5 0 = AD 5 0 ∧ wKo oa w w2 ∧ ∃ f2 : Nat → Int64, w2 oa = some (.inl (E.2.1 1, 1, .inr (.inl f2))) ∧ ((s_route F p1).1 = 0 → f2 0 = (s_route F p1).2.1.toInt64)) := by
  refine wm_startH (own := RL) (cc := cL_routeByComparing) (maxL := 4) (ret := (some .int)) (hh := [(0, 9, 12, 13), (0, 9, 15, 21)]) rfl (by decide) rfl (Nat.le_of_ble_eq_true rfl) ?_
  intro p e s m args below meth c ls C0 hr hT hnc hP hS hl
  have hx := C0.1
  have hb := C0.2.1
  have hts := C0.2.2.2.2.1
  have hown := C0.2.2.2.1
  have hl : lv_has ls 4 [(0, .ref (AD 5 0)), (1, .int p1), (2, .ref oa)] := hl
  refine lv_aload_n hx hb dL_routeByComparing_0 rfl (lv_at hl 2 rfl) ?_
  refine lv_iconst (v := 0) hx hb dL_routeByComparing_1 (by decide) ?_
  refine lv_aload_n hx hb dL_routeByComparing_2 rfl (lv_at hl 0 rfl) ?_
  refine lv_iload_n hx hb dL_routeByComparing_3 rfl (lv_at hl 1 rfl) ?_
  refine wl_go (wl_runV (As := [.int p1]) (rest := [.int 0, .ref oa]) C0 hP hS (k_X6_routeByComparing l hst E w s.heap.size F AD N hI hs p1) (cwV 1 hts gL_routeByComparing_X6_routeByComparing rfl rfl rfl (by decide +kernel) ⟨(Nat.le_of_ble_eq_true rfl), (Nat.le_of_ble_eq_true rfl)⟩) hs.x rfl rfl rfl hl.1 (Nat.le_of_ble_eq_true rfl) dL_routeByComparing_4 ⟨(Nat.le_of_ble_eq_true rfl), (Nat.le_of_ble_eq_true rfl)⟩) hS (wA_in hP hS C0.2.2.2.2.2.2.2.2 rfl) (fun X ce q9 w2 H locs hpx hP _ hS _ _ hce hcv hcl => ?_) (fun v w2 H locs hq hP _ hS _ _ => ?_)
  · obtain ⟨hw9, hx9⟩ := hpx
    rw [hw9] at hP
    rcases hx9 with ⟨hk9, rfl⟩ | ⟨hk9, rfl⟩
    · refine wl_catch (hh := [(0, 9, 12, 13), (0, 9, 15, 21)]) (pre := []) (x := (0, 9, 12, 13)) (suf := [(0, 9, 15, 21)]) C0 hT rfl (fun z hz => absurd hz List.not_mem_nil) rfl (by decide) (hts _ (by decide +kernel)) xc_IAE hce hcv hcl ?_
      refine W.eq (g2 := F0 m 12 ls [.ref q9]) rfl ?_
      refine W.widen (k := 2) (n := 12) (Nat.le_of_ble_eq_true rfl) (Nat.le_of_ble_eq_true rfl) ?_
      refine lv_astore_n (lv' := [(3, .ref q9), (0, .ref (AD 5 0)), (1, .int p1), (2, .ref oa)]) hx hb dL_routeByComparing_12 rfl hl (by decide) rfl (fun ls hl => ?_)
      refine lv_iconst (v := 1) hx hb dL_routeByComparing_13 (by decide) ?_
      exact wl_iret C0 hr rfl hP hS dL_routeByComparing_14 (Nat.le_of_ble_eq_true rfl) (Nat.le_of_ble_eq_true rfl) (⟨by rw [hk9]; rfl, AD, by rw [er_s_route (by rw [hk9]; decide)]; exact hs, rfl, fun a e h _ _ => h, fo, ho, fun h => absurd (hk9.symm.trans h) (by decide)⟩)
    · refine wl_catch (hh := [(0, 9, 12, 13), (0, 9, 15, 21)]) (pre := [(0, 9, 12, 13)]) (x := (0, 9, 15, 21)) (suf := []) C0 hT rfl (fun z hz => by
          simp only [List.mem_cons, List.not_mem_nil, or_false] at hz
          subst hz
          exact ⟨by decide, xIAE, hts _ (by decide +kernel), hnc (xNSE, xIAE) (by decide +kernel)⟩) rfl (by decide) (hts _ (by decide +kernel)) xc_NSE hce hcv hcl ?_
      refine W.eq (g2 := F0 m 15 ls [.ref q9]) rfl ?_
      refine W.widen (k := 2) (n := 12) (Nat.le_of_ble_eq_true rfl) (Nat.le_of_ble_eq_true rfl) ?_
      refine lv_astore_n (lv' := [(3, .ref q9), (0, .ref (AD 5 0)), (1, .int p1), (2, .ref oa)]) hx hb dL_routeByComparing_15 rfl hl (by decide) rfl (fun ls hl => ?_)
      refine lv_iconst (v := 2) hx hb dL_routeByComparing_16 (by decide) ?_
      exact wl_iret C0 hr rfl hP hS dL_routeByComparing_17 (Nat.le_of_ble_eq_true rfl) (Nat.le_of_ble_eq_true rfl) (⟨by rw [hk9]; rfl, AD, by rw [er_s_route (by rw [hk9]; decide)]; exact hs, rfl, fun a e h _ _ => h, fo, ho, fun h => absurd (hk9.symm.trans h) (by decide)⟩)
  · obtain ⟨AD2, h0, rfl, hs2, ha2, hk2⟩ := hq
    refine W.eq (g2 := F0 m 7 ls [.int ((s_route F p1).2.1), .int 0, .ref oa]) rfl ?_
    refine W.widen (k := 2) (n := 12) (Nat.le_of_ble_eq_true rfl) (Nat.le_of_ble_eq_true rfl) ?_
    refine lv_i2l (v := ((s_route F p1).2.1).toInt64) hx hb dL_routeByComparing_7 rfl ?_
    refine wl_last C0 hP hS (hk2 oa _ ho rfl) (show vp_in (nI 0) 1 from vp_in_nI (by omega) (by omega)) dL_routeByComparing_8 (fun H locs hP hS => ?_)
    refine lv_goto (tgt := 18) hx hb dL_routeByComparing_9 (by decide) ?_
    refine lv_iconst (v := 0) hx hb dL_routeByComparing_18 (by decide) ?_
    have f9_1 : (wU w2 oa (.inl (E.2.1 1, 1, .inr (.inl (vp_updL fo ((0 : Int32).toNatClampNeg) (((s_route F p1).2.1).toInt64)))))) oa = some (.inl (E.2.1 1, 1, .inr (.inl (vp_updL fo ((0 : Int32).toNatClampNeg) (((s_route F p1).2.1).toInt64))))) := (wU_s _ _ _)
    exact wl_iret C0 hr rfl hP hS dL_routeByComparing_19 (Nat.le_of_ble_eq_true rfl) (Nat.le_of_ble_eq_true rfl) (⟨by rw [h0]; rfl, AD2, wSys_o hs2 (hk2 oa _ ho rfl) rfl, ha2, wKo_o hk2, _, wU_s _ _ _, fun _ => by simp [vp_updL]⟩)

set_option maxHeartbeats 4000000 in
set_option maxRecDepth 100000 in
theorem k_L_setContract (l : Launch) (hst : l.stackTraces = false) (E : wEn) (w : wW) (sz : Nat) (F : FF) (AD : AT) (N : Nat) (hI : wInv F N) (hs : wSys E F AD w) (oa : Nat) (fo : Nat → Int64) (ho : w oa = some (.inl (E.2.1 1, 1, .inr (.inl fo)))) (r1 l1 g1 : Int32) : wMn l yL_setContract wsL_setContract 4 2 12 E w sz [.ref (AD 5 0), .int r1, .int l1, .int g1, .ref oa] (fun v w2 => v = some (.int (nI (s_setContract F r1 l1 g1).1)) ∧ ∃ AD2 : AT, wSys E (s_setContract F r1 l1 g1).2.2 AD2 w2 ∧ AD2 5 0 = AD 5 0 ∧ wKo oa w w2 ∧ ∃ f2 : Nat → Int64, w2 oa = some (.inl (E.2.1 1, 1, .inr (.inl f2))) ∧ ((s_setContract F r1 l1 g1).1 = 0 → f2 0 = (s_setContract F r1 l1 g1).2.1.toInt64)) := by
  refine wm_startH (own := RL) (cc := cL_setContract) (maxL := 6) (ret := (some .int)) (hh := [(0, 12, 15, 30), (0, 12, 19, 13)]) rfl (by decide) rfl (Nat.le_of_ble_eq_true rfl) ?_
  intro p e s m args below meth c ls C0 hr hT hnc hP hS hl
  have hx := C0.1
  have hb := C0.2.1
  have hts := C0.2.2.2.2.1
  have hown := C0.2.2.2.1
  have hl : lv_has ls 6 [(0, .ref (AD 5 0)), (1, .int r1), (2, .int l1), (3, .int g1), (4, .ref oa)] := hl
  refine lv_aload hx hb dL_setContract_0 (lv_at hl 4 rfl) ?_
  refine lv_iconst (v := 0) hx hb dL_setContract_2 (by decide) ?_
  refine lv_aload_n hx hb dL_setContract_3 rfl (lv_at hl 0 rfl) ?_
  refine lv_iload_n hx hb dL_setContract_4 rfl (lv_at hl 1 rfl) ?_
  refine lv_iload_n hx hb dL_setContract_5 rfl (lv_at hl 2 rfl) ?_
  refine lv_iload_n hx hb dL_setContract_6 rfl (lv_at hl 3 rfl) ?_
  refine wl_go (wl_runV (As := [.int r1, .int l1, .int g1]) (rest := [.int 0, .ref oa]) C0 hP hS (k_X6_setContract l hst E w s.heap.size F AD N hI hs r1 l1 g1) (cwV 3 hts gL_setContract_X6_setContract rfl rfl rfl (by decide +kernel) ⟨(Nat.le_of_ble_eq_true rfl), (Nat.le_of_ble_eq_true rfl)⟩) hs.x rfl rfl rfl hl.1 (Nat.le_of_ble_eq_true rfl) dL_setContract_7 ⟨(Nat.le_of_ble_eq_true rfl), (Nat.le_of_ble_eq_true rfl)⟩) hS (wA_in hP hS C0.2.2.2.2.2.2.2.2 rfl) (fun X ce q9 w2 H locs hpx hP _ hS _ _ hce hcv hcl => ?_) (fun v w2 H locs hq hP _ hS _ _ => ?_)
  · obtain ⟨hw9, hx9⟩ := hpx
    rw [hw9] at hP
    rcases hx9 with ⟨hk9, rfl⟩ | ⟨hk9, rfl⟩
    · refine wl_catch (hh := [(0, 12, 15, 30), (0, 12, 19, 13)]) (pre := []) (x := (0, 12, 15, 30)) (suf := [(0, 12, 19, 13)]) C0 hT rfl (fun z hz => absurd hz List.not_mem_nil) rfl (by decide) (hts _ (by decide +kernel)) xc_IOB hce hcv hcl ?_
      refine W.eq (g2 := F0 m 15 ls [.ref q9]) rfl ?_
      refine W.widen (k := 2) (n := 12) (Nat.le_of_ble_eq_true rfl) (Nat.le_of_ble_eq_true rfl) ?_
      refine lv_astore (lv' := [(5, .ref q9), (0, .ref (AD 5 0)), (1, .int r1), (2, .int l1), (3, .int g1), (4, .ref oa)]) hx hb dL_setContract_15 hl (by decide) rfl (fun ls hl => ?_)
      refine lv_iconst (v := 1) hx hb dL_setContract_17 (by decide) ?_
      exact wl_iret C0 hr rfl hP hS dL_setContract_18 (Nat.le_of_ble_eq_true rfl) (Nat.le_of_ble_eq_true rfl) (⟨by rw [hk9]; rfl, AD, by rw [er_s_setContract (by rw [hk9]; decide)]; exact hs, rfl, fun a e h _ _ => h, fo, ho, fun h => absurd (hk9.symm.trans h) (by decide)⟩)
    · refine wl_catch (hh := [(0, 12, 15, 30), (0, 12, 19, 13)]) (pre := [(0, 12, 15, 30)]) (x := (0, 12, 19, 13)) (suf := []) C0 hT rfl (fun z hz => by
          simp only [List.mem_cons, List.not_mem_nil, or_false] at hz
          subst hz
          exact ⟨by decide, xIOB, hts _ (by decide +kernel), hnc (xIAE, xIOB) (by decide +kernel)⟩) rfl (by decide) (hts _ (by decide +kernel)) xc_IAE hce hcv hcl ?_
      refine W.eq (g2 := F0 m 19 ls [.ref q9]) rfl ?_
      refine W.widen (k := 2) (n := 12) (Nat.le_of_ble_eq_true rfl) (Nat.le_of_ble_eq_true rfl) ?_
      refine lv_astore (lv' := [(5, .ref q9), (0, .ref (AD 5 0)), (1, .int r1), (2, .int l1), (3, .int g1), (4, .ref oa)]) hx hb dL_setContract_19 hl (by decide) rfl (fun ls hl => ?_)
      refine lv_iconst (v := 2) hx hb dL_setContract_21 (by decide) ?_
      exact wl_iret C0 hr rfl hP hS dL_setContract_22 (Nat.le_of_ble_eq_true rfl) (Nat.le_of_ble_eq_true rfl) (⟨by rw [hk9]; rfl, AD, by rw [er_s_setContract (by rw [hk9]; decide)]; exact hs, rfl, fun a e h _ _ => h, fo, ho, fun h => absurd (hk9.symm.trans h) (by decide)⟩)
  · obtain ⟨AD2, h0, rfl, hs2, ha2, hk2⟩ := hq
    refine W.eq (g2 := F0 m 10 ls [.int ((s_setContract F r1 l1 g1).2.1), .int 0, .ref oa]) rfl ?_
    refine W.widen (k := 2) (n := 12) (Nat.le_of_ble_eq_true rfl) (Nat.le_of_ble_eq_true rfl) ?_
    refine lv_i2l (v := ((s_setContract F r1 l1 g1).2.1).toInt64) hx hb dL_setContract_10 rfl ?_
    refine wl_last C0 hP hS (hk2 oa _ ho rfl) (show vp_in (nI 0) 1 from vp_in_nI (by omega) (by omega)) dL_setContract_11 (fun H locs hP hS => ?_)
    refine lv_goto (tgt := 23) hx hb dL_setContract_12 (by decide) ?_
    refine lv_iconst (v := 0) hx hb dL_setContract_23 (by decide) ?_
    have f9_1 : (wU w2 oa (.inl (E.2.1 1, 1, .inr (.inl (vp_updL fo ((0 : Int32).toNatClampNeg) (((s_setContract F r1 l1 g1).2.1).toInt64)))))) oa = some (.inl (E.2.1 1, 1, .inr (.inl (vp_updL fo ((0 : Int32).toNatClampNeg) (((s_setContract F r1 l1 g1).2.1).toInt64))))) := (wU_s _ _ _)
    exact wl_iret C0 hr rfl hP hS dL_setContract_24 (Nat.le_of_ble_eq_true rfl) (Nat.le_of_ble_eq_true rfl) (⟨by rw [h0]; rfl, AD2, wSys_o hs2 (hk2 oa _ ho rfl) rfl, ha2, wKo_o hk2, _, wU_s _ _ _, fun _ => by simp [vp_updL]⟩)

set_option maxHeartbeats 4000000 in
set_option maxRecDepth 100000 in
theorem k_L_setAnswer (l : Launch) (hst : l.stackTraces = false) (E : wEn) (w : wW) (sz : Nat) (F : FF) (AD : AT) (N : Nat) (hI : wInv F N) (hs : wSys E F AD w) (oa : Nat) (fo : Nat → Int64) (ho : w oa = some (.inl (E.2.1 1, 1, .inr (.inl fo)))) (r1 a1 : Int32) : wMn l yL_setAnswer wsL_setAnswer 4 2 12 E w sz [.ref (AD 5 0), .int r1, .int a1, .ref oa] (fun v w2 => v = some (.int (nI (s_setAnswer F r1 a1).1)) ∧ ∃ AD2 : AT, wSys E (s_setAnswer F r1 a1).2.2 AD2 w2 ∧ AD2 5 0 = AD 5 0 ∧ wKo oa w w2 ∧ ∃ f2 : Nat → Int64, w2 oa = some (.inl (E.2.1 1, 1, .inr (.inl f2))) ∧ ((s_setAnswer F r1 a1).1 = 0 → f2 0 = (s_setAnswer F r1 a1).2.1.toInt64)) := by
  refine wm_startH (own := RL) (cc := cL_setAnswer) (maxL := 5) (ret := (some .int)) (hh := [(0, 10, 13, 30), (0, 10, 17, 13)]) rfl (by decide) rfl (Nat.le_of_ble_eq_true rfl) ?_
  intro p e s m args below meth c ls C0 hr hT hnc hP hS hl
  have hx := C0.1
  have hb := C0.2.1
  have hts := C0.2.2.2.2.1
  have hown := C0.2.2.2.1
  have hl : lv_has ls 5 [(0, .ref (AD 5 0)), (1, .int r1), (2, .int a1), (3, .ref oa)] := hl
  refine lv_aload_n hx hb dL_setAnswer_0 rfl (lv_at hl 3 rfl) ?_
  refine lv_iconst (v := 0) hx hb dL_setAnswer_1 (by decide) ?_
  refine lv_aload_n hx hb dL_setAnswer_2 rfl (lv_at hl 0 rfl) ?_
  refine lv_iload_n hx hb dL_setAnswer_3 rfl (lv_at hl 1 rfl) ?_
  refine lv_iload_n hx hb dL_setAnswer_4 rfl (lv_at hl 2 rfl) ?_
  refine wl_go (wl_runV (As := [.int r1, .int a1]) (rest := [.int 0, .ref oa]) C0 hP hS (k_X6_setAnswer l hst E w s.heap.size F AD N hI hs r1 a1) (cwV 2 hts gL_setAnswer_X6_setAnswer rfl rfl rfl (by decide +kernel) ⟨(Nat.le_of_ble_eq_true rfl), (Nat.le_of_ble_eq_true rfl)⟩) hs.x rfl rfl rfl hl.1 (Nat.le_of_ble_eq_true rfl) dL_setAnswer_5 ⟨(Nat.le_of_ble_eq_true rfl), (Nat.le_of_ble_eq_true rfl)⟩) hS (wA_in hP hS C0.2.2.2.2.2.2.2.2 rfl) (fun X ce q9 w2 H locs hpx hP _ hS _ _ hce hcv hcl => ?_) (fun v w2 H locs hq hP _ hS _ _ => ?_)
  · obtain ⟨hw9, hx9⟩ := hpx
    rw [hw9] at hP
    rcases hx9 with ⟨hk9, rfl⟩ | ⟨hk9, rfl⟩
    · refine wl_catch (hh := [(0, 10, 13, 30), (0, 10, 17, 13)]) (pre := []) (x := (0, 10, 13, 30)) (suf := [(0, 10, 17, 13)]) C0 hT rfl (fun z hz => absurd hz List.not_mem_nil) rfl (by decide) (hts _ (by decide +kernel)) xc_IOB hce hcv hcl ?_
      refine W.eq (g2 := F0 m 13 ls [.ref q9]) rfl ?_
      refine W.widen (k := 2) (n := 12) (Nat.le_of_ble_eq_true rfl) (Nat.le_of_ble_eq_true rfl) ?_
      refine lv_astore (lv' := [(4, .ref q9), (0, .ref (AD 5 0)), (1, .int r1), (2, .int a1), (3, .ref oa)]) hx hb dL_setAnswer_13 hl (by decide) rfl (fun ls hl => ?_)
      refine lv_iconst (v := 1) hx hb dL_setAnswer_15 (by decide) ?_
      exact wl_iret C0 hr rfl hP hS dL_setAnswer_16 (Nat.le_of_ble_eq_true rfl) (Nat.le_of_ble_eq_true rfl) (⟨by rw [hk9]; rfl, AD, by rw [er_s_setAnswer (by rw [hk9]; decide)]; exact hs, rfl, fun a e h _ _ => h, fo, ho, fun h => absurd (hk9.symm.trans h) (by decide)⟩)
    · refine wl_catch (hh := [(0, 10, 13, 30), (0, 10, 17, 13)]) (pre := [(0, 10, 13, 30)]) (x := (0, 10, 17, 13)) (suf := []) C0 hT rfl (fun z hz => by
          simp only [List.mem_cons, List.not_mem_nil, or_false] at hz
          subst hz
          exact ⟨by decide, xIOB, hts _ (by decide +kernel), hnc (xIAE, xIOB) (by decide +kernel)⟩) rfl (by decide) (hts _ (by decide +kernel)) xc_IAE hce hcv hcl ?_
      refine W.eq (g2 := F0 m 17 ls [.ref q9]) rfl ?_
      refine W.widen (k := 2) (n := 12) (Nat.le_of_ble_eq_true rfl) (Nat.le_of_ble_eq_true rfl) ?_
      refine lv_astore (lv' := [(4, .ref q9), (0, .ref (AD 5 0)), (1, .int r1), (2, .int a1), (3, .ref oa)]) hx hb dL_setAnswer_17 hl (by decide) rfl (fun ls hl => ?_)
      refine lv_iconst (v := 2) hx hb dL_setAnswer_19 (by decide) ?_
      exact wl_iret C0 hr rfl hP hS dL_setAnswer_20 (Nat.le_of_ble_eq_true rfl) (Nat.le_of_ble_eq_true rfl) (⟨by rw [hk9]; rfl, AD, by rw [er_s_setAnswer (by rw [hk9]; decide)]; exact hs, rfl, fun a e h _ _ => h, fo, ho, fun h => absurd (hk9.symm.trans h) (by decide)⟩)
  · obtain ⟨AD2, h0, rfl, hs2, ha2, hk2⟩ := hq
    refine W.eq (g2 := F0 m 8 ls [.int ((s_setAnswer F r1 a1).2.1), .int 0, .ref oa]) rfl ?_
    refine W.widen (k := 2) (n := 12) (Nat.le_of_ble_eq_true rfl) (Nat.le_of_ble_eq_true rfl) ?_
    refine lv_i2l (v := ((s_setAnswer F r1 a1).2.1).toInt64) hx hb dL_setAnswer_8 rfl ?_
    refine wl_last C0 hP hS (hk2 oa _ ho rfl) (show vp_in (nI 0) 1 from vp_in_nI (by omega) (by omega)) dL_setAnswer_9 (fun H locs hP hS => ?_)
    refine lv_goto (tgt := 21) hx hb dL_setAnswer_10 (by decide) ?_
    refine lv_iconst (v := 0) hx hb dL_setAnswer_21 (by decide) ?_
    have f9_1 : (wU w2 oa (.inl (E.2.1 1, 1, .inr (.inl (vp_updL fo ((0 : Int32).toNatClampNeg) (((s_setAnswer F r1 a1).2.1).toInt64)))))) oa = some (.inl (E.2.1 1, 1, .inr (.inl (vp_updL fo ((0 : Int32).toNatClampNeg) (((s_setAnswer F r1 a1).2.1).toInt64))))) := (wU_s _ _ _)
    exact wl_iret C0 hr rfl hP hS dL_setAnswer_22 (Nat.le_of_ble_eq_true rfl) (Nat.le_of_ble_eq_true rfl) (⟨by rw [h0]; rfl, AD2, wSys_o hs2 (hk2 oa _ ho rfl) rfl, ha2, wKo_o hk2, _, wU_s _ _ _, fun _ => by simp [vp_updL]⟩)

set_option maxHeartbeats 4000000 in
set_option maxRecDepth 100000 in
theorem k_L_broken (l : Launch) (hst : l.stackTraces = false) (E : wEn) (w : wW) (sz : Nat) (F : FF) (AD : AT) (N : Nat) (hI : wInv F N) (hs : wSys E F AD w) (oa : Nat) (fo : Nat → Int64) (ho : w oa = some (.inl (E.2.1 1, 1, .inr (.inl fo)))) (r1 : Int32) : wMn l yL_broken wsL_broken 2 1 6 E w sz [.ref (AD 5 0), .int r1, .ref oa] (fun v w2 => v = some (.int (nI (s_broken F r1).1)) ∧ ∃ AD2 : AT, wSys E (s_broken F r1).2.2 AD2 w2 ∧ AD2 5 0 = AD 5 0 ∧ wKo oa w w2 ∧ ∃ f2 : Nat → Int64, w2 oa = some (.inl (E.2.1 1, 1, .inr (.inl f2))) ∧ ((s_broken F r1).1 = 0 → f2 0 = (s_broken F r1).2.1.toInt64)) := by
  refine wm_startH (own := RL) (cc := cL_broken) (maxL := 4) (ret := (some .int)) (hh := [(0, 9, 12, 30)]) rfl (by decide) rfl (Nat.le_of_ble_eq_true rfl) ?_
  intro p e s m args below meth c ls C0 hr hT hnc hP hS hl
  have hx := C0.1
  have hb := C0.2.1
  have hts := C0.2.2.2.2.1
  have hown := C0.2.2.2.1
  have hl : lv_has ls 4 [(0, .ref (AD 5 0)), (1, .int r1), (2, .ref oa)] := hl
  refine lv_aload_n hx hb dL_broken_0 rfl (lv_at hl 2 rfl) ?_
  refine lv_iconst (v := 0) hx hb dL_broken_1 (by decide) ?_
  refine lv_aload_n hx hb dL_broken_2 rfl (lv_at hl 0 rfl) ?_
  refine lv_iload_n hx hb dL_broken_3 rfl (lv_at hl 1 rfl) ?_
  refine wl_go (wl_runV (As := [.int r1]) (rest := [.int 0, .ref oa]) C0 hP hS (k_X6_broken l hst E w s.heap.size F AD N hI hs r1) (cwV 1 hts gL_broken_X6_broken rfl rfl rfl (by decide +kernel) ⟨(Nat.le_of_ble_eq_true rfl), (Nat.le_of_ble_eq_true rfl)⟩) hs.x rfl rfl rfl hl.1 (Nat.le_of_ble_eq_true rfl) dL_broken_4 ⟨(Nat.le_of_ble_eq_true rfl), (Nat.le_of_ble_eq_true rfl)⟩) hS (wA_in hP hS C0.2.2.2.2.2.2.2.2 rfl) (fun X ce q9 w2 H locs hpx hP _ hS _ _ hce hcv hcl => ?_) (fun v w2 H locs hq hP _ hS _ _ => ?_)
  · obtain ⟨hw9, hx9⟩ := hpx
    rw [hw9] at hP
    obtain ⟨hk9, rfl⟩ := hx9
    refine wl_catch (hh := [(0, 9, 12, 30)]) (pre := []) (x := (0, 9, 12, 30)) (suf := []) C0 hT rfl (fun z hz => absurd hz List.not_mem_nil) rfl (by decide) (hts _ (by decide +kernel)) xc_IOB hce hcv hcl ?_
    refine W.eq (g2 := F0 m 12 ls [.ref q9]) rfl ?_
    refine W.widen (k := 1) (n := 6) (Nat.le_of_ble_eq_true rfl) (Nat.le_of_ble_eq_true rfl) ?_
    refine lv_astore_n (lv' := [(3, .ref q9), (0, .ref (AD 5 0)), (1, .int r1), (2, .ref oa)]) hx hb dL_broken_12 rfl hl (by decide) rfl (fun ls hl => ?_)
    refine lv_iconst (v := 1) hx hb dL_broken_13 (by decide) ?_
    exact wl_iret C0 hr rfl hP hS dL_broken_14 (Nat.le_of_ble_eq_true rfl) (Nat.le_of_ble_eq_true rfl) (⟨by rw [hk9]; rfl, AD, by rw [er_s_broken (by rw [hk9]; decide)]; exact hs, rfl, fun a e h _ _ => h, fo, ho, fun h => absurd (hk9.symm.trans h) (by decide)⟩)
  · obtain ⟨AD2, h0, rfl, hs2, ha2, hk2⟩ := hq
    refine W.eq (g2 := F0 m 7 ls [.int ((s_broken F r1).2.1), .int 0, .ref oa]) rfl ?_
    refine W.widen (k := 1) (n := 6) (Nat.le_of_ble_eq_true rfl) (Nat.le_of_ble_eq_true rfl) ?_
    refine lv_i2l (v := ((s_broken F r1).2.1).toInt64) hx hb dL_broken_7 rfl ?_
    refine wl_last C0 hP hS (hk2 oa _ ho rfl) (show vp_in (nI 0) 1 from vp_in_nI (by omega) (by omega)) dL_broken_8 (fun H locs hP hS => ?_)
    refine lv_goto (tgt := 15) hx hb dL_broken_9 (by decide) ?_
    refine lv_iconst (v := 0) hx hb dL_broken_15 (by decide) ?_
    have f9_1 : (wU w2 oa (.inl (E.2.1 1, 1, .inr (.inl (vp_updL fo ((0 : Int32).toNatClampNeg) (((s_broken F r1).2.1).toInt64)))))) oa = some (.inl (E.2.1 1, 1, .inr (.inl (vp_updL fo ((0 : Int32).toNatClampNeg) (((s_broken F r1).2.1).toInt64))))) := (wU_s _ _ _)
    exact wl_iret C0 hr rfl hP hS dL_broken_16 (Nat.le_of_ble_eq_true rfl) (Nat.le_of_ble_eq_true rfl) (⟨by rw [h0]; rfl, AD2, wSys_o hs2 (hk2 oa _ ho rfl) rfl, ha2, wKo_o hk2, _, wU_s _ _ _, fun _ => by simp [vp_updL]⟩)

set_option maxHeartbeats 4000000 in
set_option maxRecDepth 100000 in
theorem k_L_begin (l : Launch) (hst : l.stackTraces = false) (E : wEn) (w : wW) (sz : Nat) (F : FF) (AD : AT) (N : Nat) (hI : wInv F N) (hs : wSys E F AD w) (oa : Nat) (fo : Nat → Int64) (ho : w oa = some (.inl (E.2.1 1, 1, .inr (.inl fo)))) (r1 a1 sh1 li1 : Int32) : wMn l yL_begin wsL_begin 3 2 12 E w sz [.ref (AD 5 0), .int r1, .int a1, .int sh1, .int li1, .ref oa] (fun v w2 => v = some (.int (nI (s_begin F r1 a1 sh1 li1).1)) ∧ ∃ AD2 : AT, wSys E (s_begin F r1 a1 sh1 li1).2.2 AD2 w2 ∧ AD2 5 0 = AD 5 0 ∧ wKo oa w w2 ∧ ∃ f2 : Nat → Int64, w2 oa = some (.inl (E.2.1 1, 1, .inr (.inl f2))) ∧ ((s_begin F r1 a1 sh1 li1).1 = 0 → f2 0 = (s_begin F r1 a1 sh1 li1).2.1.toInt64)) := by
  refine wm_startH (own := RL) (cc := cL_begin) (maxL := 7) (ret := (some .int)) (hh := [(0, 14, 17, 30), (0, 14, 21, 13), (0, 14, 25, 15)]) rfl (by decide) rfl (Nat.le_of_ble_eq_true rfl) ?_
  intro p e s m args below meth c ls C0 hr hT hnc hP hS hl
  have hx := C0.1
  have hb := C0.2.1
  have hts := C0.2.2.2.2.1
  have hown := C0.2.2.2.1
  have hl : lv_has ls 7 [(0, .ref (AD 5 0)), (1, .int r1), (2, .int a1), (3, .int sh1), (4, .int li1), (5, .ref oa)] := hl
  refine lv_aload hx hb dL_begin_0 (lv_at hl 5 rfl) ?_
  refine lv_iconst (v := 0) hx hb dL_begin_2 (by decide) ?_
  refine lv_aload_n hx hb dL_begin_3 rfl (lv_at hl 0 rfl) ?_
  refine lv_iload_n hx hb dL_begin_4 rfl (lv_at hl 1 rfl) ?_
  refine lv_iload_n hx hb dL_begin_5 rfl (lv_at hl 2 rfl) ?_
  refine lv_iload_n hx hb dL_begin_6 rfl (lv_at hl 3 rfl) ?_
  refine lv_iload hx hb dL_begin_7 (lv_at hl 4 rfl) ?_
  refine wl_go (wl_runV (As := [.int r1, .int a1, .int sh1, .int li1]) (rest := [.int 0, .ref oa]) C0 hP hS (k_X6_begin l hst E w s.heap.size F AD N hI hs r1 a1 sh1 li1) (cwV 4 hts gL_begin_X6_begin rfl rfl rfl (by decide +kernel) ⟨(Nat.le_of_ble_eq_true rfl), (Nat.le_of_ble_eq_true rfl)⟩) hs.x rfl rfl rfl hl.1 (Nat.le_of_ble_eq_true rfl) dL_begin_9 ⟨(Nat.le_of_ble_eq_true rfl), (Nat.le_of_ble_eq_true rfl)⟩) hS (wA_in hP hS C0.2.2.2.2.2.2.2.2 rfl) (fun X ce q9 w2 H locs hpx hP _ hS _ _ hce hcv hcl => ?_) (fun v w2 H locs hq hP _ hS _ _ => ?_)
  · obtain ⟨hw9, hx9⟩ := hpx
    rw [hw9] at hP
    rcases hx9 with ⟨hk9, rfl⟩ | ⟨hk9, rfl⟩ | ⟨hk9, rfl⟩
    · refine wl_catch (hh := [(0, 14, 17, 30), (0, 14, 21, 13), (0, 14, 25, 15)]) (pre := []) (x := (0, 14, 17, 30)) (suf := [(0, 14, 21, 13), (0, 14, 25, 15)]) C0 hT rfl (fun z hz => absurd hz List.not_mem_nil) rfl (by decide) (hts _ (by decide +kernel)) xc_IOB hce hcv hcl ?_
      refine W.eq (g2 := F0 m 17 ls [.ref q9]) rfl ?_
      refine W.widen (k := 2) (n := 12) (Nat.le_of_ble_eq_true rfl) (Nat.le_of_ble_eq_true rfl) ?_
      refine lv_astore (lv' := [(6, .ref q9), (0, .ref (AD 5 0)), (1, .int r1), (2, .int a1), (3, .int sh1), (4, .int li1), (5, .ref oa)]) hx hb dL_begin_17 hl (by decide) rfl (fun ls hl => ?_)
      refine lv_iconst (v := 1) hx hb dL_begin_19 (by decide) ?_
      exact wl_iret C0 hr rfl hP hS dL_begin_20 (Nat.le_of_ble_eq_true rfl) (Nat.le_of_ble_eq_true rfl) (⟨by rw [hk9]; rfl, AD, by rw [er_s_begin (by rw [hk9]; decide)]; exact hs, rfl, fun a e h _ _ => h, fo, ho, fun h => absurd (hk9.symm.trans h) (by decide)⟩)
    · refine wl_catch (hh := [(0, 14, 17, 30), (0, 14, 21, 13), (0, 14, 25, 15)]) (pre := [(0, 14, 17, 30)]) (x := (0, 14, 21, 13)) (suf := [(0, 14, 25, 15)]) C0 hT rfl (fun z hz => by
          simp only [List.mem_cons, List.not_mem_nil, or_false] at hz
          subst hz
          exact ⟨by decide, xIOB, hts _ (by decide +kernel), hnc (xIAE, xIOB) (by decide +kernel)⟩) rfl (by decide) (hts _ (by decide +kernel)) xc_IAE hce hcv hcl ?_
      refine W.eq (g2 := F0 m 21 ls [.ref q9]) rfl ?_
      refine W.widen (k := 2) (n := 12) (Nat.le_of_ble_eq_true rfl) (Nat.le_of_ble_eq_true rfl) ?_
      refine lv_astore (lv' := [(6, .ref q9), (0, .ref (AD 5 0)), (1, .int r1), (2, .int a1), (3, .int sh1), (4, .int li1), (5, .ref oa)]) hx hb dL_begin_21 hl (by decide) rfl (fun ls hl => ?_)
      refine lv_iconst (v := 2) hx hb dL_begin_23 (by decide) ?_
      exact wl_iret C0 hr rfl hP hS dL_begin_24 (Nat.le_of_ble_eq_true rfl) (Nat.le_of_ble_eq_true rfl) (⟨by rw [hk9]; rfl, AD, by rw [er_s_begin (by rw [hk9]; decide)]; exact hs, rfl, fun a e h _ _ => h, fo, ho, fun h => absurd (hk9.symm.trans h) (by decide)⟩)
    · refine wl_catch (hh := [(0, 14, 17, 30), (0, 14, 21, 13), (0, 14, 25, 15)]) (pre := [(0, 14, 17, 30), (0, 14, 21, 13)]) (x := (0, 14, 25, 15)) (suf := []) C0 hT rfl (fun z hz => by
          simp only [List.mem_cons, List.not_mem_nil, or_false] at hz
          rcases hz with rfl | rfl
          · exact ⟨by decide, xIOB, hts _ (by decide +kernel), hnc (xISE, xIOB) (by decide +kernel)⟩
          · exact ⟨by decide, xIAE, hts _ (by decide +kernel), hnc (xISE, xIAE) (by decide +kernel)⟩) rfl (by decide) (hts _ (by decide +kernel)) xc_ISE hce hcv hcl ?_
      refine W.eq (g2 := F0 m 25 ls [.ref q9]) rfl ?_
      refine W.widen (k := 2) (n := 12) (Nat.le_of_ble_eq_true rfl) (Nat.le_of_ble_eq_true rfl) ?_
      refine lv_astore (lv' := [(6, .ref q9), (0, .ref (AD 5 0)), (1, .int r1), (2, .int a1), (3, .int sh1), (4, .int li1), (5, .ref oa)]) hx hb dL_begin_25 hl (by decide) rfl (fun ls hl => ?_)
      refine lv_iconst (v := 3) hx hb dL_begin_27 (by decide) ?_
      exact wl_iret C0 hr rfl hP hS dL_begin_28 (Nat.le_of_ble_eq_true rfl) (Nat.le_of_ble_eq_true rfl) (⟨by rw [hk9]; rfl, AD, by rw [er_s_begin (by rw [hk9]; decide)]; exact hs, rfl, fun a e h _ _ => h, fo, ho, fun h => absurd (hk9.symm.trans h) (by decide)⟩)
  · obtain ⟨AD2, h0, rfl, hs2, ha2, hk2⟩ := hq
    refine W.eq (g2 := F0 m 12 ls [.int ((s_begin F r1 a1 sh1 li1).2.1), .int 0, .ref oa]) rfl ?_
    refine W.widen (k := 2) (n := 12) (Nat.le_of_ble_eq_true rfl) (Nat.le_of_ble_eq_true rfl) ?_
    refine lv_i2l (v := ((s_begin F r1 a1 sh1 li1).2.1).toInt64) hx hb dL_begin_12 rfl ?_
    refine wl_last C0 hP hS (hk2 oa _ ho rfl) (show vp_in (nI 0) 1 from vp_in_nI (by omega) (by omega)) dL_begin_13 (fun H locs hP hS => ?_)
    refine lv_goto (tgt := 29) hx hb dL_begin_14 (by decide) ?_
    refine lv_iconst (v := 0) hx hb dL_begin_29 (by decide) ?_
    have f9_1 : (wU w2 oa (.inl (E.2.1 1, 1, .inr (.inl (vp_updL fo ((0 : Int32).toNatClampNeg) (((s_begin F r1 a1 sh1 li1).2.1).toInt64)))))) oa = some (.inl (E.2.1 1, 1, .inr (.inl (vp_updL fo ((0 : Int32).toNatClampNeg) (((s_begin F r1 a1 sh1 li1).2.1).toInt64))))) := (wU_s _ _ _)
    exact wl_iret C0 hr rfl hP hS dL_begin_30 (Nat.le_of_ble_eq_true rfl) (Nat.le_of_ble_eq_true rfl) (⟨by rw [h0]; rfl, AD2, wSys_o hs2 (hk2 oa _ ho rfl) rfl, ha2, wKo_o hk2, _, wU_s _ _ _, fun _ => by simp [vp_updL]⟩)

set_option maxHeartbeats 4000000 in
set_option maxRecDepth 100000 in
theorem k_L_setShare (l : Launch) (hst : l.stackTraces = false) (E : wEn) (w : wW) (sz : Nat) (F : FF) (AD : AT) (N : Nat) (hI : wInv F N) (hs : wSys E F AD w) (oa : Nat) (fo : Nat → Int64) (ho : w oa = some (.inl (E.2.1 1, 1, .inr (.inl fo)))) (r1 sh1 : Int32) : wMn l yL_setShare wsL_setShare 3 2 12 E w sz [.ref (AD 5 0), .int r1, .int sh1, .ref oa] (fun v w2 => v = some (.int (nI (s_setShare F r1 sh1).1)) ∧ ∃ AD2 : AT, wSys E (s_setShare F r1 sh1).2.2 AD2 w2 ∧ AD2 5 0 = AD 5 0 ∧ wKo oa w w2 ∧ ∃ f2 : Nat → Int64, w2 oa = some (.inl (E.2.1 1, 1, .inr (.inl f2))) ∧ ((s_setShare F r1 sh1).1 = 0 → f2 0 = (s_setShare F r1 sh1).2.1.toInt64)) := by
  refine wm_startH (own := RL) (cc := cL_setShare) (maxL := 5) (ret := (some .int)) (hh := [(0, 10, 13, 30), (0, 10, 17, 13), (0, 10, 21, 15)]) rfl (by decide) rfl (Nat.le_of_ble_eq_true rfl) ?_
  intro p e s m args below meth c ls C0 hr hT hnc hP hS hl
  have hx := C0.1
  have hb := C0.2.1
  have hts := C0.2.2.2.2.1
  have hown := C0.2.2.2.1
  have hl : lv_has ls 5 [(0, .ref (AD 5 0)), (1, .int r1), (2, .int sh1), (3, .ref oa)] := hl
  refine lv_aload_n hx hb dL_setShare_0 rfl (lv_at hl 3 rfl) ?_
  refine lv_iconst (v := 0) hx hb dL_setShare_1 (by decide) ?_
  refine lv_aload_n hx hb dL_setShare_2 rfl (lv_at hl 0 rfl) ?_
  refine lv_iload_n hx hb dL_setShare_3 rfl (lv_at hl 1 rfl) ?_
  refine lv_iload_n hx hb dL_setShare_4 rfl (lv_at hl 2 rfl) ?_
  refine wl_go (wl_runV (As := [.int r1, .int sh1]) (rest := [.int 0, .ref oa]) C0 hP hS (k_X6_setShare l hst E w s.heap.size F AD N hI hs r1 sh1) (cwV 2 hts gL_setShare_X6_setShare rfl rfl rfl (by decide +kernel) ⟨(Nat.le_of_ble_eq_true rfl), (Nat.le_of_ble_eq_true rfl)⟩) hs.x rfl rfl rfl hl.1 (Nat.le_of_ble_eq_true rfl) dL_setShare_5 ⟨(Nat.le_of_ble_eq_true rfl), (Nat.le_of_ble_eq_true rfl)⟩) hS (wA_in hP hS C0.2.2.2.2.2.2.2.2 rfl) (fun X ce q9 w2 H locs hpx hP _ hS _ _ hce hcv hcl => ?_) (fun v w2 H locs hq hP _ hS _ _ => ?_)
  · obtain ⟨hw9, hx9⟩ := hpx
    rw [hw9] at hP
    rcases hx9 with ⟨hk9, rfl⟩ | ⟨hk9, rfl⟩ | ⟨hk9, rfl⟩
    · refine wl_catch (hh := [(0, 10, 13, 30), (0, 10, 17, 13), (0, 10, 21, 15)]) (pre := []) (x := (0, 10, 13, 30)) (suf := [(0, 10, 17, 13), (0, 10, 21, 15)]) C0 hT rfl (fun z hz => absurd hz List.not_mem_nil) rfl (by decide) (hts _ (by decide +kernel)) xc_IOB hce hcv hcl ?_
      refine W.eq (g2 := F0 m 13 ls [.ref q9]) rfl ?_
      refine W.widen (k := 2) (n := 12) (Nat.le_of_ble_eq_true rfl) (Nat.le_of_ble_eq_true rfl) ?_
      refine lv_astore (lv' := [(4, .ref q9), (0, .ref (AD 5 0)), (1, .int r1), (2, .int sh1), (3, .ref oa)]) hx hb dL_setShare_13 hl (by decide) rfl (fun ls hl => ?_)
      refine lv_iconst (v := 1) hx hb dL_setShare_15 (by decide) ?_
      exact wl_iret C0 hr rfl hP hS dL_setShare_16 (Nat.le_of_ble_eq_true rfl) (Nat.le_of_ble_eq_true rfl) (⟨by rw [hk9]; rfl, AD, by rw [er_s_setShare (by rw [hk9]; decide)]; exact hs, rfl, fun a e h _ _ => h, fo, ho, fun h => absurd (hk9.symm.trans h) (by decide)⟩)
    · refine wl_catch (hh := [(0, 10, 13, 30), (0, 10, 17, 13), (0, 10, 21, 15)]) (pre := [(0, 10, 13, 30)]) (x := (0, 10, 17, 13)) (suf := [(0, 10, 21, 15)]) C0 hT rfl (fun z hz => by
          simp only [List.mem_cons, List.not_mem_nil, or_false] at hz
          subst hz
          exact ⟨by decide, xIOB, hts _ (by decide +kernel), hnc (xIAE, xIOB) (by decide +kernel)⟩) rfl (by decide) (hts _ (by decide +kernel)) xc_IAE hce hcv hcl ?_
      refine W.eq (g2 := F0 m 17 ls [.ref q9]) rfl ?_
      refine W.widen (k := 2) (n := 12) (Nat.le_of_ble_eq_true rfl) (Nat.le_of_ble_eq_true rfl) ?_
      refine lv_astore (lv' := [(4, .ref q9), (0, .ref (AD 5 0)), (1, .int r1), (2, .int sh1), (3, .ref oa)]) hx hb dL_setShare_17 hl (by decide) rfl (fun ls hl => ?_)
      refine lv_iconst (v := 2) hx hb dL_setShare_19 (by decide) ?_
      exact wl_iret C0 hr rfl hP hS dL_setShare_20 (Nat.le_of_ble_eq_true rfl) (Nat.le_of_ble_eq_true rfl) (⟨by rw [hk9]; rfl, AD, by rw [er_s_setShare (by rw [hk9]; decide)]; exact hs, rfl, fun a e h _ _ => h, fo, ho, fun h => absurd (hk9.symm.trans h) (by decide)⟩)
    · refine wl_catch (hh := [(0, 10, 13, 30), (0, 10, 17, 13), (0, 10, 21, 15)]) (pre := [(0, 10, 13, 30), (0, 10, 17, 13)]) (x := (0, 10, 21, 15)) (suf := []) C0 hT rfl (fun z hz => by
          simp only [List.mem_cons, List.not_mem_nil, or_false] at hz
          rcases hz with rfl | rfl
          · exact ⟨by decide, xIOB, hts _ (by decide +kernel), hnc (xISE, xIOB) (by decide +kernel)⟩
          · exact ⟨by decide, xIAE, hts _ (by decide +kernel), hnc (xISE, xIAE) (by decide +kernel)⟩) rfl (by decide) (hts _ (by decide +kernel)) xc_ISE hce hcv hcl ?_
      refine W.eq (g2 := F0 m 21 ls [.ref q9]) rfl ?_
      refine W.widen (k := 2) (n := 12) (Nat.le_of_ble_eq_true rfl) (Nat.le_of_ble_eq_true rfl) ?_
      refine lv_astore (lv' := [(4, .ref q9), (0, .ref (AD 5 0)), (1, .int r1), (2, .int sh1), (3, .ref oa)]) hx hb dL_setShare_21 hl (by decide) rfl (fun ls hl => ?_)
      refine lv_iconst (v := 3) hx hb dL_setShare_23 (by decide) ?_
      exact wl_iret C0 hr rfl hP hS dL_setShare_24 (Nat.le_of_ble_eq_true rfl) (Nat.le_of_ble_eq_true rfl) (⟨by rw [hk9]; rfl, AD, by rw [er_s_setShare (by rw [hk9]; decide)]; exact hs, rfl, fun a e h _ _ => h, fo, ho, fun h => absurd (hk9.symm.trans h) (by decide)⟩)
  · obtain ⟨AD2, h0, rfl, hs2, ha2, hk2⟩ := hq
    refine W.eq (g2 := F0 m 8 ls [.int ((s_setShare F r1 sh1).2.1), .int 0, .ref oa]) rfl ?_
    refine W.widen (k := 2) (n := 12) (Nat.le_of_ble_eq_true rfl) (Nat.le_of_ble_eq_true rfl) ?_
    refine lv_i2l (v := ((s_setShare F r1 sh1).2.1).toInt64) hx hb dL_setShare_8 rfl ?_
    refine wl_last C0 hP hS (hk2 oa _ ho rfl) (show vp_in (nI 0) 1 from vp_in_nI (by omega) (by omega)) dL_setShare_9 (fun H locs hP hS => ?_)
    refine lv_goto (tgt := 25) hx hb dL_setShare_10 (by decide) ?_
    refine lv_iconst (v := 0) hx hb dL_setShare_25 (by decide) ?_
    have f9_1 : (wU w2 oa (.inl (E.2.1 1, 1, .inr (.inl (vp_updL fo ((0 : Int32).toNatClampNeg) (((s_setShare F r1 sh1).2.1).toInt64)))))) oa = some (.inl (E.2.1 1, 1, .inr (.inl (vp_updL fo ((0 : Int32).toNatClampNeg) (((s_setShare F r1 sh1).2.1).toInt64))))) := (wU_s _ _ _)
    exact wl_iret C0 hr rfl hP hS dL_setShare_26 (Nat.le_of_ble_eq_true rfl) (Nat.le_of_ble_eq_true rfl) (⟨by rw [h0]; rfl, AD2, wSys_o hs2 (hk2 oa _ ho rfl) rfl, ha2, wKo_o hk2, _, wU_s _ _ _, fun _ => by simp [vp_updL]⟩)

set_option maxHeartbeats 4000000 in
set_option maxRecDepth 100000 in
theorem k_L_promote (l : Launch) (hst : l.stackTraces = false) (E : wEn) (w : wW) (sz : Nat) (F : FF) (AD : AT) (N : Nat) (hI : wInv F N) (hs : wSys E F AD w) (oa : Nat) (fo : Nat → Int64) (ho : w oa = some (.inl (E.2.1 1, 1, .inr (.inl fo)))) (r1 : Int32) : wMn l yL_promote wsL_promote 3 2 12 E w sz [.ref (AD 5 0), .int r1, .ref oa] (fun v w2 => v = some (.int (nI (s_promote F r1).1)) ∧ ∃ AD2 : AT, wSys E (s_promote F r1).2.2 AD2 w2 ∧ AD2 5 0 = AD 5 0 ∧ wKo oa w w2 ∧ ∃ f2 : Nat → Int64, w2 oa = some (.inl (E.2.1 1, 1, .inr (.inl f2))) ∧ ((s_promote F r1).1 = 0 → f2 0 = (s_promote F r1).2.1.toInt64)) := by
  refine wm_startH (own := RL) (cc := cL_promote) (maxL := 4) (ret := (some .int)) (hh := [(0, 9, 12, 30), (0, 9, 15, 15)]) rfl (by decide) rfl (Nat.le_of_ble_eq_true rfl) ?_
  intro p e s m args below meth c ls C0 hr hT hnc hP hS hl
  have hx := C0.1
  have hb := C0.2.1
  have hts := C0.2.2.2.2.1
  have hown := C0.2.2.2.1
  have hl : lv_has ls 4 [(0, .ref (AD 5 0)), (1, .int r1), (2, .ref oa)] := hl
  refine lv_aload_n hx hb dL_promote_0 rfl (lv_at hl 2 rfl) ?_
  refine lv_iconst (v := 0) hx hb dL_promote_1 (by decide) ?_
  refine lv_aload_n hx hb dL_promote_2 rfl (lv_at hl 0 rfl) ?_
  refine lv_iload_n hx hb dL_promote_3 rfl (lv_at hl 1 rfl) ?_
  refine wl_go (wl_runV (As := [.int r1]) (rest := [.int 0, .ref oa]) C0 hP hS (k_X6_promote l hst E w s.heap.size F AD N hI hs r1) (cwV 1 hts gL_promote_X6_promote rfl rfl rfl (by decide +kernel) ⟨(Nat.le_of_ble_eq_true rfl), (Nat.le_of_ble_eq_true rfl)⟩) hs.x rfl rfl rfl hl.1 (Nat.le_of_ble_eq_true rfl) dL_promote_4 ⟨(Nat.le_of_ble_eq_true rfl), (Nat.le_of_ble_eq_true rfl)⟩) hS (wA_in hP hS C0.2.2.2.2.2.2.2.2 rfl) (fun X ce q9 w2 H locs hpx hP _ hS _ _ hce hcv hcl => ?_) (fun v w2 H locs hq hP _ hS _ _ => ?_)
  · obtain ⟨hw9, hx9⟩ := hpx
    rw [hw9] at hP
    rcases hx9 with ⟨hk9, rfl⟩ | ⟨hk9, rfl⟩
    · refine wl_catch (hh := [(0, 9, 12, 30), (0, 9, 15, 15)]) (pre := []) (x := (0, 9, 12, 30)) (suf := [(0, 9, 15, 15)]) C0 hT rfl (fun z hz => absurd hz List.not_mem_nil) rfl (by decide) (hts _ (by decide +kernel)) xc_IOB hce hcv hcl ?_
      refine W.eq (g2 := F0 m 12 ls [.ref q9]) rfl ?_
      refine W.widen (k := 2) (n := 12) (Nat.le_of_ble_eq_true rfl) (Nat.le_of_ble_eq_true rfl) ?_
      refine lv_astore_n (lv' := [(3, .ref q9), (0, .ref (AD 5 0)), (1, .int r1), (2, .ref oa)]) hx hb dL_promote_12 rfl hl (by decide) rfl (fun ls hl => ?_)
      refine lv_iconst (v := 1) hx hb dL_promote_13 (by decide) ?_
      exact wl_iret C0 hr rfl hP hS dL_promote_14 (Nat.le_of_ble_eq_true rfl) (Nat.le_of_ble_eq_true rfl) (⟨by rw [hk9]; rfl, AD, by rw [er_s_promote (by rw [hk9]; decide)]; exact hs, rfl, fun a e h _ _ => h, fo, ho, fun h => absurd (hk9.symm.trans h) (by decide)⟩)
    · refine wl_catch (hh := [(0, 9, 12, 30), (0, 9, 15, 15)]) (pre := [(0, 9, 12, 30)]) (x := (0, 9, 15, 15)) (suf := []) C0 hT rfl (fun z hz => by
          simp only [List.mem_cons, List.not_mem_nil, or_false] at hz
          subst hz
          exact ⟨by decide, xIOB, hts _ (by decide +kernel), hnc (xISE, xIOB) (by decide +kernel)⟩) rfl (by decide) (hts _ (by decide +kernel)) xc_ISE hce hcv hcl ?_
      refine W.eq (g2 := F0 m 15 ls [.ref q9]) rfl ?_
      refine W.widen (k := 2) (n := 12) (Nat.le_of_ble_eq_true rfl) (Nat.le_of_ble_eq_true rfl) ?_
      refine lv_astore_n (lv' := [(3, .ref q9), (0, .ref (AD 5 0)), (1, .int r1), (2, .ref oa)]) hx hb dL_promote_15 rfl hl (by decide) rfl (fun ls hl => ?_)
      refine lv_iconst (v := 2) hx hb dL_promote_16 (by decide) ?_
      exact wl_iret C0 hr rfl hP hS dL_promote_17 (Nat.le_of_ble_eq_true rfl) (Nat.le_of_ble_eq_true rfl) (⟨by rw [hk9]; rfl, AD, by rw [er_s_promote (by rw [hk9]; decide)]; exact hs, rfl, fun a e h _ _ => h, fo, ho, fun h => absurd (hk9.symm.trans h) (by decide)⟩)
  · obtain ⟨AD2, h0, rfl, hs2, ha2, hk2⟩ := hq
    refine W.eq (g2 := F0 m 7 ls [.int ((s_promote F r1).2.1), .int 0, .ref oa]) rfl ?_
    refine W.widen (k := 2) (n := 12) (Nat.le_of_ble_eq_true rfl) (Nat.le_of_ble_eq_true rfl) ?_
    refine lv_i2l (v := ((s_promote F r1).2.1).toInt64) hx hb dL_promote_7 rfl ?_
    refine wl_last C0 hP hS (hk2 oa _ ho rfl) (show vp_in (nI 0) 1 from vp_in_nI (by omega) (by omega)) dL_promote_8 (fun H locs hP hS => ?_)
    refine lv_goto (tgt := 18) hx hb dL_promote_9 (by decide) ?_
    refine lv_iconst (v := 0) hx hb dL_promote_18 (by decide) ?_
    have f9_1 : (wU w2 oa (.inl (E.2.1 1, 1, .inr (.inl (vp_updL fo ((0 : Int32).toNatClampNeg) (((s_promote F r1).2.1).toInt64)))))) oa = some (.inl (E.2.1 1, 1, .inr (.inl (vp_updL fo ((0 : Int32).toNatClampNeg) (((s_promote F r1).2.1).toInt64))))) := (wU_s _ _ _)
    exact wl_iret C0 hr rfl hP hS dL_promote_19 (Nat.le_of_ble_eq_true rfl) (Nat.le_of_ble_eq_true rfl) (⟨by rw [h0]; rfl, AD2, wSys_o hs2 (hk2 oa _ ho rfl) rfl, ha2, wKo_o hk2, _, wU_s _ _ _, fun _ => by simp [vp_updL]⟩)

set_option maxHeartbeats 4000000 in
set_option maxRecDepth 100000 in
theorem k_L_takeBack (l : Launch) (hst : l.stackTraces = false) (E : wEn) (w : wW) (sz : Nat) (F : FF) (AD : AT) (N : Nat) (hI : wInv F N) (hs : wSys E F AD w) (oa : Nat) (fo : Nat → Int64) (ho : w oa = some (.inl (E.2.1 1, 1, .inr (.inl fo)))) (r1 : Int32) : wMn l yL_takeBack wsL_takeBack 5 2 12 E w sz [.ref (AD 5 0), .int r1, .ref oa] (fun v w2 => v = some (.int (nI (s_takeBack F r1).1)) ∧ ∃ AD2 : AT, wSys E (s_takeBack F r1).2.2 AD2 w2 ∧ AD2 5 0 = AD 5 0 ∧ wKo oa w w2 ∧ ∃ f2 : Nat → Int64, w2 oa = some (.inl (E.2.1 1, 1, .inr (.inl f2))) ∧ ((s_takeBack F r1).1 = 0 → f2 0 = (s_takeBack F r1).2.1.toInt64)) := by
  refine wm_startH (own := RL) (cc := cL_takeBack) (maxL := 4) (ret := (some .int)) (hh := [(0, 9, 12, 30), (0, 9, 15, 15)]) rfl (by decide) rfl (Nat.le_of_ble_eq_true rfl) ?_
  intro p e s m args below meth c ls C0 hr hT hnc hP hS hl
  have hx := C0.1
  have hb := C0.2.1
  have hts := C0.2.2.2.2.1
  have hown := C0.2.2.2.1
  have hl : lv_has ls 4 [(0, .ref (AD 5 0)), (1, .int r1), (2, .ref oa)] := hl
  refine lv_aload_n hx hb dL_takeBack_0 rfl (lv_at hl 2 rfl) ?_
  refine lv_iconst (v := 0) hx hb dL_takeBack_1 (by decide) ?_
  refine lv_aload_n hx hb dL_takeBack_2 rfl (lv_at hl 0 rfl) ?_
  refine lv_iload_n hx hb dL_takeBack_3 rfl (lv_at hl 1 rfl) ?_
  refine wl_go (wl_runV (As := [.int r1]) (rest := [.int 0, .ref oa]) C0 hP hS (k_X6_takeBack l hst E w s.heap.size F AD N hI hs r1) (cwV 1 hts gL_takeBack_X6_takeBack rfl rfl rfl (by decide +kernel) ⟨(Nat.le_of_ble_eq_true rfl), (Nat.le_of_ble_eq_true rfl)⟩) hs.x rfl rfl rfl hl.1 (Nat.le_of_ble_eq_true rfl) dL_takeBack_4 ⟨(Nat.le_of_ble_eq_true rfl), (Nat.le_of_ble_eq_true rfl)⟩) hS (wA_in hP hS C0.2.2.2.2.2.2.2.2 rfl) (fun X ce q9 w2 H locs hpx hP _ hS _ _ hce hcv hcl => ?_) (fun v w2 H locs hq hP _ hS _ _ => ?_)
  · obtain ⟨hw9, hx9⟩ := hpx
    rw [hw9] at hP
    rcases hx9 with ⟨hk9, rfl⟩ | ⟨hk9, rfl⟩
    · refine wl_catch (hh := [(0, 9, 12, 30), (0, 9, 15, 15)]) (pre := []) (x := (0, 9, 12, 30)) (suf := [(0, 9, 15, 15)]) C0 hT rfl (fun z hz => absurd hz List.not_mem_nil) rfl (by decide) (hts _ (by decide +kernel)) xc_IOB hce hcv hcl ?_
      refine W.eq (g2 := F0 m 12 ls [.ref q9]) rfl ?_
      refine W.widen (k := 2) (n := 12) (Nat.le_of_ble_eq_true rfl) (Nat.le_of_ble_eq_true rfl) ?_
      refine lv_astore_n (lv' := [(3, .ref q9), (0, .ref (AD 5 0)), (1, .int r1), (2, .ref oa)]) hx hb dL_takeBack_12 rfl hl (by decide) rfl (fun ls hl => ?_)
      refine lv_iconst (v := 1) hx hb dL_takeBack_13 (by decide) ?_
      exact wl_iret C0 hr rfl hP hS dL_takeBack_14 (Nat.le_of_ble_eq_true rfl) (Nat.le_of_ble_eq_true rfl) (⟨by rw [hk9]; rfl, AD, by rw [er_s_takeBack (by rw [hk9]; decide)]; exact hs, rfl, fun a e h _ _ => h, fo, ho, fun h => absurd (hk9.symm.trans h) (by decide)⟩)
    · refine wl_catch (hh := [(0, 9, 12, 30), (0, 9, 15, 15)]) (pre := [(0, 9, 12, 30)]) (x := (0, 9, 15, 15)) (suf := []) C0 hT rfl (fun z hz => by
          simp only [List.mem_cons, List.not_mem_nil, or_false] at hz
          subst hz
          exact ⟨by decide, xIOB, hts _ (by decide +kernel), hnc (xISE, xIOB) (by decide +kernel)⟩) rfl (by decide) (hts _ (by decide +kernel)) xc_ISE hce hcv hcl ?_
      refine W.eq (g2 := F0 m 15 ls [.ref q9]) rfl ?_
      refine W.widen (k := 2) (n := 12) (Nat.le_of_ble_eq_true rfl) (Nat.le_of_ble_eq_true rfl) ?_
      refine lv_astore_n (lv' := [(3, .ref q9), (0, .ref (AD 5 0)), (1, .int r1), (2, .ref oa)]) hx hb dL_takeBack_15 rfl hl (by decide) rfl (fun ls hl => ?_)
      refine lv_iconst (v := 2) hx hb dL_takeBack_16 (by decide) ?_
      exact wl_iret C0 hr rfl hP hS dL_takeBack_17 (Nat.le_of_ble_eq_true rfl) (Nat.le_of_ble_eq_true rfl) (⟨by rw [hk9]; rfl, AD, by rw [er_s_takeBack (by rw [hk9]; decide)]; exact hs, rfl, fun a e h _ _ => h, fo, ho, fun h => absurd (hk9.symm.trans h) (by decide)⟩)
  · obtain ⟨AD2, h0, rfl, hs2, ha2, hk2⟩ := hq
    refine W.eq (g2 := F0 m 7 ls [.int ((s_takeBack F r1).2.1), .int 0, .ref oa]) rfl ?_
    refine W.widen (k := 2) (n := 12) (Nat.le_of_ble_eq_true rfl) (Nat.le_of_ble_eq_true rfl) ?_
    refine lv_i2l (v := ((s_takeBack F r1).2.1).toInt64) hx hb dL_takeBack_7 rfl ?_
    refine wl_last C0 hP hS (hk2 oa _ ho rfl) (show vp_in (nI 0) 1 from vp_in_nI (by omega) (by omega)) dL_takeBack_8 (fun H locs hP hS => ?_)
    refine lv_goto (tgt := 18) hx hb dL_takeBack_9 (by decide) ?_
    refine lv_iconst (v := 0) hx hb dL_takeBack_18 (by decide) ?_
    have f9_1 : (wU w2 oa (.inl (E.2.1 1, 1, .inr (.inl (vp_updL fo ((0 : Int32).toNatClampNeg) (((s_takeBack F r1).2.1).toInt64)))))) oa = some (.inl (E.2.1 1, 1, .inr (.inl (vp_updL fo ((0 : Int32).toNatClampNeg) (((s_takeBack F r1).2.1).toInt64))))) := (wU_s _ _ _)
    exact wl_iret C0 hr rfl hP hS dL_takeBack_19 (Nat.le_of_ble_eq_true rfl) (Nat.le_of_ble_eq_true rfl) (⟨by rw [h0]; rfl, AD2, wSys_o hs2 (hk2 oa _ ho rfl) rfl, ha2, wKo_o hk2, _, wU_s _ _ _, fun _ => by simp [vp_updL]⟩)

set_option maxHeartbeats 4000000 in
set_option maxRecDepth 100000 in
theorem k_L_hasCanary (l : Launch) (hst : l.stackTraces = false) (E : wEn) (w : wW) (sz : Nat) (F : FF) (AD : AT) (N : Nat) (hI : wInv F N) (hs : wSys E F AD w) (oa : Nat) (fo : Nat → Int64) (ho : w oa = some (.inl (E.2.1 1, 1, .inr (.inl fo)))) (r1 : Int32) : wMn l yL_hasCanary wsL_hasCanary 2 1 6 E w sz [.ref (AD 5 0), .int r1, .ref oa] (fun v w2 => v = some (.int (nI (s_hasCanary F r1).1)) ∧ ∃ AD2 : AT, wSys E (s_hasCanary F r1).2.2 AD2 w2 ∧ AD2 5 0 = AD 5 0 ∧ wKo oa w w2 ∧ ∃ f2 : Nat → Int64, w2 oa = some (.inl (E.2.1 1, 1, .inr (.inl f2))) ∧ ((s_hasCanary F r1).1 = 0 → f2 0 = (s_hasCanary F r1).2.1.toInt64)) := by
  refine wm_startH (own := RL) (cc := cL_hasCanary) (maxL := 4) (ret := (some .int)) (hh := [(0, 16, 19, 30)]) rfl (by decide) rfl (Nat.le_of_ble_eq_true rfl) ?_
  intro p e s m args below meth c ls C0 hr hT hnc hP hS hl
  have hx := C0.1
  have hb := C0.2.1
  have hts := C0.2.2.2.2.1
  have hown := C0.2.2.2.1
  have hl : lv_has ls 4 [(0, .ref (AD 5 0)), (1, .int r1), (2, .ref oa)] := hl
  refine lv_aload_n hx hb dL_hasCanary_0 rfl (lv_at hl 2 rfl) ?_
  refine lv_iconst (v := 0) hx hb dL_hasCanary_1 (by decide) ?_
  refine lv_aload_n hx hb dL_hasCanary_2 rfl (lv_at hl 0 rfl) ?_
  refine lv_iload_n hx hb dL_hasCanary_3 rfl (lv_at hl 1 rfl) ?_
  refine wl_go (wl_runV (As := [.int r1]) (rest := [.int 0, .ref oa]) C0 hP hS (k_X6_hasCanary l hst E w s.heap.size F AD N hI hs r1) (cwV 1 hts gL_hasCanary_X6_hasCanary rfl rfl rfl (by decide +kernel) ⟨(Nat.le_of_ble_eq_true rfl), (Nat.le_of_ble_eq_true rfl)⟩) hs.x rfl rfl rfl hl.1 (Nat.le_of_ble_eq_true rfl) dL_hasCanary_4 ⟨(Nat.le_of_ble_eq_true rfl), (Nat.le_of_ble_eq_true rfl)⟩) hS (wA_in hP hS C0.2.2.2.2.2.2.2.2 rfl) (fun X ce q9 w2 H locs hpx hP _ hS _ _ hce hcv hcl => ?_) (fun v w2 H locs hq hP _ hS _ _ => ?_)
  · obtain ⟨hw9, hx9⟩ := hpx
    rw [hw9] at hP
    obtain ⟨hk9, rfl⟩ := hx9
    refine wl_catch (hh := [(0, 16, 19, 30)]) (pre := []) (x := (0, 16, 19, 30)) (suf := []) C0 hT rfl (fun z hz => absurd hz List.not_mem_nil) rfl (by decide) (hts _ (by decide +kernel)) xc_IOB hce hcv hcl ?_
    refine W.eq (g2 := F0 m 19 ls [.ref q9]) rfl ?_
    refine W.widen (k := 1) (n := 6) (Nat.le_of_ble_eq_true rfl) (Nat.le_of_ble_eq_true rfl) ?_
    refine lv_astore_n (lv' := [(3, .ref q9), (0, .ref (AD 5 0)), (1, .int r1), (2, .ref oa)]) hx hb dL_hasCanary_19 rfl hl (by decide) rfl (fun ls hl => ?_)
    refine lv_iconst (v := 1) hx hb dL_hasCanary_20 (by decide) ?_
    exact wl_iret C0 hr rfl hP hS dL_hasCanary_21 (Nat.le_of_ble_eq_true rfl) (Nat.le_of_ble_eq_true rfl) (⟨by rw [hk9]; rfl, AD, by rw [er_s_hasCanary (by rw [hk9]; decide)]; exact hs, rfl, fun a e h _ _ => h, fo, ho, fun h => absurd (hk9.symm.trans h) (by decide)⟩)
  · obtain ⟨AD2, h0, rfl, hs2, ha2, hk2⟩ := hq
    refine W.eq (g2 := F0 m 7 ls [.int ((s_hasCanary F r1).2.1), .int 0, .ref oa]) rfl ?_
    refine W.widen (k := 1) (n := 6) (Nat.le_of_ble_eq_true rfl) (Nat.le_of_ble_eq_true rfl) ?_
    refine lv_if_eq (tgt := 14) hx hb dL_hasCanary_7 (by decide) (fun c_7 => ?_) (fun c_7 => ?_)
    · have hb1 : (s_hasCanary F r1).2.1 = 0 := c_7
      refine lv_lconst (v := 0) hx hb dL_hasCanary_14 (by decide) ?_
      refine wl_last C0 hP hS (hk2 oa _ ho rfl) (show vp_in (nI 0) 1 from vp_in_nI (by omega) (by omega)) dL_hasCanary_15 (fun H locs hP hS => ?_)
      refine lv_goto (tgt := 22) hx hb dL_hasCanary_16 (by decide) ?_
      refine lv_iconst (v := 0) hx hb dL_hasCanary_22 (by decide) ?_
      have f9_1 : (wU w2 oa (.inl (E.2.1 1, 1, .inr (.inl (vp_updL fo ((0 : Int32).toNatClampNeg) 0))))) oa = some (.inl (E.2.1 1, 1, .inr (.inl (vp_updL fo ((0 : Int32).toNatClampNeg) 0)))) := (wU_s _ _ _)
      exact wl_iret C0 hr rfl hP hS dL_hasCanary_23 (Nat.le_of_ble_eq_true rfl) (Nat.le_of_ble_eq_true rfl) (⟨by rw [h0]; rfl, AD2, wSys_o hs2 (hk2 oa _ ho rfl) rfl, ha2, wKo_o hk2, _, wU_s _ _ _, fun _ => by rw [hb1]; simp [vp_updL]⟩)
    · have hb1 : (s_hasCanary F r1).2.1 = 1 := (b01_s_hasCanary).resolve_left c_7
      refine lv_lconst (v := 1) hx hb dL_hasCanary_10 (by decide) ?_
      refine lv_goto (tgt := 15) hx hb dL_hasCanary_11 (by decide) ?_
      refine wl_last C0 hP hS (hk2 oa _ ho rfl) (show vp_in (nI 0) 1 from vp_in_nI (by omega) (by omega)) dL_hasCanary_15 (fun H locs hP hS => ?_)
      refine lv_goto (tgt := 22) hx hb dL_hasCanary_16 (by decide) ?_
      refine lv_iconst (v := 0) hx hb dL_hasCanary_22 (by decide) ?_
      have f9_2 : (wU w2 oa (.inl (E.2.1 1, 1, .inr (.inl (vp_updL fo ((0 : Int32).toNatClampNeg) 1))))) oa = some (.inl (E.2.1 1, 1, .inr (.inl (vp_updL fo ((0 : Int32).toNatClampNeg) 1)))) := (wU_s _ _ _)
      exact wl_iret C0 hr rfl hP hS dL_hasCanary_23 (Nat.le_of_ble_eq_true rfl) (Nat.le_of_ble_eq_true rfl) (⟨by rw [h0]; rfl, AD2, wSys_o hs2 (hk2 oa _ ho rfl) rfl, ha2, wKo_o hk2, _, wU_s _ _ _, fun _ => by rw [hb1]; simp [vp_updL]⟩)

set_option maxHeartbeats 4000000 in
set_option maxRecDepth 100000 in
theorem k_L_faults (l : Launch) (hst : l.stackTraces = false) (E : wEn) (w : wW) (sz : Nat) (F : FF) (AD : AT) (N : Nat) (hI : wInv F N) (hs : wSys E F AD w) (oa : Nat) (fo : Nat → Int64) (ho : w oa = some (.inl (E.2.1 1, 1, .inr (.inl fo)))) (r1 : Int32) : wMn l yL_faults wsL_faults 2 2 12 E w sz [.ref (AD 5 0), .int r1, .ref oa] (fun v w2 => v = some (.int (nI (s_faults F r1).1)) ∧ ∃ AD2 : AT, wSys E (s_faults F r1).2.2 AD2 w2 ∧ AD2 5 0 = AD 5 0 ∧ wKo oa w w2 ∧ ∃ f2 : Nat → Int64, w2 oa = some (.inl (E.2.1 1, 1, .inr (.inl f2))) ∧ ((s_faults F r1).1 = 0 → f2 0 = (s_faults F r1).2.1.toInt64)) := by
  refine wm_startH (own := RL) (cc := cL_faults) (maxL := 4) (ret := (some .int)) (hh := [(0, 9, 12, 30), (0, 9, 15, 21)]) rfl (by decide) rfl (Nat.le_of_ble_eq_true rfl) ?_
  intro p e s m args below meth c ls C0 hr hT hnc hP hS hl
  have hx := C0.1
  have hb := C0.2.1
  have hts := C0.2.2.2.2.1
  have hown := C0.2.2.2.1
  have hl : lv_has ls 4 [(0, .ref (AD 5 0)), (1, .int r1), (2, .ref oa)] := hl
  refine lv_aload_n hx hb dL_faults_0 rfl (lv_at hl 2 rfl) ?_
  refine lv_iconst (v := 0) hx hb dL_faults_1 (by decide) ?_
  refine lv_aload_n hx hb dL_faults_2 rfl (lv_at hl 0 rfl) ?_
  refine lv_iload_n hx hb dL_faults_3 rfl (lv_at hl 1 rfl) ?_
  refine wl_go (wl_runV (As := [.int r1]) (rest := [.int 0, .ref oa]) C0 hP hS (k_X6_faults l hst E w s.heap.size F AD N hI hs r1) (cwV 1 hts gL_faults_X6_faults rfl rfl rfl (by decide +kernel) ⟨(Nat.le_of_ble_eq_true rfl), (Nat.le_of_ble_eq_true rfl)⟩) hs.x rfl rfl rfl hl.1 (Nat.le_of_ble_eq_true rfl) dL_faults_4 ⟨(Nat.le_of_ble_eq_true rfl), (Nat.le_of_ble_eq_true rfl)⟩) hS (wA_in hP hS C0.2.2.2.2.2.2.2.2 rfl) (fun X ce q9 w2 H locs hpx hP _ hS _ _ hce hcv hcl => ?_) (fun v w2 H locs hq hP _ hS _ _ => ?_)
  · obtain ⟨hw9, hx9⟩ := hpx
    rw [hw9] at hP
    rcases hx9 with ⟨hk9, rfl⟩ | ⟨hk9, rfl⟩
    · refine wl_catch (hh := [(0, 9, 12, 30), (0, 9, 15, 21)]) (pre := []) (x := (0, 9, 12, 30)) (suf := [(0, 9, 15, 21)]) C0 hT rfl (fun z hz => absurd hz List.not_mem_nil) rfl (by decide) (hts _ (by decide +kernel)) xc_IOB hce hcv hcl ?_
      refine W.eq (g2 := F0 m 12 ls [.ref q9]) rfl ?_
      refine W.widen (k := 2) (n := 12) (Nat.le_of_ble_eq_true rfl) (Nat.le_of_ble_eq_true rfl) ?_
      refine lv_astore_n (lv' := [(3, .ref q9), (0, .ref (AD 5 0)), (1, .int r1), (2, .ref oa)]) hx hb dL_faults_12 rfl hl (by decide) rfl (fun ls hl => ?_)
      refine lv_iconst (v := 1) hx hb dL_faults_13 (by decide) ?_
      exact wl_iret C0 hr rfl hP hS dL_faults_14 (Nat.le_of_ble_eq_true rfl) (Nat.le_of_ble_eq_true rfl) (⟨by rw [hk9]; rfl, AD, by rw [er_s_faults (by rw [hk9]; decide)]; exact hs, rfl, fun a e h _ _ => h, fo, ho, fun h => absurd (hk9.symm.trans h) (by decide)⟩)
    · refine wl_catch (hh := [(0, 9, 12, 30), (0, 9, 15, 21)]) (pre := [(0, 9, 12, 30)]) (x := (0, 9, 15, 21)) (suf := []) C0 hT rfl (fun z hz => by
          simp only [List.mem_cons, List.not_mem_nil, or_false] at hz
          subst hz
          exact ⟨by decide, xIOB, hts _ (by decide +kernel), hnc (xNSE, xIOB) (by decide +kernel)⟩) rfl (by decide) (hts _ (by decide +kernel)) xc_NSE hce hcv hcl ?_
      refine W.eq (g2 := F0 m 15 ls [.ref q9]) rfl ?_
      refine W.widen (k := 2) (n := 12) (Nat.le_of_ble_eq_true rfl) (Nat.le_of_ble_eq_true rfl) ?_
      refine lv_astore_n (lv' := [(3, .ref q9), (0, .ref (AD 5 0)), (1, .int r1), (2, .ref oa)]) hx hb dL_faults_15 rfl hl (by decide) rfl (fun ls hl => ?_)
      refine lv_iconst (v := 2) hx hb dL_faults_16 (by decide) ?_
      exact wl_iret C0 hr rfl hP hS dL_faults_17 (Nat.le_of_ble_eq_true rfl) (Nat.le_of_ble_eq_true rfl) (⟨by rw [hk9]; rfl, AD, by rw [er_s_faults (by rw [hk9]; decide)]; exact hs, rfl, fun a e h _ _ => h, fo, ho, fun h => absurd (hk9.symm.trans h) (by decide)⟩)
  · obtain ⟨AD2, h0, rfl, hs2, ha2, hk2⟩ := hq
    refine W.eq (g2 := F0 m 7 ls [.int ((s_faults F r1).2.1), .int 0, .ref oa]) rfl ?_
    refine W.widen (k := 2) (n := 12) (Nat.le_of_ble_eq_true rfl) (Nat.le_of_ble_eq_true rfl) ?_
    refine lv_i2l (v := ((s_faults F r1).2.1).toInt64) hx hb dL_faults_7 rfl ?_
    refine wl_last C0 hP hS (hk2 oa _ ho rfl) (show vp_in (nI 0) 1 from vp_in_nI (by omega) (by omega)) dL_faults_8 (fun H locs hP hS => ?_)
    refine lv_goto (tgt := 18) hx hb dL_faults_9 (by decide) ?_
    refine lv_iconst (v := 0) hx hb dL_faults_18 (by decide) ?_
    have f9_1 : (wU w2 oa (.inl (E.2.1 1, 1, .inr (.inl (vp_updL fo ((0 : Int32).toNatClampNeg) (((s_faults F r1).2.1).toInt64)))))) oa = some (.inl (E.2.1 1, 1, .inr (.inl (vp_updL fo ((0 : Int32).toNatClampNeg) (((s_faults F r1).2.1).toInt64))))) := (wU_s _ _ _)
    exact wl_iret C0 hr rfl hP hS dL_faults_19 (Nat.le_of_ble_eq_true rfl) (Nat.le_of_ble_eq_true rfl) (⟨by rw [h0]; rfl, AD2, wSys_o hs2 (hk2 oa _ ho rfl) rfl, ha2, wKo_o hk2, _, wU_s _ _ _, fun _ => by simp [vp_updL]⟩)

set_option maxHeartbeats 4000000 in
set_option maxRecDepth 100000 in
theorem k_L_addPlan (l : Launch) (hst : l.stackTraces = false) (E : wEn) (w : wW) (sz : Nat) (F : FF) (AD : AT) (N : Nat) (hI : wInv F N) (hs : wSys E F AD w) (oa : Nat) (fo : Nat → Int64) (ho : w oa = some (.inl (E.2.1 1, 1, .inr (.inl fo)))) (r1 b1 p1 : Int32) : wMn l yL_addPlan wsL_addPlan 3 1 6 E w sz [.ref (AD 5 0), .int r1, .int b1, .int p1, .ref oa] (fun v w2 => v = some (.int (nI (s_addPlan F r1 b1 p1).1)) ∧ ∃ AD2 : AT, wSys E (s_addPlan F r1 b1 p1).2.2 AD2 w2 ∧ AD2 5 0 = AD 5 0 ∧ wKo oa w w2 ∧ ∃ f2 : Nat → Int64, w2 oa = some (.inl (E.2.1 1, 1, .inr (.inl f2))) ∧ ((s_addPlan F r1 b1 p1).1 = 0 → f2 0 = (s_addPlan F r1 b1 p1).2.1.toInt64)) := by
  refine wm_startH (own := RL) (cc := cL_addPlan) (maxL := 6) (ret := (some .int)) (hh := [(0, 12, 15, 13), (0, 12, 19, 15)]) rfl (by decide) rfl (Nat.le_of_ble_eq_true rfl) ?_
  intro p e s m args below meth c ls C0 hr hT hnc hP hS hl
  have hx := C0.1
  have hb := C0.2.1
  have hts := C0.2.2.2.2.1
  have hown := C0.2.2.2.1
  have hl : lv_has ls 6 [(0, .ref (AD 5 0)), (1, .int r1), (2, .int b1), (3, .int p1), (4, .ref oa)] := hl
  refine lv_aload hx hb dL_addPlan_0 (lv_at hl 4 rfl) ?_
  refine lv_iconst (v := 0) hx hb dL_addPlan_2 (by decide) ?_
  refine lv_aload_n hx hb dL_addPlan_3 rfl (lv_at hl 0 rfl) ?_
  refine lv_iload_n hx hb dL_addPlan_4 rfl (lv_at hl 1 rfl) ?_
  refine lv_iload_n hx hb dL_addPlan_5 rfl (lv_at hl 2 rfl) ?_
  refine lv_iload_n hx hb dL_addPlan_6 rfl (lv_at hl 3 rfl) ?_
  refine wl_go (wl_runV (As := [.int r1, .int b1, .int p1]) (rest := [.int 0, .ref oa]) C0 hP hS (k_X6_addPlan l hst E w s.heap.size F AD N hI hs r1 b1 p1) (cwV 3 hts gL_addPlan_X6_addPlan rfl rfl rfl (by decide +kernel) ⟨(Nat.le_of_ble_eq_true rfl), (Nat.le_of_ble_eq_true rfl)⟩) hs.x rfl rfl rfl hl.1 (Nat.le_of_ble_eq_true rfl) dL_addPlan_7 ⟨(Nat.le_of_ble_eq_true rfl), (Nat.le_of_ble_eq_true rfl)⟩) hS (wA_in hP hS C0.2.2.2.2.2.2.2.2 rfl) (fun X ce q9 w2 H locs hpx hP _ hS _ _ hce hcv hcl => ?_) (fun v w2 H locs hq hP _ hS _ _ => ?_)
  · obtain ⟨hw9, hx9⟩ := hpx
    rw [hw9] at hP
    rcases hx9 with ⟨hk9, rfl⟩ | ⟨hk9, rfl⟩
    · refine wl_catch (hh := [(0, 12, 15, 13), (0, 12, 19, 15)]) (pre := []) (x := (0, 12, 15, 13)) (suf := [(0, 12, 19, 15)]) C0 hT rfl (fun z hz => absurd hz List.not_mem_nil) rfl (by decide) (hts _ (by decide +kernel)) xc_IAE hce hcv hcl ?_
      refine W.eq (g2 := F0 m 15 ls [.ref q9]) rfl ?_
      refine W.widen (k := 1) (n := 6) (Nat.le_of_ble_eq_true rfl) (Nat.le_of_ble_eq_true rfl) ?_
      refine lv_astore (lv' := [(5, .ref q9), (0, .ref (AD 5 0)), (1, .int r1), (2, .int b1), (3, .int p1), (4, .ref oa)]) hx hb dL_addPlan_15 hl (by decide) rfl (fun ls hl => ?_)
      refine lv_iconst (v := 1) hx hb dL_addPlan_17 (by decide) ?_
      exact wl_iret C0 hr rfl hP hS dL_addPlan_18 (Nat.le_of_ble_eq_true rfl) (Nat.le_of_ble_eq_true rfl) (⟨by rw [hk9]; rfl, AD, by rw [er_s_addPlan (by rw [hk9]; decide)]; exact hs, rfl, fun a e h _ _ => h, fo, ho, fun h => absurd (hk9.symm.trans h) (by decide)⟩)
    · refine wl_catch (hh := [(0, 12, 15, 13), (0, 12, 19, 15)]) (pre := [(0, 12, 15, 13)]) (x := (0, 12, 19, 15)) (suf := []) C0 hT rfl (fun z hz => by
          simp only [List.mem_cons, List.not_mem_nil, or_false] at hz
          subst hz
          exact ⟨by decide, xIAE, hts _ (by decide +kernel), hnc (xISE, xIAE) (by decide +kernel)⟩) rfl (by decide) (hts _ (by decide +kernel)) xc_ISE hce hcv hcl ?_
      refine W.eq (g2 := F0 m 19 ls [.ref q9]) rfl ?_
      refine W.widen (k := 1) (n := 6) (Nat.le_of_ble_eq_true rfl) (Nat.le_of_ble_eq_true rfl) ?_
      refine lv_astore (lv' := [(5, .ref q9), (0, .ref (AD 5 0)), (1, .int r1), (2, .int b1), (3, .int p1), (4, .ref oa)]) hx hb dL_addPlan_19 hl (by decide) rfl (fun ls hl => ?_)
      refine lv_iconst (v := 2) hx hb dL_addPlan_21 (by decide) ?_
      exact wl_iret C0 hr rfl hP hS dL_addPlan_22 (Nat.le_of_ble_eq_true rfl) (Nat.le_of_ble_eq_true rfl) (⟨by rw [hk9]; rfl, AD, by rw [er_s_addPlan (by rw [hk9]; decide)]; exact hs, rfl, fun a e h _ _ => h, fo, ho, fun h => absurd (hk9.symm.trans h) (by decide)⟩)
  · obtain ⟨AD2, h0, rfl, hs2, ha2, hk2⟩ := hq
    refine W.eq (g2 := F0 m 10 ls [.int ((s_addPlan F r1 b1 p1).2.1), .int 0, .ref oa]) rfl ?_
    refine W.widen (k := 1) (n := 6) (Nat.le_of_ble_eq_true rfl) (Nat.le_of_ble_eq_true rfl) ?_
    refine lv_i2l (v := ((s_addPlan F r1 b1 p1).2.1).toInt64) hx hb dL_addPlan_10 rfl ?_
    refine wl_last C0 hP hS (hk2 oa _ ho rfl) (show vp_in (nI 0) 1 from vp_in_nI (by omega) (by omega)) dL_addPlan_11 (fun H locs hP hS => ?_)
    refine lv_goto (tgt := 23) hx hb dL_addPlan_12 (by decide) ?_
    refine lv_iconst (v := 0) hx hb dL_addPlan_23 (by decide) ?_
    have f9_1 : (wU w2 oa (.inl (E.2.1 1, 1, .inr (.inl (vp_updL fo ((0 : Int32).toNatClampNeg) (((s_addPlan F r1 b1 p1).2.1).toInt64)))))) oa = some (.inl (E.2.1 1, 1, .inr (.inl (vp_updL fo ((0 : Int32).toNatClampNeg) (((s_addPlan F r1 b1 p1).2.1).toInt64))))) := (wU_s _ _ _)
    exact wl_iret C0 hr rfl hP hS dL_addPlan_24 (Nat.le_of_ble_eq_true rfl) (Nat.le_of_ble_eq_true rfl) (⟨by rw [h0]; rfl, AD2, wSys_o hs2 (hk2 oa _ ho rfl) rfl, ha2, wKo_o hk2, _, wU_s _ _ _, fun _ => by simp [vp_updL]⟩)

set_option maxHeartbeats 4000000 in
set_option maxRecDepth 100000 in
theorem k_L_addCaller (l : Launch) (hst : l.stackTraces = false) (E : wEn) (w : wW) (sz : Nat) (F : FF) (AD : AT) (N : Nat) (hI : wInv F N) (hs : wSys E F AD w) (oa : Nat) (fo : Nat → Int64) (ho : w oa = some (.inl (E.2.1 1, 1, .inr (.inl fo)))) (p1 : Int32) : wMn l yL_addCaller wsL_addCaller 2 2 12 E w sz [.ref (AD 5 0), .int p1, .ref oa] (fun v w2 => v = some (.int (nI (s_addCaller F p1).1)) ∧ ∃ AD2 : AT, wSys E (s_addCaller F p1).2.2 AD2 w2 ∧ AD2 5 0 = AD 5 0 ∧ wKo oa w w2 ∧ ∃ f2 : Nat → Int64, w2 oa = some (.inl (E.2.1 1, 1, .inr (.inl f2))) ∧ ((s_addCaller F p1).1 = 0 → f2 0 = (s_addCaller F p1).2.1.toInt64)) := by
  refine wm_startH (own := RL) (cc := cL_addCaller) (maxL := 4) (ret := (some .int)) (hh := [(0, 9, 12, 30), (0, 9, 15, 15)]) rfl (by decide) rfl (Nat.le_of_ble_eq_true rfl) ?_
  intro p e s m args below meth c ls C0 hr hT hnc hP hS hl
  have hx := C0.1
  have hb := C0.2.1
  have hts := C0.2.2.2.2.1
  have hown := C0.2.2.2.1
  have hl : lv_has ls 4 [(0, .ref (AD 5 0)), (1, .int p1), (2, .ref oa)] := hl
  refine lv_aload_n hx hb dL_addCaller_0 rfl (lv_at hl 2 rfl) ?_
  refine lv_iconst (v := 0) hx hb dL_addCaller_1 (by decide) ?_
  refine lv_aload_n hx hb dL_addCaller_2 rfl (lv_at hl 0 rfl) ?_
  refine lv_iload_n hx hb dL_addCaller_3 rfl (lv_at hl 1 rfl) ?_
  refine wl_go (wl_runV (As := [.int p1]) (rest := [.int 0, .ref oa]) C0 hP hS (k_X6_addCaller l hst E w s.heap.size F AD N hI hs p1) (cwV 1 hts gL_addCaller_X6_addCaller rfl rfl rfl (by decide +kernel) ⟨(Nat.le_of_ble_eq_true rfl), (Nat.le_of_ble_eq_true rfl)⟩) hs.x rfl rfl rfl hl.1 (Nat.le_of_ble_eq_true rfl) dL_addCaller_4 ⟨(Nat.le_of_ble_eq_true rfl), (Nat.le_of_ble_eq_true rfl)⟩) hS (wA_in hP hS C0.2.2.2.2.2.2.2.2 rfl) (fun X ce q9 w2 H locs hpx hP _ hS _ _ hce hcv hcl => ?_) (fun v w2 H locs hq hP _ hS _ _ => ?_)
  · obtain ⟨hw9, hx9⟩ := hpx
    rw [hw9] at hP
    rcases hx9 with ⟨hk9, rfl⟩ | ⟨hk9, rfl⟩
    · refine wl_catch (hh := [(0, 9, 12, 30), (0, 9, 15, 15)]) (pre := []) (x := (0, 9, 12, 30)) (suf := [(0, 9, 15, 15)]) C0 hT rfl (fun z hz => absurd hz List.not_mem_nil) rfl (by decide) (hts _ (by decide +kernel)) xc_IOB hce hcv hcl ?_
      refine W.eq (g2 := F0 m 12 ls [.ref q9]) rfl ?_
      refine W.widen (k := 2) (n := 12) (Nat.le_of_ble_eq_true rfl) (Nat.le_of_ble_eq_true rfl) ?_
      refine lv_astore_n (lv' := [(3, .ref q9), (0, .ref (AD 5 0)), (1, .int p1), (2, .ref oa)]) hx hb dL_addCaller_12 rfl hl (by decide) rfl (fun ls hl => ?_)
      refine lv_iconst (v := 1) hx hb dL_addCaller_13 (by decide) ?_
      exact wl_iret C0 hr rfl hP hS dL_addCaller_14 (Nat.le_of_ble_eq_true rfl) (Nat.le_of_ble_eq_true rfl) (⟨by rw [hk9]; rfl, AD, by rw [er_s_addCaller (by rw [hk9]; decide)]; exact hs, rfl, fun a e h _ _ => h, fo, ho, fun h => absurd (hk9.symm.trans h) (by decide)⟩)
    · refine wl_catch (hh := [(0, 9, 12, 30), (0, 9, 15, 15)]) (pre := [(0, 9, 12, 30)]) (x := (0, 9, 15, 15)) (suf := []) C0 hT rfl (fun z hz => by
          simp only [List.mem_cons, List.not_mem_nil, or_false] at hz
          subst hz
          exact ⟨by decide, xIOB, hts _ (by decide +kernel), hnc (xISE, xIOB) (by decide +kernel)⟩) rfl (by decide) (hts _ (by decide +kernel)) xc_ISE hce hcv hcl ?_
      refine W.eq (g2 := F0 m 15 ls [.ref q9]) rfl ?_
      refine W.widen (k := 2) (n := 12) (Nat.le_of_ble_eq_true rfl) (Nat.le_of_ble_eq_true rfl) ?_
      refine lv_astore_n (lv' := [(3, .ref q9), (0, .ref (AD 5 0)), (1, .int p1), (2, .ref oa)]) hx hb dL_addCaller_15 rfl hl (by decide) rfl (fun ls hl => ?_)
      refine lv_iconst (v := 2) hx hb dL_addCaller_16 (by decide) ?_
      exact wl_iret C0 hr rfl hP hS dL_addCaller_17 (Nat.le_of_ble_eq_true rfl) (Nat.le_of_ble_eq_true rfl) (⟨by rw [hk9]; rfl, AD, by rw [er_s_addCaller (by rw [hk9]; decide)]; exact hs, rfl, fun a e h _ _ => h, fo, ho, fun h => absurd (hk9.symm.trans h) (by decide)⟩)
  · obtain ⟨AD2, h0, rfl, hs2, ha2, hk2⟩ := hq
    refine W.eq (g2 := F0 m 7 ls [.int ((s_addCaller F p1).2.1), .int 0, .ref oa]) rfl ?_
    refine W.widen (k := 2) (n := 12) (Nat.le_of_ble_eq_true rfl) (Nat.le_of_ble_eq_true rfl) ?_
    refine lv_i2l (v := ((s_addCaller F p1).2.1).toInt64) hx hb dL_addCaller_7 rfl ?_
    refine wl_last C0 hP hS (hk2 oa _ ho rfl) (show vp_in (nI 0) 1 from vp_in_nI (by omega) (by omega)) dL_addCaller_8 (fun H locs hP hS => ?_)
    refine lv_goto (tgt := 18) hx hb dL_addCaller_9 (by decide) ?_
    refine lv_iconst (v := 0) hx hb dL_addCaller_18 (by decide) ?_
    have f9_1 : (wU w2 oa (.inl (E.2.1 1, 1, .inr (.inl (vp_updL fo ((0 : Int32).toNatClampNeg) (((s_addCaller F p1).2.1).toInt64)))))) oa = some (.inl (E.2.1 1, 1, .inr (.inl (vp_updL fo ((0 : Int32).toNatClampNeg) (((s_addCaller F p1).2.1).toInt64))))) := (wU_s _ _ _)
    exact wl_iret C0 hr rfl hP hS dL_addCaller_19 (Nat.le_of_ble_eq_true rfl) (Nat.le_of_ble_eq_true rfl) (⟨by rw [h0]; rfl, AD2, wSys_o hs2 (hk2 oa _ ho rfl) rfl, ha2, wKo_o hk2, _, wU_s _ _ _, fun _ => by simp [vp_updL]⟩)

set_option maxHeartbeats 4000000 in
set_option maxRecDepth 100000 in
theorem k_L_setPlan (l : Launch) (hst : l.stackTraces = false) (E : wEn) (w : wW) (sz : Nat) (F : FF) (AD : AT) (N : Nat) (hI : wInv F N) (hs : wSys E F AD w) (oa : Nat) (fo : Nat → Int64) (ho : w oa = some (.inl (E.2.1 1, 1, .inr (.inl fo)))) (c1 p1 : Int32) : wMn l yL_setPlan wsL_setPlan 2 2 12 E w sz [.ref (AD 5 0), .int c1, .int p1, .ref oa] (fun v w2 => v = some (.int (nI (s_setPlan F c1 p1).1)) ∧ ∃ AD2 : AT, wSys E (s_setPlan F c1 p1).2.2 AD2 w2 ∧ AD2 5 0 = AD 5 0 ∧ wKo oa w w2 ∧ ∃ f2 : Nat → Int64, w2 oa = some (.inl (E.2.1 1, 1, .inr (.inl f2))) ∧ ((s_setPlan F c1 p1).1 = 0 → f2 0 = (s_setPlan F c1 p1).2.1.toInt64)) := by
  refine wm_startH (own := RL) (cc := cL_setPlan) (maxL := 5) (ret := (some .int)) (hh := [(0, 10, 13, 30)]) rfl (by decide) rfl (Nat.le_of_ble_eq_true rfl) ?_
  intro p e s m args below meth c ls C0 hr hT hnc hP hS hl
  have hx := C0.1
  have hb := C0.2.1
  have hts := C0.2.2.2.2.1
  have hown := C0.2.2.2.1
  have hl : lv_has ls 5 [(0, .ref (AD 5 0)), (1, .int c1), (2, .int p1), (3, .ref oa)] := hl
  refine lv_aload_n hx hb dL_setPlan_0 rfl (lv_at hl 3 rfl) ?_
  refine lv_iconst (v := 0) hx hb dL_setPlan_1 (by decide) ?_
  refine lv_aload_n hx hb dL_setPlan_2 rfl (lv_at hl 0 rfl) ?_
  refine lv_iload_n hx hb dL_setPlan_3 rfl (lv_at hl 1 rfl) ?_
  refine lv_iload_n hx hb dL_setPlan_4 rfl (lv_at hl 2 rfl) ?_
  refine wl_go (wl_runV (As := [.int c1, .int p1]) (rest := [.int 0, .ref oa]) C0 hP hS (k_X6_setPlan l hst E w s.heap.size F AD N hI hs c1 p1) (cwV 2 hts gL_setPlan_X6_setPlan rfl rfl rfl (by decide +kernel) ⟨(Nat.le_of_ble_eq_true rfl), (Nat.le_of_ble_eq_true rfl)⟩) hs.x rfl rfl rfl hl.1 (Nat.le_of_ble_eq_true rfl) dL_setPlan_5 ⟨(Nat.le_of_ble_eq_true rfl), (Nat.le_of_ble_eq_true rfl)⟩) hS (wA_in hP hS C0.2.2.2.2.2.2.2.2 rfl) (fun X ce q9 w2 H locs hpx hP _ hS _ _ hce hcv hcl => ?_) (fun v w2 H locs hq hP _ hS _ _ => ?_)
  · obtain ⟨hw9, hx9⟩ := hpx
    rw [hw9] at hP
    obtain ⟨hk9, rfl⟩ := hx9
    refine wl_catch (hh := [(0, 10, 13, 30)]) (pre := []) (x := (0, 10, 13, 30)) (suf := []) C0 hT rfl (fun z hz => absurd hz List.not_mem_nil) rfl (by decide) (hts _ (by decide +kernel)) xc_IOB hce hcv hcl ?_
    refine W.eq (g2 := F0 m 13 ls [.ref q9]) rfl ?_
    refine W.widen (k := 2) (n := 12) (Nat.le_of_ble_eq_true rfl) (Nat.le_of_ble_eq_true rfl) ?_
    refine lv_astore (lv' := [(4, .ref q9), (0, .ref (AD 5 0)), (1, .int c1), (2, .int p1), (3, .ref oa)]) hx hb dL_setPlan_13 hl (by decide) rfl (fun ls hl => ?_)
    refine lv_iconst (v := 1) hx hb dL_setPlan_15 (by decide) ?_
    exact wl_iret C0 hr rfl hP hS dL_setPlan_16 (Nat.le_of_ble_eq_true rfl) (Nat.le_of_ble_eq_true rfl) (⟨by rw [hk9]; rfl, AD, by rw [er_s_setPlan (by rw [hk9]; decide)]; exact hs, rfl, fun a e h _ _ => h, fo, ho, fun h => absurd (hk9.symm.trans h) (by decide)⟩)
  · obtain ⟨AD2, h0, rfl, hs2, ha2, hk2⟩ := hq
    refine W.eq (g2 := F0 m 8 ls [.int ((s_setPlan F c1 p1).2.1), .int 0, .ref oa]) rfl ?_
    refine W.widen (k := 2) (n := 12) (Nat.le_of_ble_eq_true rfl) (Nat.le_of_ble_eq_true rfl) ?_
    refine lv_i2l (v := ((s_setPlan F c1 p1).2.1).toInt64) hx hb dL_setPlan_8 rfl ?_
    refine wl_last C0 hP hS (hk2 oa _ ho rfl) (show vp_in (nI 0) 1 from vp_in_nI (by omega) (by omega)) dL_setPlan_9 (fun H locs hP hS => ?_)
    refine lv_goto (tgt := 17) hx hb dL_setPlan_10 (by decide) ?_
    refine lv_iconst (v := 0) hx hb dL_setPlan_17 (by decide) ?_
    have f9_1 : (wU w2 oa (.inl (E.2.1 1, 1, .inr (.inl (vp_updL fo ((0 : Int32).toNatClampNeg) (((s_setPlan F c1 p1).2.1).toInt64)))))) oa = some (.inl (E.2.1 1, 1, .inr (.inl (vp_updL fo ((0 : Int32).toNatClampNeg) (((s_setPlan F c1 p1).2.1).toInt64))))) := (wU_s _ _ _)
    exact wl_iret C0 hr rfl hP hS dL_setPlan_18 (Nat.le_of_ble_eq_true rfl) (Nat.le_of_ble_eq_true rfl) (⟨by rw [h0]; rfl, AD2, wSys_o hs2 (hk2 oa _ ho rfl) rfl, ha2, wKo_o hk2, _, wU_s _ _ _, fun _ => by simp [vp_updL]⟩)

set_option maxHeartbeats 4000000 in
set_option maxRecDepth 100000 in
theorem k_L_tokens (l : Launch) (hst : l.stackTraces = false) (E : wEn) (w : wW) (sz : Nat) (F : FF) (AD : AT) (N : Nat) (hI : wInv F N) (hs : wSys E F AD w) (oa : Nat) (fo : Nat → Int64) (ho : w oa = some (.inl (E.2.1 1, 1, .inr (.inl fo)))) (c1 : Int32) : wMn l yL_tokens wsL_tokens 2 1 6 E w sz [.ref (AD 5 0), .int c1, .ref oa] (fun v w2 => v = some (.int (nI (s_tokens F c1).1)) ∧ ∃ AD2 : AT, wSys E (s_tokens F c1).2.2 AD2 w2 ∧ AD2 5 0 = AD 5 0 ∧ wKo oa w w2 ∧ ∃ f2 : Nat → Int64, w2 oa = some (.inl (E.2.1 1, 1, .inr (.inl f2))) ∧ ((s_tokens F c1).1 = 0 → f2 0 = (s_tokens F c1).2.1.toInt64)) := by
  refine wm_startH (own := RL) (cc := cL_tokens) (maxL := 4) (ret := (some .int)) (hh := [(0, 9, 12, 30)]) rfl (by decide) rfl (Nat.le_of_ble_eq_true rfl) ?_
  intro p e s m args below meth c ls C0 hr hT hnc hP hS hl
  have hx := C0.1
  have hb := C0.2.1
  have hts := C0.2.2.2.2.1
  have hown := C0.2.2.2.1
  have hl : lv_has ls 4 [(0, .ref (AD 5 0)), (1, .int c1), (2, .ref oa)] := hl
  refine lv_aload_n hx hb dL_tokens_0 rfl (lv_at hl 2 rfl) ?_
  refine lv_iconst (v := 0) hx hb dL_tokens_1 (by decide) ?_
  refine lv_aload_n hx hb dL_tokens_2 rfl (lv_at hl 0 rfl) ?_
  refine lv_iload_n hx hb dL_tokens_3 rfl (lv_at hl 1 rfl) ?_
  refine wl_go (wl_runV (As := [.int c1]) (rest := [.int 0, .ref oa]) C0 hP hS (k_X6_tokens l hst E w s.heap.size F AD N hI hs c1) (cwV 1 hts gL_tokens_X6_tokens rfl rfl rfl (by decide +kernel) ⟨(Nat.le_of_ble_eq_true rfl), (Nat.le_of_ble_eq_true rfl)⟩) hs.x rfl rfl rfl hl.1 (Nat.le_of_ble_eq_true rfl) dL_tokens_4 ⟨(Nat.le_of_ble_eq_true rfl), (Nat.le_of_ble_eq_true rfl)⟩) hS (wA_in hP hS C0.2.2.2.2.2.2.2.2 rfl) (fun X ce q9 w2 H locs hpx hP _ hS _ _ hce hcv hcl => ?_) (fun v w2 H locs hq hP _ hS _ _ => ?_)
  · obtain ⟨hw9, hx9⟩ := hpx
    rw [hw9] at hP
    obtain ⟨hk9, rfl⟩ := hx9
    refine wl_catch (hh := [(0, 9, 12, 30)]) (pre := []) (x := (0, 9, 12, 30)) (suf := []) C0 hT rfl (fun z hz => absurd hz List.not_mem_nil) rfl (by decide) (hts _ (by decide +kernel)) xc_IOB hce hcv hcl ?_
    refine W.eq (g2 := F0 m 12 ls [.ref q9]) rfl ?_
    refine W.widen (k := 1) (n := 6) (Nat.le_of_ble_eq_true rfl) (Nat.le_of_ble_eq_true rfl) ?_
    refine lv_astore_n (lv' := [(3, .ref q9), (0, .ref (AD 5 0)), (1, .int c1), (2, .ref oa)]) hx hb dL_tokens_12 rfl hl (by decide) rfl (fun ls hl => ?_)
    refine lv_iconst (v := 1) hx hb dL_tokens_13 (by decide) ?_
    exact wl_iret C0 hr rfl hP hS dL_tokens_14 (Nat.le_of_ble_eq_true rfl) (Nat.le_of_ble_eq_true rfl) (⟨by rw [hk9]; rfl, AD, by rw [er_s_tokens (by rw [hk9]; decide)]; exact hs, rfl, fun a e h _ _ => h, fo, ho, fun h => absurd (hk9.symm.trans h) (by decide)⟩)
  · obtain ⟨AD2, h0, rfl, hs2, ha2, hk2⟩ := hq
    refine W.eq (g2 := F0 m 7 ls [.int ((s_tokens F c1).2.1), .int 0, .ref oa]) rfl ?_
    refine W.widen (k := 1) (n := 6) (Nat.le_of_ble_eq_true rfl) (Nat.le_of_ble_eq_true rfl) ?_
    refine lv_i2l (v := ((s_tokens F c1).2.1).toInt64) hx hb dL_tokens_7 rfl ?_
    refine wl_last C0 hP hS (hk2 oa _ ho rfl) (show vp_in (nI 0) 1 from vp_in_nI (by omega) (by omega)) dL_tokens_8 (fun H locs hP hS => ?_)
    refine lv_goto (tgt := 15) hx hb dL_tokens_9 (by decide) ?_
    refine lv_iconst (v := 0) hx hb dL_tokens_15 (by decide) ?_
    have f9_1 : (wU w2 oa (.inl (E.2.1 1, 1, .inr (.inl (vp_updL fo ((0 : Int32).toNatClampNeg) (((s_tokens F c1).2.1).toInt64)))))) oa = some (.inl (E.2.1 1, 1, .inr (.inl (vp_updL fo ((0 : Int32).toNatClampNeg) (((s_tokens F c1).2.1).toInt64))))) := (wU_s _ _ _)
    exact wl_iret C0 hr rfl hP hS dL_tokens_16 (Nat.le_of_ble_eq_true rfl) (Nat.le_of_ble_eq_true rfl) (⟨by rw [h0]; rfl, AD2, wSys_o hs2 (hk2 oa _ ho rfl) rfl, ha2, wKo_o hk2, _, wU_s _ _ _, fun _ => by simp [vp_updL]⟩)

set_option maxHeartbeats 4000000 in
set_option maxRecDepth 100000 in
theorem k_L_ticksUntil (l : Launch) (hst : l.stackTraces = false) (E : wEn) (w : wW) (sz : Nat) (F : FF) (AD : AT) (N : Nat) (hI : wInv F N) (hs : wSys E F AD w) (oa : Nat) (fo : Nat → Int64) (ho : w oa = some (.inl (E.2.1 1, 1, .inr (.inl fo)))) (c1 r1 : Int32) : wMn l yL_ticksUntil wsL_ticksUntil 2 3 18 E w sz [.ref (AD 5 0), .int c1, .int r1, .ref oa] (fun v w2 => v = some (.int (nI (s_ticksUntil F c1 r1).1)) ∧ ∃ AD2 : AT, wSys E (s_ticksUntil F c1 r1).2.2 AD2 w2 ∧ AD2 5 0 = AD 5 0 ∧ wKo oa w w2 ∧ ∃ f2 : Nat → Int64, w2 oa = some (.inl (E.2.1 1, 1, .inr (.inl f2))) ∧ ((s_ticksUntil F c1 r1).1 = 0 → f2 0 = (s_ticksUntil F c1 r1).2.1.toInt64)) := by
  refine wm_startH (own := RL) (cc := cL_ticksUntil) (maxL := 5) (ret := (some .int)) (hh := [(0, 10, 13, 30), (0, 10, 17, 21)]) rfl (by decide) rfl (Nat.le_of_ble_eq_true rfl) ?_
  intro p e s m args below meth c ls C0 hr hT hnc hP hS hl
  have hx := C0.1
  have hb := C0.2.1
  have hts := C0.2.2.2.2.1
  have hown := C0.2.2.2.1
  have hl : lv_has ls 5 [(0, .ref (AD 5 0)), (1, .int c1), (2, .int r1), (3, .ref oa)] := hl
  refine lv_aload_n hx hb dL_ticksUntil_0 rfl (lv_at hl 3 rfl) ?_
  refine lv_iconst (v := 0) hx hb dL_ticksUntil_1 (by decide) ?_
  refine lv_aload_n hx hb dL_ticksUntil_2 rfl (lv_at hl 0 rfl) ?_
  refine lv_iload_n hx hb dL_ticksUntil_3 rfl (lv_at hl 1 rfl) ?_
  refine lv_iload_n hx hb dL_ticksUntil_4 rfl (lv_at hl 2 rfl) ?_
  refine wl_go (wl_runV (As := [.int c1, .int r1]) (rest := [.int 0, .ref oa]) C0 hP hS (k_X6_ticksUntil l hst E w s.heap.size F AD N hI hs c1 r1) (cwV 2 hts gL_ticksUntil_X6_ticksUntil rfl rfl rfl (by decide +kernel) ⟨(Nat.le_of_ble_eq_true rfl), (Nat.le_of_ble_eq_true rfl)⟩) hs.x rfl rfl rfl hl.1 (Nat.le_of_ble_eq_true rfl) dL_ticksUntil_5 ⟨(Nat.le_of_ble_eq_true rfl), (Nat.le_of_ble_eq_true rfl)⟩) hS (wA_in hP hS C0.2.2.2.2.2.2.2.2 rfl) (fun X ce q9 w2 H locs hpx hP _ hS _ _ hce hcv hcl => ?_) (fun v w2 H locs hq hP _ hS _ _ => ?_)
  · obtain ⟨hw9, hx9⟩ := hpx
    rw [hw9] at hP
    rcases hx9 with ⟨hk9, rfl⟩ | ⟨hk9, rfl⟩
    · refine wl_catch (hh := [(0, 10, 13, 30), (0, 10, 17, 21)]) (pre := []) (x := (0, 10, 13, 30)) (suf := [(0, 10, 17, 21)]) C0 hT rfl (fun z hz => absurd hz List.not_mem_nil) rfl (by decide) (hts _ (by decide +kernel)) xc_IOB hce hcv hcl ?_
      refine W.eq (g2 := F0 m 13 ls [.ref q9]) rfl ?_
      refine W.widen (k := 3) (n := 18) (Nat.le_of_ble_eq_true rfl) (Nat.le_of_ble_eq_true rfl) ?_
      refine lv_astore (lv' := [(4, .ref q9), (0, .ref (AD 5 0)), (1, .int c1), (2, .int r1), (3, .ref oa)]) hx hb dL_ticksUntil_13 hl (by decide) rfl (fun ls hl => ?_)
      refine lv_iconst (v := 1) hx hb dL_ticksUntil_15 (by decide) ?_
      exact wl_iret C0 hr rfl hP hS dL_ticksUntil_16 (Nat.le_of_ble_eq_true rfl) (Nat.le_of_ble_eq_true rfl) (⟨by rw [hk9]; rfl, AD, by rw [er_s_ticksUntil (by rw [hk9]; decide)]; exact hs, rfl, fun a e h _ _ => h, fo, ho, fun h => absurd (hk9.symm.trans h) (by decide)⟩)
    · refine wl_catch (hh := [(0, 10, 13, 30), (0, 10, 17, 21)]) (pre := [(0, 10, 13, 30)]) (x := (0, 10, 17, 21)) (suf := []) C0 hT rfl (fun z hz => by
          simp only [List.mem_cons, List.not_mem_nil, or_false] at hz
          subst hz
          exact ⟨by decide, xIOB, hts _ (by decide +kernel), hnc (xNSE, xIOB) (by decide +kernel)⟩) rfl (by decide) (hts _ (by decide +kernel)) xc_NSE hce hcv hcl ?_
      refine W.eq (g2 := F0 m 17 ls [.ref q9]) rfl ?_
      refine W.widen (k := 3) (n := 18) (Nat.le_of_ble_eq_true rfl) (Nat.le_of_ble_eq_true rfl) ?_
      refine lv_astore (lv' := [(4, .ref q9), (0, .ref (AD 5 0)), (1, .int c1), (2, .int r1), (3, .ref oa)]) hx hb dL_ticksUntil_17 hl (by decide) rfl (fun ls hl => ?_)
      refine lv_iconst (v := 2) hx hb dL_ticksUntil_19 (by decide) ?_
      exact wl_iret C0 hr rfl hP hS dL_ticksUntil_20 (Nat.le_of_ble_eq_true rfl) (Nat.le_of_ble_eq_true rfl) (⟨by rw [hk9]; rfl, AD, by rw [er_s_ticksUntil (by rw [hk9]; decide)]; exact hs, rfl, fun a e h _ _ => h, fo, ho, fun h => absurd (hk9.symm.trans h) (by decide)⟩)
  · obtain ⟨AD2, h0, rfl, hs2, ha2, hk2⟩ := hq
    refine W.eq (g2 := F0 m 8 ls [.int ((s_ticksUntil F c1 r1).2.1), .int 0, .ref oa]) rfl ?_
    refine W.widen (k := 3) (n := 18) (Nat.le_of_ble_eq_true rfl) (Nat.le_of_ble_eq_true rfl) ?_
    refine lv_i2l (v := ((s_ticksUntil F c1 r1).2.1).toInt64) hx hb dL_ticksUntil_8 rfl ?_
    refine wl_last C0 hP hS (hk2 oa _ ho rfl) (show vp_in (nI 0) 1 from vp_in_nI (by omega) (by omega)) dL_ticksUntil_9 (fun H locs hP hS => ?_)
    refine lv_goto (tgt := 21) hx hb dL_ticksUntil_10 (by decide) ?_
    refine lv_iconst (v := 0) hx hb dL_ticksUntil_21 (by decide) ?_
    have f9_1 : (wU w2 oa (.inl (E.2.1 1, 1, .inr (.inl (vp_updL fo ((0 : Int32).toNatClampNeg) (((s_ticksUntil F c1 r1).2.1).toInt64)))))) oa = some (.inl (E.2.1 1, 1, .inr (.inl (vp_updL fo ((0 : Int32).toNatClampNeg) (((s_ticksUntil F c1 r1).2.1).toInt64))))) := (wU_s _ _ _)
    exact wl_iret C0 hr rfl hP hS dL_ticksUntil_22 (Nat.le_of_ble_eq_true rfl) (Nat.le_of_ble_eq_true rfl) (⟨by rw [h0]; rfl, AD2, wSys_o hs2 (hk2 oa _ ho rfl) rfl, ha2, wKo_o hk2, _, wU_s _ _ _, fun _ => by simp [vp_updL]⟩)

set_option maxHeartbeats 4000000 in
set_option maxRecDepth 100000 in
theorem k_L_bill (l : Launch) (hst : l.stackTraces = false) (E : wEn) (w : wW) (sz : Nat) (F : FF) (AD : AT) (N : Nat) (hI : wInv F N) (hs : wSys E F AD w) (oa : Nat) (fo : Nat → Int64) (ho : w oa = some (.inl (E.2.1 1, 1, .inr (.inl fo)))) (c1 : Int32) : wMn l yL_bill wsL_bill 2 1 6 E w sz [.ref (AD 5 0), .int c1, .ref oa] (fun v w2 => v = some (.int (nI (s_bill F c1).1)) ∧ ∃ AD2 : AT, wSys E (s_bill F c1).2.2 AD2 w2 ∧ AD2 5 0 = AD 5 0 ∧ wKo oa w w2 ∧ ∃ f2 : Nat → Int64, w2 oa = some (.inl (E.2.1 1, 1, .inr (.inl f2))) ∧ ((s_bill F c1).1 = 0 → f2 0 = (s_bill F c1).2.1)) := by
  refine wm_startH (own := RL) (cc := cL_bill) (maxL := 4) (ret := (some .int)) (hh := [(0, 8, 11, 30)]) rfl (by decide) rfl (Nat.le_of_ble_eq_true rfl) ?_
  intro p e s m args below meth c ls C0 hr hT hnc hP hS hl
  have hx := C0.1
  have hb := C0.2.1
  have hts := C0.2.2.2.2.1
  have hown := C0.2.2.2.1
  have hl : lv_has ls 4 [(0, .ref (AD 5 0)), (1, .int c1), (2, .ref oa)] := hl
  refine lv_aload_n hx hb dL_bill_0 rfl (lv_at hl 2 rfl) ?_
  refine lv_iconst (v := 0) hx hb dL_bill_1 (by decide) ?_
  refine lv_aload_n hx hb dL_bill_2 rfl (lv_at hl 0 rfl) ?_
  refine lv_iload_n hx hb dL_bill_3 rfl (lv_at hl 1 rfl) ?_
  refine wl_go (wl_runV (As := [.int c1]) (rest := [.int 0, .ref oa]) C0 hP hS (k_X6_bill l hst E w s.heap.size F AD N hI hs c1) (cwV 1 hts gL_bill_X6_bill rfl rfl rfl (by decide +kernel) ⟨(Nat.le_of_ble_eq_true rfl), (Nat.le_of_ble_eq_true rfl)⟩) hs.x rfl rfl rfl hl.1 (Nat.le_of_ble_eq_true rfl) dL_bill_4 ⟨(Nat.le_of_ble_eq_true rfl), (Nat.le_of_ble_eq_true rfl)⟩) hS (wA_in hP hS C0.2.2.2.2.2.2.2.2 rfl) (fun X ce q9 w2 H locs hpx hP _ hS _ _ hce hcv hcl => ?_) (fun v w2 H locs hq hP _ hS _ _ => ?_)
  · obtain ⟨hw9, hx9⟩ := hpx
    rw [hw9] at hP
    obtain ⟨hk9, rfl⟩ := hx9
    refine wl_catch (hh := [(0, 8, 11, 30)]) (pre := []) (x := (0, 8, 11, 30)) (suf := []) C0 hT rfl (fun z hz => absurd hz List.not_mem_nil) rfl (by decide) (hts _ (by decide +kernel)) xc_IOB hce hcv hcl ?_
    refine W.eq (g2 := F0 m 11 ls [.ref q9]) rfl ?_
    refine W.widen (k := 1) (n := 6) (Nat.le_of_ble_eq_true rfl) (Nat.le_of_ble_eq_true rfl) ?_
    refine lv_astore_n (lv' := [(3, .ref q9), (0, .ref (AD 5 0)), (1, .int c1), (2, .ref oa)]) hx hb dL_bill_11 rfl hl (by decide) rfl (fun ls hl => ?_)
    refine lv_iconst (v := 1) hx hb dL_bill_12 (by decide) ?_
    exact wl_iret C0 hr rfl hP hS dL_bill_13 (Nat.le_of_ble_eq_true rfl) (Nat.le_of_ble_eq_true rfl) (⟨by rw [hk9]; rfl, AD, by rw [er_s_bill (by rw [hk9]; decide)]; exact hs, rfl, fun a e h _ _ => h, fo, ho, fun h => absurd (hk9.symm.trans h) (by decide)⟩)
  · obtain ⟨AD2, h0, rfl, hs2, ha2, hk2⟩ := hq
    refine W.eq (g2 := F0 m 7 ls [.long ((s_bill F c1).2.1), .int 0, .ref oa]) rfl ?_
    refine W.widen (k := 1) (n := 6) (Nat.le_of_ble_eq_true rfl) (Nat.le_of_ble_eq_true rfl) ?_
    refine wl_last C0 hP hS (hk2 oa _ ho rfl) (show vp_in (nI 0) 1 from vp_in_nI (by omega) (by omega)) dL_bill_7 (fun H locs hP hS => ?_)
    refine lv_goto (tgt := 14) hx hb dL_bill_8 (by decide) ?_
    refine lv_iconst (v := 0) hx hb dL_bill_14 (by decide) ?_
    have f9_1 : (wU w2 oa (.inl (E.2.1 1, 1, .inr (.inl (vp_updL fo ((0 : Int32).toNatClampNeg) ((s_bill F c1).2.1)))))) oa = some (.inl (E.2.1 1, 1, .inr (.inl (vp_updL fo ((0 : Int32).toNatClampNeg) ((s_bill F c1).2.1))))) := (wU_s _ _ _)
    exact wl_iret C0 hr rfl hP hS dL_bill_15 (Nat.le_of_ble_eq_true rfl) (Nat.le_of_ble_eq_true rfl) (⟨by rw [h0]; rfl, AD2, wSys_o hs2 (hk2 oa _ ho rfl) rfl, ha2, wKo_o hk2, _, wU_s _ _ _, fun _ => by simp [vp_updL]⟩)

set_option maxHeartbeats 4000000 in
set_option maxRecDepth 100000 in
theorem k_L_billByLog (l : Launch) (hst : l.stackTraces = false) (E : wEn) (w : wW) (sz : Nat) (F : FF) (AD : AT) (N : Nat) (hI : wInv F N) (hs : wSys E F AD w) (oa : Nat) (fo : Nat → Int64) (ho : w oa = some (.inl (E.2.1 1, 1, .inr (.inl fo)))) (c1 : Int32) : wMn l yL_billByLog wsL_billByLog 3 1 6 E w sz [.ref (AD 5 0), .int c1, .ref oa] (fun v w2 => v = some (.int (nI (s_bill F c1).1)) ∧ ∃ AD2 : AT, wSys E (s_bill F c1).2.2 AD2 w2 ∧ AD2 5 0 = AD 5 0 ∧ wKo oa w w2 ∧ ∃ f2 : Nat → Int64, w2 oa = some (.inl (E.2.1 1, 1, .inr (.inl f2))) ∧ ((s_bill F c1).1 = 0 → f2 0 = (s_bill F c1).2.1)) := by
  refine wm_startH (own := RL) (cc := cL_billByLog) (maxL := 4) (ret := (some .int)) (hh := [(0, 8, 11, 30)]) rfl (by decide) rfl (Nat.le_of_ble_eq_true rfl) ?_
  intro p e s m args below meth c ls C0 hr hT hnc hP hS hl
  have hx := C0.1
  have hb := C0.2.1
  have hts := C0.2.2.2.2.1
  have hown := C0.2.2.2.1
  have hl : lv_has ls 4 [(0, .ref (AD 5 0)), (1, .int c1), (2, .ref oa)] := hl
  refine lv_aload_n hx hb dL_billByLog_0 rfl (lv_at hl 2 rfl) ?_
  refine lv_iconst (v := 0) hx hb dL_billByLog_1 (by decide) ?_
  refine lv_aload_n hx hb dL_billByLog_2 rfl (lv_at hl 0 rfl) ?_
  refine lv_iload_n hx hb dL_billByLog_3 rfl (lv_at hl 1 rfl) ?_
  refine wl_go (wl_runV (As := [.int c1]) (rest := [.int 0, .ref oa]) C0 hP hS (k_X6_billByLog l hst E w s.heap.size F AD N hI hs c1) (cwV 1 hts gL_billByLog_X6_billByLog rfl rfl rfl (by decide +kernel) ⟨(Nat.le_of_ble_eq_true rfl), (Nat.le_of_ble_eq_true rfl)⟩) hs.x rfl rfl rfl hl.1 (Nat.le_of_ble_eq_true rfl) dL_billByLog_4 ⟨(Nat.le_of_ble_eq_true rfl), (Nat.le_of_ble_eq_true rfl)⟩) hS (wA_in hP hS C0.2.2.2.2.2.2.2.2 rfl) (fun X ce q9 w2 H locs hpx hP _ hS _ _ hce hcv hcl => ?_) (fun v w2 H locs hq hP _ hS _ _ => ?_)
  · obtain ⟨hw9, hx9⟩ := hpx
    rw [hw9] at hP
    obtain ⟨hk9, rfl⟩ := hx9
    refine wl_catch (hh := [(0, 8, 11, 30)]) (pre := []) (x := (0, 8, 11, 30)) (suf := []) C0 hT rfl (fun z hz => absurd hz List.not_mem_nil) rfl (by decide) (hts _ (by decide +kernel)) xc_IOB hce hcv hcl ?_
    refine W.eq (g2 := F0 m 11 ls [.ref q9]) rfl ?_
    refine W.widen (k := 1) (n := 6) (Nat.le_of_ble_eq_true rfl) (Nat.le_of_ble_eq_true rfl) ?_
    refine lv_astore_n (lv' := [(3, .ref q9), (0, .ref (AD 5 0)), (1, .int c1), (2, .ref oa)]) hx hb dL_billByLog_11 rfl hl (by decide) rfl (fun ls hl => ?_)
    refine lv_iconst (v := 1) hx hb dL_billByLog_12 (by decide) ?_
    exact wl_iret C0 hr rfl hP hS dL_billByLog_13 (Nat.le_of_ble_eq_true rfl) (Nat.le_of_ble_eq_true rfl) (⟨by rw [hk9]; rfl, AD, by rw [er_s_bill (by rw [hk9]; decide)]; exact hs, rfl, fun a e h _ _ => h, fo, ho, fun h => absurd (hk9.symm.trans h) (by decide)⟩)
  · obtain ⟨AD2, h0, rfl, hs2, ha2, hk2⟩ := hq
    refine W.eq (g2 := F0 m 7 ls [.long ((s_bill F c1).2.1), .int 0, .ref oa]) rfl ?_
    refine W.widen (k := 1) (n := 6) (Nat.le_of_ble_eq_true rfl) (Nat.le_of_ble_eq_true rfl) ?_
    refine wl_last C0 hP hS (hk2 oa _ ho rfl) (show vp_in (nI 0) 1 from vp_in_nI (by omega) (by omega)) dL_billByLog_7 (fun H locs hP hS => ?_)
    refine lv_goto (tgt := 14) hx hb dL_billByLog_8 (by decide) ?_
    refine lv_iconst (v := 0) hx hb dL_billByLog_14 (by decide) ?_
    have f9_1 : (wU w2 oa (.inl (E.2.1 1, 1, .inr (.inl (vp_updL fo ((0 : Int32).toNatClampNeg) ((s_bill F c1).2.1)))))) oa = some (.inl (E.2.1 1, 1, .inr (.inl (vp_updL fo ((0 : Int32).toNatClampNeg) ((s_bill F c1).2.1))))) := (wU_s _ _ _)
    exact wl_iret C0 hr rfl hP hS dL_billByLog_15 (Nat.le_of_ble_eq_true rfl) (Nat.le_of_ble_eq_true rfl) (⟨by rw [h0]; rfl, AD2, wSys_o hs2 (hk2 oa _ ho rfl) rfl, ha2, wKo_o hk2, _, wU_s _ _ _, fun _ => by simp [vp_updL]⟩)

set_option maxHeartbeats 4000000 in
set_option maxRecDepth 100000 in
theorem k_L_call (l : Launch) (hst : l.stackTraces = false) (E : wEn) (w : wW) (sz : Nat) (F : FF) (AD : AT) (N : Nat) (hI : wInv F N) (hs : wSys E F AD w) (oa : Nat) (fo : Nat → Int64) (ho : w oa = some (.inl (E.2.1 1, 1, .inr (.inl fo)))) (h3 : F 24 3 < 512) (c1 p1 k1 : Int32) : wMn l yL_call wsL_call 6 2 12 E w sz [.ref (AD 5 0), .int c1, .int p1, .int k1, .ref oa] (fun v w2 => v = some (.int (nI (s_call F c1 p1 k1).1)) ∧ ∃ AD2 : AT, wSys E (s_call F c1 p1 k1).2.2 AD2 w2 ∧ AD2 5 0 = AD 5 0 ∧ wKo oa w w2 ∧ ∃ f2 : Nat → Int64, w2 oa = some (.inl (E.2.1 1, 1, .inr (.inl f2))) ∧ ((s_call F c1 p1 k1).1 = 0 → f2 0 = (s_call F c1 p1 k1).2.1.toInt64)) := by
  refine wm_startH (own := RL) (cc := cL_call) (maxL := 6) (ret := (some .int)) (hh := [(0, 12, 15, 30), (0, 12, 19, 13)]) rfl (by decide) rfl (Nat.le_of_ble_eq_true rfl) ?_
  intro p e s m args below meth c ls C0 hr hT hnc hP hS hl
  have hx := C0.1
  have hb := C0.2.1
  have hts := C0.2.2.2.2.1
  have hown := C0.2.2.2.1
  have hl : lv_has ls 6 [(0, .ref (AD 5 0)), (1, .int c1), (2, .int p1), (3, .int k1), (4, .ref oa)] := hl
  refine lv_aload hx hb dL_call_0 (lv_at hl 4 rfl) ?_
  refine lv_iconst (v := 0) hx hb dL_call_2 (by decide) ?_
  refine lv_aload_n hx hb dL_call_3 rfl (lv_at hl 0 rfl) ?_
  refine lv_iload_n hx hb dL_call_4 rfl (lv_at hl 1 rfl) ?_
  refine lv_iload_n hx hb dL_call_5 rfl (lv_at hl 2 rfl) ?_
  refine lv_iload_n hx hb dL_call_6 rfl (lv_at hl 3 rfl) ?_
  refine wl_go (wl_runV (As := [.int c1, .int p1, .int k1]) (rest := [.int 0, .ref oa]) C0 hP hS (k_X6_call l hst E w s.heap.size F AD N hI hs h3 c1 p1 k1) (cwV 3 hts gL_call_X6_call rfl rfl rfl (by decide +kernel) ⟨(Nat.le_of_ble_eq_true rfl), (Nat.le_of_ble_eq_true rfl)⟩) hs.x rfl rfl rfl hl.1 (Nat.le_of_ble_eq_true rfl) dL_call_7 ⟨(Nat.le_of_ble_eq_true rfl), (Nat.le_of_ble_eq_true rfl)⟩) hS (wA_in hP hS C0.2.2.2.2.2.2.2.2 rfl) (fun X ce q9 w2 H locs hpx hP _ hS _ _ hce hcv hcl => ?_) (fun v w2 H locs hq hP _ hS _ _ => ?_)
  · obtain ⟨hw9, hx9⟩ := hpx
    rw [hw9] at hP
    rcases hx9 with ⟨hk9, rfl⟩ | ⟨hk9, rfl⟩
    · refine wl_catch (hh := [(0, 12, 15, 30), (0, 12, 19, 13)]) (pre := []) (x := (0, 12, 15, 30)) (suf := [(0, 12, 19, 13)]) C0 hT rfl (fun z hz => absurd hz List.not_mem_nil) rfl (by decide) (hts _ (by decide +kernel)) xc_IOB hce hcv hcl ?_
      refine W.eq (g2 := F0 m 15 ls [.ref q9]) rfl ?_
      refine W.widen (k := 2) (n := 12) (Nat.le_of_ble_eq_true rfl) (Nat.le_of_ble_eq_true rfl) ?_
      refine lv_astore (lv' := [(5, .ref q9), (0, .ref (AD 5 0)), (1, .int c1), (2, .int p1), (3, .int k1), (4, .ref oa)]) hx hb dL_call_15 hl (by decide) rfl (fun ls hl => ?_)
      refine lv_iconst (v := 1) hx hb dL_call_17 (by decide) ?_
      exact wl_iret C0 hr rfl hP hS dL_call_18 (Nat.le_of_ble_eq_true rfl) (Nat.le_of_ble_eq_true rfl) (⟨by rw [hk9]; rfl, AD, by rw [er_s_call (by rw [hk9]; decide)]; exact hs, rfl, fun a e h _ _ => h, fo, ho, fun h => absurd (hk9.symm.trans h) (by decide)⟩)
    · refine wl_catch (hh := [(0, 12, 15, 30), (0, 12, 19, 13)]) (pre := [(0, 12, 15, 30)]) (x := (0, 12, 19, 13)) (suf := []) C0 hT rfl (fun z hz => by
          simp only [List.mem_cons, List.not_mem_nil, or_false] at hz
          subst hz
          exact ⟨by decide, xIOB, hts _ (by decide +kernel), hnc (xIAE, xIOB) (by decide +kernel)⟩) rfl (by decide) (hts _ (by decide +kernel)) xc_IAE hce hcv hcl ?_
      refine W.eq (g2 := F0 m 19 ls [.ref q9]) rfl ?_
      refine W.widen (k := 2) (n := 12) (Nat.le_of_ble_eq_true rfl) (Nat.le_of_ble_eq_true rfl) ?_
      refine lv_astore (lv' := [(5, .ref q9), (0, .ref (AD 5 0)), (1, .int c1), (2, .int p1), (3, .int k1), (4, .ref oa)]) hx hb dL_call_19 hl (by decide) rfl (fun ls hl => ?_)
      refine lv_iconst (v := 2) hx hb dL_call_21 (by decide) ?_
      exact wl_iret C0 hr rfl hP hS dL_call_22 (Nat.le_of_ble_eq_true rfl) (Nat.le_of_ble_eq_true rfl) (⟨by rw [hk9]; rfl, AD, by rw [er_s_call (by rw [hk9]; decide)]; exact hs, rfl, fun a e h _ _ => h, fo, ho, fun h => absurd (hk9.symm.trans h) (by decide)⟩)
  · obtain ⟨AD2, h0, rfl, hs2, ha2, hk2⟩ := hq
    refine W.eq (g2 := F0 m 10 ls [.int ((s_call F c1 p1 k1).2.1), .int 0, .ref oa]) rfl ?_
    refine W.widen (k := 2) (n := 12) (Nat.le_of_ble_eq_true rfl) (Nat.le_of_ble_eq_true rfl) ?_
    refine lv_i2l (v := ((s_call F c1 p1 k1).2.1).toInt64) hx hb dL_call_10 rfl ?_
    refine wl_last C0 hP hS (hk2 oa _ ho rfl) (show vp_in (nI 0) 1 from vp_in_nI (by omega) (by omega)) dL_call_11 (fun H locs hP hS => ?_)
    refine lv_goto (tgt := 23) hx hb dL_call_12 (by decide) ?_
    refine lv_iconst (v := 0) hx hb dL_call_23 (by decide) ?_
    have f9_1 : (wU w2 oa (.inl (E.2.1 1, 1, .inr (.inl (vp_updL fo ((0 : Int32).toNatClampNeg) (((s_call F c1 p1 k1).2.1).toInt64)))))) oa = some (.inl (E.2.1 1, 1, .inr (.inl (vp_updL fo ((0 : Int32).toNatClampNeg) (((s_call F c1 p1 k1).2.1).toInt64))))) := (wU_s _ _ _)
    exact wl_iret C0 hr rfl hP hS dL_call_24 (Nat.le_of_ble_eq_true rfl) (Nat.le_of_ble_eq_true rfl) (⟨by rw [h0]; rfl, AD2, wSys_o hs2 (hk2 oa _ ho rfl) rfl, ha2, wKo_o hk2, _, wU_s _ _ _, fun _ => by simp [vp_updL]⟩)

set_option maxHeartbeats 4000000 in
set_option maxRecDepth 100000 in
theorem k_L_pass (l : Launch) (hst : l.stackTraces = false) (E : wEn) (w : wW) (sz : Nat) (F : FF) (AD : AT) (N : Nat) (hI : wInv F N) (hs : wSys E F AD w) (oa : Nat) (fo : Nat → Int64) (ho : w oa = some (.inl (E.2.1 1, 1, .inr (.inl fo)))) (t1 : Int32) : wMn l yL_pass wsL_pass 2 1 6 E w sz [.ref (AD 5 0), .int t1, .ref oa] (fun v w2 => v = some (.int (nI (s_pass F t1).1)) ∧ ∃ AD2 : AT, wSys E (s_pass F t1).2.2 AD2 w2 ∧ AD2 5 0 = AD 5 0 ∧ wKo oa w w2 ∧ ∃ f2 : Nat → Int64, w2 oa = some (.inl (E.2.1 1, 1, .inr (.inl f2))) ∧ ((s_pass F t1).1 = 0 → f2 0 = (s_pass F t1).2.1.toInt64)) := by
  refine wm_startH (own := RL) (cc := cL_pass) (maxL := 4) (ret := (some .int)) (hh := [(0, 9, 12, 13)]) rfl (by decide) rfl (Nat.le_of_ble_eq_true rfl) ?_
  intro p e s m args below meth c ls C0 hr hT hnc hP hS hl
  have hx := C0.1
  have hb := C0.2.1
  have hts := C0.2.2.2.2.1
  have hown := C0.2.2.2.1
  have hl : lv_has ls 4 [(0, .ref (AD 5 0)), (1, .int t1), (2, .ref oa)] := hl
  refine lv_aload_n hx hb dL_pass_0 rfl (lv_at hl 2 rfl) ?_
  refine lv_iconst (v := 0) hx hb dL_pass_1 (by decide) ?_
  refine lv_aload_n hx hb dL_pass_2 rfl (lv_at hl 0 rfl) ?_
  refine lv_iload_n hx hb dL_pass_3 rfl (lv_at hl 1 rfl) ?_
  refine wl_go (wl_runV (As := [.int t1]) (rest := [.int 0, .ref oa]) C0 hP hS (k_X6_pass l hst E w s.heap.size F AD N hI hs t1) (cwV 1 hts gL_pass_X6_pass rfl rfl rfl (by decide +kernel) ⟨(Nat.le_of_ble_eq_true rfl), (Nat.le_of_ble_eq_true rfl)⟩) hs.x rfl rfl rfl hl.1 (Nat.le_of_ble_eq_true rfl) dL_pass_4 ⟨(Nat.le_of_ble_eq_true rfl), (Nat.le_of_ble_eq_true rfl)⟩) hS (wA_in hP hS C0.2.2.2.2.2.2.2.2 rfl) (fun X ce q9 w2 H locs hpx hP _ hS _ _ hce hcv hcl => ?_) (fun v w2 H locs hq hP _ hS _ _ => ?_)
  · obtain ⟨hw9, hx9⟩ := hpx
    rw [hw9] at hP
    obtain ⟨hk9, rfl⟩ := hx9
    refine wl_catch (hh := [(0, 9, 12, 13)]) (pre := []) (x := (0, 9, 12, 13)) (suf := []) C0 hT rfl (fun z hz => absurd hz List.not_mem_nil) rfl (by decide) (hts _ (by decide +kernel)) xc_IAE hce hcv hcl ?_
    refine W.eq (g2 := F0 m 12 ls [.ref q9]) rfl ?_
    refine W.widen (k := 1) (n := 6) (Nat.le_of_ble_eq_true rfl) (Nat.le_of_ble_eq_true rfl) ?_
    refine lv_astore_n (lv' := [(3, .ref q9), (0, .ref (AD 5 0)), (1, .int t1), (2, .ref oa)]) hx hb dL_pass_12 rfl hl (by decide) rfl (fun ls hl => ?_)
    refine lv_iconst (v := 1) hx hb dL_pass_13 (by decide) ?_
    exact wl_iret C0 hr rfl hP hS dL_pass_14 (Nat.le_of_ble_eq_true rfl) (Nat.le_of_ble_eq_true rfl) (⟨by rw [hk9]; rfl, AD, by rw [er_s_pass (by rw [hk9]; decide)]; exact hs, rfl, fun a e h _ _ => h, fo, ho, fun h => absurd (hk9.symm.trans h) (by decide)⟩)
  · obtain ⟨AD2, h0, rfl, hs2, ha2, hk2⟩ := hq
    refine W.eq (g2 := F0 m 7 ls [.int ((s_pass F t1).2.1), .int 0, .ref oa]) rfl ?_
    refine W.widen (k := 1) (n := 6) (Nat.le_of_ble_eq_true rfl) (Nat.le_of_ble_eq_true rfl) ?_
    refine lv_i2l (v := ((s_pass F t1).2.1).toInt64) hx hb dL_pass_7 rfl ?_
    refine wl_last C0 hP hS (hk2 oa _ ho rfl) (show vp_in (nI 0) 1 from vp_in_nI (by omega) (by omega)) dL_pass_8 (fun H locs hP hS => ?_)
    refine lv_goto (tgt := 15) hx hb dL_pass_9 (by decide) ?_
    refine lv_iconst (v := 0) hx hb dL_pass_15 (by decide) ?_
    have f9_1 : (wU w2 oa (.inl (E.2.1 1, 1, .inr (.inl (vp_updL fo ((0 : Int32).toNatClampNeg) (((s_pass F t1).2.1).toInt64)))))) oa = some (.inl (E.2.1 1, 1, .inr (.inl (vp_updL fo ((0 : Int32).toNatClampNeg) (((s_pass F t1).2.1).toInt64))))) := (wU_s _ _ _)
    exact wl_iret C0 hr rfl hP hS dL_pass_16 (Nat.le_of_ble_eq_true rfl) (Nat.le_of_ble_eq_true rfl) (⟨by rw [h0]; rfl, AD2, wSys_o hs2 (hk2 oa _ ho rfl) rfl, ha2, wKo_o hk2, _, wU_s _ _ _, fun _ => by simp [vp_updL]⟩)

set_option maxHeartbeats 4000000 in
set_option maxRecDepth 100000 in
theorem k_L_count (l : Launch) (hst : l.stackTraces = false) (E : wEn) (w : wW) (sz : Nat) (F : FF) (AD : AT) (N : Nat) (hI : wInv F N) (hs : wSys E F AD w) (oa : Nat) (fo : Nat → Int64) (ho : w oa = some (.inl (E.2.1 1, 1, .inr (.inl fo)))) (c1 k1 : Int32) : wMn l yL_count wsL_count 3 2 12 E w sz [.ref (AD 5 0), .int c1, .int k1, .ref oa] (fun v w2 => v = some (.int (nI (s_count F c1 k1).1)) ∧ ∃ AD2 : AT, wSys E (s_count F c1 k1).2.2 AD2 w2 ∧ AD2 5 0 = AD 5 0 ∧ wKo oa w w2 ∧ ∃ f2 : Nat → Int64, w2 oa = some (.inl (E.2.1 1, 1, .inr (.inl f2))) ∧ ((s_count F c1 k1).1 = 0 → f2 0 = (s_count F c1 k1).2.1.toInt64)) := by
  refine wm_startH (own := RL) (cc := cL_count) (maxL := 5) (ret := (some .int)) (hh := [(0, 10, 13, 30), (0, 10, 17, 13)]) rfl (by decide) rfl (Nat.le_of_ble_eq_true rfl) ?_
  intro p e s m args below meth c ls C0 hr hT hnc hP hS hl
  have hx := C0.1
  have hb := C0.2.1
  have hts := C0.2.2.2.2.1
  have hown := C0.2.2.2.1
  have hl : lv_has ls 5 [(0, .ref (AD 5 0)), (1, .int c1), (2, .int k1), (3, .ref oa)] := hl
  refine lv_aload_n hx hb dL_count_0 rfl (lv_at hl 3 rfl) ?_
  refine lv_iconst (v := 0) hx hb dL_count_1 (by decide) ?_
  refine lv_aload_n hx hb dL_count_2 rfl (lv_at hl 0 rfl) ?_
  refine lv_iload_n hx hb dL_count_3 rfl (lv_at hl 1 rfl) ?_
  refine lv_iload_n hx hb dL_count_4 rfl (lv_at hl 2 rfl) ?_
  refine wl_go (wl_runV (As := [.int c1, .int k1]) (rest := [.int 0, .ref oa]) C0 hP hS (k_X6_count l hst E w s.heap.size F AD N hI hs c1 k1) (cwV 2 hts gL_count_X6_count rfl rfl rfl (by decide +kernel) ⟨(Nat.le_of_ble_eq_true rfl), (Nat.le_of_ble_eq_true rfl)⟩) hs.x rfl rfl rfl hl.1 (Nat.le_of_ble_eq_true rfl) dL_count_5 ⟨(Nat.le_of_ble_eq_true rfl), (Nat.le_of_ble_eq_true rfl)⟩) hS (wA_in hP hS C0.2.2.2.2.2.2.2.2 rfl) (fun X ce q9 w2 H locs hpx hP _ hS _ _ hce hcv hcl => ?_) (fun v w2 H locs hq hP _ hS _ _ => ?_)
  · obtain ⟨hw9, hx9⟩ := hpx
    rw [hw9] at hP
    rcases hx9 with ⟨hk9, rfl⟩ | ⟨hk9, rfl⟩
    · refine wl_catch (hh := [(0, 10, 13, 30), (0, 10, 17, 13)]) (pre := []) (x := (0, 10, 13, 30)) (suf := [(0, 10, 17, 13)]) C0 hT rfl (fun z hz => absurd hz List.not_mem_nil) rfl (by decide) (hts _ (by decide +kernel)) xc_IOB hce hcv hcl ?_
      refine W.eq (g2 := F0 m 13 ls [.ref q9]) rfl ?_
      refine W.widen (k := 2) (n := 12) (Nat.le_of_ble_eq_true rfl) (Nat.le_of_ble_eq_true rfl) ?_
      refine lv_astore (lv' := [(4, .ref q9), (0, .ref (AD 5 0)), (1, .int c1), (2, .int k1), (3, .ref oa)]) hx hb dL_count_13 hl (by decide) rfl (fun ls hl => ?_)
      refine lv_iconst (v := 1) hx hb dL_count_15 (by decide) ?_
      exact wl_iret C0 hr rfl hP hS dL_count_16 (Nat.le_of_ble_eq_true rfl) (Nat.le_of_ble_eq_true rfl) (⟨by rw [hk9]; rfl, AD, by rw [er_s_count (by rw [hk9]; decide)]; exact hs, rfl, fun a e h _ _ => h, fo, ho, fun h => absurd (hk9.symm.trans h) (by decide)⟩)
    · refine wl_catch (hh := [(0, 10, 13, 30), (0, 10, 17, 13)]) (pre := [(0, 10, 13, 30)]) (x := (0, 10, 17, 13)) (suf := []) C0 hT rfl (fun z hz => by
          simp only [List.mem_cons, List.not_mem_nil, or_false] at hz
          subst hz
          exact ⟨by decide, xIOB, hts _ (by decide +kernel), hnc (xIAE, xIOB) (by decide +kernel)⟩) rfl (by decide) (hts _ (by decide +kernel)) xc_IAE hce hcv hcl ?_
      refine W.eq (g2 := F0 m 17 ls [.ref q9]) rfl ?_
      refine W.widen (k := 2) (n := 12) (Nat.le_of_ble_eq_true rfl) (Nat.le_of_ble_eq_true rfl) ?_
      refine lv_astore (lv' := [(4, .ref q9), (0, .ref (AD 5 0)), (1, .int c1), (2, .int k1), (3, .ref oa)]) hx hb dL_count_17 hl (by decide) rfl (fun ls hl => ?_)
      refine lv_iconst (v := 2) hx hb dL_count_19 (by decide) ?_
      exact wl_iret C0 hr rfl hP hS dL_count_20 (Nat.le_of_ble_eq_true rfl) (Nat.le_of_ble_eq_true rfl) (⟨by rw [hk9]; rfl, AD, by rw [er_s_count (by rw [hk9]; decide)]; exact hs, rfl, fun a e h _ _ => h, fo, ho, fun h => absurd (hk9.symm.trans h) (by decide)⟩)
  · obtain ⟨AD2, h0, rfl, hs2, ha2, hk2⟩ := hq
    refine W.eq (g2 := F0 m 8 ls [.int ((s_count F c1 k1).2.1), .int 0, .ref oa]) rfl ?_
    refine W.widen (k := 2) (n := 12) (Nat.le_of_ble_eq_true rfl) (Nat.le_of_ble_eq_true rfl) ?_
    refine lv_i2l (v := ((s_count F c1 k1).2.1).toInt64) hx hb dL_count_8 rfl ?_
    refine wl_last C0 hP hS (hk2 oa _ ho rfl) (show vp_in (nI 0) 1 from vp_in_nI (by omega) (by omega)) dL_count_9 (fun H locs hP hS => ?_)
    refine lv_goto (tgt := 21) hx hb dL_count_10 (by decide) ?_
    refine lv_iconst (v := 0) hx hb dL_count_21 (by decide) ?_
    have f9_1 : (wU w2 oa (.inl (E.2.1 1, 1, .inr (.inl (vp_updL fo ((0 : Int32).toNatClampNeg) (((s_count F c1 k1).2.1).toInt64)))))) oa = some (.inl (E.2.1 1, 1, .inr (.inl (vp_updL fo ((0 : Int32).toNatClampNeg) (((s_count F c1 k1).2.1).toInt64))))) := (wU_s _ _ _)
    exact wl_iret C0 hr rfl hP hS dL_count_22 (Nat.le_of_ble_eq_true rfl) (Nat.le_of_ble_eq_true rfl) (⟨by rw [h0]; rfl, AD2, wSys_o hs2 (hk2 oa _ ho rfl) rfl, ha2, wKo_o hk2, _, wU_s _ _ _, fun _ => by simp [vp_updL]⟩)

set_option maxHeartbeats 4000000 in
set_option maxRecDepth 100000 in
theorem k_L_isUndone (l : Launch) (hst : l.stackTraces = false) (E : wEn) (w : wW) (sz : Nat) (F : FF) (AD : AT) (N : Nat) (hI : wInv F N) (hs : wSys E F AD w) (oa : Nat) (fo : Nat → Int64) (ho : w oa = some (.inl (E.2.1 1, 1, .inr (.inl fo)))) (k1 : Int32) : wMn l yL_isUndone wsL_isUndone 2 1 6 E w sz [.ref (AD 5 0), .int k1, .ref oa] (fun v w2 => v = some (.int (nI (s_isUndone F k1).1)) ∧ ∃ AD2 : AT, wSys E (s_isUndone F k1).2.2 AD2 w2 ∧ AD2 5 0 = AD 5 0 ∧ wKo oa w w2 ∧ ∃ f2 : Nat → Int64, w2 oa = some (.inl (E.2.1 1, 1, .inr (.inl f2))) ∧ ((s_isUndone F k1).1 = 0 → f2 0 = (s_isUndone F k1).2.1.toInt64)) := by
  refine wm_startH (own := RL) (cc := cL_isUndone) (maxL := 4) (ret := (some .int)) (hh := [(0, 16, 19, 30)]) rfl (by decide) rfl (Nat.le_of_ble_eq_true rfl) ?_
  intro p e s m args below meth c ls C0 hr hT hnc hP hS hl
  have hx := C0.1
  have hb := C0.2.1
  have hts := C0.2.2.2.2.1
  have hown := C0.2.2.2.1
  have hl : lv_has ls 4 [(0, .ref (AD 5 0)), (1, .int k1), (2, .ref oa)] := hl
  refine lv_aload_n hx hb dL_isUndone_0 rfl (lv_at hl 2 rfl) ?_
  refine lv_iconst (v := 0) hx hb dL_isUndone_1 (by decide) ?_
  refine lv_aload_n hx hb dL_isUndone_2 rfl (lv_at hl 0 rfl) ?_
  refine lv_iload_n hx hb dL_isUndone_3 rfl (lv_at hl 1 rfl) ?_
  refine wl_go (wl_runV (As := [.int k1]) (rest := [.int 0, .ref oa]) C0 hP hS (k_X6_isUndone l hst E w s.heap.size F AD N hI hs k1) (cwV 1 hts gL_isUndone_X6_isUndone rfl rfl rfl (by decide +kernel) ⟨(Nat.le_of_ble_eq_true rfl), (Nat.le_of_ble_eq_true rfl)⟩) hs.x rfl rfl rfl hl.1 (Nat.le_of_ble_eq_true rfl) dL_isUndone_4 ⟨(Nat.le_of_ble_eq_true rfl), (Nat.le_of_ble_eq_true rfl)⟩) hS (wA_in hP hS C0.2.2.2.2.2.2.2.2 rfl) (fun X ce q9 w2 H locs hpx hP _ hS _ _ hce hcv hcl => ?_) (fun v w2 H locs hq hP _ hS _ _ => ?_)
  · obtain ⟨hw9, hx9⟩ := hpx
    rw [hw9] at hP
    obtain ⟨hk9, rfl⟩ := hx9
    refine wl_catch (hh := [(0, 16, 19, 30)]) (pre := []) (x := (0, 16, 19, 30)) (suf := []) C0 hT rfl (fun z hz => absurd hz List.not_mem_nil) rfl (by decide) (hts _ (by decide +kernel)) xc_IOB hce hcv hcl ?_
    refine W.eq (g2 := F0 m 19 ls [.ref q9]) rfl ?_
    refine W.widen (k := 1) (n := 6) (Nat.le_of_ble_eq_true rfl) (Nat.le_of_ble_eq_true rfl) ?_
    refine lv_astore_n (lv' := [(3, .ref q9), (0, .ref (AD 5 0)), (1, .int k1), (2, .ref oa)]) hx hb dL_isUndone_19 rfl hl (by decide) rfl (fun ls hl => ?_)
    refine lv_iconst (v := 1) hx hb dL_isUndone_20 (by decide) ?_
    exact wl_iret C0 hr rfl hP hS dL_isUndone_21 (Nat.le_of_ble_eq_true rfl) (Nat.le_of_ble_eq_true rfl) (⟨by rw [hk9]; rfl, AD, by rw [er_s_isUndone (by rw [hk9]; decide)]; exact hs, rfl, fun a e h _ _ => h, fo, ho, fun h => absurd (hk9.symm.trans h) (by decide)⟩)
  · obtain ⟨AD2, h0, rfl, hs2, ha2, hk2⟩ := hq
    refine W.eq (g2 := F0 m 7 ls [.int ((s_isUndone F k1).2.1), .int 0, .ref oa]) rfl ?_
    refine W.widen (k := 1) (n := 6) (Nat.le_of_ble_eq_true rfl) (Nat.le_of_ble_eq_true rfl) ?_
    refine lv_if_eq (tgt := 14) hx hb dL_isUndone_7 (by decide) (fun c_7 => ?_) (fun c_7 => ?_)
    · have hb1 : (s_isUndone F k1).2.1 = 0 := c_7
      refine lv_lconst (v := 0) hx hb dL_isUndone_14 (by decide) ?_
      refine wl_last C0 hP hS (hk2 oa _ ho rfl) (show vp_in (nI 0) 1 from vp_in_nI (by omega) (by omega)) dL_isUndone_15 (fun H locs hP hS => ?_)
      refine lv_goto (tgt := 22) hx hb dL_isUndone_16 (by decide) ?_
      refine lv_iconst (v := 0) hx hb dL_isUndone_22 (by decide) ?_
      have f9_1 : (wU w2 oa (.inl (E.2.1 1, 1, .inr (.inl (vp_updL fo ((0 : Int32).toNatClampNeg) 0))))) oa = some (.inl (E.2.1 1, 1, .inr (.inl (vp_updL fo ((0 : Int32).toNatClampNeg) 0)))) := (wU_s _ _ _)
      exact wl_iret C0 hr rfl hP hS dL_isUndone_23 (Nat.le_of_ble_eq_true rfl) (Nat.le_of_ble_eq_true rfl) (⟨by rw [h0]; rfl, AD2, wSys_o hs2 (hk2 oa _ ho rfl) rfl, ha2, wKo_o hk2, _, wU_s _ _ _, fun _ => by rw [hb1]; simp [vp_updL]⟩)
    · have hb1 : (s_isUndone F k1).2.1 = 1 := (b01_s_isUndone).resolve_left c_7
      refine lv_lconst (v := 1) hx hb dL_isUndone_10 (by decide) ?_
      refine lv_goto (tgt := 15) hx hb dL_isUndone_11 (by decide) ?_
      refine wl_last C0 hP hS (hk2 oa _ ho rfl) (show vp_in (nI 0) 1 from vp_in_nI (by omega) (by omega)) dL_isUndone_15 (fun H locs hP hS => ?_)
      refine lv_goto (tgt := 22) hx hb dL_isUndone_16 (by decide) ?_
      refine lv_iconst (v := 0) hx hb dL_isUndone_22 (by decide) ?_
      have f9_2 : (wU w2 oa (.inl (E.2.1 1, 1, .inr (.inl (vp_updL fo ((0 : Int32).toNatClampNeg) 1))))) oa = some (.inl (E.2.1 1, 1, .inr (.inl (vp_updL fo ((0 : Int32).toNatClampNeg) 1)))) := (wU_s _ _ _)
      exact wl_iret C0 hr rfl hP hS dL_isUndone_23 (Nat.le_of_ble_eq_true rfl) (Nat.le_of_ble_eq_true rfl) (⟨by rw [h0]; rfl, AD2, wSys_o hs2 (hk2 oa _ ho rfl) rfl, ha2, wKo_o hk2, _, wU_s _ _ _, fun _ => by rw [hb1]; simp [vp_updL]⟩)

set_option maxHeartbeats 4000000 in
set_option maxRecDepth 100000 in
theorem k_L_greatest (l : Launch) (hst : l.stackTraces = false) (E : wEn) (w : wW) (sz : Nat) (F : FF) (AD : AT) (N : Nat) (hI : wInv F N) (hs : wSys E F AD w) (oa : Nat) (fo : Nat → Int64) (ho : w oa = some (.inl (E.2.1 1, 1, .inr (.inl fo)))) : wMn l yL_greatest wsL_greatest 1 1 6 E w sz [.ref (AD 5 0), .ref oa] (fun v w2 => v = some (.int (nI (s_greatest F).1)) ∧ ∃ AD2 : AT, wSys E (s_greatest F).2.2 AD2 w2 ∧ AD2 5 0 = AD 5 0 ∧ wKo oa w w2 ∧ ∃ f2 : Nat → Int64, w2 oa = some (.inl (E.2.1 1, 1, .inr (.inl f2))) ∧ ((s_greatest F).1 = 0 → f2 0 = (s_greatest F).2.1.toInt64)) := by
  refine wm_startH (own := RL) (cc := cL_greatest) (maxL := 3) (ret := (some .int)) (hh := [(0, 8, 11, 21)]) rfl (by decide) rfl (Nat.le_of_ble_eq_true rfl) ?_
  intro p e s m args below meth c ls C0 hr hT hnc hP hS hl
  have hx := C0.1
  have hb := C0.2.1
  have hts := C0.2.2.2.2.1
  have hown := C0.2.2.2.1
  have hl : lv_has ls 3 [(0, .ref (AD 5 0)), (1, .ref oa)] := hl
  refine lv_aload_n hx hb dL_greatest_0 rfl (lv_at hl 1 rfl) ?_
  refine lv_iconst (v := 0) hx hb dL_greatest_1 (by decide) ?_
  refine lv_aload_n hx hb dL_greatest_2 rfl (lv_at hl 0 rfl) ?_
  refine wl_go (wl_runV (As := []) (rest := [.int 0, .ref oa]) C0 hP hS (k_X6_greatest l hst E w s.heap.size F AD N hI hs ) (cwV 0 hts gL_greatest_X6_greatest rfl rfl rfl (by decide +kernel) ⟨(Nat.le_of_ble_eq_true rfl), (Nat.le_of_ble_eq_true rfl)⟩) hs.x rfl rfl rfl hl.1 (Nat.le_of_ble_eq_true rfl) dL_greatest_3 ⟨(Nat.le_of_ble_eq_true rfl), (Nat.le_of_ble_eq_true rfl)⟩) hS (wA_in hP hS C0.2.2.2.2.2.2.2.2 rfl) (fun X ce q9 w2 H locs hpx hP _ hS _ _ hce hcv hcl => ?_) (fun v w2 H locs hq hP _ hS _ _ => ?_)
  · obtain ⟨hw9, hx9⟩ := hpx
    rw [hw9] at hP
    obtain ⟨hk9, rfl⟩ := hx9
    refine wl_catch (hh := [(0, 8, 11, 21)]) (pre := []) (x := (0, 8, 11, 21)) (suf := []) C0 hT rfl (fun z hz => absurd hz List.not_mem_nil) rfl (by decide) (hts _ (by decide +kernel)) xc_NSE hce hcv hcl ?_
    refine W.eq (g2 := F0 m 11 ls [.ref q9]) rfl ?_
    refine W.widen (k := 1) (n := 6) (Nat.le_of_ble_eq_true rfl) (Nat.le_of_ble_eq_true rfl) ?_
    refine lv_astore_n (lv' := [(2, .ref q9), (0, .ref (AD 5 0)), (1, .ref oa)]) hx hb dL_greatest_11 rfl hl (by decide) rfl (fun ls hl => ?_)
    refine lv_iconst (v := 1) hx hb dL_greatest_12 (by decide) ?_
    exact wl_iret C0 hr rfl hP hS dL_greatest_13 (Nat.le_of_ble_eq_true rfl) (Nat.le_of_ble_eq_true rfl) (⟨by rw [hk9]; rfl, AD, by rw [er_s_greatest (by rw [hk9]; decide)]; exact hs, rfl, fun a e h _ _ => h, fo, ho, fun h => absurd (hk9.symm.trans h) (by decide)⟩)
  · obtain ⟨AD2, h0, rfl, hs2, ha2, hk2⟩ := hq
    refine W.eq (g2 := F0 m 6 ls [.int ((s_greatest F).2.1), .int 0, .ref oa]) rfl ?_
    refine W.widen (k := 1) (n := 6) (Nat.le_of_ble_eq_true rfl) (Nat.le_of_ble_eq_true rfl) ?_
    refine lv_i2l (v := ((s_greatest F).2.1).toInt64) hx hb dL_greatest_6 rfl ?_
    refine wl_last C0 hP hS (hk2 oa _ ho rfl) (show vp_in (nI 0) 1 from vp_in_nI (by omega) (by omega)) dL_greatest_7 (fun H locs hP hS => ?_)
    refine lv_goto (tgt := 14) hx hb dL_greatest_8 (by decide) ?_
    refine lv_iconst (v := 0) hx hb dL_greatest_14 (by decide) ?_
    have f9_1 : (wU w2 oa (.inl (E.2.1 1, 1, .inr (.inl (vp_updL fo ((0 : Int32).toNatClampNeg) (((s_greatest F).2.1).toInt64)))))) oa = some (.inl (E.2.1 1, 1, .inr (.inl (vp_updL fo ((0 : Int32).toNatClampNeg) (((s_greatest F).2.1).toInt64))))) := (wU_s _ _ _)
    exact wl_iret C0 hr rfl hP hS dL_greatest_15 (Nat.le_of_ble_eq_true rfl) (Nat.le_of_ble_eq_true rfl) (⟨by rw [h0]; rfl, AD2, wSys_o hs2 (hk2 oa _ ho rfl) rfl, ha2, wKo_o hk2, _, wU_s _ _ _, fun _ => by simp [vp_updL]⟩)
