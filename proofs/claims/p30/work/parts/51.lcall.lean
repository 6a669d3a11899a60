section LCALL
variable {p : Program} {l : Launch} {e : Env} {s : State} {m : MethodId} {args : Array Value} {below : List Frame} {meth : Method} {c : Code} {H : Heap} {locs : List Loc} {cells slots : Nat} {Q : State → Prop}
variable {ls : Array Slot} {A : Nat → Prop} {E : wEn} {w w0 : wW} {F : FF} {x ob op N ev cB sB jr jc pj : Nat} {g8 : Int32} {was : Int64} {fb fp : Nat → Int32}
set_option maxHeartbeats 4000000 in
set_option maxRecDepth 100000 in
theorem lc_call1 (hst : l.stackTraces = false) (C1 : wCt p s m args meth c RL cL_law 21 wsL_law E A) (hI : wInv F N) (hki : wKi F) (hz : zK E F x w0 w) (hob : w0 ob = some (.inl (E.2.1 0, 3, .inl fb))) (hop : w0 op = some (.inl (E.2.1 0, 6, .inl fp))) (hfb : ∀ i, i < F 24 1 → fb i = nI (F 11 i)) (hfp : ∀ i, i < F 24 2 → fp i = nI (F 13 i)) (hP : wP E.1 A w H) (hS : va_S A s.heap H locs) (hl : lv_has ls 21 [(0, .ref (E.2.2 102)), (1, .ref x), (2, .ref ob), (3, .ref op), (4, .int (nI (F 24 0))), (5, .int (nI (F 24 2))), (6, .int (nI (F 24 1))), (7, .int (nI ev)), (8, .int g8), (9, .int (nI jr)), (10, .int (nI jc)), (12, .int (nI pj)), (13, .long was), (15, .int 0)]) (hc : cells ≤ cB + 1644) (hs : slots ≤ sB + 9864) (hcB : cB + 12000 ≤ 677584) (hsB : sB + 120000 ≤ 7061175) (hN : N + 8 ≤ 512) (hev : ev < 56) (hjr : jr ≤ F 24 0) (hjc : jc ≤ F 24 2) (hpj : pathB (nI pj) = true) (hpn : pj < 100) (rr : Nat) (hrr : gN F 4 (tn (nI pj)) = rr)
    (K : ∀ (tv16 tv17 tv18 : Int32) (w : wW) (H : Heap) (locs : List Loc) (ls : Array Slot) (cells slots : Nat), tv16 = (if rr < F 24 0 then nI rr else -1005) → (jc < F 24 2 → rr < F 24 0 → (tv17 = 0 ↔ ¬ F 14 jc < F 1 rr)) → (jc < F 24 2 → tv18 = nI (F 14 jc)) → zK E F x w0 w → wP E.1 A w H → va_S A s.heap H locs → lv_has ls 21 [(18, .int tv18), (17, .int tv17), (16, .int tv16), (0, .ref (E.2.2 102)), (1, .ref x), (2, .ref ob), (3, .ref op), (4, .int (nI (F 24 0))), (5, .int (nI (F 24 2))), (6, .int (nI (F 24 1))), (7, .int (nI ev)), (8, .int g8), (9, .int (nI jr)), (10, .int (nI jc)), (12, .int (nI pj)), (13, .long was), (15, .int 0)] → cells ≤ cB + 1653 → slots ≤ sB + 9918 → W p l e room_1 s m args below meth c H locs cells slots Q (F0 m 701 ls [])) : W p l e room_1 s m args below meth c H locs cells slots Q (F0 m 635 ls []) := by
  have C0 := C1.1
  have hx := C0.1
  have hb := C0.2.1
  have hts := C0.2.2.2.2.1
  have hown := C0.2.2.2.1
  have hn9 := hI.n
  refine lv_aload_n hx hb dL_law_635 rfl (lv_at hl 1 rfl) ?_
  refine lv_iconst (v := 1) hx hb dL_law_636 (by decide) ?_
  refine lv_iload hx hb dL_law_637 (lv_at hl 11 rfl) ?_
  refine lv_iconst (v := 0) hx hb dL_law_639 (by decide) ?_
  refine lv_iconst (v := 0) hx hb dL_law_640 (by decide) ?_
  refine lv_iconst (v := 0) hx hb dL_law_641 (by decide) ?_
  refine wt_ask C1 hP hS (k_L_ask_route l hst E _ _ F x N _ hI hz (nI pj) 0 0 0) gL_law_L_ask ⟨(Nat.le_of_ble_eq_true rfl), (Nat.le_of_ble_eq_true rfl)⟩ hl.1 (Nat.le_of_ble_eq_true rfl) dL_law_642 (show _ ≤ 677584 by omega) (show _ ≤ 7061175 by omega) (fun w H locs hz hP hS => ?_)
  refine W.eq (g2 := F0 m 645 ls [.int (aE [-1002, -1005] (s_route F (nI pj)))]) rfl ?_
  have hrl : rr ≤ F 24 0 := by rw [← hrr]; exact gN_le _ _ _
  have go : ∀ (tv16 tv17 : Int32) (w : wW) (H : Heap) (locs : List Loc) (ls : Array Slot) (cells slots : Nat), tv16 = (if rr < F 24 0 then nI rr else -1005) → (jc < F 24 2 → rr < F 24 0 → (tv17 = 0 ↔ ¬ F 14 jc < F 1 rr)) → zK E F x w0 w → wP E.1 A w H → va_S A s.heap H locs → lv_has ls 21 [(16, .int tv16), (0, .ref (E.2.2 102)), (1, .ref x), (2, .ref ob), (3, .ref op), (4, .int (nI (F 24 0))), (5, .int (nI (F 24 2))), (6, .int (nI (F 24 1))), (7, .int (nI ev)), (8, .int g8), (9, .int (nI jr)), (10, .int (nI jc)), (12, .int (nI pj)), (13, .long was), (15, .int 0)] → cells ≤ cB + 1650 → slots ≤ sB + 9900 → W p l e room_1 s m args below meth c H locs cells slots Q (F0 m 675 ls [.int tv17]) := by
    intro tv16 tv17 w H locs ls cells slots f16 f17 hz hP hS hl hc hs
    refine lv_istore (lv' := [(17, .int tv17), (16, .int tv16), (0, .ref (E.2.2 102)), (1, .ref x), (2, .ref ob), (3, .ref op), (4, .int (nI (F 24 0))), (5, .int (nI (F 24 2))), (6, .int (nI (F 24 1))), (7, .int (nI ev)), (8, .int g8), (9, .int (nI jr)), (10, .int (nI jc)), (12, .int (nI pj)), (13, .long was), (15, .int 0)]) hx hb dL_law_675 hl (by decide) rfl (fun ls hl => ?_)
    refine lv_iload hx hb dL_law_677 (lv_at hl 12 rfl) ?_
    refine lv_iload hx hb dL_law_679 (lv_at hl 7 rfl) ?_
    by_cases hcc : jc = F 24 2
    · refine lv_icmp_ne (tgt := 688) hx hb dL_law_681 (by decide) (fun q9 => absurd (by rw [hcc]) q9) (fun q9 => ?_)
      refine lv_iconst (v := 0) hx hb dL_law_684 (by decide) ?_
      refine lv_goto (tgt := 699) hx hb dL_law_685 (by decide) ?_
      refine lv_istore (lv' := [(18, .int 0), (17, .int tv17), (16, .int tv16), (0, .ref (E.2.2 102)), (1, .ref x), (2, .ref ob), (3, .ref op), (4, .int (nI (F 24 0))), (5, .int (nI (F 24 2))), (6, .int (nI (F 24 1))), (7, .int (nI ev)), (8, .int g8), (9, .int (nI jr)), (10, .int (nI jc)), (12, .int (nI pj)), (13, .long was), (15, .int 0)]) hx hb dL_law_699 hl (by decide) rfl (fun ls hl => ?_)
      exact K tv16 tv17 0 w H locs ls _ _ f16 f17 (fun q => absurd q (by omega)) hz hP hS (lv_sub hl [0, 1, 2, 3, 4, 5, 6, 7, 8, 9, 10, 11, 12, 13, 14, 15, 16] rfl) (by omega) (by omega)
    · refine lv_icmp_ne (tgt := 688) hx hb dL_law_681 (by decide) (fun q9 => ?_) (fun q9 => absurd ((nI_eq (by omega) (by omega)).mp q9) hcc)
      refine lv_aload_n hx hb dL_law_688 rfl (lv_at hl 3 rfl) ?_
      refine lv_bipush (v := 15) hx hb dL_law_689 (by decide) ?_
      refine lv_iload hx hb dL_law_691 (lv_at hl 12 rfl) ?_
      refine lv_iconst (v := 0) hx hb dL_law_693 (by decide) ?_
      refine lv_iconst (v := 0) hx hb dL_law_694 (by decide) ?_
      refine lv_iconst (v := 0) hx hb dL_law_695 (by decide) ?_
      refine wt_ask C1 hP hS (k_L_ask_tokens l hst E _ _ F x N _ hI hz (nI jc) 0 0 0) gL_law_L_ask ⟨(Nat.le_of_ble_eq_true rfl), (Nat.le_of_ble_eq_true rfl)⟩ hl.1 (Nat.le_of_ble_eq_true rfl) dL_law_696 (show _ ≤ 677584 by omega) (show _ ≤ 7061175 by omega) (fun w H locs hz hP hS => ?_)
      refine W.eq (g2 := F0 m 699 ls [.int (aE [-1001] (s_tokens F (nI jc)))]) rfl ?_
      refine W.eq (g2 := F0 m 699 ls [.int (nI (F 14 jc))]) (by rw [v_tokens (by omega) (by omega)]) ?_
      refine lv_istore (lv' := [(18, .int (nI (F 14 jc))), (17, .int tv17), (16, .int tv16), (0, .ref (E.2.2 102)), (1, .ref x), (2, .ref ob), (3, .ref op), (4, .int (nI (F 24 0))), (5, .int (nI (F 24 2))), (6, .int (nI (F 24 1))), (7, .int (nI ev)), (8, .int g8), (9, .int (nI jr)), (10, .int (nI jc)), (12, .int (nI pj)), (13, .long was), (15, .int 0)]) hx hb dL_law_699 hl (by decide) rfl (fun ls hl => ?_)
      exact K tv16 tv17 (nI (F 14 jc)) w H locs ls _ _ f16 f17 (fun _ => rfl) hz hP hS (lv_sub hl [0, 1, 2, 3, 4, 5, 6, 7, 8, 9, 10, 11, 12, 13, 14, 15, 16] rfl) (by omega) (by omega)
  by_cases hr : rr < F 24 0
  · refine W.eq (g2 := F0 m 645 ls [.int (nI rr)]) (by rw [v_route hpj, hrr, if_pos hr]) ?_
    refine lv_istore (lv' := [(16, .int (nI rr)), (0, .ref (E.2.2 102)), (1, .ref x), (2, .ref ob), (3, .ref op), (4, .int (nI (F 24 0))), (5, .int (nI (F 24 2))), (6, .int (nI (F 24 1))), (7, .int (nI ev)), (8, .int g8), (9, .int (nI jr)), (10, .int (nI jc)), (12, .int (nI pj)), (13, .long was), (15, .int 0)]) hx hb dL_law_645 hl (by decide) rfl (fun ls hl => ?_)
    refine lv_iload hx hb dL_law_647 (lv_at hl 0 rfl) ?_
    refine lv_if_lt (tgt := 659) hx hb dL_law_649 (by decide) (fun q9 => nI_nonneg (by omega) q9) (fun q9 => ?_)
    refine lv_iload hx hb dL_law_652 (lv_at hl 11 rfl) ?_
    refine lv_iload hx hb dL_law_654 (lv_at hl 6 rfl) ?_
    by_cases hcc : jc = F 24 2
    · refine lv_icmp_ne (tgt := 663) hx hb dL_law_656 (by decide) (fun q9 => absurd (by rw [hcc]) q9) (fun q9 => ?_)
      refine lv_iconst (v := -1) hx hb dL_law_659 (by decide) ?_
      refine lv_goto (tgt := 675) hx hb dL_law_660 (by decide) ?_
      exact go (nI rr) (-1) w H locs ls _ _ (by rw [if_pos hr]) (fun q => absurd q (by omega)) hz hP hS (lv_sub hl [0, 1, 2, 3, 4, 5, 6, 7, 8, 9, 10, 11, 12, 13, 14] rfl) (by omega) (by omega)
    · refine lv_icmp_ne (tgt := 663) hx hb dL_law_656 (by decide) (fun q9 => ?_) (fun q9 => absurd ((nI_eq (by omega) (by omega)).mp q9) hcc)
      refine lv_aload_n hx hb dL_law_663 rfl (lv_at hl 2 rfl) ?_
      refine lv_bipush (v := 16) hx hb dL_law_664 (by decide) ?_
      refine lv_iload hx hb dL_law_666 (lv_at hl 11 rfl) ?_
      refine lv_iload hx hb dL_law_668 (lv_at hl 0 rfl) ?_
      refine lv_iconst (v := 0) hx hb dL_law_670 (by decide) ?_
      refine lv_iconst (v := 0) hx hb dL_law_671 (by decide) ?_
      refine wt_ask C1 hP hS (k_L_ask_ticksUntil l hst E _ _ F x N _ hI hz (nI jc) (nI rr) 0 0) gL_law_L_ask ⟨(Nat.le_of_ble_eq_true rfl), (Nat.le_of_ble_eq_true rfl)⟩ hl.1 (Nat.le_of_ble_eq_true rfl) dL_law_672 (show _ ≤ 677584 by omega) (show _ ≤ 7061175 by omega) (fun w H locs hz hP hS => ?_)
      refine W.eq (g2 := F0 m 675 ls [.int (aE [-1001, -1005] (s_ticksUntil F (nI jc) (nI rr)))]) rfl ?_
      exact go (nI rr) _ w H locs ls _ _ (by rw [if_pos hr]) (fun q q2 => v_ticks hI q q2) hz hP hS (lv_sub hl [0, 1, 2, 3, 4, 5, 6, 7, 8, 9, 10, 11, 12, 13, 14] rfl) (by omega) (by omega)
  · refine W.eq (g2 := F0 m 645 ls [.int (-1005)]) (by rw [v_route hpj, hrr, if_neg hr]) ?_
    refine lv_istore (lv' := [(16, .int (-1005)), (0, .ref (E.2.2 102)), (1, .ref x), (2, .ref ob), (3, .ref op), (4, .int (nI (F 24 0))), (5, .int (nI (F 24 2))), (6, .int (nI (F 24 1))), (7, .int (nI ev)), (8, .int g8), (9, .int (nI jr)), (10, .int (nI jc)), (12, .int (nI pj)), (13, .long was), (15, .int 0)]) hx hb dL_law_645 hl (by decide) rfl (fun ls hl => ?_)
    refine lv_iload hx hb dL_law_647 (lv_at hl 0 rfl) ?_
    refine lv_if_lt (tgt := 659) hx hb dL_law_649 (by decide) (fun q9 => ?_) (fun q9 => absurd (by decide) q9)
    refine lv_iconst (v := -1) hx hb dL_law_659 (by decide) ?_
    refine lv_goto (tgt := 675) hx hb dL_law_660 (by decide) ?_
    exact go (-1005) (-1) w H locs ls _ _ (by rw [if_neg hr]) (fun _ q => absurd q hr) hz hP hS (lv_sub hl [0, 1, 2, 3, 4, 5, 6, 7, 8, 9, 10, 11, 12, 13, 14] rfl) (by omega) (by omega)
set_option maxHeartbeats 4000000 in
set_option maxRecDepth 100000 in
theorem lc_call2 {tv16 tv17 tv18 : Int32} (hst : l.stackTraces = false) (C1 : wCt p s m args meth c RL cL_law 21 wsL_law E A) (hI : wInv F N) (hki : wKi F) (hz : zK E F x w0 w) (hob : w0 ob = some (.inl (E.2.1 0, 3, .inl fb))) (hop : w0 op = some (.inl (E.2.1 0, 6, .inl fp))) (hfb : ∀ i, i < F 24 1 → fb i = nI (F 11 i)) (hfp : ∀ i, i < F 24 2 → fp i = nI (F 13 i)) (hP : wP E.1 A w H) (hS : va_S A s.heap H locs) (hl : lv_has ls 21 [(18, .int tv18), (17, .int tv17), (16, .int tv16), (0, .ref (E.2.2 102)), (1, .ref x), (2, .ref ob), (3, .ref op), (4, .int (nI (F 24 0))), (5, .int (nI (F 24 2))), (6, .int (nI (F 24 1))), (7, .int (nI ev)), (8, .int g8), (9, .int (nI jr)), (10, .int (nI jc)), (12, .int (nI pj)), (13, .long was), (15, .int 0)]) (hc : cells ≤ cB + 1653) (hs : slots ≤ sB + 9918) (hcB : cB + 12000 ≤ 677584) (hsB : sB + 120000 ≤ 7061175) (hN : N + 8 ≤ 512) (hev : ev < 56) (hjr : jr ≤ F 24 0) (hjc : jc ≤ F 24 2) (hpj : pathB (nI pj) = true) (hpn : pj < 100) (K : lwK p l e s m args below meth c Q A E x ob op F N ev cB sB was) (h2e : 2 ≤ ev) (rr : Nat) (hrr : gN F 4 (tn (nI pj)) = rr) (f16 : tv16 = if rr < F 24 0 then nI rr else -1005) (f17 : jc < F 24 2 → rr < F 24 0 → (tv17 = 0 ↔ ¬ F 14 jc < F 1 rr)) (f18 : jc < F 24 2 → tv18 = nI (F 14 jc)) : W p l e room_1 s m args below meth c H locs cells slots Q (F0 m 701 ls []) := by
  have C0 := C1.1
  have hx := C0.1
  have hb := C0.2.1
  have hts := C0.2.2.2.2.1
  have hown := C0.2.2.2.1
  have hn9 := hI.n
  have hn3 := hI.1.2.2.2.1
  refine lv_aload_n hx hb dL_law_701 rfl (lv_at hl 4 rfl) ?_
  refine wt_calls hst C1 hI hz hP hS gL_law_X6_calls ⟨(Nat.le_of_ble_eq_true rfl), (Nat.le_of_ble_eq_true rfl)⟩ hl.1 (Nat.le_of_ble_eq_true rfl) dL_law_702 (show _ ≤ 677584 by omega) (show _ ≤ 7061175 by omega) (fun H locs hP hS => ?_)
  refine W.eq (g2 := F0 m 705 ls [.int (nI (F 24 3))]) rfl ?_
  refine lv_istore (lv' := [(19, .int (nI (F 24 3))), (18, .int tv18), (17, .int tv17), (16, .int tv16), (0, .ref (E.2.2 102)), (1, .ref x), (2, .ref ob), (3, .ref op), (4, .int (nI (F 24 0))), (5, .int (nI (F 24 2))), (6, .int (nI (F 24 1))), (7, .int (nI ev)), (8, .int g8), (9, .int (nI jr)), (10, .int (nI jc)), (12, .int (nI pj)), (13, .long was), (15, .int 0)]) hx hb dL_law_705 hl (by decide) rfl (fun ls hl => ?_)
  refine lv_aload_n hx hb dL_law_707 rfl (lv_at hl 5 rfl) ?_
  refine wt_goS (As := [.ref x]) (rest := []) C1 hP hS (k_L_undone l hst E _ _ F x N _ hI hz ) (va_cwS 1 hts gL_law_L_undone rfl rfl rfl (by decide +kernel) ⟨(Nat.le_of_ble_eq_true rfl), (Nat.le_of_ble_eq_true rfl)⟩) rfl rfl hl.1 (Nat.le_of_ble_eq_true rfl) dL_law_708 (show _ ≤ 677584 by omega) (show _ ≤ 7061175 by omega) (fun v w H locs hq hP hS => ?_)
  obtain ⟨rfl, hz⟩ := hq
  refine W.eq (g2 := F0 m 711 ls [.int (nI (ct (fun i => decide (F 20 i ≠ 0)) (F 24 3)))]) rfl ?_
  refine lv_istore (lv' := [(20, .int (nI (ct (fun i => decide (F 20 i ≠ 0)) (F 24 3)))), (19, .int (nI (F 24 3))), (18, .int tv18), (17, .int tv17), (16, .int tv16), (0, .ref (E.2.2 102)), (1, .ref x), (2, .ref ob), (3, .ref op), (4, .int (nI (F 24 0))), (5, .int (nI (F 24 2))), (6, .int (nI (F 24 1))), (7, .int (nI ev)), (8, .int g8), (9, .int (nI jr)), (10, .int (nI jc)), (12, .int (nI pj)), (13, .long was), (15, .int 0)]) hx hb dL_law_711 hl (by decide) rfl (fun ls hl => ?_)
  refine lv_aload_n hx hb dL_law_713 rfl (lv_at hl 6 rfl) ?_
  refine lv_bipush (v := 19) hx hb dL_law_714 (by decide) ?_
  refine lv_iload hx hb dL_law_716 (lv_at hl 15 rfl) ?_
  refine lv_iload hx hb dL_law_718 (lv_at hl 16 rfl) ?_
  refine lv_iload hx hb dL_law_720 (lv_at hl 13 rfl) ?_
  refine lv_bipush (v := 20) hx hb dL_law_722 (by decide) ?_
  refine lv_ishr hx hb dL_law_724 ?_
  refine lv_bipush (v := 101) hx hb dL_law_725 (by decide) ?_
  refine wt_low (v1 := g8 >>> (20 &&& 31)) 101 hst C1 hP hS (by decide) (by omega) (by omega) gL_law_L_low ⟨(Nat.le_of_ble_eq_true rfl), (Nat.le_of_ble_eq_true rfl)⟩ hl.1 (Nat.le_of_ble_eq_true rfl) dL_law_727 (show _ ≤ 677584 by omega) (show _ ≤ 7061175 by omega) (fun j727 H locs hj727 ej727 hP hS => ?_)
  refine W.eq (g2 := F0 m 730 ls [.int (nI j727), .int (nI pj), .int (nI jc), .int 19, .ref x]) rfl ?_
  refine lv_iconst (v := 0) hx hb dL_law_730 (by decide) ?_
  refine wt_ask C1 hP hS (k_L_ask_call l hst E _ _ F x N _ hI hz (by omega) (nI jc) (nI pj) (nI j727) 0) gL_law_L_ask ⟨(Nat.le_of_ble_eq_true rfl), (Nat.le_of_ble_eq_true rfl)⟩ hl.1 (Nat.le_of_ble_eq_true rfl) dL_law_731 (show _ ≤ 677584 by omega) (show _ ≤ 7061175 by omega) (fun w H locs hz hP hS => ?_)
  refine W.eq (g2 := F0 m 734 ls [.int (aE [-1001, -1002] (s_call F (nI jc) (nI pj) (nI j727)))]) rfl ?_
  have hJ := J_call hI (by omega) (nI jc) (nI pj) (nI j727)
  have hrl : rr ≤ F 24 0 := by rw [← hrr]; exact gN_le _ _ _
  rcases ao_call (F := F) (a1 := nI jc) (b1 := nI pj) (c1 := nI j727) with ⟨h0, hv⟩ | ⟨h0, hv, hF⟩
  · obtain ⟨hv1, -, -, h1, h2⟩ := m_call h0
    obtain ⟨hjc9, etn⟩ := vpb_nI_t hv1 (by omega) (by omega)
    rw [etn, hrr] at h1 h2
    generalize tn (nI j727) = key at h1 h2
    rw [h2] at hz hJ
    have hkp := call_kp (F := F) (c := jc) (r := rr) (key := key)
    have h14b := hI.cl hjc9
    have h14c := hI.pl h14b.1
    have h14d := hJ.cl (i := jc) (by rw [hkp.2.2.1]; exact hjc9)
    have h14e := hJ.pl h14d.1
    rcases kind_5 (F := F) (c := jc) (r := rr) (key := key) with hk | hk | hk | hk | hk
    · have hr := kind_n.mp hk
      have e16 : tv16 = -1005 := by rw [f16, if_neg hr]
      subst e16
      refine W.eq (g2 := F0 m 734 ls [.int (nI 110)]) (by rw [hv, h1, hk]) ?_
      refine lv_istore (lv' := [(15, .int (nI 110)), (20, .int (nI (ct (fun i => decide (F 20 i ≠ 0)) (F 24 3)))), (19, .int (nI (F 24 3))), (18, .int tv18), (17, .int tv17), (16, .int (-1005)), (0, .ref (E.2.2 102)), (1, .ref x), (2, .ref ob), (3, .ref op), (4, .int (nI (F 24 0))), (5, .int (nI (F 24 2))), (6, .int (nI (F 24 1))), (7, .int (nI ev)), (8, .int g8), (9, .int (nI jr)), (10, .int (nI jc)), (12, .int (nI pj)), (13, .long was)]) hx hb dL_law_734 hl (by decide) rfl (fun ls hl => ?_)
      refine lv_iload hx hb dL_law_736 (lv_at hl 0 rfl) ?_
      refine lv_if_lt (tgt := 908) hx hb dL_law_738 (by decide) (fun q9 => absurd q9 (by decide)) (fun q9 => ?_)
      refine lv_aload_n hx hb dL_law_741 rfl (lv_at hl 7 rfl) ?_
      refine wt_calls hst C1 hJ hz hP hS gL_law_X6_calls ⟨(Nat.le_of_ble_eq_true rfl), (Nat.le_of_ble_eq_true rfl)⟩ hl.1 (Nat.le_of_ble_eq_true rfl) dL_law_742 (show _ ≤ 677584 by omega) (show _ ≤ 7061175 by omega) (fun H locs hP hS => ?_)
      refine W.eq (g2 := F0 m 745 ls [.int (nI ((f_call F jc rr key) 24 3))]) rfl ?_
      refine lv_iload hx hb dL_law_745 (lv_at hl 2 rfl) ?_
      refine lv_iconst (v := 1) hx hb dL_law_747 (by decide) ?_
      refine lv_iadd hx hb dL_law_748 ?_
      refine lv_icmp_ne (tgt := 906) hx hb dL_law_749 (by decide) (fun q9 => absurd (by rw [call_3, nI_succ]) q9) (fun q9 => ?_)
      refine lv_iload hx hb dL_law_752 (lv_at hl 0 rfl) ?_
      refine lv_bipush (v := 110) hx hb dL_law_754 (by decide) ?_
      refine lv_icmp_ne (tgt := 763) hx hb dL_law_756 (by decide) (fun q9 => absurd rfl q9) (fun q9 => ?_)
      refine lv_iconst (v := 1) hx hb dL_law_759 (by decide) ?_
      refine lv_goto (tgt := 764) hx hb dL_law_760 (by decide) ?_
      refine lv_iload hx hb dL_law_764 (lv_at hl 5 rfl) ?_
      refine lv_if_ge (tgt := 773) hx hb dL_law_766 (by decide) (fun q9 => absurd q9 (by decide)) (fun q9 => ?_)
      refine lv_iconst (v := 1) hx hb dL_law_769 (by decide) ?_
      refine lv_goto (tgt := 774) hx hb dL_law_770 (by decide) ?_
      refine lv_icmp_ne (tgt := 906) hx hb dL_law_774 (by decide) (fun q9 => absurd rfl q9) (fun q9 => ?_)
      refine lv_iload hx hb dL_law_777 (lv_at hl 0 rfl) ?_
      refine lv_bipush (v := 108) hx hb dL_law_779 (by decide) ?_
      refine lv_icmp_ne (tgt := 788) hx hb dL_law_781 (by decide) (fun q9 => ?_) (fun q9 => absurd q9 (by decide))
      refine lv_iconst (v := 0) hx hb dL_law_788 (by decide) ?_
      refine lv_iload hx hb dL_law_789 (lv_at hl 5 rfl) ?_
      refine lv_if_lt (tgt := 803) hx hb dL_law_791 (by decide) (fun q9 => ?_) (fun q9 => absurd (by decide) q9)
      refine lv_iconst (v := 0) hx hb dL_law_803 (by decide) ?_
      refine lv_icmp_ne (tgt := 906) hx hb dL_law_804 (by decide) (fun q9 => absurd rfl q9) (fun q9 => ?_)
      refine lv_iload hx hb dL_law_807 (lv_at hl 0 rfl) ?_
      refine lv_bipush (v := 110) hx hb dL_law_809 (by decide) ?_
      refine lv_icmp_eq (tgt := 821) hx hb dL_law_811 (by decide) (fun q9 => ?_) (fun q9 => absurd rfl q9)
      have e2 := hkp.2.2.1
      refine lv_aload_n hx hb dL_law_821 rfl (lv_at hl 7 rfl) ?_
      refine lv_bipush (v := 15) hx hb dL_law_822 (by decide) ?_
      refine lv_iload hx hb dL_law_824 (lv_at hl 16 rfl) ?_
      refine lv_iconst (v := 0) hx hb dL_law_826 (by decide) ?_
      refine lv_iconst (v := 0) hx hb dL_law_827 (by decide) ?_
      refine lv_iconst (v := 0) hx hb dL_law_828 (by decide) ?_
      refine wt_ask C1 hP hS (k_L_ask_tokens l hst E _ _ (f_call F jc rr key) x (N + 1) _ hJ hz (nI jc) 0 0 0) gL_law_L_ask ⟨(Nat.le_of_ble_eq_true rfl), (Nat.le_of_ble_eq_true rfl)⟩ hl.1 (Nat.le_of_ble_eq_true rfl) dL_law_829 (show _ ≤ 677584 by omega) (show _ ≤ 7061175 by omega) (fun w H locs hz hP hS => ?_)
      refine W.eq (g2 := F0 m 832 ls [.int (aE [-1001] (s_tokens (f_call F jc rr key) (nI jc)))]) rfl ?_
      refine W.eq (g2 := F0 m 832 ls [.int (nI ((f_call F jc rr key) 14 jc))]) (by rw [v_tokens (by omega) (by omega)]) ?_
      refine lv_iload hx hb dL_law_832 (lv_at hl 3 rfl) ?_
      refine lv_icmp_ne (tgt := 906) hx hb dL_law_834 (by decide) (fun q9 => absurd (by rw [f18 hjc9, call_14nl (by omega)]) q9) (fun q9 => ?_)
      refine lv_iload hx hb dL_law_837 (lv_at hl 0 rfl) ?_
      refine lv_bipush (v := 115) hx hb dL_law_839 (by decide) ?_
      refine lv_icmp_eq (tgt := 851) hx hb dL_law_841 (by decide) (fun q9 => absurd q9 (by decide)) (fun q9 => ?_)
      refine lv_iload hx hb dL_law_844 (lv_at hl 0 rfl) ?_
      refine lv_bipush (v := 99) hx hb dL_law_846 (by decide) ?_
      refine lv_icmp_ne (tgt := 867) hx hb dL_law_848 (by decide) (fun q9 => ?_) (fun q9 => absurd q9 (by decide))
      refine lv_iload hx hb dL_law_867 (lv_at hl 0 rfl) ?_
      refine lv_bipush (v := 102) hx hb dL_law_869 (by decide) ?_
      refine lv_icmp_ne (tgt := 890) hx hb dL_law_871 (by decide) (fun q9 => ?_) (fun q9 => absurd q9 (by decide))
      refine lv_iload hx hb dL_law_890 (lv_at hl 0 rfl) ?_
      refine lv_bipush (v := 102) hx hb dL_law_892 (by decide) ?_
      refine lv_icmp_eq (tgt := 908) hx hb dL_law_894 (by decide) (fun q9 => absurd q9 (by decide)) (fun q9 => ?_)
      refine lv_aload_n hx hb dL_law_897 rfl (lv_at hl 7 rfl) ?_
      refine wt_goS (As := [.ref x]) (rest := []) C1 hP hS (k_L_undone l hst E _ _ (f_call F jc rr key) x (N + 1) _ hJ hz ) (va_cwS 1 hts gL_law_L_undone rfl rfl rfl (by decide +kernel) ⟨(Nat.le_of_ble_eq_true rfl), (Nat.le_of_ble_eq_true rfl)⟩) rfl rfl hl.1 (Nat.le_of_ble_eq_true rfl) dL_law_898 (show _ ≤ 677584 by omega) (show _ ≤ 7061175 by omega) (fun v w H locs hq hP hS => ?_)
      obtain ⟨rfl, hz⟩ := hq
      refine W.eq (g2 := F0 m 901 ls [.int (nI (ct (fun i => decide ((f_call F jc rr key) 20 i ≠ 0)) ((f_call F jc rr key) 24 3)))]) rfl ?_
      refine lv_iload hx hb dL_law_901 (lv_at hl 1 rfl) ?_
      refine lv_icmp_eq (tgt := 908) hx hb dL_law_903 (by decide) (fun q9 => ?_) (fun q9 => absurd (by rw [call_und hI (by omega)]) q9)
      refine lv_goto (tgt := 1213) hx hb dL_law_908 (by decide) ?_
      exact K (f_call F jc rr key) (nI 110) w H locs ls _ _ (lwJ_kp hJ (by omega) hN (call_ki hki) hz hob hop hfb hfp hkp) (fun q => absurd q (by decide)) (Nat.le_of_eq hkp.2.1.symm) (fun q => absurd q (by omega)) hP hS (by rw [hkp.1, hkp.2.1, hkp.2.2.1]; exact lv_sub hl [6, 7, 8, 9, 10, 11, 12, 13, 18, 0] rfl) (by omega) (by omega)
    · obtain ⟨hr, hlt⟩ := kind_l.mp hk
      have e16 : tv16 = nI rr := by rw [f16, if_pos hr]
      subst e16
      have n17 : ¬ tv17 = 0 := fun q => (f17 hjc9 hr).mp q hlt
      refine W.eq (g2 := F0 m 734 ls [.int (nI 108)]) (by rw [hv, h1, hk]) ?_
      refine lv_istore (lv' := [(15, .int (nI 108)), (20, .int (nI (ct (fun i => decide (F 20 i ≠ 0)) (F 24 3)))), (19, .int (nI (F 24 3))), (18, .int tv18), (17, .int tv17), (16, .int (nI rr)), (0, .ref (E.2.2 102)), (1, .ref x), (2, .ref ob), (3, .ref op), (4, .int (nI (F 24 0))), (5, .int (nI (F 24 2))), (6, .int (nI (F 24 1))), (7, .int (nI ev)), (8, .int g8), (9, .int (nI jr)), (10, .int (nI jc)), (12, .int (nI pj)), (13, .long was)]) hx hb dL_law_734 hl (by decide) rfl (fun ls hl => ?_)
      refine lv_iload hx hb dL_law_736 (lv_at hl 0 rfl) ?_
      refine lv_if_lt (tgt := 908) hx hb dL_law_738 (by decide) (fun q9 => absurd q9 (by decide)) (fun q9 => ?_)
      refine lv_aload_n hx hb dL_law_741 rfl (lv_at hl 7 rfl) ?_
      refine wt_calls hst C1 hJ hz hP hS gL_law_X6_calls ⟨(Nat.le_of_ble_eq_true rfl), (Nat.le_of_ble_eq_true rfl)⟩ hl.1 (Nat.le_of_ble_eq_true rfl) dL_law_742 (show _ ≤ 677584 by omega) (show _ ≤ 7061175 by omega) (fun H locs hP hS => ?_)
      refine W.eq (g2 := F0 m 745 ls [.int (nI ((f_call F jc rr key) 24 3))]) rfl ?_
      refine lv_iload hx hb dL_law_745 (lv_at hl 2 rfl) ?_
      refine lv_iconst (v := 1) hx hb dL_law_747 (by decide) ?_
      refine lv_iadd hx hb dL_law_748 ?_
      refine lv_icmp_ne (tgt := 906) hx hb dL_law_749 (by decide) (fun q9 => absurd (by rw [call_3, nI_succ]) q9) (fun q9 => ?_)
      refine lv_iload hx hb dL_law_752 (lv_at hl 0 rfl) ?_
      refine lv_bipush (v := 110) hx hb dL_law_754 (by decide) ?_
      refine lv_icmp_ne (tgt := 763) hx hb dL_law_756 (by decide) (fun q9 => ?_) (fun q9 => absurd q9 (by decide))
      refine lv_iconst (v := 0) hx hb dL_law_763 (by decide) ?_
      refine lv_iload hx hb dL_law_764 (lv_at hl 5 rfl) ?_
      refine lv_if_ge (tgt := 773) hx hb dL_law_766 (by decide) (fun q9 => ?_) (fun q9 => absurd (nI_pos' (by omega)) q9)
      refine lv_iconst (v := 0) hx hb dL_law_773 (by decide) ?_
      refine lv_icmp_ne (tgt := 906) hx hb dL_law_774 (by decide) (fun q9 => absurd rfl q9) (fun q9 => ?_)
      refine lv_iload hx hb dL_law_777 (lv_at hl 0 rfl) ?_
      refine lv_bipush (v := 108) hx hb dL_law_779 (by decide) ?_
      refine lv_icmp_ne (tgt := 788) hx hb dL_law_781 (by decide) (fun q9 => absurd rfl q9) (fun q9 => ?_)
      refine lv_iconst (v := 1) hx hb dL_law_784 (by decide) ?_
      refine lv_goto (tgt := 789) hx hb dL_law_785 (by decide) ?_
      refine lv_iload hx hb dL_law_789 (lv_at hl 5 rfl) ?_
      refine lv_if_lt (tgt := 803) hx hb dL_law_791 (by decide) (fun q9 => nI_nonneg (by omega) q9) (fun q9 => ?_)
      refine lv_iload hx hb dL_law_794 (lv_at hl 4 rfl) ?_
      refine lv_if_eq (tgt := 803) hx hb dL_law_796 (by decide) (fun q9 => absurd q9 n17) (fun q9 => ?_)
      refine lv_iconst (v := 1) hx hb dL_law_799 (by decide) ?_
      refine lv_goto (tgt := 804) hx hb dL_law_800 (by decide) ?_
      refine lv_icmp_ne (tgt := 906) hx hb dL_law_804 (by decide) (fun q9 => absurd rfl q9) (fun q9 => ?_)
      refine lv_iload hx hb dL_law_807 (lv_at hl 0 rfl) ?_
      refine lv_bipush (v := 110) hx hb dL_law_809 (by decide) ?_
      refine lv_icmp_eq (tgt := 821) hx hb dL_law_811 (by decide) (fun q9 => absurd q9 (by decide)) (fun q9 => ?_)
      refine lv_iload hx hb dL_law_814 (lv_at hl 0 rfl) ?_
      refine lv_bipush (v := 108) hx hb dL_law_816 (by decide) ?_
      refine lv_icmp_ne (tgt := 837) hx hb dL_law_818 (by decide) (fun q9 => absurd rfl q9) (fun q9 => ?_)
      have e2 := hkp.2.2.1
      refine lv_aload_n hx hb dL_law_821 rfl (lv_at hl 7 rfl) ?_
      refine lv_bipush (v := 15) hx hb dL_law_822 (by decide) ?_
      refine lv_iload hx hb dL_law_824 (lv_at hl 16 rfl) ?_
      refine lv_iconst (v := 0) hx hb dL_law_826 (by decide) ?_
      refine lv_iconst (v := 0) hx hb dL_law_827 (by decide) ?_
      refine lv_iconst (v := 0) hx hb dL_law_828 (by decide) ?_
      refine wt_ask C1 hP hS (k_L_ask_tokens l hst E _ _ (f_call F jc rr key) x (N + 1) _ hJ hz (nI jc) 0 0 0) gL_law_L_ask ⟨(Nat.le_of_ble_eq_true rfl), (Nat.le_of_ble_eq_true rfl)⟩ hl.1 (Nat.le_of_ble_eq_true rfl) dL_law_829 (show _ ≤ 677584 by omega) (show _ ≤ 7061175 by omega) (fun w H locs hz hP hS => ?_)
      refine W.eq (g2 := F0 m 832 ls [.int (aE [-1001] (s_tokens (f_call F jc rr key) (nI jc)))]) rfl ?_
      refine W.eq (g2 := F0 m 832 ls [.int (nI ((f_call F jc rr key) 14 jc))]) (by rw [v_tokens (by omega) (by omega)]) ?_
      refine lv_iload hx hb dL_law_832 (lv_at hl 3 rfl) ?_
      refine lv_icmp_ne (tgt := 906) hx hb dL_law_834 (by decide) (fun q9 => absurd (by rw [f18 hjc9, call_14nl (by omega)]) q9) (fun q9 => ?_)
      refine lv_iload hx hb dL_law_837 (lv_at hl 0 rfl) ?_
      refine lv_bipush (v := 115) hx hb dL_law_839 (by decide) ?_
      refine lv_icmp_eq (tgt := 851) hx hb dL_law_841 (by decide) (fun q9 => absurd q9 (by decide)) (fun q9 => ?_)
      refine lv_iload hx hb dL_law_844 (lv_at hl 0 rfl) ?_
      refine lv_bipush (v := 99) hx hb dL_law_846 (by decide) ?_
      refine lv_icmp_ne (tgt := 867) hx hb dL_law_848 (by decide) (fun q9 => ?_) (fun q9 => absurd q9 (by decide))
      refine lv_iload hx hb dL_law_867 (lv_at hl 0 rfl) ?_
      refine lv_bipush (v := 102) hx hb dL_law_869 (by decide) ?_
      refine lv_icmp_ne (tgt := 890) hx hb dL_law_871 (by decide) (fun q9 => ?_) (fun q9 => absurd q9 (by decide))
      refine lv_iload hx hb dL_law_890 (lv_at hl 0 rfl) ?_
      refine lv_bipush (v := 102) hx hb dL_law_892 (by decide) ?_
      refine lv_icmp_eq (tgt := 908) hx hb dL_law_894 (by decide) (fun q9 => absurd q9 (by decide)) (fun q9 => ?_)
      refine lv_aload_n hx hb dL_law_897 rfl (lv_at hl 7 rfl) ?_
      refine wt_goS (As := [.ref x]) (rest := []) C1 hP hS (k_L_undone l hst E _ _ (f_call F jc rr key) x (N + 1) _ hJ hz ) (va_cwS 1 hts gL_law_L_undone rfl rfl rfl (by decide +kernel) ⟨(Nat.le_of_ble_eq_true rfl), (Nat.le_of_ble_eq_true rfl)⟩) rfl rfl hl.1 (Nat.le_of_ble_eq_true rfl) dL_law_898 (show _ ≤ 677584 by omega) (show _ ≤ 7061175 by omega) (fun v w H locs hq hP hS => ?_)
      obtain ⟨rfl, hz⟩ := hq
      refine W.eq (g2 := F0 m 901 ls [.int (nI (ct (fun i => decide ((f_call F jc rr key) 20 i ≠ 0)) ((f_call F jc rr key) 24 3)))]) rfl ?_
      refine lv_iload hx hb dL_law_901 (lv_at hl 1 rfl) ?_
      refine lv_icmp_eq (tgt := 908) hx hb dL_law_903 (by decide) (fun q9 => ?_) (fun q9 => absurd (by rw [call_und hI (by omega)]) q9)
      refine lv_goto (tgt := 1213) hx hb dL_law_908 (by decide) ?_
      exact K (f_call F jc rr key) (nI 108) w H locs ls _ _ (lwJ_kp hJ (by omega) hN (call_ki hki) hz hob hop hfb hfp hkp) (fun q => absurd q (by decide)) (Nat.le_of_eq hkp.2.1.symm) (fun q => absurd q (by omega)) hP hS (by rw [hkp.1, hkp.2.1, hkp.2.2.1]; exact lv_sub hl [6, 7, 8, 9, 10, 11, 12, 13, 18, 0] rfl) (by omega) (by omega)
    · obtain ⟨hr, hlt⟩ := kind_scf (F := F) (c := jc) (r := rr) (key := key) (by omega)
      have e16 : tv16 = nI rr := by rw [f16, if_pos hr]
      subst e16
      have e17 : tv17 = 0 := (f17 hjc9 hr).mpr (Nat.not_lt.mpr hlt)
      subst e17
      have hro := hI.ro hr
      refine W.eq (g2 := F0 m 734 ls [.int (nI 115)]) (by rw [hv, h1, hk]) ?_
      refine lv_istore (lv' := [(15, .int (nI 115)), (20, .int (nI (ct (fun i => decide (F 20 i ≠ 0)) (F 24 3)))), (19, .int (nI (F 24 3))), (18, .int tv18), (17, .int 0), (16, .int (nI rr)), (0, .ref (E.2.2 102)), (1, .ref x), (2, .ref ob), (3, .ref op), (4, .int (nI (F 24 0))), (5, .int (nI (F 24 2))), (6, .int (nI (F 24 1))), (7, .int (nI ev)), (8, .int g8), (9, .int (nI jr)), (10, .int (nI jc)), (12, .int (nI pj)), (13, .long was)]) hx hb dL_law_734 hl (by decide) rfl (fun ls hl => ?_)
      refine lv_iload hx hb dL_law_736 (lv_at hl 0 rfl) ?_
      refine lv_if_lt (tgt := 908) hx hb dL_law_738 (by decide) (fun q9 => absurd q9 (by decide)) (fun q9 => ?_)
      refine lv_aload_n hx hb dL_law_741 rfl (lv_at hl 7 rfl) ?_
      refine wt_calls hst C1 hJ hz hP hS gL_law_X6_calls ⟨(Nat.le_of_ble_eq_true rfl), (Nat.le_of_ble_eq_true rfl)⟩ hl.1 (Nat.le_of_ble_eq_true rfl) dL_law_742 (show _ ≤ 677584 by omega) (show _ ≤ 7061175 by omega) (fun H locs hP hS => ?_)
      refine W.eq (g2 := F0 m 745 ls [.int (nI ((f_call F jc rr key) 24 3))]) rfl ?_
      refine lv_iload hx hb dL_law_745 (lv_at hl 2 rfl) ?_
      refine lv_iconst (v := 1) hx hb dL_law_747 (by decide) ?_
      refine lv_iadd hx hb dL_law_748 ?_
      refine lv_icmp_ne (tgt := 906) hx hb dL_law_749 (by decide) (fun q9 => absurd (by rw [call_3, nI_succ]) q9) (fun q9 => ?_)
      refine lv_iload hx hb dL_law_752 (lv_at hl 0 rfl) ?_
      refine lv_bipush (v := 110) hx hb dL_law_754 (by decide) ?_
      refine lv_icmp_ne (tgt := 763) hx hb dL_law_756 (by decide) (fun q9 => ?_) (fun q9 => absurd q9 (by decide))
      refine lv_iconst (v := 0) hx hb dL_law_763 (by decide) ?_
      refine lv_iload hx hb dL_law_764 (lv_at hl 5 rfl) ?_
      refine lv_if_ge (tgt := 773) hx hb dL_law_766 (by decide) (fun q9 => ?_) (fun q9 => absurd (nI_pos' (by omega)) q9)
      refine lv_iconst (v := 0) hx hb dL_law_773 (by decide) ?_
      refine lv_icmp_ne (tgt := 906) hx hb dL_law_774 (by decide) (fun q9 => absurd rfl q9) (fun q9 => ?_)
      refine lv_iload hx hb dL_law_777 (lv_at hl 0 rfl) ?_
      refine lv_bipush (v := 108) hx hb dL_law_779 (by decide) ?_
      refine lv_icmp_ne (tgt := 788) hx hb dL_law_781 (by decide) (fun q9 => ?_) (fun q9 => absurd q9 (by decide))
      refine lv_iconst (v := 0) hx hb dL_law_788 (by decide) ?_
      refine lv_iload hx hb dL_law_789 (lv_at hl 5 rfl) ?_
      refine lv_if_lt (tgt := 803) hx hb dL_law_791 (by decide) (fun q9 => nI_nonneg (by omega) q9) (fun q9 => ?_)
      refine lv_iload hx hb dL_law_794 (lv_at hl 4 rfl) ?_
      refine lv_if_eq (tgt := 803) hx hb dL_law_796 (by decide) (fun q9 => ?_) (fun q9 => absurd rfl q9)
      refine lv_iconst (v := 0) hx hb dL_law_803 (by decide) ?_
      refine lv_icmp_ne (tgt := 906) hx hb dL_law_804 (by decide) (fun q9 => absurd rfl q9) (fun q9 => ?_)
      refine lv_iload hx hb dL_law_807 (lv_at hl 0 rfl) ?_
      refine lv_bipush (v := 110) hx hb dL_law_809 (by decide) ?_
      refine lv_icmp_eq (tgt := 821) hx hb dL_law_811 (by decide) (fun q9 => absurd q9 (by decide)) (fun q9 => ?_)
      refine lv_iload hx hb dL_law_814 (lv_at hl 0 rfl) ?_
      refine lv_bipush (v := 108) hx hb dL_law_816 (by decide) ?_
      refine lv_icmp_ne (tgt := 837) hx hb dL_law_818 (by decide) (fun q9 => ?_) (fun q9 => absurd q9 (by decide))
      have e2 := hkp.2.2.1
      refine lv_iload hx hb dL_law_837 (lv_at hl 0 rfl) ?_
      refine lv_bipush (v := 115) hx hb dL_law_839 (by decide) ?_
      refine lv_icmp_eq (tgt := 851) hx hb dL_law_841 (by decide) (fun q9 => ?_) (fun q9 => absurd rfl q9)
      refine lv_aload_n hx hb dL_law_851 rfl (lv_at hl 7 rfl) ?_
      refine lv_bipush (v := 15) hx hb dL_law_852 (by decide) ?_
      refine lv_iload hx hb dL_law_854 (lv_at hl 16 rfl) ?_
      refine lv_iconst (v := 0) hx hb dL_law_856 (by decide) ?_
      refine lv_iconst (v := 0) hx hb dL_law_857 (by decide) ?_
      refine lv_iconst (v := 0) hx hb dL_law_858 (by decide) ?_
      refine wt_ask C1 hP hS (k_L_ask_tokens l hst E _ _ (f_call F jc rr key) x (N + 1) _ hJ hz (nI jc) 0 0 0) gL_law_L_ask ⟨(Nat.le_of_ble_eq_true rfl), (Nat.le_of_ble_eq_true rfl)⟩ hl.1 (Nat.le_of_ble_eq_true rfl) dL_law_859 (show _ ≤ 677584 by omega) (show _ ≤ 7061175 by omega) (fun w H locs hz hP hS => ?_)
      refine W.eq (g2 := F0 m 862 ls [.int (aE [-1001] (s_tokens (f_call F jc rr key) (nI jc)))]) rfl ?_
      refine W.eq (g2 := F0 m 862 ls [.int (nI ((f_call F jc rr key) 14 jc))]) (by rw [v_tokens (by omega) (by omega)]) ?_
      refine lv_iload hx hb dL_law_862 (lv_at hl 3 rfl) ?_
      refine lv_icmp_ge (tgt := 906) hx hb dL_law_864 (by decide) (fun q9 => absurd q9 (by rw [f18 hjc9, call_14sc (by omega)]; exact nI_ge (by omega) (by omega))) (fun q9 => ?_)
      refine lv_iload hx hb dL_law_867 (lv_at hl 0 rfl) ?_
      refine lv_bipush (v := 102) hx hb dL_law_869 (by decide) ?_
      refine lv_icmp_ne (tgt := 890) hx hb dL_law_871 (by decide) (fun q9 => ?_) (fun q9 => absurd q9 (by decide))
      refine lv_iload hx hb dL_law_890 (lv_at hl 0 rfl) ?_
      refine lv_bipush (v := 102) hx hb dL_law_892 (by decide) ?_
      refine lv_icmp_eq (tgt := 908) hx hb dL_law_894 (by decide) (fun q9 => absurd q9 (by decide)) (fun q9 => ?_)
      refine lv_aload_n hx hb dL_law_897 rfl (lv_at hl 7 rfl) ?_
      refine wt_goS (As := [.ref x]) (rest := []) C1 hP hS (k_L_undone l hst E _ _ (f_call F jc rr key) x (N + 1) _ hJ hz ) (va_cwS 1 hts gL_law_L_undone rfl rfl rfl (by decide +kernel) ⟨(Nat.le_of_ble_eq_true rfl), (Nat.le_of_ble_eq_true rfl)⟩) rfl rfl hl.1 (Nat.le_of_ble_eq_true rfl) dL_law_898 (show _ ≤ 677584 by omega) (show _ ≤ 7061175 by omega) (fun v w H locs hq hP hS => ?_)
      obtain ⟨rfl, hz⟩ := hq
      refine W.eq (g2 := F0 m 901 ls [.int (nI (ct (fun i => decide ((f_call F jc rr key) 20 i ≠ 0)) ((f_call F jc rr key) 24 3)))]) rfl ?_
      refine lv_iload hx hb dL_law_901 (lv_at hl 1 rfl) ?_
      refine lv_icmp_eq (tgt := 908) hx hb dL_law_903 (by decide) (fun q9 => ?_) (fun q9 => absurd (by rw [call_und hI (by omega)]) q9)
      refine lv_goto (tgt := 1213) hx hb dL_law_908 (by decide) ?_
      exact K (f_call F jc rr key) (nI 115) w H locs ls _ _ (lwJ_kp hJ (by omega) hN (call_ki hki) hz hob hop hfb hfp hkp) (fun q => absurd q (by decide)) (Nat.le_of_eq hkp.2.1.symm) (fun q => absurd q (by omega)) hP hS (by rw [hkp.1, hkp.2.1, hkp.2.2.1]; exact lv_sub hl [6, 7, 8, 9, 10, 11, 12, 13, 18, 0] rfl) (by omega) (by omega)
    · obtain ⟨hr, hlt⟩ := kind_scf (F := F) (c := jc) (r := rr) (key := key) (by omega)
      have e16 : tv16 = nI rr := by rw [f16, if_pos hr]
      subst e16
      have e17 : tv17 = 0 := (f17 hjc9 hr).mpr (Nat.not_lt.mpr hlt)
      subst e17
      have hro := hI.ro hr
      refine W.eq (g2 := F0 m 734 ls [.int (nI 99)]) (by rw [hv, h1, hk]) ?_
      refine lv_istore (lv' := [(15, .int (nI 99)), (20, .int (nI (ct (fun i => decide (F 20 i ≠ 0)) (F 24 3)))), (19, .int (nI (F 24 3))), (18, .int tv18), (17, .int 0), (16, .int (nI rr)), (0, .ref (E.2.2 102)), (1, .ref x), (2, .ref ob), (3, .ref op), (4, .int (nI (F 24 0))), (5, .int (nI (F 24 2))), (6, .int (nI (F 24 1))), (7, .int (nI ev)), (8, .int g8), (9, .int (nI jr)), (10, .int (nI jc)), (12, .int (nI pj)), (13, .long was)]) hx hb dL_law_734 hl (by decide) rfl (fun ls hl => ?_)
      refine lv_iload hx hb dL_law_736 (lv_at hl 0 rfl) ?_
      refine lv_if_lt (tgt := 908) hx hb dL_law_738 (by decide) (fun q9 => absurd q9 (by decide)) (fun q9 => ?_)
      refine lv_aload_n hx hb dL_law_741 rfl (lv_at hl 7 rfl) ?_
      refine wt_calls hst C1 hJ hz hP hS gL_law_X6_calls ⟨(Nat.le_of_ble_eq_true rfl), (Nat.le_of_ble_eq_true rfl)⟩ hl.1 (Nat.le_of_ble_eq_true rfl) dL_law_742 (show _ ≤ 677584 by omega) (show _ ≤ 7061175 by omega) (fun H locs hP hS => ?_)
      refine W.eq (g2 := F0 m 745 ls [.int (nI ((f_call F jc rr key) 24 3))]) rfl ?_
      refine lv_iload hx hb dL_law_745 (lv_at hl 2 rfl) ?_
      refine lv_iconst (v := 1) hx hb dL_law_747 (by decide) ?_
      refine lv_iadd hx hb dL_law_748 ?_
      refine lv_icmp_ne (tgt := 906) hx hb dL_law_749 (by decide) (fun q9 => absurd (by rw [call_3, nI_succ]) q9) (fun q9 => ?_)
      refine lv_iload hx hb dL_law_752 (lv_at hl 0 rfl) ?_
      refine lv_bipush (v := 110) hx hb dL_law_754 (by decide) ?_
      refine lv_icmp_ne (tgt := 763) hx hb dL_law_756 (by decide) (fun q9 => ?_) (fun q9 => absurd q9 (by decide))
      refine lv_iconst (v := 0) hx hb dL_law_763 (by decide) ?_
      refine lv_iload hx hb dL_law_764 (lv_at hl 5 rfl) ?_
      refine lv_if_ge (tgt := 773) hx hb dL_law_766 (by decide) (fun q9 => ?_) (fun q9 => absurd (nI_pos' (by omega)) q9)
      refine lv_iconst (v := 0) hx hb dL_law_773 (by decide) ?_
      refine lv_icmp_ne (tgt := 906) hx hb dL_law_774 (by decide) (fun q9 => absurd rfl q9) (fun q9 => ?_)
      refine lv_iload hx hb dL_law_777 (lv_at hl 0 rfl) ?_
      refine lv_bipush (v := 108) hx hb dL_law_779 (by decide) ?_
      refine lv_icmp_ne (tgt := 788) hx hb dL_law_781 (by decide) (fun q9 => ?_) (fun q9 => absurd q9 (by decide))
      refine lv_iconst (v := 0) hx hb dL_law_788 (by decide) ?_
      refine lv_iload hx hb dL_law_789 (lv_at hl 5 rfl) ?_
      refine lv_if_lt (tgt := 803) hx hb dL_law_791 (by decide) (fun q9 => nI_nonneg (by omega) q9) (fun q9 => ?_)
      refine lv_iload hx hb dL_law_794 (lv_at hl 4 rfl) ?_
      refine lv_if_eq (tgt := 803) hx hb dL_law_796 (by decide) (fun q9 => ?_) (fun q9 => absurd rfl q9)
      refine lv_iconst (v := 0) hx hb dL_law_803 (by decide) ?_
      refine lv_icmp_ne (tgt := 906) hx hb dL_law_804 (by decide) (fun q9 => absurd rfl q9) (fun q9 => ?_)
      refine lv_iload hx hb dL_law_807 (lv_at hl 0 rfl) ?_
      refine lv_bipush (v := 110) hx hb dL_law_809 (by decide) ?_
      refine lv_icmp_eq (tgt := 821) hx hb dL_law_811 (by decide) (fun q9 => absurd q9 (by decide)) (fun q9 => ?_)
      refine lv_iload hx hb dL_law_814 (lv_at hl 0 rfl) ?_
      refine lv_bipush (v := 108) hx hb dL_law_816 (by decide) ?_
      refine lv_icmp_ne (tgt := 837) hx hb dL_law_818 (by decide) (fun q9 => ?_) (fun q9 => absurd q9 (by decide))
      have e2 := hkp.2.2.1
      refine lv_iload hx hb dL_law_837 (lv_at hl 0 rfl) ?_
      refine lv_bipush (v := 115) hx hb dL_law_839 (by decide) ?_
      refine lv_icmp_eq (tgt := 851) hx hb dL_law_841 (by decide) (fun q9 => absurd q9 (by decide)) (fun q9 => ?_)
      refine lv_iload hx hb dL_law_844 (lv_at hl 0 rfl) ?_
      refine lv_bipush (v := 99) hx hb dL_law_846 (by decide) ?_
      refine lv_icmp_ne (tgt := 867) hx hb dL_law_848 (by decide) (fun q9 => absurd rfl q9) (fun q9 => ?_)
      refine lv_aload_n hx hb dL_law_851 rfl (lv_at hl 7 rfl) ?_
      refine lv_bipush (v := 15) hx hb dL_law_852 (by decide) ?_
      refine lv_iload hx hb dL_law_854 (lv_at hl 16 rfl) ?_
      refine lv_iconst (v := 0) hx hb dL_law_856 (by decide) ?_
      refine lv_iconst (v := 0) hx hb dL_law_857 (by decide) ?_
      refine lv_iconst (v := 0) hx hb dL_law_858 (by decide) ?_
      refine wt_ask C1 hP hS (k_L_ask_tokens l hst E _ _ (f_call F jc rr key) x (N + 1) _ hJ hz (nI jc) 0 0 0) gL_law_L_ask ⟨(Nat.le_of_ble_eq_true rfl), (Nat.le_of_ble_eq_true rfl)⟩ hl.1 (Nat.le_of_ble_eq_true rfl) dL_law_859 (show _ ≤ 677584 by omega) (show _ ≤ 7061175 by omega) (fun w H locs hz hP hS => ?_)
      refine W.eq (g2 := F0 m 862 ls [.int (aE [-1001] (s_tokens (f_call F jc rr key) (nI jc)))]) rfl ?_
      refine W.eq (g2 := F0 m 862 ls [.int (nI ((f_call F jc rr key) 14 jc))]) (by rw [v_tokens (by omega) (by omega)]) ?_
      refine lv_iload hx hb dL_law_862 (lv_at hl 3 rfl) ?_
      refine lv_icmp_ge (tgt := 906) hx hb dL_law_864 (by decide) (fun q9 => absurd q9 (by rw [f18 hjc9, call_14sc (by omega)]; exact nI_ge (by omega) (by omega))) (fun q9 => ?_)
      refine lv_iload hx hb dL_law_867 (lv_at hl 0 rfl) ?_
      refine lv_bipush (v := 102) hx hb dL_law_869 (by decide) ?_
      refine lv_icmp_ne (tgt := 890) hx hb dL_law_871 (by decide) (fun q9 => ?_) (fun q9 => absurd q9 (by decide))
      refine lv_iload hx hb dL_law_890 (lv_at hl 0 rfl) ?_
      refine lv_bipush (v := 102) hx hb dL_law_892 (by decide) ?_
      refine lv_icmp_eq (tgt := 908) hx hb dL_law_894 (by decide) (fun q9 => absurd q9 (by decide)) (fun q9 => ?_)
      refine lv_aload_n hx hb dL_law_897 rfl (lv_at hl 7 rfl) ?_
      refine wt_goS (As := [.ref x]) (rest := []) C1 hP hS (k_L_undone l hst E _ _ (f_call F jc rr key) x (N + 1) _ hJ hz ) (va_cwS 1 hts gL_law_L_undone rfl rfl rfl (by decide +kernel) ⟨(Nat.le_of_ble_eq_true rfl), (Nat.le_of_ble_eq_true rfl)⟩) rfl rfl hl.1 (Nat.le_of_ble_eq_true rfl) dL_law_898 (show _ ≤ 677584 by omega) (show _ ≤ 7061175 by omega) (fun v w H locs hq hP hS => ?_)
      obtain ⟨rfl, hz⟩ := hq
      refine W.eq (g2 := F0 m 901 ls [.int (nI (ct (fun i => decide ((f_call F jc rr key) 20 i ≠ 0)) ((f_call F jc rr key) 24 3)))]) rfl ?_
      refine lv_iload hx hb dL_law_901 (lv_at hl 1 rfl) ?_
      refine lv_icmp_eq (tgt := 908) hx hb dL_law_903 (by decide) (fun q9 => ?_) (fun q9 => absurd (by rw [call_und hI (by omega)]) q9)
      refine lv_goto (tgt := 1213) hx hb dL_law_908 (by decide) ?_
      exact K (f_call F jc rr key) (nI 99) w H locs ls _ _ (lwJ_kp hJ (by omega) hN (call_ki hki) hz hob hop hfb hfp hkp) (fun q => absurd q (by decide)) (Nat.le_of_eq hkp.2.1.symm) (fun q => absurd q (by omega)) hP hS (by rw [hkp.1, hkp.2.1, hkp.2.2.1]; exact lv_sub hl [6, 7, 8, 9, 10, 11, 12, 13, 18, 0] rfl) (by omega) (by omega)
    · obtain ⟨hr, hlt⟩ := kind_scf (F := F) (c := jc) (r := rr) (key := key) (by omega)
      have e16 : tv16 = nI rr := by rw [f16, if_pos hr]
      subst e16
      have e17 : tv17 = 0 := (f17 hjc9 hr).mpr (Nat.not_lt.mpr hlt)
      subst e17
      have hro := hI.ro hr
      refine W.eq (g2 := F0 m 734 ls [.int (nI 102)]) (by rw [hv, h1, hk]) ?_
      refine lv_istore (lv' := [(15, .int (nI 102)), (20, .int (nI (ct (fun i => decide (F 20 i ≠ 0)) (F 24 3)))), (19, .int (nI (F 24 3))), (18, .int tv18), (17, .int 0), (16, .int (nI rr)), (0, .ref (E.2.2 102)), (1, .ref x), (2, .ref ob), (3, .ref op), (4, .int (nI (F 24 0))), (5, .int (nI (F 24 2))), (6, .int (nI (F 24 1))), (7, .int (nI ev)), (8, .int g8), (9, .int (nI jr)), (10, .int (nI jc)), (12, .int (nI pj)), (13, .long was)]) hx hb dL_law_734 hl (by decide) rfl (fun ls hl => ?_)
      refine lv_iload hx hb dL_law_736 (lv_at hl 0 rfl) ?_
      refine lv_if_lt (tgt := 908) hx hb dL_law_738 (by decide) (fun q9 => absurd q9 (by decide)) (fun q9 => ?_)
      refine lv_aload_n hx hb dL_law_741 rfl (lv_at hl 7 rfl) ?_
      refine wt_calls hst C1 hJ hz hP hS gL_law_X6_calls ⟨(Nat.le_of_ble_eq_true rfl), (Nat.le_of_ble_eq_true rfl)⟩ hl.1 (Nat.le_of_ble_eq_true rfl) dL_law_742 (show _ ≤ 677584 by omega) (show _ ≤ 7061175 by omega) (fun H locs hP hS => ?_)
      refine W.eq (g2 := F0 m 745 ls [.int (nI ((f_call F jc rr key) 24 3))]) rfl ?_
      refine lv_iload hx hb dL_law_745 (lv_at hl 2 rfl) ?_
      refine lv_iconst (v := 1) hx hb dL_law_747 (by decide) ?_
      refine lv_iadd hx hb dL_law_748 ?_
      refine lv_icmp_ne (tgt := 906) hx hb dL_law_749 (by decide) (fun q9 => absurd (by rw [call_3, nI_succ]) q9) (fun q9 => ?_)
      refine lv_iload hx hb dL_law_752 (lv_at hl 0 rfl) ?_
      refine lv_bipush (v := 110) hx hb dL_law_754 (by decide) ?_
      refine lv_icmp_ne (tgt := 763) hx hb dL_law_756 (by decide) (fun q9 => ?_) (fun q9 => absurd q9 (by decide))
      refine lv_iconst (v := 0) hx hb dL_law_763 (by decide) ?_
      refine lv_iload hx hb dL_law_764 (lv_at hl 5 rfl) ?_
      refine lv_if_ge (tgt := 773) hx hb dL_law_766 (by decide) (fun q9 => ?_) (fun q9 => absurd (nI_pos' (by omega)) q9)
      refine lv_iconst (v := 0) hx hb dL_law_773 (by decide) ?_
      refine lv_icmp_ne (tgt := 906) hx hb dL_law_774 (by decide) (fun q9 => absurd rfl q9) (fun q9 => ?_)
      refine lv_iload hx hb dL_law_777 (lv_at hl 0 rfl) ?_
      refine lv_bipush (v := 108) hx hb dL_law_779 (by decide) ?_
      refine lv_icmp_ne (tgt := 788) hx hb dL_law_781 (by decide) (fun q9 => ?_) (fun q9 => absurd q9 (by decide))
      refine lv_iconst (v := 0) hx hb dL_law_788 (by decide) ?_
      refine lv_iload hx hb dL_law_789 (lv_at hl 5 rfl) ?_
      refine lv_if_lt (tgt := 803) hx hb dL_law_791 (by decide) (fun q9 => nI_nonneg (by omega) q9) (fun q9 => ?_)
      refine lv_iload hx hb dL_law_794 (lv_at hl 4 rfl) ?_
      refine lv_if_eq (tgt := 803) hx hb dL_law_796 (by decide) (fun q9 => ?_) (fun q9 => absurd rfl q9)
      refine lv_iconst (v := 0) hx hb dL_law_803 (by decide) ?_
      refine lv_icmp_ne (tgt := 906) hx hb dL_law_804 (by decide) (fun q9 => absurd rfl q9) (fun q9 => ?_)
      refine lv_iload hx hb dL_law_807 (lv_at hl 0 rfl) ?_
      refine lv_bipush (v := 110) hx hb dL_law_809 (by decide) ?_
      refine lv_icmp_eq (tgt := 821) hx hb dL_law_811 (by decide) (fun q9 => absurd q9 (by decide)) (fun q9 => ?_)
      refine lv_iload hx hb dL_law_814 (lv_at hl 0 rfl) ?_
      refine lv_bipush (v := 108) hx hb dL_law_816 (by decide) ?_
      refine lv_icmp_ne (tgt := 837) hx hb dL_law_818 (by decide) (fun q9 => ?_) (fun q9 => absurd q9 (by decide))
      have e2 := hkp.2.2.1
      refine lv_iload hx hb dL_law_837 (lv_at hl 0 rfl) ?_
      refine lv_bipush (v := 115) hx hb dL_law_839 (by decide) ?_
      refine lv_icmp_eq (tgt := 851) hx hb dL_law_841 (by decide) (fun q9 => absurd q9 (by decide)) (fun q9 => ?_)
      refine lv_iload hx hb dL_law_844 (lv_at hl 0 rfl) ?_
      refine lv_bipush (v := 99) hx hb dL_law_846 (by decide) ?_
      refine lv_icmp_ne (tgt := 867) hx hb dL_law_848 (by decide) (fun q9 => ?_) (fun q9 => absurd q9 (by decide))
      refine lv_iload hx hb dL_law_867 (lv_at hl 0 rfl) ?_
      refine lv_bipush (v := 102) hx hb dL_law_869 (by decide) ?_
      refine lv_icmp_ne (tgt := 890) hx hb dL_law_871 (by decide) (fun q9 => absurd rfl q9) (fun q9 => ?_)
      refine lv_aload_n hx hb dL_law_874 rfl (lv_at hl 7 rfl) ?_
      refine lv_bipush (v := 15) hx hb dL_law_875 (by decide) ?_
      refine lv_iload hx hb dL_law_877 (lv_at hl 16 rfl) ?_
      refine lv_iconst (v := 0) hx hb dL_law_879 (by decide) ?_
      refine lv_iconst (v := 0) hx hb dL_law_880 (by decide) ?_
      refine lv_iconst (v := 0) hx hb dL_law_881 (by decide) ?_
      refine wt_ask C1 hP hS (k_L_ask_tokens l hst E _ _ (f_call F jc rr key) x (N + 1) _ hJ hz (nI jc) 0 0 0) gL_law_L_ask ⟨(Nat.le_of_ble_eq_true rfl), (Nat.le_of_ble_eq_true rfl)⟩ hl.1 (Nat.le_of_ble_eq_true rfl) dL_law_882 (show _ ≤ 677584 by omega) (show _ ≤ 7061175 by omega) (fun w H locs hz hP hS => ?_)
      refine W.eq (g2 := F0 m 885 ls [.int (aE [-1001] (s_tokens (f_call F jc rr key) (nI jc)))]) rfl ?_
      refine W.eq (g2 := F0 m 885 ls [.int (nI ((f_call F jc rr key) 14 jc))]) (by rw [v_tokens (by omega) (by omega)]) ?_
      refine lv_iload hx hb dL_law_885 (lv_at hl 3 rfl) ?_
      refine lv_icmp_lt (tgt := 906) hx hb dL_law_887 (by decide) (fun q9 => absurd q9 (by rw [f18 hjc9]; exact nI_nlt (call_14f hI hjc9 hk) (by omega))) (fun q9 => ?_)
      refine lv_iload hx hb dL_law_890 (lv_at hl 0 rfl) ?_
      refine lv_bipush (v := 102) hx hb dL_law_892 (by decide) ?_
      refine lv_icmp_eq (tgt := 908) hx hb dL_law_894 (by decide) (fun q9 => ?_) (fun q9 => absurd rfl q9)
      refine lv_goto (tgt := 1213) hx hb dL_law_908 (by decide) ?_
      exact K (f_call F jc rr key) (nI 102) w H locs ls _ _ (lwJ_kp hJ (by omega) hN (call_ki hki) hz hob hop hfb hfp hkp) (fun q => absurd q (by decide)) (Nat.le_of_eq hkp.2.1.symm) (fun q => absurd q (by omega)) hP hS (by rw [hkp.1, hkp.2.1, hkp.2.2.1]; exact lv_sub hl [6, 7, 8, 9, 10, 11, 12, 13, 18, 0] rfl) (by omega) (by omega)
  · rw [hF] at hz hJ
    refine lv_istore (lv' := [(15, .int (aE [-1001, -1002] (s_call F (nI jc) (nI pj) (nI j727)))), (20, .int (nI (ct (fun i => decide (F 20 i ≠ 0)) (F 24 3)))), (19, .int (nI (F 24 3))), (18, .int tv18), (17, .int tv17), (16, .int tv16), (0, .ref (E.2.2 102)), (1, .ref x), (2, .ref ob), (3, .ref op), (4, .int (nI (F 24 0))), (5, .int (nI (F 24 2))), (6, .int (nI (F 24 1))), (7, .int (nI ev)), (8, .int g8), (9, .int (nI jr)), (10, .int (nI jc)), (12, .int (nI pj)), (13, .long was)]) hx hb dL_law_734 hl (by decide) rfl (fun ls hl => ?_)
    refine lv_iload hx hb dL_law_736 (lv_at hl 0 rfl) ?_
    refine lv_if_lt (tgt := 908) hx hb dL_law_738 (by decide) (fun q9 => ?_) (fun q9 => absurd hv q9)
    refine lv_goto (tgt := 1213) hx hb dL_law_908 (by decide) ?_
    exact K F (aE [-1001, -1002] (s_call F (nI jc) (nI pj) (nI j727))) w H locs ls _ _ (lwJ_kp hJ (by omega) hN hki hz hob hop hfb hfp kpF.rf) (fun _ => rfl) (Nat.le_refl _) (fun q => absurd q (by omega)) hP hS (lv_sub hl [6, 7, 8, 9, 10, 11, 12, 13, 18, 0] rfl) (by omega) (by omega)
set_option maxHeartbeats 4000000 in
set_option maxRecDepth 100000 in
theorem lc_call (hst : l.stackTraces = false) (C1 : wCt p s m args meth c RL cL_law 21 wsL_law E A) (hI : wInv F N) (hki : wKi F) (hz : zK E F x w0 w) (hob : w0 ob = some (.inl (E.2.1 0, 3, .inl fb))) (hop : w0 op = some (.inl (E.2.1 0, 6, .inl fp))) (hfb : ∀ i, i < F 24 1 → fb i = nI (F 11 i)) (hfp : ∀ i, i < F 24 2 → fp i = nI (F 13 i)) (hP : wP E.1 A w H) (hS : va_S A s.heap H locs) (hl : lv_has ls 21 [(0, .ref (E.2.2 102)), (1, .ref x), (2, .ref ob), (3, .ref op), (4, .int (nI (F 24 0))), (5, .int (nI (F 24 2))), (6, .int (nI (F 24 1))), (7, .int (nI ev)), (8, .int g8), (9, .int (nI jr)), (10, .int (nI jc)), (12, .int (nI pj)), (13, .long was), (15, .int 0)]) (hc : cells ≤ cB + 1644) (hs : slots ≤ sB + 9864) (hcB : cB + 12000 ≤ 677584) (hsB : sB + 120000 ≤ 7061175) (hN : N + 8 ≤ 512) (hev : ev < 56) (hjr : jr ≤ F 24 0) (hjc : jc ≤ F 24 2) (hpj : pathB (nI pj) = true) (hpn : pj < 100) (K : lwK p l e s m args below meth c Q A E x ob op F N ev cB sB was) (h2e : 2 ≤ ev) : W p l e room_1 s m args below meth c H locs cells slots Q (F0 m 635 ls []) :=
  lc_call1 hst C1 hI hki hz hob hop hfb hfp hP hS hl hc hs hcB hsB hN hev hjr hjc hpj hpn _ rfl (fun tv16 tv17 tv18 w H locs ls cells slots f16 f17 f18 hz hP hS hl hc hs => lc_call2 hst C1 hI hki hz hob hop hfb hfp hP hS hl hc hs hcB hsB hN hev hjr hjc hpj hpn K h2e _ rfl f16 f17 f18)
end LCALL
