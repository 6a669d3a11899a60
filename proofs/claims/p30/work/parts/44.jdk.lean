/-! "nlscf".charAt(k), by the JDK's own code. -/
def sB (i : Nat) : Int32 := [110, 108, 115, 99, 102].getD i 0
theorem sB_nar {i : Nat} (hi : i < 5) : narrow .char (.int (sB i)) = .int (sB i) ∧ ((sB i).toUInt32 % 65536).toInt32 = sB i ∧ ((sB i &&& 255).toUInt32 % 65536).toInt32 = sB i := by
  rcases (show i = 0 ∨ i = 1 ∨ i = 2 ∨ i = 3 ∨ i = 4 by omega) with rfl | rfl | rfl | rfl | rfl <;> decide
set_option maxHeartbeats 4000000 in
set_option maxRecDepth 100000 in
theorem k_J3_checkIndex (l : Launch) (hst : l.stackTraces = false) (E : wEn) (w : wW) (sz : Nat) (i n : Nat) (vz : Value) (hi : i < n) (hn : n < 2 ^ 31) (hv : vz.category = 1) : wMt l yJ3_checkIndex_8e157 wsJ3_checkIndex_8e157 0 0 0 E w sz [.int (nI i), .int (nI n), vz] (fun v w2 => v = some (.int (nI i)) ∧ w2 = w) := by
  refine wt_start (own := RJ3) (cc := cJ3_checkIndex_8e157) (maxL := 3) (ret := (some .int)) rfl (by decide) rfl (by cases vz <;> first | exact Nat.le_of_ble_eq_true rfl | exact nomatch hv) ?_
  intro p e s m args below meth c ls C1 hr hP hS hl
  have C0 := C1.1
  have hx := C0.1
  have hb := C0.2.1
  have hl : lv_has ls 3 [(0, .int (nI i)), (1, .int (nI n)), (2, vz)] := hl
  refine lv_iload_n hx hb dJ3_checkIndex_8e157_0 rfl (lv_at hl 0 rfl) ?_
  refine lv_if_lt (tgt := 9) hx hb dJ3_checkIndex_8e157_1 (by decide) (fun c1 => ?_) (fun c1 => ?_)
  · exact absurd c1 (nI_pos (by omega))
  · refine lv_iload_n hx hb dJ3_checkIndex_8e157_4 rfl (lv_at hl 0 rfl) ?_
    refine lv_iload_n hx hb dJ3_checkIndex_8e157_5 rfl (lv_at hl 1 rfl) ?_
    refine lv_icmp_lt (tgt := 16) hx hb dJ3_checkIndex_8e157_6 (by decide) (fun c2 => ?_) (fun c2 => ?_)
    · refine lv_iload_n hx hb dJ3_checkIndex_8e157_16 rfl (lv_at hl 0 rfl) ?_
      exact wl_iret C0 hr rfl hP hS dJ3_checkIndex_8e157_17 (Nat.le_of_ble_eq_true rfl) (Nat.le_of_ble_eq_true rfl) (⟨rfl, rfl⟩)
    · exact absurd (nI_lt hi hn) c2
set_option maxHeartbeats 4000000 in
set_option maxRecDepth 100000 in
theorem k_J0_checkIndex (l : Launch) (hst : l.stackTraces = false) (E : wEn) (w : wW) (sz : Nat) (i n : Nat) (hi : i < n) (hn : n < 2 ^ 31) : wMt l yJ0_checkIndex_df160 wsJ0_checkIndex_df160 1 0 0 E w sz [.int (nI i), .int (nI n)] (fun v w2 => v = none ∧ w2 = w) := by
  refine wt_start (own := RJ0) (cc := cJ0_checkIndex_df160) (maxL := 2) (ret := none) rfl (by decide) rfl (Nat.le_of_ble_eq_true rfl) ?_
  intro p e s m args below meth c ls C1 hr hP hS hl
  have C0 := C1.1
  have hx := C0.1
  have hb := C0.2.1
  have hts := C0.2.2.2.2.1
  have hown := C0.2.2.2.1
  have hl : lv_has ls 2 [(0, .int (nI i)), (1, .int (nI n))] := hl
  refine lv_iload_n hx hb dJ0_checkIndex_df160_0 rfl (lv_at hl 0 rfl) ?_
  refine lv_iload_n hx hb dJ0_checkIndex_df160_1 rfl (lv_at hl 1 rfl) ?_
  have go : ∀ vz : Value, vz.category = 1 → W p l e (wRm 1 0 0) s m args below meth c s.heap [] 0 0 (vx_MQ below (wQ E (wA w sz) (fun v w2 => v = none ∧ w2 = w)) (wX E (wA w sz) (fun _ _ => False)) args s 0 0 (wA w sz)) (F0 m 5 ls [vz, .int (nI n), .int (nI i)]) := by
    intro vz hvz
    refine wt_goS (As := [.int (nI i), .int (nI n), vz]) (rest := []) C1 hP hS (k_J3_checkIndex l hst E w s.heap.size i n vz hi hn hvz) (va_cwS 3 hts gJ0_checkIndex_df160_J3_checkIndex_8e157 rfl rfl rfl (by decide +kernel) ⟨(Nat.le_of_ble_eq_true rfl), (Nat.le_of_ble_eq_true rfl)⟩) rfl rfl hl.1 (Nat.le_of_ble_eq_true rfl) dJ0_checkIndex_df160_5 (Nat.le_of_ble_eq_true rfl) (Nat.le_of_ble_eq_true rfl) (fun v w2 H locs hq hP hS => ?_)
    obtain ⟨rfl, hw⟩ := hq
    rw [hw] at hP
    refine W.eq (g2 := F0 m 8 ls [.int (nI i)]) rfl ?_
    refine lv_pop hx hb dJ0_checkIndex_df160_8 rfl ?_
    exact wl_vret C0 hr hP hS dJ0_checkIndex_df160_9 (Nat.le_of_ble_eq_true rfl) (Nat.le_of_ble_eq_true rfl) (⟨rfl, rfl⟩)
  rcases C1.2.2.2.2.2.1 with hz | ⟨t, hz⟩
  · exact va_gets hx hb hz hS hown (hts (.fieldLink RJ0 1053 cPre "SIOOBE_FORMATTER" dBiF) (by decide +kernel)) (fun _ h => h) dJ0_checkIndex_df160_2 (go .null rfl)
  · exact va_gets hx hb hz hS hown (hts (.fieldLink RJ0 1053 cPre "SIOOBE_FORMATTER" dBiF) (by decide +kernel)) (fun _ h => h) dJ0_checkIndex_df160_2 (go (.ref t) rfl)
set_option maxHeartbeats 4000000 in
set_option maxRecDepth 100000 in
theorem k_J1_charAt (l : Launch) (hst : l.stackTraces = false) (E : wEn) (w : wW) (sz : Nat) (i : Nat) (hi : i < 5) : wMt l yJ1_charAt_3b067 wsJ1_charAt_3b067 2 0 0 E w sz [.ref (E.2.2 101), .int (nI i)] (fun v w2 => v = some (.int (sB i)) ∧ w2 = w) := by
  refine wt_start (own := RJ1) (cc := cJ1_charAt_3b067) (maxL := 2) (ret := (some .char)) rfl (by decide) rfl (Nat.le_of_ble_eq_true rfl) ?_
  intro p e s m args below meth c ls C1 hr hP hS hl
  have C0 := C1.1
  have hx := C0.1
  have hb := C0.2.1
  have hts := C0.2.2.2.2.1
  have hT : va_T .byte (E.2.2 101) 5 (fun j => .int ([110, 108, 115, 99, 102].getD j 0)) (wA w sz) s s.heap := (C1.2.2.2.1.1 0 (by decide)).2.2.2
  have hl : lv_has ls 2 [(0, .ref (E.2.2 101)), (1, .int (nI i))] := hl
  refine lv_iload_n hx hb dJ1_charAt_3b067_0 rfl (lv_at hl 1 rfl) ?_
  refine lv_aload_n hx hb dJ1_charAt_3b067_1 rfl (lv_at hl 0 rfl) ?_
  refine va_tlen (v := nI 5) hx hb hT hS rfl dJ1_charAt_3b067_2 ?_
  refine wt_goS (As := [.int (nI i), .int (nI 5)]) (rest := []) C1 hP hS (k_J0_checkIndex l hst E w s.heap.size i 5 hi (by decide)) (va_cwS 2 hts gJ1_charAt_3b067_J0_checkIndex_df160 rfl rfl rfl (by decide +kernel) ⟨(Nat.le_of_ble_eq_true rfl), (Nat.le_of_ble_eq_true rfl)⟩) rfl rfl hl.1 (Nat.le_of_ble_eq_true rfl) dJ1_charAt_3b067_3 (Nat.le_of_ble_eq_true rfl) (Nat.le_of_ble_eq_true rfl) (fun v w2 H locs hq hP hS => ?_)
  obtain ⟨rfl, hw⟩ := hq
  rw [hw] at hP
  refine W.eq (g2 := F0 m 6 ls []) rfl ?_
  refine lv_aload_n hx hb dJ1_charAt_3b067_6 rfl (lv_at hl 0 rfl) ?_
  refine lv_iload_n hx hb dJ1_charAt_3b067_7 rfl (lv_at hl 1 rfl) ?_
  refine va_tb (v := .int (sB i)) hx hb hT hS (vp_in_nI hi (by decide)) (by rw [nI_clamp (by omega)]; rfl) dJ1_charAt_3b067_8 ?_
  refine lv_sipush (v := 255) hx hb dJ1_charAt_3b067_9 (by decide) ?_
  refine lv_iand hx hb dJ1_charAt_3b067_12 ?_
  refine lv_i2c (v := sB i) hx hb dJ1_charAt_3b067_13 (sB_nar hi).2.2 ?_
  exact wl_iret C0 hr (sB_nar hi).1 hP hS dJ1_charAt_3b067_14 (Nat.le_of_ble_eq_true rfl) (Nat.le_of_ble_eq_true rfl) (⟨rfl, rfl⟩)
set_option maxHeartbeats 4000000 in
set_option maxRecDepth 100000 in
theorem k_J0_isLatin1 (l : Launch) (hst : l.stackTraces = false) (E : wEn) (w : wW) (sz : Nat) : wMt l yJ0_isLatin1_aae02 wsJ0_isLatin1_aae02 0 0 0 E w sz [.ref (E.2.2 100)] (fun v w2 => v = some (.int 1) ∧ w2 = w) := by
  refine wt_start (own := RJ0) (cc := cJ0_isLatin1_aae02) (maxL := 1) (ret := (some .boolean)) rfl (by decide) rfl (Nat.le_of_ble_eq_true rfl) ?_
  intro p e s m args below meth c ls C1 hr hP hS hl
  have C0 := C1.1
  have hx := C0.1
  have hb := C0.2.1
  have hts := C0.2.2.2.2.1
  have hown := C0.2.2.2.1
  have hO := C1.2.2.2.1.1 0 (by decide)
  have hl : lv_has ls 1 [(0, .ref (E.2.2 100))] := hl
  refine va_gets hx hb C1.2.2.2.2.1 hS hown (hts (.fieldLink RJ0 38 RJ0 "COMPACT_STRINGS" "Z") (by decide +kernel)) (fun _ h => h) dJ0_isLatin1_aae02_0 ?_
  refine lv_if_eq (tgt := 17) hx hb dJ0_isLatin1_aae02_3 (by decide) (fun q1 => absurd q1 (by decide)) (fun c1 => ?_)
  refine lv_aload_n hx hb dJ0_isLatin1_aae02_6 rfl (lv_at hl 0 rfl) ?_
  refine vk_getf hx hb hO.2.1 hS hown (hts (.fieldLink RJ0 15 "java/lang/String" "coder" "B") (by decide +kernel)) (fun _ h => h) dJ0_isLatin1_aae02_7 ?_
  refine lv_if_ne (tgt := 17) hx hb dJ0_isLatin1_aae02_10 (by decide) (fun c2 => absurd rfl c2) (fun c2 => ?_)
  refine lv_iconst (v := 1) hx hb dJ0_isLatin1_aae02_13 (by decide) ?_
  refine lv_goto (tgt := 18) hx hb dJ0_isLatin1_aae02_14 (by decide) ?_
  exact wl_iret C0 hr (by decide) hP hS dJ0_isLatin1_aae02_18 (Nat.le_of_ble_eq_true rfl) (Nat.le_of_ble_eq_true rfl) (⟨rfl, rfl⟩)
set_option maxHeartbeats 4000000 in
set_option maxRecDepth 100000 in
theorem k_J0_charAt (l : Launch) (hst : l.stackTraces = false) (E : wEn) (w : wW) (sz : Nat) (i : Nat) (hi : i < 5) : wMt l yJ0_charAt_5068e wsJ0_charAt_5068e 3 0 0 E w sz [.ref (E.2.2 100), .int (nI i)] (fun v w2 => v = some (.int (sB i)) ∧ w2 = w) := by
  refine wt_start (own := RJ0) (cc := cJ0_charAt_5068e) (maxL := 2) (ret := (some .char)) rfl (by decide) rfl (Nat.le_of_ble_eq_true rfl) ?_
  intro p e s m args below meth c ls C1 hr hP hS hl
  have C0 := C1.1
  have hx := C0.1
  have hb := C0.2.1
  have hts := C0.2.2.2.2.1
  have hown := C0.2.2.2.1
  have hO := C1.2.2.2.1.1 0 (by decide)
  have hl : lv_has ls 2 [(0, .ref (E.2.2 100)), (1, .int (nI i))] := hl
  refine lv_aload_n hx hb dJ0_charAt_5068e_0 rfl (lv_at hl 0 rfl) ?_
  refine wt_goV (As := []) (rest := []) C1 hP hS (k_J0_isLatin1 l hst E w s.heap.size) (cwV 0 hts gJ0_charAt_5068e_J0_isLatin1_aae02 rfl rfl rfl (by decide +kernel) ⟨(Nat.le_of_ble_eq_true rfl), (Nat.le_of_ble_eq_true rfl)⟩) (vk_recv (i := 0) C1.2.2.2.1 (by decide) hS) rfl rfl hl.1 (Nat.le_of_ble_eq_true rfl) dJ0_charAt_5068e_1 (Nat.le_of_ble_eq_true rfl) (Nat.le_of_ble_eq_true rfl) (fun v w2 H locs hq hP hS => ?_)
  obtain ⟨rfl, hw⟩ := hq
  rw [hw] at hP
  refine W.eq (g2 := F0 m 4 ls [.int 1]) rfl ?_
  refine lv_if_eq (tgt := 16) hx hb dJ0_charAt_5068e_4 (by decide) (fun q1 => absurd q1 (by decide)) (fun c1 => ?_)
  refine lv_aload_n hx hb dJ0_charAt_5068e_7 rfl (lv_at hl 0 rfl) ?_
  refine vk_getf hx hb hO.2.2.1 hS hown (hts (.fieldLink RJ0 9 "java/lang/String" "value" "[B") (by decide +kernel)) (fun _ h => h) dJ0_charAt_5068e_8 ?_
  refine lv_iload_n hx hb dJ0_charAt_5068e_11 rfl (lv_at hl 1 rfl) ?_
  refine wt_goS (As := [.ref (E.2.2 101), .int (nI i)]) (rest := []) C1 hP hS (k_J1_charAt l hst E w H.size i hi) (va_cwS 2 hts gJ0_charAt_5068e_J1_charAt_3b067 rfl rfl rfl (by decide +kernel) ⟨(Nat.le_of_ble_eq_true rfl), (Nat.le_of_ble_eq_true rfl)⟩) rfl rfl hl.1 (Nat.le_of_ble_eq_true rfl) dJ0_charAt_5068e_12 (Nat.le_of_ble_eq_true rfl) (Nat.le_of_ble_eq_true rfl) (fun v w2 H locs hq hP hS => ?_)
  obtain ⟨rfl, hw⟩ := hq
  rw [hw] at hP
  refine W.eq (g2 := F0 m 15 ls [.int (sB i)]) rfl ?_
  exact wl_iret C0 hr (sB_nar hi).1 hP hS dJ0_charAt_5068e_15 (Nat.le_of_ble_eq_true rfl) (Nat.le_of_ble_eq_true rfl) (⟨rfl, rfl⟩)
