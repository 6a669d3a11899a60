section LWL
variable {p : Program} {l : Launch} {e : Env} {s : State} {m : MethodId} {args : Array Value} {below : List Frame} {meth : Method} {c : Code} {H : Heap} {locs : List Loc} {cells slots : Nat} {Q : State → Prop}
variable {ls : Array Slot} {A : Nat → Prop} {E : wEn} {w : wW} {b L x mo oL oD N : Nat} {xs : Nat → Int32} {MA : Nat → Nat} {i : Int32}

set_option maxHeartbeats 4000000 in
set_option maxRecDepth 100000 in
theorem lw_call (hst : l.stackTraces = false) (SA : lwA p s m args meth c A E b L xs) (hI : lwI E MA x mo oL oD N w) (hN : N < 512) (h1 : vp_in (i + 1) L) (h2 : vp_in (i + 2) L) (h3 : vp_in (i + 3) L) (h4 : vp_in (i + 4) L) (hP : wP E.1 A w H) (hS : va_S A s.heap H locs) (hl : lv_has ls 9 [(5, .int i), (0, .ref b), (1, .ref x), (2, .ref mo), (3, .ref oL), (4, .ref oD)]) (hc : cells + 20 ≤ room_1.cells) (hs9 : slots + 100 ≤ room_1.slots)
    (kk : ∀ (w2 : wW) (H2 : Heap) (locs2 : List Loc) (ls2 : Array Slot), lwI E MA x mo oL oD (N + 1) w2 → wP E.1 A w2 H2 → va_S A s.heap H2 locs2 → lv_has ls2 9 [(5, .int i), (0, .ref b), (1, .ref x), (2, .ref mo), (3, .ref oL), (4, .ref oD)] → W p l e room_1 s m args below meth c H2 locs2 (cells + 20) (slots + 100) Q (F0 m 1862 ls2 [])) (h0 : vp_in i L) : W p l e room_1 s m args below meth c H locs cells slots Q (F0 m 37 ls []) := by
  have SA' := SA
  have hI' := hI
  obtain ⟨C0, hnc, hX, hbl, hbA⟩ := SA'
  obtain ⟨F, AD, cd, fo, go, hI', hs, hx5, hm, ho, hd⟩ := hI'
  have hx := C0.1
  have hb := C0.2.1
  refine lv_aload_n hx hb dL_law_37 rfl (lv_at hl 1 rfl) ?_
  refine lv_iload hx hb dL_law_38 (lv_at hl 0 rfl) ?_
  refine va_sld hx hb hX hbl hbA hS h0 dL_law_40 ?_
  refine lv_bipush (v := 31) hx hb dL_law_41 (by decide) ?_
  refine lv_iand hx hb dL_law_43 ?_
  obtain ⟨k, hk, hv⟩ := la_31 (xs i.toNatClampNeg)
  generalize xs i.toNatClampNeg &&& 31 = v at hv ⊢
  by_cases h27 : 27 ≤ k
  · refine lv_tableOut (tgt := 1862) hx hb dL_law_44 (Or.inr (by rw [hv]; omega)) (by decide) ?_
    refine W.widen (k := cells + 20) (n := slots + 100) (by omega) (by omega) ?_
    exact kk w H locs ls ⟨F, AD, cd, fo, go, J_same hI' hN, hs, hx5, hm, ho, hd⟩ hP hS hl
  · have hk2 : k = 0 ∨ k = 1 ∨ k = 2 ∨ k = 3 ∨ k = 4 ∨ k = 5 ∨ k = 6 ∨ k = 7 ∨ k = 8 ∨ k = 9 ∨ k = 10 ∨ k = 11 ∨ k = 12 ∨ k = 13 ∨ k = 14 ∨ k = 15 ∨ k = 16 ∨ k = 17 ∨ k = 18 ∨ k = 19 ∨ k = 20 ∨ k = 21 ∨ k = 22 ∨ k = 23 ∨ k = 24 ∨ k = 25 ∨ k = 26 := by omega
    rcases hk2 with rfl | rfl | rfl | rfl | rfl | rfl | rfl | rfl | rfl | rfl | rfl | rfl | rfl | rfl | rfl | rfl | rfl | rfl | rfl | rfl | rfl | rfl | rfl | rfl | rfl | rfl | rfl
    · refine lv_tableIn (tgt := 168) hx hb dL_law_44 (by rw [hv]; decide) (by rw [hv]; decide) (off := 124) (by rw [hv]; rfl) (by decide) ?_
      exact lc_addRoute hst SA hI hN h1 h2 h3 h4 hP hS hl hc hs9 kk
    · refine lv_tableIn (tgt := 260) hx hb dL_law_44 (by rw [hv]; decide) (by rw [hv]; decide) (off := 216) (by rw [hv]; rfl) (by decide) ?_
      exact lc_route hst SA hI hN h1 h2 h3 h4 hP hS hl hc hs9 kk
    · refine lv_tableIn (tgt := 316) hx hb dL_law_44 (by rw [hv]; decide) (by rw [hv]; decide) (off := 272) (by rw [hv]; rfl) (by decide) ?_
      exact lc_routeByComparing hst SA hI hN h1 h2 h3 h4 hP hS hl hc hs9 kk
    · refine lv_tableIn (tgt := 372) hx hb dL_law_44 (by rw [hv]; decide) (by rw [hv]; decide) (off := 328) (by rw [hv]; rfl) (by decide) ?_
      exact lc_setContract hst SA hI hN h1 h2 h3 h4 hP hS hl hc hs9 kk
    · refine lv_tableIn (tgt := 452) hx hb dL_law_44 (by rw [hv]; decide) (by rw [hv]; decide) (off := 408) (by rw [hv]; rfl) (by decide) ?_
      exact lc_setAnswer hst SA hI hN h1 h2 h3 h4 hP hS hl hc hs9 kk
    · refine lv_tableIn (tgt := 520) hx hb dL_law_44 (by rw [hv]; decide) (by rw [hv]; decide) (off := 476) (by rw [hv]; rfl) (by decide) ?_
      exact lc_broken hst SA hI hN h1 h2 h3 h4 hP hS hl hc hs9 kk
    · refine lv_tableIn (tgt := 576) hx hb dL_law_44 (by rw [hv]; decide) (by rw [hv]; decide) (off := 532) (by rw [hv]; rfl) (by decide) ?_
      exact lc_begin hst SA hI hN h1 h2 h3 h4 hP hS hl hc hs9 kk
    · refine lv_tableIn (tgt := 668) hx hb dL_law_44 (by rw [hv]; decide) (by rw [hv]; decide) (off := 624) (by rw [hv]; rfl) (by decide) ?_
      exact lc_setShare hst SA hI hN h1 h2 h3 h4 hP hS hl hc hs9 kk
    · refine lv_tableIn (tgt := 736) hx hb dL_law_44 (by rw [hv]; decide) (by rw [hv]; decide) (off := 692) (by rw [hv]; rfl) (by decide) ?_
      exact lc_promote hst SA hI hN h1 h2 h3 h4 hP hS hl hc hs9 kk
    · refine lv_tableIn (tgt := 792) hx hb dL_law_44 (by rw [hv]; decide) (by rw [hv]; decide) (off := 748) (by rw [hv]; rfl) (by decide) ?_
      exact lc_takeBack hst SA hI hN h1 h2 h3 h4 hP hS hl hc hs9 kk
    · refine lv_tableIn (tgt := 848) hx hb dL_law_44 (by rw [hv]; decide) (by rw [hv]; decide) (off := 804) (by rw [hv]; rfl) (by decide) ?_
      exact lc_hasCanary hst SA hI hN h1 h2 h3 h4 hP hS hl hc hs9 kk
    · refine lv_tableIn (tgt := 911) hx hb dL_law_44 (by rw [hv]; decide) (by rw [hv]; decide) (off := 867) (by rw [hv]; rfl) (by decide) ?_
      exact lc_faults hst SA hI hN h1 h2 h3 h4 hP hS hl hc hs9 kk
    · refine lv_tableIn (tgt := 967) hx hb dL_law_44 (by rw [hv]; decide) (by rw [hv]; decide) (off := 923) (by rw [hv]; rfl) (by decide) ?_
      exact lc_addPlan hst SA hI hN h1 h2 h3 h4 hP hS hl hc hs9 kk
    · refine lv_tableIn (tgt := 1047) hx hb dL_law_44 (by rw [hv]; decide) (by rw [hv]; decide) (off := 1003) (by rw [hv]; rfl) (by decide) ?_
      exact lc_addCaller hst SA hI hN h1 h2 h3 h4 hP hS hl hc hs9 kk
    · refine lv_tableIn (tgt := 1103) hx hb dL_law_44 (by rw [hv]; decide) (by rw [hv]; decide) (off := 1059) (by rw [hv]; rfl) (by decide) ?_
      exact lc_setPlan hst SA hI hN h1 h2 h3 h4 hP hS hl hc hs9 kk
    · refine lv_tableIn (tgt := 1171) hx hb dL_law_44 (by rw [hv]; decide) (by rw [hv]; decide) (off := 1127) (by rw [hv]; rfl) (by decide) ?_
      exact lc_tokens hst SA hI hN h1 h2 h3 h4 hP hS hl hc hs9 kk
    · refine lv_tableIn (tgt := 1227) hx hb dL_law_44 (by rw [hv]; decide) (by rw [hv]; decide) (off := 1183) (by rw [hv]; rfl) (by decide) ?_
      exact lc_ticksUntil hst SA hI hN h1 h2 h3 h4 hP hS hl hc hs9 kk
    · refine lv_tableIn (tgt := 1295) hx hb dL_law_44 (by rw [hv]; decide) (by rw [hv]; decide) (off := 1251) (by rw [hv]; rfl) (by decide) ?_
      exact lc_bill hst SA hI hN h1 h2 h3 h4 hP hS hl hc hs9 kk
    · refine lv_tableIn (tgt := 1350) hx hb dL_law_44 (by rw [hv]; decide) (by rw [hv]; decide) (off := 1306) (by rw [hv]; rfl) (by decide) ?_
      exact lc_billByLog hst SA hI hN h1 h2 h3 h4 hP hS hl hc hs9 kk
    · refine lv_tableIn (tgt := 1405) hx hb dL_law_44 (by rw [hv]; decide) (by rw [hv]; decide) (off := 1361) (by rw [hv]; rfl) (by decide) ?_
      exact lc_call hst SA hI hN h1 h2 h3 h4 hP hS hl hc hs9 kk
    · refine lv_tableIn (tgt := 1485) hx hb dL_law_44 (by rw [hv]; decide) (by rw [hv]; decide) (off := 1441) (by rw [hv]; rfl) (by decide) ?_
      exact lc_pass hst SA hI hN h1 h2 h3 h4 hP hS hl hc hs9 kk
    · refine lv_tableIn (tgt := 1541) hx hb dL_law_44 (by rw [hv]; decide) (by rw [hv]; decide) (off := 1497) (by rw [hv]; rfl) (by decide) ?_
      exact lc_calls hst SA hI hN h1 h2 h3 h4 hP hS hl hc hs9 kk
    · refine lv_tableIn (tgt := 1554) hx hb dL_law_44 (by rw [hv]; decide) (by rw [hv]; decide) (off := 1510) (by rw [hv]; rfl) (by decide) ?_
      exact lc_count hst SA hI hN h1 h2 h3 h4 hP hS hl hc hs9 kk
    · refine lv_tableIn (tgt := 1624) hx hb dL_law_44 (by rw [hv]; decide) (by rw [hv]; decide) (off := 1580) (by rw [hv]; rfl) (by decide) ?_
      exact lc_isUndone hst SA hI hN h1 h2 h3 h4 hP hS hl hc hs9 kk
    · refine lv_tableIn (tgt := 1687) hx hb dL_law_44 (by rw [hv]; decide) (by rw [hv]; decide) (off := 1643) (by rw [hv]; rfl) (by decide) ?_
      exact lc_greatest hst SA hI hN h1 h2 h3 h4 hP hS hl hc hs9 kk
    · refine lv_tableIn (tgt := 1731) hx hb dL_law_44 (by rw [hv]; decide) (by rw [hv]; decide) (off := 1687) (by rw [hv]; rfl) (by decide) ?_
      exact lc_canaryShare hst SA hI hN h1 h2 h3 h4 hP hS hl hc hs9 kk
    · refine lv_tableIn (tgt := 1797) hx hb dL_law_44 (by rw [hv]; decide) (by rw [hv]; decide) (off := 1753) (by rw [hv]; rfl) (by decide) ?_
      exact lc_meanCost hst SA hI hN h1 h2 h3 h4 hP hS hl hc hs9 kk
set_option maxHeartbeats 4000000 in
set_option maxRecDepth 100000 in
theorem lw_head (SA : lwA p s m args meth c A E b L xs) (hL : L ≤ 2560) (hN : N ≤ 512) (hS : va_S A s.heap H locs) (hl : lv_has ls 9 [(5, .int (nI (5 * N))), (0, .ref b), (1, .ref x), (2, .ref mo), (3, .ref oL), (4, .ref oD)]) (k1 : W p l e room_1 s m args below meth c H locs cells slots Q (F0 m 1868 ls [])) (k2 : 5 * N + 5 ≤ L → W p l e room_1 s m args below meth c H locs cells slots Q (F0 m 37 ls [])) : W p l e room_1 s m args below meth c H locs cells slots Q (F0 m 28 ls []) := by
  obtain ⟨C0, hnc, hX, hbl, hbA⟩ := SA
  have hx := C0.1
  have hb := C0.2.1
  refine lv_iload hx hb dL_law_28 (lv_at hl 0 rfl) ?_
  refine lv_aload_n hx hb dL_law_30 rfl (lv_at hl 1 rfl) ?_
  refine va_slen hx hb hX hbl hbA hS dL_law_31 ?_
  refine lv_iconst (v := 5) hx hb dL_law_32 (by decide) ?_
  refine lv_isub hx hb dL_law_33 ?_
  have e1 : (Int32.ofNat L - 5).toInt = (L : Int) - 5 := pk_sub_toInt (a := L) (b := 5) (by omega) (by decide)
  have e2 : (nI (5 * N)).toInt = ((5 * N : Nat) : Int) := nI_toInt (by omega)
  refine lv_icmp_gt (tgt := 1868) hx hb dL_law_34 (by decide) (fun _ => k1) (fun c9 => k2 ?_)
  rw [Int32.lt_iff_toInt_lt, e1, e2] at c9
  omega
theorem lw_in (h5 : 5 * N + 5 ≤ L) (hL : L ≤ 2560) (j : Nat) (hj : j ≤ 4) : vp_in (nI (5 * N) + nI j) L := by
  rw [nI_add]
  exact vp_in_nI (by omega) (by omega)
set_option maxHeartbeats 4000000 in
set_option maxRecDepth 100000 in
theorem lw_loop (hst : l.stackTraces = false) (SA : lwA p s m args meth c A E b L xs) (hL : L ≤ 2560) (kend : ∀ (H2 : Heap) (locs2 : List Loc) (ls2 : Array Slot) (c2 s2 : Nat), va_S A s.heap H2 locs2 → c2 ≤ room_1.cells → s2 ≤ room_1.slots → W p l e room_1 s m args below meth c H2 locs2 c2 s2 Q (F0 m 1868 ls2 [])) : ∀ (n N : Nat), N + n = 512 → ∀ (w : wW) (H : Heap) (locs : List Loc) (ls : Array Slot) (cells slots : Nat), lwI E MA x mo oL oD N w → wP E.1 A w H → va_S A s.heap H locs → lv_has ls 9 [(5, .int (nI (5 * N))), (0, .ref b), (1, .ref x), (2, .ref mo), (3, .ref oL), (4, .ref oD)] → cells + 20 * n ≤ room_1.cells → slots + 100 * n ≤ room_1.slots → W p l e room_1 s m args below meth c H locs cells slots Q (F0 m 28 ls []) := by
  intro n
  induction n with
  | zero =>
    intro N hn w H locs ls cells slots hI hP hS hl hc hs9
    exact lw_head SA hL (by omega) hS hl (kend _ _ _ _ _ hS (Nat.le_trans (Nat.le_add_right _ _) hc) (Nat.le_trans (Nat.le_add_right _ _) hs9)) (fun h5 => absurd h5 (by omega))
  | succ n ih =>
    intro N hn w H locs ls cells slots hI hP hS hl hc hs9
    refine lw_head SA hL (by omega) hS hl (kend _ _ _ _ _ hS (Nat.le_trans (Nat.le_add_right _ _) hc) (Nat.le_trans (Nat.le_add_right _ _) hs9)) (fun h5 => ?_)
    refine lw_call (i := nI (5 * N)) hst SA hI (by omega) (lw_in h5 hL 1 (by omega)) (lw_in h5 hL 2 (by omega)) (lw_in h5 hL 3 (by omega)) (lw_in h5 hL 4 (by omega)) hP hS hl (Nat.le_trans (by omega) hc) (Nat.le_trans (by omega) hs9) (fun w2 H2 locs2 ls2 hI2 hP2 hS2 hl2 => ?_) (vp_in_nI (by omega) (by omega))
    have hx := SA.1.1
    have hb := SA.1.2.1
    have e5 : nI (5 * N) + Int32.ofInt 5 = nI (5 * (N + 1)) := by
      rw [Nat.mul_succ, ← nI_add]
      rfl
    refine lv_iinc (v := nI (5 * (N + 1))) (lv' := [(5, .int (nI (5 * (N + 1)))), (0, .ref b), (1, .ref x), (2, .ref mo), (3, .ref oL), (4, .ref oD)]) hx hb dL_law_1862 hl2 (k := 0) rfl e5 (by decide) rfl (fun ls hl => ?_)
    refine lv_goto (tgt := 28) hx hb dL_law_1865 (by decide) ?_
    exact ih (N + 1) (by omega) w2 H2 locs2 ls _ _ hI2 hP2 hS2 hl (Nat.le_trans (by omega) hc) (Nat.le_trans (by omega) hs9)
end LWL
