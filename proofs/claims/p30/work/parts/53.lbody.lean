theorem hm3 {a b ev : Nat} (hm1 : a ≤ b) (hm2 : ev < 2 → b = a + 1) (hpe : ev ≤ 2 → a = ev) (hp1 : 1 ≤ ev → 1 ≤ a) : 1 ≤ b := by
  by_cases z : ev < 2
  · have := hm2 z
    omega
  · have := hp1 (by omega)
    omega
section LBODY
variable {p : Program} {l : Launch} {e : Env} {s : State} {m : MethodId} {args : Array Value} {below : List Frame} {meth : Method} {c : Code} {H : Heap} {locs : List Loc} {cells slots : Nat} {Q : State → Prop}
variable {ls : Array Slot} {A : Nat → Prop} {E : wEn} {w w0 : wW} {F : FF} {x ob op N ev cB sB jr jc pj : Nat} {g8 : Int32} {was : Int64} {fb fp : Nat → Int32}
variable {F2 : FF} {t : Int32} {M q : Nat}
set_option maxHeartbeats 4000000 in
set_option maxRecDepth 100000 in
theorem lw_join (hst : l.stackTraces = false) (C1 : wCt p s m args meth c RL cL_law 21 wsL_law E A) (hJ2 : lwJ E x ob op F2 w M) (ht : t < 0 → F2 = F) (hwas : was = h_state F (F 24 0) (F 24 2)) (hP : wP E.1 A w H) (hS : va_S A s.heap H locs) (hl : lv_has ls 21 [(0, .ref (E.2.2 102)), (1, .ref x), (2, .ref ob), (3, .ref op), (4, .int (nI (F2 24 0))), (5, .int (nI (F2 24 2))), (6, .int (nI (F2 24 1))), (7, .int (nI ev)), (13, .long was), (15, .int t)]) (hc : cells ≤ cB + 5200) (hs : slots ≤ sB + 30000) (hcB : cB + 12000 ≤ 677584) (hsB : sB + 120000 ≤ 7061175)
    (K : ∀ (w : wW) (H : Heap) (locs : List Loc) (ls : Array Slot) (cells slots : Nat), lwJ E x ob op F2 w M → wP E.1 A w H → va_S A s.heap H locs → lv_has ls 21 [(0, .ref (E.2.2 102)), (1, .ref x), (2, .ref ob), (3, .ref op), (4, .int (nI (F2 24 0))), (5, .int (nI (F2 24 2))), (6, .int (nI (F2 24 1))), (7, .int (nI (ev + 1)))] → cells ≤ cB + 12000 → slots ≤ sB + 120000 → W p l e room_1 s m args below meth c H locs cells slots Q (F0 m 29 ls [])) : W p l e room_1 s m args below meth c H locs cells slots Q (F0 m 1213 ls []) := by
  obtain ⟨hI, hki, ⟨AD, hs6, hx5⟩, ⟨fb, hob, hfb⟩, fp, hop, hfp⟩ := hJ2
  have hz : zK E F2 x w w := ⟨⟨AD, hs6, hx5⟩, wKp.rf⟩
  have C0 := C1.1
  have hx := C0.1
  have hb := C0.2.1
  have hts := C0.2.2.2.2.1
  have hown := C0.2.2.2.1
  have hn9 := hI.n
  have go : ∀ (w1 : wW) (H : Heap) (locs : List Loc) (ls : Array Slot) (cells slots : Nat), zK E F2 x w w1 → wP E.1 A w1 H → va_S A s.heap H locs → lv_has ls 21 [(0, .ref (E.2.2 102)), (1, .ref x), (2, .ref ob), (3, .ref op), (4, .int (nI (F2 24 0))), (5, .int (nI (F2 24 2))), (6, .int (nI (F2 24 1))), (7, .int (nI ev)), (13, .long was), (15, .int t)] → cells ≤ cB + 7000 → slots ≤ sB + 45000 → W p l e room_1 s m args below meth c H locs cells slots Q (F0 m 1232 ls []) := by
    intro w1 H locs ls cells slots hz hP hS hl hc hs
    refine lv_aload_n hx hb dL_law_1232 rfl (lv_at hl 1 rfl) ?_
    refine lv_iload hx hb dL_law_1233 (lv_at hl 4 rfl) ?_
    refine lv_iload hx hb dL_law_1235 (lv_at hl 5 rfl) ?_
    refine lv_aload_n hx hb dL_law_1237 rfl (lv_at hl 2 rfl) ?_
    refine lv_aload_n hx hb dL_law_1238 rfl (lv_at hl 3 rfl) ?_
    refine wt_goS (As := [.ref x, .int (nI (F2 24 0)), .int (nI (F2 24 2)), .ref ob, .ref op]) (rest := []) C1 hP hS (k_L_sound l hst E _ _ F2 x M _ hI hz hki ob op fb fp hob hop hfb hfp) (va_cwS 5 hts gL_law_L_sound rfl rfl rfl (by decide +kernel) ⟨(Nat.le_of_ble_eq_true rfl), (Nat.le_of_ble_eq_true rfl)⟩) rfl rfl hl.1 (Nat.le_of_ble_eq_true rfl) dL_law_1239 (show _ ≤ 677584 by omega) (show _ ≤ 7061175 by omega) (fun v w H locs hq hP hS => ?_)
    obtain ⟨rfl, hz⟩ := hq
    refine W.eq (g2 := F0 m 1242 ls [.int 1]) rfl ?_
    refine lv_if_ne (tgt := 1247) hx hb dL_law_1242 (by decide) (fun q9 => ?_) (fun q9 => absurd q9 (by decide))
    refine lv_iinc (v := nI (ev + 1)) (lv' := [(7, .int (nI (ev + 1))), (0, .ref (E.2.2 102)), (1, .ref x), (2, .ref ob), (3, .ref op), (4, .int (nI (F2 24 0))), (5, .int (nI (F2 24 2))), (6, .int (nI (F2 24 1))), (13, .long was), (15, .int t)]) hx hb dL_law_1247 hl (k := 7) rfl (nI_succ _).symm (by decide) rfl (fun ls hl => ?_)
    refine lv_goto (tgt := 29) hx hb dL_law_1250 (by decide) ?_
    exact K w H locs ls _ _ ⟨hI, hki, hz.1, ⟨fb, hz.2 ob _ hob rfl, hfb⟩, fp, hz.2 op _ hop rfl, hfp⟩ hP hS (lv_sub hl [1, 2, 3, 4, 5, 6, 7, 0] rfl) (by omega) (by omega)
  refine lv_iload hx hb dL_law_1213 (lv_at hl 9 rfl) ?_
  by_cases htl : t < 0
  · refine lv_if_ge (tgt := 1232) hx hb dL_law_1215 (by decide) (fun q9 => absurd q9 (Int32.not_le.mpr htl)) (fun q9 => ?_)
    refine lv_aload_n hx hb dL_law_1218 rfl (lv_at hl 1 rfl) ?_
    refine lv_iload hx hb dL_law_1219 (lv_at hl 4 rfl) ?_
    refine lv_iload hx hb dL_law_1221 (lv_at hl 5 rfl) ?_
    refine wt_goS (As := [.ref x, .int (nI (F2 24 0)), .int (nI (F2 24 2))]) (rest := []) C1 hP hS (k_L_state l hst E _ _ F2 x M _ hI hz (F2 24 0) (F2 24 2) (by omega) (by omega)) (va_cwS 3 hts gL_law_L_state rfl rfl rfl (by decide +kernel) ⟨(Nat.le_of_ble_eq_true rfl), (Nat.le_of_ble_eq_true rfl)⟩) rfl rfl hl.1 (Nat.le_of_ble_eq_true rfl) dL_law_1223 (show _ ≤ 677584 by omega) (show _ ≤ 7061175 by omega) (fun v w H locs hq hP hS => ?_)
    obtain ⟨rfl, hz⟩ := hq
    refine W.eq (g2 := F0 m 1226 ls [.long (h_state F2 (F2 24 0) (F2 24 2))]) rfl ?_
    refine lv_lload hx hb dL_law_1226 (lv_at hl 8 rfl) ?_
    refine W.lcmp hx hb dL_law_1228 ?_
    refine lv_if_ne (tgt := 1245) hx hb dL_law_1229 (by decide) (fun q9 => absurd ((lg_cmp_eq _ _).mpr (by rw [hwas, ht htl])) q9) (fun q9 => ?_)
    exact go w H locs ls _ _ hz hP hS (lv_sub hl [0, 1, 2, 3, 4, 5, 6, 7, 8, 9] rfl) (by omega) (by omega)
  · refine lv_if_ge (tgt := 1232) hx hb dL_law_1215 (by decide) (fun q9 => ?_) (fun q9 => absurd (Int32.not_lt.mp htl) q9)
    exact go w H locs ls _ _ hz hP hS hl (by omega) (by omega)
set_option maxHeartbeats 4000000 in
set_option maxRecDepth 100000 in
theorem lw_disp (hst : l.stackTraces = false) (C1 : wCt p s m args meth c RL cL_law 21 wsL_law E A) (hI : wInv F N) (hki : wKi F) (hz : zK E F x w0 w) (hob : w0 ob = some (.inl (E.2.1 0, 3, .inl fb))) (hop : w0 op = some (.inl (E.2.1 0, 6, .inl fp))) (hfb : ∀ i, i < F 24 1 → fb i = nI (F 11 i)) (hfp : ∀ i, i < F 24 2 → fp i = nI (F 13 i)) (hP : wP E.1 A w H) (hS : va_S A s.heap H locs) (hl : lv_has ls 21 [(11, .int (nI q)), (0, .ref (E.2.2 102)), (1, .ref x), (2, .ref ob), (3, .ref op), (4, .int (nI (F 24 0))), (5, .int (nI (F 24 2))), (6, .int (nI (F 24 1))), (7, .int (nI ev)), (8, .int g8), (9, .int (nI jr)), (10, .int (nI jc)), (12, .int (nI pj)), (13, .long was), (15, .int 0)]) (hc : cells ≤ cB + 1644) (hs : slots ≤ sB + 9864) (hcB : cB + 12000 ≤ 677584) (hsB : sB + 120000 ≤ 7061175) (hN : N + 8 ≤ 512) (hev : ev < 56) (hjr : jr ≤ F 24 0) (hjc : jc ≤ F 24 2) (hpj : pathB (nI pj) = true) (hpn : pj < 100) (K : lwK p l e s m args below meth c Q A E x ob op F N ev cB sB was) (hq : q < 32) (hq1 : ev < 2 → q = 24) (hq2 : 2 ≤ ev → ev < 4 → q = 25) (hpe : ev ≤ 2 → F 24 1 = ev) (hp1 : 1 ≤ ev → 1 ≤ F 24 1) : W p l e room_1 s m args below meth c H locs cells slots Q (F0 m 177 ls []) := by
  have C0 := C1.1
  have hx := C0.1
  have hb := C0.2.1
  have hts := C0.2.2.2.2.1
  have hown := C0.2.2.2.1
  have hn9 := hI.n
  have hl2 := hl
  refine lv_iload hx hb dL_law_177 (lv_at hl 0 rfl) ?_
  refine lv_iconst (v := 2) hx hb dL_law_179 (by decide) ?_
  refine lv_icmp_ge (tgt := 233) hx hb dL_law_180 (by decide) (fun q9 => ?_) (fun q9 => ?_)
  rotate_left
  · have zq : q < 2 := Nat.not_le.mp (fun z => q9 (nI_le (a := 2) (b := q) z (by omega)))
    exact lc_addRoute hst C1 hI hki hz hob hop hfb hfp hP hS (lv_sub hl [1, 2, 3, 4, 5, 6, 7, 8, 9, 10, 11, 12, 13, 14] rfl) hc hs hcB hsB hN hev hjr hjc hpj hpn K (by omega)
  have z180 : 2 ≤ q := (nI_leI (a := 2) (b := q) (by omega) (by omega)).mp q9
  refine lv_iload hx hb dL_law_233 (lv_at hl 0 rfl) ?_
  refine lv_iconst (v := 5) hx hb dL_law_235 (by decide) ?_
  refine lv_icmp_ge (tgt := 312) hx hb dL_law_236 (by decide) (fun q9 => ?_) (fun q9 => ?_)
  rotate_left
  · have zq : q < 5 := Nat.not_le.mp (fun z => q9 (nI_le (a := 5) (b := q) z (by omega)))
    exact lc_begin hst C1 hI hki hz hob hop hfb hfp hP hS (lv_sub hl [1, 2, 3, 4, 5, 6, 7, 8, 9, 10, 11, 12, 13, 14] rfl) hc hs hcB hsB hN hev hjr hjc hpj hpn K (by omega)
  have z236 : 5 ≤ q := (nI_leI (a := 5) (b := q) (by omega) (by omega)).mp q9
  refine lv_iload hx hb dL_law_312 (lv_at hl 0 rfl) ?_
  refine lv_iconst (v := 5) hx hb dL_law_314 (by decide) ?_
  refine lv_icmp_ne (tgt := 377) hx hb dL_law_315 (by decide) (fun q9 => ?_) (fun q9 => ?_)
  rotate_left
  · have zq : q = 5 := (nI_eq (a := q) (b := 5) (by omega) (by omega)).mp q9
    exact lc_promote hst C1 hI hki hz hob hop hfb hfp hP hS (lv_sub hl [1, 2, 3, 4, 5, 6, 7, 8, 9, 10, 11, 12, 13, 14] rfl) hc hs hcB hsB hN hev hjr hjc hpj hpn K (by omega)
  have z315 : q ≠ 5 := fun z => q9 (by rw [z]; rfl)
  refine lv_iload hx hb dL_law_377 (lv_at hl 0 rfl) ?_
  refine lv_bipush (v := 6) hx hb dL_law_379 (by decide) ?_
  refine lv_icmp_ne (tgt := 439) hx hb dL_law_381 (by decide) (fun q9 => ?_) (fun q9 => ?_)
  rotate_left
  · have zq : q = 6 := (nI_eq (a := q) (b := 6) (by omega) (by omega)).mp q9
    exact lc_takeBack hst C1 hI hki hz hob hop hfb hfp hP hS (lv_sub hl [1, 2, 3, 4, 5, 6, 7, 8, 9, 10, 11, 12, 13, 14] rfl) hc hs hcB hsB hN hev hjr hjc hpj hpn K (by omega)
  have z381 : q ≠ 6 := fun z => q9 (by rw [z]; rfl)
  refine lv_iload hx hb dL_law_439 (lv_at hl 0 rfl) ?_
  refine lv_bipush (v := 7) hx hb dL_law_441 (by decide) ?_
  refine lv_icmp_ne (tgt := 481) hx hb dL_law_443 (by decide) (fun q9 => ?_) (fun q9 => ?_)
  rotate_left
  · have zq : q = 7 := (nI_eq (a := q) (b := 7) (by omega) (by omega)).mp q9
    exact lc_setContract hst C1 hI hki hz hob hop hfb hfp hP hS (lv_sub hl [1, 2, 3, 4, 5, 6, 7, 8, 9, 10, 11, 12, 13, 14] rfl) hc hs hcB hsB hN hev hjr hjc hpj hpn K (by omega)
  have z443 : q ≠ 7 := fun z => q9 (by rw [z]; rfl)
  refine lv_iload hx hb dL_law_481 (lv_at hl 0 rfl) ?_
  refine lv_bipush (v := 8) hx hb dL_law_483 (by decide) ?_
  refine lv_icmp_ne (tgt := 513) hx hb dL_law_485 (by decide) (fun q9 => ?_) (fun q9 => ?_)
  rotate_left
  · have zq : q = 8 := (nI_eq (a := q) (b := 8) (by omega) (by omega)).mp q9
    exact lc_setAnswer hst C1 hI hki hz hob hop hfb hfp hP hS (lv_sub hl [1, 2, 3, 4, 5, 6, 7, 8, 9, 10, 11, 12, 13, 14] rfl) hc hs hcB hsB hN hev hjr hjc hpj hpn K (by omega)
  have z485 : q ≠ 8 := fun z => q9 (by rw [z]; rfl)
  refine lv_iload hx hb dL_law_513 (lv_at hl 0 rfl) ?_
  refine lv_bipush (v := 9) hx hb dL_law_515 (by decide) ?_
  refine lv_icmp_ne (tgt := 568) hx hb dL_law_517 (by decide) (fun q9 => ?_) (fun q9 => ?_)
  rotate_left
  · have zq : q = 9 := (nI_eq (a := q) (b := 9) (by omega) (by omega)).mp q9
    exact lc_setPlan hst C1 hI hki hz hob hop hfb hfp hP hS (lv_sub hl [1, 2, 3, 4, 5, 6, 7, 8, 9, 10, 11, 12, 13, 14] rfl) hc hs hcB hsB hN hev hjr hjc hpj hpn K (by omega)
  have z517 : q ≠ 9 := fun z => q9 (by rw [z]; rfl)
  refine lv_iload hx hb dL_law_568 (lv_at hl 0 rfl) ?_
  refine lv_bipush (v := 10) hx hb dL_law_570 (by decide) ?_
  refine lv_icmp_ne (tgt := 628) hx hb dL_law_572 (by decide) (fun q9 => ?_) (fun q9 => ?_)
  rotate_left
  · have zq : q = 10 := (nI_eq (a := q) (b := 10) (by omega) (by omega)).mp q9
    exact lc_pass hst C1 hI hki hz hob hop hfb hfp hP hS (lv_sub hl [1, 2, 3, 4, 5, 6, 7, 8, 9, 10, 11, 12, 13, 14] rfl) hc hs hcB hsB hN hev hjr hjc hpj hpn K (by omega)
  have z572 : q ≠ 10 := fun z => q9 (by rw [z]; rfl)
  refine lv_iload hx hb dL_law_628 (lv_at hl 0 rfl) ?_
  refine lv_bipush (v := 24) hx hb dL_law_630 (by decide) ?_
  refine lv_icmp_ge (tgt := 911) hx hb dL_law_632 (by decide) (fun q9 => ?_) (fun q9 => ?_)
  rotate_left
  · have zq : q < 24 := Nat.not_le.mp (fun z => q9 (nI_le (a := 24) (b := q) z (by omega)))
    exact lc_call hst C1 hI hki hz hob hop hfb hfp hP hS (lv_sub hl [1, 2, 3, 4, 5, 6, 7, 8, 9, 10, 11, 12, 13, 14] rfl) hc hs hcB hsB hN hev hjr hjc hpj hpn K (by omega)
  have z632 : 24 ≤ q := (nI_leI (a := 24) (b := q) (by omega) (by omega)).mp q9
  refine lv_iload hx hb dL_law_911 (lv_at hl 0 rfl) ?_
  refine lv_bipush (v := 24) hx hb dL_law_913 (by decide) ?_
  refine lv_icmp_ne (tgt := 981) hx hb dL_law_915 (by decide) (fun q9 => ?_) (fun q9 => ?_)
  rotate_left
  · have zq : q = 24 := (nI_eq (a := q) (b := 24) (by omega) (by omega)).mp q9
    exact lc_addPlan hst C1 hI hki hz hob hop hfb hfp hP hS (lv_sub hl [1, 2, 3, 4, 5, 6, 7, 8, 9, 10, 11, 12, 13, 14] rfl) hc hs hcB hsB hN hev hjr hjc hpj hpn K hpe
  have z915 : q ≠ 24 := fun z => q9 (by rw [z]; rfl)
  refine lv_iload hx hb dL_law_981 (lv_at hl 0 rfl) ?_
  refine lv_bipush (v := 25) hx hb dL_law_983 (by decide) ?_
  refine lv_icmp_ne (tgt := 1041) hx hb dL_law_985 (by decide) (fun q9 => ?_) (fun q9 => ?_)
  rotate_left
  · have zq : q = 25 := (nI_eq (a := q) (b := 25) (by omega) (by omega)).mp q9
    exact lc_addCaller hst C1 hI hki hz hob hop hfb hfp hP hS (lv_sub hl [1, 2, 3, 4, 5, 6, 7, 8, 9, 10, 11, 12, 13, 14] rfl) hc hs hcB hsB hN hev hjr hjc hpj hpn K (by omega) (hp1 (by omega))
  have z985 : q ≠ 25 := fun z => q9 (by rw [z]; rfl)
  exact lc_else hst C1 hI hki hz hob hop hfb hfp hP hS (lv_sub hl [1, 2, 3, 4, 5, 6, 7, 8, 9, 10, 11, 12, 13, 14] rfl) hc hs hcB hsB hN hev hjr hjc hpj hpn K (by omega)
set_option maxHeartbeats 4000000 in
set_option maxRecDepth 100000 in
theorem lw_ev (hst : l.stackTraces = false) (C1 : wCt p s m args meth c RL cL_law 21 wsL_law E A) (hJ0 : lwJ E x ob op F w N) (hN : N + 8 ≤ 512) (hpe : ev ≤ 2 → F 24 1 = ev) (hp1 : 1 ≤ ev → 1 ≤ F 24 1) (hev : ev < 56) (hP : wP E.1 A w H) (hS : va_S A s.heap H locs) (hl : lv_has ls 21 [(0, .ref (E.2.2 102)), (1, .ref x), (2, .ref ob), (3, .ref op), (4, .int (nI (F 24 0))), (5, .int (nI (F 24 2))), (6, .int (nI (F 24 1))), (7, .int (nI ev))]) (hc : cells ≤ cB) (hs : slots ≤ sB) (hcB : cB + 12000 ≤ 677584) (hsB : sB + 120000 ≤ 7061175)
    (K : ∀ (F2 : FF) (w : wW) (H : Heap) (locs : List Loc) (ls : Array Slot) (cells slots : Nat), lwJ E x ob op F2 w (N + 8) → (ev + 1 ≤ 2 → F2 24 1 = ev + 1) → 1 ≤ F2 24 1 → wP E.1 A w H → va_S A s.heap H locs → lv_has ls 21 [(0, .ref (E.2.2 102)), (1, .ref x), (2, .ref ob), (3, .ref op), (4, .int (nI (F2 24 0))), (5, .int (nI (F2 24 2))), (6, .int (nI (F2 24 1))), (7, .int (nI (ev + 1)))] → cells ≤ cB + 12000 → slots ≤ sB + 120000 → W p l e room_1 s m args below meth c H locs cells slots Q (F0 m 29 ls [])) : W p l e room_1 s m args below meth c H locs cells slots Q (F0 m 29 ls []) := by
  obtain ⟨hI, hki, ⟨AD, hs6, hx5⟩, ⟨fb, hob, hfb⟩, fp, hop, hfp⟩ := hJ0
  have hz : zK E F x w w := ⟨⟨AD, hs6, hx5⟩, wKp.rf⟩
  have C0 := C1.1
  have hx := C0.1
  have hb := C0.2.1
  have hts := C0.2.2.2.2.1
  have hown := C0.2.2.2.1
  have hn9 := hI.n
  refine lv_iload hx hb dL_law_29 (lv_at hl 7 rfl) ?_
  refine lv_bipush (v := 56) hx hb dL_law_31 (by decide) ?_
  refine lv_icmp_ge (tgt := 1253) hx hb dL_law_33 (by decide) (fun q9 => absurd q9 (nI_ge (a := ev) (b := 56) (by omega) (by omega))) (fun q9 => ?_)
  refine lv_aload_n hx hb dL_law_36 rfl (lv_at hl 0 rfl) ?_
  refine lv_iload hx hb dL_law_37 (lv_at hl 7 rfl) ?_
  refine wt_cell (k := ev) hst C1 hP hS (by omega) gL_law_L_cell ⟨(Nat.le_of_ble_eq_true rfl), (Nat.le_of_ble_eq_true rfl)⟩ hl.1 (Nat.le_of_ble_eq_true rfl) dL_law_39 (show _ ≤ 677584 by omega) (show _ ≤ 7061175 by omega) (fun g8 H locs hP hS => ?_)
  refine W.eq (g2 := F0 m 42 ls [.int g8]) rfl ?_
  refine lv_istore (lv' := [(8, .int g8), (0, .ref (E.2.2 102)), (1, .ref x), (2, .ref ob), (3, .ref op), (4, .int (nI (F 24 0))), (5, .int (nI (F 24 2))), (6, .int (nI (F 24 1))), (7, .int (nI ev))]) hx hb dL_law_42 hl (by decide) rfl (fun ls hl => ?_)
  refine lv_iload hx hb dL_law_44 (lv_at hl 0 rfl) ?_
  refine lv_iconst (v := 5) hx hb dL_law_46 (by decide) ?_
  refine lv_ishr hx hb dL_law_47 ?_
  refine lv_iload hx hb dL_law_48 (lv_at hl 5 rfl) ?_
  refine lv_iconst (v := 1) hx hb dL_law_50 (by decide) ?_
  refine lv_iadd hx hb dL_law_51 ?_
  refine wt_low (v1 := g8 >>> (5 &&& 31)) (F 24 0 + 1) hst C1 hP hS (nI_succ _).symm (by omega) (by omega) gL_law_L_low ⟨(Nat.le_of_ble_eq_true rfl), (Nat.le_of_ble_eq_true rfl)⟩ hl.1 (Nat.le_of_ble_eq_true rfl) dL_law_52 (show _ ≤ 677584 by omega) (show _ ≤ 7061175 by omega) (fun j52 H locs hj52 ej52 hP hS => ?_)
  refine W.eq (g2 := F0 m 55 ls [.int (nI j52)]) rfl ?_
  refine lv_istore (lv' := [(9, .int (nI j52)), (8, .int g8), (0, .ref (E.2.2 102)), (1, .ref x), (2, .ref ob), (3, .ref op), (4, .int (nI (F 24 0))), (5, .int (nI (F 24 2))), (6, .int (nI (F 24 1))), (7, .int (nI ev))]) hx hb dL_law_55 hl (by decide) rfl (fun ls hl => ?_)
  refine lv_iload hx hb dL_law_57 (lv_at hl 1 rfl) ?_
  refine lv_bipush (v := 9) hx hb dL_law_59 (by decide) ?_
  refine lv_ishr hx hb dL_law_61 ?_
  refine lv_iload hx hb dL_law_62 (lv_at hl 7 rfl) ?_
  refine lv_iconst (v := 1) hx hb dL_law_64 (by decide) ?_
  refine lv_iadd hx hb dL_law_65 ?_
  refine wt_low (v1 := g8 >>> (9 &&& 31)) (F 24 2 + 1) hst C1 hP hS (nI_succ _).symm (by omega) (by omega) gL_law_L_low ⟨(Nat.le_of_ble_eq_true rfl), (Nat.le_of_ble_eq_true rfl)⟩ hl.1 (Nat.le_of_ble_eq_true rfl) dL_law_66 (show _ ≤ 677584 by omega) (show _ ≤ 7061175 by omega) (fun j66 H locs hj66 ej66 hP hS => ?_)
  refine W.eq (g2 := F0 m 69 ls [.int (nI j66)]) rfl ?_
  refine lv_istore (lv' := [(10, .int (nI j66)), (9, .int (nI j52)), (8, .int g8), (0, .ref (E.2.2 102)), (1, .ref x), (2, .ref ob), (3, .ref op), (4, .int (nI (F 24 0))), (5, .int (nI (F 24 2))), (6, .int (nI (F 24 1))), (7, .int (nI ev))]) hx hb dL_law_69 hl (by decide) rfl (fun ls hl => ?_)
  have go2 : ∀ (q pj : Nat) (H : Heap) (locs : List Loc) (ls : Array Slot), q < 32 → (ev < 2 → q = 24) → (2 ≤ ev → ev < 4 → q = 25) → pathB (nI pj) = true → pj < 100 → wP E.1 A w H → va_S A s.heap H locs → lv_has ls 21 [(11, .int (nI q)), (0, .ref (E.2.2 102)), (1, .ref x), (2, .ref ob), (3, .ref op), (4, .int (nI (F 24 0))), (5, .int (nI (F 24 2))), (6, .int (nI (F 24 1))), (7, .int (nI ev)), (8, .int g8), (9, .int (nI j52)), (10, .int (nI j66))] → W p l e room_1 s m args below meth c H locs cells slots Q (F0 m 162 ls [.int (nI pj)]) := by
    intro q pj H locs ls hq hq1 hq2 hpj hpn hP hS hl
    refine lv_istore (lv' := [(12, .int (nI pj)), (11, .int (nI q)), (0, .ref (E.2.2 102)), (1, .ref x), (2, .ref ob), (3, .ref op), (4, .int (nI (F 24 0))), (5, .int (nI (F 24 2))), (6, .int (nI (F 24 1))), (7, .int (nI ev)), (8, .int g8), (9, .int (nI j52)), (10, .int (nI j66))]) hx hb dL_law_162 hl (by decide) rfl (fun ls hl => ?_)
    refine lv_aload_n hx hb dL_law_164 rfl (lv_at hl 3 rfl) ?_
    refine lv_iload hx hb dL_law_165 (lv_at hl 6 rfl) ?_
    refine lv_iload hx hb dL_law_167 (lv_at hl 7 rfl) ?_
    refine wt_goS (As := [.ref x, .int (nI (F 24 0)), .int (nI (F 24 2))]) (rest := []) C1 hP hS (k_L_state l hst E _ _ F x N _ hI hz (F 24 0) (F 24 2) (by omega) (by omega)) (va_cwS 3 hts gL_law_L_state rfl rfl rfl (by decide +kernel) ⟨(Nat.le_of_ble_eq_true rfl), (Nat.le_of_ble_eq_true rfl)⟩) rfl rfl hl.1 (Nat.le_of_ble_eq_true rfl) dL_law_169 (show _ ≤ 677584 by omega) (show _ ≤ 7061175 by omega) (fun v w H locs hq hP hS => ?_)
    obtain ⟨rfl, hz⟩ := hq
    refine W.eq (g2 := F0 m 172 ls [.long (h_state F (F 24 0) (F 24 2))]) rfl ?_
    refine lv_lstore (lv' := [(13, .long (h_state F (F 24 0) (F 24 2))), (12, .int (nI pj)), (11, .int (nI q)), (0, .ref (E.2.2 102)), (1, .ref x), (2, .ref ob), (3, .ref op), (4, .int (nI (F 24 0))), (5, .int (nI (F 24 2))), (6, .int (nI (F 24 1))), (7, .int (nI ev)), (8, .int g8), (9, .int (nI j52)), (10, .int (nI j66))]) hx hb dL_law_172 hl (by decide) rfl (fun ls hl => ?_)
    refine lv_iconst (v := 0) hx hb dL_law_174 (by decide) ?_
    refine lv_istore (lv' := [(15, .int 0), (13, .long (h_state F (F 24 0) (F 24 2))), (12, .int (nI pj)), (11, .int (nI q)), (0, .ref (E.2.2 102)), (1, .ref x), (2, .ref ob), (3, .ref op), (4, .int (nI (F 24 0))), (5, .int (nI (F 24 2))), (6, .int (nI (F 24 1))), (7, .int (nI ev)), (8, .int g8), (9, .int (nI j52)), (10, .int (nI j66))]) hx hb dL_law_175 hl (by decide) rfl (fun ls hl => ?_)
    refine lw_disp (q := q) (cB := cB) (sB := sB) (was := h_state F (F 24 0) (F 24 2)) (jr := j52) (jc := j66) (pj := pj) (g8 := g8) (ev := ev) hst C1 hI hki hz hob hop hfb hfp hP hS (lv_sub hl [3, 4, 5, 6, 7, 8, 9, 10, 11, 12, 13, 14, 2, 1, 0] rfl) (by omega) (by omega) hcB hsB hN hev (by omega) (by omega) hpj hpn ?_ hq hq1 hq2 hpe hp1
    intro F2 t w2 H2 locs2 ls2 c2 s2 hJ2 ht2 hm1 hm2 hP2 hS2 hl2 hc2 hs2
    exact lw_join (ev := ev) (cB := cB) (sB := sB) hst C1 hJ2 ht2 rfl hP2 hS2 hl2 hc2 hs2 hcB hsB (fun w H locs ls cells slots hJ3 hP3 hS3 hl3 hc3 hs3 => K F2 w H locs ls cells slots hJ3 (fun z => by have := hm2 (by omega); have := hpe (by omega); omega) (hm3 hm1 hm2 hpe hp1) hP3 hS3 hl3 hc3 hs3)
  have go1 : ∀ (q : Nat), q < 32 → (ev < 2 → q = 24) → (2 ≤ ev → ev < 4 → q = 25) → W p l e room_1 s m args below meth c H locs cells slots Q (F0 m 109 ls [.int (nI q)]) := by
    intro q hq hq1 hq2
    refine lv_istore (lv' := [(11, .int (nI q)), (10, .int (nI j66)), (9, .int (nI j52)), (8, .int g8), (0, .ref (E.2.2 102)), (1, .ref x), (2, .ref ob), (3, .ref op), (4, .int (nI (F 24 0))), (5, .int (nI (F 24 2))), (6, .int (nI (F 24 1))), (7, .int (nI ev))]) hx hb dL_law_109 hl (by decide) rfl (fun ls hl => ?_)
    refine lv_iload hx hb dL_law_111 (lv_at hl 3 rfl) ?_
    refine lv_bipush (v := 12) hx hb dL_law_113 (by decide) ?_
    refine lv_ishr hx hb dL_law_115 ?_
    refine lv_iconst (v := 3) hx hb dL_law_116 (by decide) ?_
    refine wt_low (v1 := g8 >>> (12 &&& 31)) 3 hst C1 hP hS (by decide) (by omega) (by omega) gL_law_L_low ⟨(Nat.le_of_ble_eq_true rfl), (Nat.le_of_ble_eq_true rfl)⟩ hl.1 (Nat.le_of_ble_eq_true rfl) dL_law_117 (show _ ≤ 677584 by omega) (show _ ≤ 7061175 by omega) (fun j117 H locs hj117 ej117 hP hS => ?_)
    refine W.eq (g2 := F0 m 120 ls [.int (nI j117)]) rfl ?_
    refine lv_if_ne (tgt := 136) hx hb dL_law_120 (by decide) (fun q9 => ?_) (fun q9 => ?_)
    · refine lv_bipush (v := 10) hx hb dL_law_136 (by decide) ?_
      refine lv_iconst (v := 1) hx hb dL_law_138 (by decide) ?_
      refine lv_iload hx hb dL_law_139 (lv_at hl 3 rfl) ?_
      refine lv_bipush (v := 14) hx hb dL_law_141 (by decide) ?_
      refine lv_ishr hx hb dL_law_143 ?_
      refine lv_iconst (v := 3) hx hb dL_law_144 (by decide) ?_
      refine wt_low (v1 := g8 >>> (14 &&& 31)) 3 hst C1 hP hS (by decide) (by omega) (by omega) gL_law_L_low ⟨(Nat.le_of_ble_eq_true rfl), (Nat.le_of_ble_eq_true rfl)⟩ hl.1 (Nat.le_of_ble_eq_true rfl) dL_law_145 (show _ ≤ 677584 by omega) (show _ ≤ 7061175 by omega) (fun j145 H locs hj145 ej145 hP hS => ?_)
      refine W.eq (g2 := F0 m 148 ls [.int (nI j145), .int 1, .int 10]) rfl ?_
      refine lv_iadd hx hb dL_law_148 ?_
      refine lv_imul hx hb dL_law_149 ?_
      refine W.eq (g2 := F0 m 150 ls [.int (nI (10 * (1 + j145)))]) (by rw [← pk_mul, ← nI_add]; rfl) ?_
      refine lv_iconst (v := 1) hx hb dL_law_150 (by decide) ?_
      refine lv_iadd hx hb dL_law_151 ?_
      refine W.eq (g2 := F0 m 152 ls [.int (nI (10 * (1 + j145) + 1))]) (by rw [nI_succ]) ?_
      refine lv_iload hx hb dL_law_152 (lv_at hl 3 rfl) ?_
      refine lv_bipush (v := 16) hx hb dL_law_154 (by decide) ?_
      refine lv_ishr hx hb dL_law_156 ?_
      refine lv_iconst (v := 3) hx hb dL_law_157 (by decide) ?_
      refine wt_low (v1 := g8 >>> (16 &&& 31)) 3 hst C1 hP hS (by decide) (by omega) (by omega) gL_law_L_low ⟨(Nat.le_of_ble_eq_true rfl), (Nat.le_of_ble_eq_true rfl)⟩ hl.1 (Nat.le_of_ble_eq_true rfl) dL_law_158 (show _ ≤ 677584 by omega) (show _ ≤ 7061175 by omega) (fun j158 H locs hj158 ej158 hP hS => ?_)
      refine W.eq (g2 := F0 m 161 ls [.int (nI j158), .int (nI (10 * (1 + j145) + 1))]) rfl ?_
      refine lv_iadd hx hb dL_law_161 ?_
      refine W.eq (g2 := F0 m 162 ls [.int (nI (10 * (1 + j145) + 1 + j158))]) (by rw [nI_add]) ?_
      exact go2 q (10 * (1 + j145) + 1 + j158) H locs ls hq hq1 hq2 (path_ok (by omega)) (by omega) hP hS (lv_sub hl [0, 4, 5, 6, 7, 8, 9, 10, 11, 3, 2, 1] rfl)
    · refine lv_iload hx hb dL_law_123 (lv_at hl 3 rfl) ?_
      refine lv_bipush (v := 14) hx hb dL_law_125 (by decide) ?_
      refine lv_ishr hx hb dL_law_127 ?_
      refine lv_bipush (v := 10) hx hb dL_law_128 (by decide) ?_
      refine wt_low (v1 := g8 >>> (14 &&& 31)) 10 hst C1 hP hS (by decide) (by omega) (by omega) gL_law_L_low ⟨(Nat.le_of_ble_eq_true rfl), (Nat.le_of_ble_eq_true rfl)⟩ hl.1 (Nat.le_of_ble_eq_true rfl) dL_law_130 (show _ ≤ 677584 by omega) (show _ ≤ 7061175 by omega) (fun j130 H locs hj130 ej130 hP hS => ?_)
      refine W.eq (g2 := F0 m 133 ls [.int (nI j130)]) rfl ?_
      refine lv_goto (tgt := 162) hx hb dL_law_133 (by decide) ?_
      exact go2 q j130 H locs ls hq hq1 hq2 (path_ok (by omega)) (by omega) hP hS (lv_sub hl [0, 4, 5, 6, 7, 8, 9, 10, 11, 3, 2, 1] rfl)
  refine lv_iload hx hb dL_law_71 (lv_at hl 10 rfl) ?_
  refine lv_iconst (v := 2) hx hb dL_law_73 (by decide) ?_
  refine lv_icmp_ge (tgt := 82) hx hb dL_law_74 (by decide) (fun q9 => ?_) (fun q9 => ?_)
  rotate_left
  · have z : ev < 2 := Nat.not_le.mp (fun z => q9 (nI_le (a := 2) (b := ev) z (by omega)))
    refine lv_bipush (v := 24) hx hb dL_law_77 (by decide) ?_
    refine lv_goto (tgt := 109) hx hb dL_law_79 (by decide) ?_
    exact go1 24 (by omega) (fun _ => rfl) (fun _ _ => by omega)
  have z1 : 2 ≤ ev := (nI_leI (a := 2) (b := ev) (by omega) (by omega)).mp q9
  refine lv_iload hx hb dL_law_82 (lv_at hl 10 rfl) ?_
  refine lv_iconst (v := 4) hx hb dL_law_84 (by decide) ?_
  refine lv_icmp_ge (tgt := 93) hx hb dL_law_85 (by decide) (fun q9 => ?_) (fun q9 => ?_)
  rotate_left
  · refine lv_bipush (v := 25) hx hb dL_law_88 (by decide) ?_
    refine lv_goto (tgt := 109) hx hb dL_law_90 (by decide) ?_
    exact go1 25 (by omega) (fun _ => by omega) (fun _ _ => rfl)
  have z2 : 4 ≤ ev := (nI_leI (a := 4) (b := ev) (by omega) (by omega)).mp q9
  refine lv_iload hx hb dL_law_93 (lv_at hl 10 rfl) ?_
  refine lv_bipush (v := 7) hx hb dL_law_95 (by decide) ?_
  refine lv_icmp_ge (tgt := 104) hx hb dL_law_97 (by decide) (fun q9 => ?_) (fun q9 => ?_)
  · refine lv_iload hx hb dL_law_104 (lv_at hl 2 rfl) ?_
    refine lv_bipush (v := 31) hx hb dL_law_106 (by decide) ?_
    refine lv_iand hx hb dL_law_108 ?_
    obtain ⟨j5, hj5, ej5⟩ := pk_andE g8 (m := 31) 5 (by decide)
    refine W.eq (g2 := F0 m 109 ls [.int (nI j5)]) (by rw [ej5]) ?_
    exact go1 j5 (by omega) (fun _ => by omega) (fun _ _ => by omega)
  · refine lv_iconst (v := 0) hx hb dL_law_100 (by decide) ?_
    refine lv_goto (tgt := 109) hx hb dL_law_101 (by decide) ?_
    exact go1 0 (by omega) (fun _ => by omega) (fun _ _ => by omega)
set_option maxHeartbeats 4000000 in
set_option maxRecDepth 100000 in
theorem lw_fin (hst : l.stackTraces = false) (C1 : wCt p s m args meth c RL cL_law 21 wsL_law E A) (hJ0 : lwJ E x ob op F w N) (hN : N ≤ 500) (hP : wP E.1 A w H) (hS : va_S A s.heap H locs) (hl : lv_has ls 21 [(0, .ref (E.2.2 102)), (1, .ref x), (2, .ref ob), (3, .ref op), (4, .int (nI (F 24 0))), (5, .int (nI (F 24 2))), (6, .int (nI (F 24 1))), (7, .int (nI ev))]) (hc : cells ≤ 677000) (hs : slots ≤ 7061000)
    (K : ∀ (H : Heap) (locs : List Loc) (ls : Array Slot) (cells slots : Nat), va_S A s.heap H locs → cells ≤ 677584 → slots ≤ 7061175 → W p l e room_1 s m args below meth c H locs cells slots Q (F0 m 1325 ls [.int 1])) : W p l e room_1 s m args below meth c H locs cells slots Q (F0 m 1253 ls []) := by
  obtain ⟨hI, hki, ⟨AD, hs6, hx5⟩, -, -⟩ := hJ0
  have hz : zK E F x w w := ⟨⟨AD, hs6, hx5⟩, wKp.rf⟩
  have C0 := C1.1
  have hx := C0.1
  have hb := C0.2.1
  have hts := C0.2.2.2.2.1
  have hown := C0.2.2.2.1
  have hn9 := hI.n
  refine lv_aload_n hx hb dL_law_1253 rfl (lv_at hl 1 rfl) ?_
  refine lv_bipush (v := 20) hx hb dL_law_1254 (by decide) ?_
  refine lv_iconst (v := 0) hx hb dL_law_1256 (by decide) ?_
  refine lv_iconst (v := 0) hx hb dL_law_1257 (by decide) ?_
  refine lv_iconst (v := 0) hx hb dL_law_1258 (by decide) ?_
  refine lv_iconst (v := 0) hx hb dL_law_1259 (by decide) ?_
  refine wt_ask C1 hP hS (k_L_ask_pass l hst E _ _ F x N _ hI hz 0 0 0 0) gL_law_L_ask ⟨(Nat.le_of_ble_eq_true rfl), (Nat.le_of_ble_eq_true rfl)⟩ hl.1 (Nat.le_of_ble_eq_true rfl) dL_law_1260 (show _ ≤ 677584 by omega) (show _ ≤ 7061175 by omega) (fun w H locs hz hP hS => ?_)
  refine W.eq (g2 := F0 m 1263 ls [.int (aE [-1002] (s_pass F 0))]) rfl ?_
  have e1 : s_pass F 0 = (1, 0, F) := by unfold s_pass; rw [if_neg (by decide)]
  rw [e1] at hz
  refine W.eq (g2 := F0 m 1263 ls [.int (-1002)]) (by rw [e1, aE_x (k := 0) (v := -1002) rfl rfl]) ?_
  refine lv_sipush (v := -1002) hx hb dL_law_1263 (by decide) ?_
  refine lv_icmp_ne (tgt := 1324) hx hb dL_law_1266 (by decide) (fun q9 => absurd rfl q9) (fun q9 => ?_)
  refine lv_aload_n hx hb dL_law_1269 rfl (lv_at hl 1 rfl) ?_
  refine lv_bipush (v := 15) hx hb dL_law_1270 (by decide) ?_
  refine lv_iload hx hb dL_law_1272 (lv_at hl 5 rfl) ?_
  refine lv_iconst (v := 0) hx hb dL_law_1274 (by decide) ?_
  refine lv_iconst (v := 0) hx hb dL_law_1275 (by decide) ?_
  refine lv_iconst (v := 0) hx hb dL_law_1276 (by decide) ?_
  refine wt_ask C1 hP hS (k_L_ask_tokens l hst E _ _ F x N _ hI hz (nI (F 24 2)) 0 0 0) gL_law_L_ask ⟨(Nat.le_of_ble_eq_true rfl), (Nat.le_of_ble_eq_true rfl)⟩ hl.1 (Nat.le_of_ble_eq_true rfl) dL_law_1277 (show _ ≤ 677584 by omega) (show _ ≤ 7061175 by omega) (fun w H locs hz hP hS => ?_)
  refine W.eq (g2 := F0 m 1280 ls [.int (aE [-1001] (s_tokens F (nI (F 24 2))))]) rfl ?_
  have e2 : s_tokens F (nI (F 24 2)) = (1, 0, F) := by unfold s_tokens; rw [vpb_no (Nat.le_refl _) (by omega)]; rfl
  refine W.eq (g2 := F0 m 1280 ls [.int (-1001)]) (by rw [e2, aE_x (k := 0) (v := -1001) rfl rfl]) ?_
  refine lv_sipush (v := -1001) hx hb dL_law_1280 (by decide) ?_
  refine lv_icmp_ne (tgt := 1324) hx hb dL_law_1283 (by decide) (fun q9 => absurd rfl q9) (fun q9 => ?_)
  refine lv_aload_n hx hb dL_law_1286 rfl (lv_at hl 1 rfl) ?_
  refine lv_iconst (v := 1) hx hb dL_law_1287 (by decide) ?_
  refine lv_sipush (v := 1010) hx hb dL_law_1288 (by decide) ?_
  refine lv_iconst (v := 0) hx hb dL_law_1291 (by decide) ?_
  refine lv_iconst (v := 0) hx hb dL_law_1292 (by decide) ?_
  refine lv_iconst (v := 0) hx hb dL_law_1293 (by decide) ?_
  refine wt_ask C1 hP hS (k_L_ask_route l hst E _ _ F x N _ hI hz 1010 0 0 0) gL_law_L_ask ⟨(Nat.le_of_ble_eq_true rfl), (Nat.le_of_ble_eq_true rfl)⟩ hl.1 (Nat.le_of_ble_eq_true rfl) dL_law_1294 (show _ ≤ 677584 by omega) (show _ ≤ 7061175 by omega) (fun w H locs hz hP hS => ?_)
  refine W.eq (g2 := F0 m 1297 ls [.int (aE [-1002, -1005] (s_route F 1010))]) rfl ?_
  have e3 : s_route F 1010 = (1, 0, F) := by unfold s_route; rw [if_neg (by decide)]
  refine W.eq (g2 := F0 m 1297 ls [.int (-1002)]) (by rw [e3, aE_x (k := 0) (v := -1002) rfl rfl]) ?_
  refine lv_sipush (v := -1002) hx hb dL_law_1297 (by decide) ?_
  refine lv_icmp_ne (tgt := 1324) hx hb dL_law_1300 (by decide) (fun q9 => absurd rfl q9) (fun q9 => ?_)
  refine lv_aload_n hx hb dL_law_1303 rfl (lv_at hl 1 rfl) ?_
  refine lv_bipush (v := 16) hx hb dL_law_1304 (by decide) ?_
  refine lv_iconst (v := 0) hx hb dL_law_1306 (by decide) ?_
  refine lv_iload hx hb dL_law_1307 (lv_at hl 4 rfl) ?_
  refine lv_iconst (v := 0) hx hb dL_law_1309 (by decide) ?_
  refine lv_iconst (v := 0) hx hb dL_law_1310 (by decide) ?_
  refine wt_ask C1 hP hS (k_L_ask_ticksUntil l hst E _ _ F x N _ hI hz 0 (nI (F 24 0)) 0 0) gL_law_L_ask ⟨(Nat.le_of_ble_eq_true rfl), (Nat.le_of_ble_eq_true rfl)⟩ hl.1 (Nat.le_of_ble_eq_true rfl) dL_law_1311 (show _ ≤ 677584 by omega) (show _ ≤ 7061175 by omega) (fun w H locs hz hP hS => ?_)
  refine W.eq (g2 := F0 m 1314 ls [.int (aE [-1001, -1005] (s_ticksUntil F 0 (nI (F 24 0))))]) rfl ?_
  have e4 : s_ticksUntil F 0 (nI (F 24 0)) = (1, 0, F) := by unfold s_ticksUntil; rw [vpb_no (Nat.le_refl _) (by omega), Bool.and_false]; rfl
  refine W.eq (g2 := F0 m 1314 ls [.int (-1001)]) (by rw [e4, aE_x (k := 0) (v := -1001) rfl rfl]) ?_
  refine lv_sipush (v := -1001) hx hb dL_law_1314 (by decide) ?_
  refine lv_icmp_ne (tgt := 1324) hx hb dL_law_1317 (by decide) (fun q9 => absurd rfl q9) (fun q9 => ?_)
  refine lv_iconst (v := 1) hx hb dL_law_1320 (by decide) ?_
  refine lv_goto (tgt := 1325) hx hb dL_law_1321 (by decide) ?_
  exact K H locs ls _ _ hS (by omega) (by omega)
set_option maxHeartbeats 4000000 in
set_option maxRecDepth 100000 in
theorem lw_loop (hst : l.stackTraces = false) (C1 : wCt p s m args meth c RL cL_law 21 wsL_law E A)
    (K : ∀ (H : Heap) (locs : List Loc) (ls : Array Slot) (cells slots : Nat), va_S A s.heap H locs → cells ≤ 677584 → slots ≤ 7061175 → W p l e room_1 s m args below meth c H locs cells slots Q (F0 m 1325 ls [.int 1])) :
    ∀ (n ev : Nat) (F : FF) (w : wW) (H : Heap) (locs : List Loc) (ls : Array Slot) (cells slots : Nat), ev + n = 56 → lwJ E x ob op F w (8 * ev) → (ev ≤ 2 → F 24 1 = ev) → (1 ≤ ev → 1 ≤ F 24 1) → wP E.1 A w H → va_S A s.heap H locs → lv_has ls 21 [(0, .ref (E.2.2 102)), (1, .ref x), (2, .ref ob), (3, .ref op), (4, .int (nI (F 24 0))), (5, .int (nI (F 24 2))), (6, .int (nI (F 24 1))), (7, .int (nI ev))] → cells ≤ 100 + 12000 * ev → slots ≤ 1000 + 120000 * ev → W p l e room_1 s m args below meth c H locs cells slots Q (F0 m 29 ls []) := by
  intro n
  induction n with
  | zero =>
    intro ev F w H locs ls cells slots he hJ hpe hp1 hP hS hl hc hs
    obtain rfl : ev = 56 := by omega
    have hx := C1.1.1
    have hb := C1.1.2.1
    refine lv_iload hx hb dL_law_29 (lv_at hl 7 rfl) ?_
    refine lv_bipush (v := 56) hx hb dL_law_31 (by decide) ?_
    refine lv_icmp_ge (tgt := 1253) hx hb dL_law_33 (by decide) (fun q9 => ?_) (fun q9 => absurd (nI_le (a := 56) (b := 56) (Nat.le_refl _) (by decide)) q9)
    exact lw_fin hst C1 hJ (by omega) hP hS hl (by omega) (by omega) K
  | succ n ih =>
    intro ev F w H locs ls cells slots he hJ hpe hp1 hP hS hl hc hs
    refine lw_ev (cB := 100 + 12000 * ev) (sB := 1000 + 120000 * ev) hst C1 hJ (by omega) hpe hp1 (by omega) hP hS hl hc hs (by omega) (by omega) (fun F2 w H locs ls cells slots hJ2 h1 h2 hP2 hS2 hl2 hc2 hs2 => ?_)
    have e8 : 8 * (ev + 1) = 8 * ev + 8 := by omega
    have hJ3 : lwJ E x ob op F2 w (8 * (ev + 1)) := by
      rw [e8]
      exact hJ2
    have hc3 : cells ≤ 100 + 12000 * (ev + 1) := by
      rw [Nat.mul_succ, ← Nat.add_assoc]
      exact hc2
    have hs3 : slots ≤ 1000 + 120000 * (ev + 1) := by
      rw [Nat.mul_succ, ← Nat.add_assoc]
      exact hs2
    exact ih (ev + 1) F2 w H locs ls cells slots (by omega) hJ3 h1 (fun _ => h2) hP2 hS2 hl2 hc3 hs3
end LBODY
