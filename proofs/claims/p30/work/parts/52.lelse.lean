section LELSE
variable {p : Program} {l : Launch} {e : Env} {s : State} {m : MethodId} {args : Array Value} {below : List Frame} {meth : Method} {c : Code} {H : Heap} {locs : List Loc} {cells slots : Nat} {Q : State → Prop}
variable {ls : Array Slot} {A : Nat → Prop} {E : wEn} {w w0 : wW} {F : FF} {x ob op N ev cB sB jr jc pj : Nat} {g8 : Int32} {was : Int64} {fb fp : Nat → Int32}
variable {F1 : FF} {t : Int32} {rr : Nat}
set_option maxHeartbeats 4000000 in
set_option maxRecDepth 100000 in
theorem le_loop (hst : l.stackTraces = false) (C1 : wCt p s m args meth c RL cL_law 21 wsL_law E A) (hI0 : wInv F N) (hI1 : wInv F1 (N + 1)) (hkp1 : kpF F F1) (hjr9 : jr < F 24 0) (hpj : pathB (nI pj) = true) (hrr : gN F1 4 (tn (nI pj)) = rr) (hcB : cB + 12000 ≤ 677584) (hsB : sB + 120000 ≤ 7061175) (hN : N + 8 ≤ 512)
    (K : ∀ (G : FF) (w : wW) (H : Heap) (locs : List Loc) (ls : Array Slot) (cells slots : Nat), wInv G (N + 1 + F 24 2) → bK F1 G jr rr (F 24 2) → zK E G x w0 w → wP E.1 A w H → va_S A s.heap H locs → lv_has ls 21 [(19, .int (nI (F 24 2))), (18, .int (nI (F1 24 3))), (16, .long (h_b F1 (F 24 2))), (15, .int t), (0, .ref (E.2.2 102)), (1, .ref x), (2, .ref ob), (3, .ref op), (4, .int (nI (F 24 0))), (5, .int (nI (F 24 2))), (6, .int (nI (F 24 1))), (7, .int (nI ev)), (8, .int g8), (9, .int (nI jr)), (10, .int (nI jc)), (12, .int (nI pj)), (13, .long was)] → cells ≤ cB + 3300 + 3 * F 24 2 → slots ≤ sB + 19800 + 18 * F 24 2 → W p l e room_1 s m args below meth c H locs cells slots Q (F0 m 1113 ls [])) :
    ∀ (n k : Nat) (G : FF) (w : wW) (H : Heap) (locs : List Loc) (ls : Array Slot) (cells slots : Nat), k + n = F 24 2 → wInv G (N + 1 + k) → bK F1 G jr rr k → zK E G x w0 w → wP E.1 A w H → va_S A s.heap H locs → lv_has ls 21 [(19, .int (nI k)), (18, .int (nI (F1 24 3))), (16, .long (h_b F1 (F 24 2))), (15, .int t), (0, .ref (E.2.2 102)), (1, .ref x), (2, .ref ob), (3, .ref op), (4, .int (nI (F 24 0))), (5, .int (nI (F 24 2))), (6, .int (nI (F 24 1))), (7, .int (nI ev)), (8, .int g8), (9, .int (nI jr)), (10, .int (nI jc)), (12, .int (nI pj)), (13, .long was)] → cells ≤ cB + 3300 + 3 * k → slots ≤ sB + 19800 + 18 * k → W p l e room_1 s m args below meth c H locs cells slots Q (F0 m 1078 ls []) := by
  have C0 := C1.1
  have hx := C0.1
  have hb := C0.2.1
  have hts := C0.2.2.2.2.1
  have hown := C0.2.2.2.1
  have hn9 := hI0.n
  intro n
  induction n with
  | zero =>
    intro k G w H locs ls cells slots hkn hI hbk hz hP hS hl hc hs
    refine lv_iload hx hb dL_law_1078 (lv_at hl 0 rfl) ?_
    refine lv_iload hx hb dL_law_1080 (lv_at hl 9 rfl) ?_
    refine lv_icmp_ge (tgt := 1113) hx hb dL_law_1082 (by decide) (fun q9 => ?_) (fun q9 => ?_)
    · obtain rfl : k = F 24 2 := by omega
      exact K G w H locs ls cells slots hI hbk hz hP hS hl hc hs
    · exact absurd (nI_le (show F 24 2 ≤ k by omega) (by omega)) q9
  | succ n ih =>
    intro k G w H locs ls cells slots hkn hI hbk hz hP hS hl hc hs
    refine lv_iload hx hb dL_law_1078 (lv_at hl 0 rfl) ?_
    refine lv_iload hx hb dL_law_1080 (lv_at hl 9 rfl) ?_
    refine lv_icmp_ge (tgt := 1113) hx hb dL_law_1082 (by decide) (fun q9 => ?_) (fun q9 => ?_)
    · exact absurd q9 (nI_ge (show k < F 24 2 by omega) (by omega))
    · have h242 : G 24 2 = F 24 2 := hbk.1.2.2.1.trans hkp1.2.2.1
      have h240 : G 24 0 = F 24 0 := hbk.1.1.trans hkp1.1
      have hn3 := hI.1.2.2.2.1
      have hgN : gN G 4 (tn (nI pj)) = rr := (gN_congr hbk.2.2.1 hbk.1.1 _ _).trans hrr
      have hv7 := v_call7 (F := G) (k := k) (p := nI pj) (by omega) (by omega) hpj
      rw [hgN] at hv7
      refine lv_aload_n hx hb dL_law_1085 rfl (lv_at hl 5 rfl) ?_
      refine lv_bipush (v := 19) hx hb dL_law_1086 (by decide) ?_
      refine lv_iload hx hb dL_law_1088 (lv_at hl 0 rfl) ?_
      refine lv_iload hx hb dL_law_1090 (lv_at hl 15 rfl) ?_
      refine lv_bipush (v := 7) hx hb dL_law_1092 (by decide) ?_
      refine lv_iconst (v := 0) hx hb dL_law_1094 (by decide) ?_
      refine wt_ask C1 hP hS (k_L_ask_call l hst E _ _ G x (N + 1 + k) _ hI hz (by omega) (nI k) (nI pj) 7 0) gL_law_L_ask ⟨(Nat.le_of_ble_eq_true rfl), (Nat.le_of_ble_eq_true rfl)⟩ hl.1 (Nat.le_of_ble_eq_true rfl) dL_law_1095 (show _ ≤ 677584 by omega) (show _ ≤ 7061175 by omega) (fun w H locs hz hP hS => ?_)
      refine W.eq (g2 := F0 m 1098 ls [.int (aE [-1001, -1002] (s_call G (nI k) (nI pj) 7))]) rfl ?_
      have hJ := J_call hI (by omega) (nI k) (nI pj) 7
      rw [hv7] at hz hJ
      have hkl := kind_le G k rr 7
      refine W.eq (g2 := F0 m 1098 ls [.int (nI (c_kind G k rr 7))]) (by rw [hv7, aE_0 rfl]) ?_
      refine lv_istore (lv' := [(20, .int (nI (c_kind G k rr 7))), (19, .int (nI k)), (18, .int (nI (F1 24 3))), (16, .long (h_b F1 (F 24 2))), (15, .int t), (0, .ref (E.2.2 102)), (1, .ref x), (2, .ref ob), (3, .ref op), (4, .int (nI (F 24 0))), (5, .int (nI (F 24 2))), (6, .int (nI (F 24 1))), (7, .int (nI ev)), (8, .int g8), (9, .int (nI jr)), (10, .int (nI jc)), (12, .int (nI pj)), (13, .long was)]) hx hb dL_law_1098 hl (by decide) rfl (fun ls hl => ?_)
      refine lv_iload hx hb dL_law_1100 (lv_at hl 0 rfl) ?_
      refine lv_if_ge (tgt := 1107) hx hb dL_law_1102 (by decide) (fun q9 => ?_) (fun q9 => absurd (nI_pos' (by omega)) q9)
      refine lv_iinc (v := nI (k + 1)) (lv' := [(19, .int (nI (k + 1))), (20, .int (nI (c_kind G k rr 7))), (18, .int (nI (F1 24 3))), (16, .long (h_b F1 (F 24 2))), (15, .int t), (0, .ref (E.2.2 102)), (1, .ref x), (2, .ref ob), (3, .ref op), (4, .int (nI (F 24 0))), (5, .int (nI (F 24 2))), (6, .int (nI (F 24 1))), (7, .int (nI ev)), (8, .int g8), (9, .int (nI jr)), (10, .int (nI jc)), (12, .int (nI pj)), (13, .long was)]) hx hb dL_law_1107 hl (k := 1) rfl (nI_succ _).symm (by decide) rfl (fun ls hl => ?_)
      refine lv_goto (tgt := 1078) hx hb dL_law_1110 (by decide) ?_
      exact ih (k + 1) (f_call G k rr 7) w H locs ls _ _ (by omega) hJ (bK_s hbk (by omega) (by omega)) hz hP hS (lv_sub hl [0, 2, 3, 4, 5, 6, 7, 8, 9, 10, 11, 12, 13, 14, 15, 16, 17] rfl) (by omega) (by omega)
set_option maxHeartbeats 4000000 in
set_option maxRecDepth 100000 in
theorem le_end (hst : l.stackTraces = false) (C1 : wCt p s m args meth c RL cL_law 21 wsL_law E A) (hI0 : wInv F N) (hI1 : wInv F1 (N + 1)) (hkp1 : kpF F F1) (hjr9 : jr < F 24 0) (hpj : pathB (nI pj) = true) (hrr : gN F1 4 (tn (nI pj)) = rr) (hcB : cB + 12000 ≤ 677584) (hsB : sB + 120000 ≤ 7061175) (hN : N + 8 ≤ 512) (hki : wKi F) (hob : w0 ob = some (.inl (E.2.1 0, 3, .inl fb))) (hop : w0 op = some (.inl (E.2.1 0, 6, .inl fp))) (hfb : ∀ i, i < F 24 1 → fb i = nI (F 11 i)) (hfp : ∀ i, i < F 24 2 → fp i = nI (F 13 i)) (ht : ¬ t < 0) (h2e : 2 ≤ ev) (K : lwK p l e s m args below meth c Q A E x ob op F N ev cB sB was) {G : FF} (hI : wInv G (N + 1 + F 24 2)) (hbk : bK F1 G jr rr (F 24 2)) (hz : zK E G x w0 w) (hP : wP E.1 A w H) (hS : va_S A s.heap H locs) (hl : lv_has ls 21 [(19, .int (nI (F 24 2))), (18, .int (nI (F1 24 3))), (16, .long (h_b F1 (F 24 2))), (15, .int t), (0, .ref (E.2.2 102)), (1, .ref x), (2, .ref ob), (3, .ref op), (4, .int (nI (F 24 0))), (5, .int (nI (F 24 2))), (6, .int (nI (F 24 1))), (7, .int (nI ev)), (8, .int g8), (9, .int (nI jr)), (10, .int (nI jc)), (12, .int (nI pj)), (13, .long was)]) (hc : cells ≤ cB + 3300 + 3 * F 24 2) (hs : slots ≤ sB + 19800 + 18 * F 24 2) : W p l e room_1 s m args below meth c H locs cells slots Q (F0 m 1113 ls []) := by
  have C0 := C1.1
  have hx := C0.1
  have hb := C0.2.1
  have hts := C0.2.2.2.2.1
  have hown := C0.2.2.2.1
  have hn9 := hI0.n
  have h242 : G 24 2 = F 24 2 := hbk.1.2.2.1.trans hkp1.2.2.1
  have h240 : G 24 0 = F 24 0 := hbk.1.1.trans hkp1.1
  have hgN : gN G 4 (tn (nI pj)) = rr := (gN_congr hbk.2.2.1 hbk.1.1 _ _).trans hrr
  have hrl : rr ≤ G 24 0 := by rw [← hgN]; exact gN_le _ _ _
  have h5 : G 5 jr ≠ 0 := by rw [hbk.2.2.2.2.1]; decide
  have hnu : n_und G jr (G 24 3) ≤ G 24 3 := ct_le _ _
  have hn3 := hI.n
  have hvt := v_tb (F := G) (r := jr) (by omega) (by omega) h5
  have hJ := J_takeBack hI (by omega) (nI jr)
  rw [hvt] at hJ
  have hkp2 := (und_kp (F := G) (i := jr) (k := G 24 3)).1
  have hks2 := (und_kp (F := G) (i := jr) (k := G 24 3)).2
  have hkp := hkp1.tr (hbk.1.tr hkp2)
  refine lv_aload_n hx hb dL_law_1113 rfl (lv_at hl 5 rfl) ?_
  refine lv_iconst (v := 1) hx hb dL_law_1114 (by decide) ?_
  refine lv_iload hx hb dL_law_1115 (lv_at hl 15 rfl) ?_
  refine lv_iconst (v := 0) hx hb dL_law_1117 (by decide) ?_
  refine lv_iconst (v := 0) hx hb dL_law_1118 (by decide) ?_
  refine lv_iconst (v := 0) hx hb dL_law_1119 (by decide) ?_
  refine wt_ask C1 hP hS (k_L_ask_route l hst E _ _ G x (N + 1 + F 24 2) _ hI hz (nI pj) 0 0 0) gL_law_L_ask ⟨(Nat.le_of_ble_eq_true rfl), (Nat.le_of_ble_eq_true rfl)⟩ hl.1 (Nat.le_of_ble_eq_true rfl) dL_law_1120 (show _ ≤ 677584 by omega) (show _ ≤ 7061175 by omega) (fun w H locs hz hP hS => ?_)
  refine W.eq (g2 := F0 m 1123 ls [.int (aE [-1002, -1005] (s_route G (nI pj)))]) rfl ?_
  refine W.eq (g2 := F0 m 1123 ls [.int (if rr < G 24 0 then nI rr else -1005)]) (by rw [v_route hpj, hgN]) ?_
  refine lv_iload hx hb dL_law_1123 (lv_at hl 13 rfl) ?_
  by_cases hrj : rr = jr
  · refine lv_icmp_ne (tgt := 1132) hx hb dL_law_1125 (by decide) (fun q9 => absurd (by rw [if_pos (by omega), hrj]) q9) (fun q9 => ?_)
    refine lv_iconst (v := 1) hx hb dL_law_1128 (by decide) ?_
    refine lv_goto (tgt := 1133) hx hb dL_law_1129 (by decide) ?_
    refine lv_istore (lv' := [(19, .int 1), (18, .int (nI (F1 24 3))), (16, .long (h_b F1 (F 24 2))), (15, .int t), (0, .ref (E.2.2 102)), (1, .ref x), (2, .ref ob), (3, .ref op), (4, .int (nI (F 24 0))), (5, .int (nI (F 24 2))), (6, .int (nI (F 24 1))), (7, .int (nI ev)), (8, .int g8), (9, .int (nI jr)), (10, .int (nI jc)), (12, .int (nI pj)), (13, .long was)]) hx hb dL_law_1133 hl (by decide) rfl (fun ls hl => ?_)
    refine lv_aload_n hx hb dL_law_1135 rfl (lv_at hl 5 rfl) ?_
    refine lv_bipush (v := 10) hx hb dL_law_1136 (by decide) ?_
    refine lv_iload hx hb dL_law_1138 (lv_at hl 13 rfl) ?_
    refine lv_iconst (v := 0) hx hb dL_law_1140 (by decide) ?_
    refine lv_iconst (v := 0) hx hb dL_law_1141 (by decide) ?_
    refine lv_iconst (v := 0) hx hb dL_law_1142 (by decide) ?_
    refine wt_ask C1 hP hS (k_L_ask_hasCanary l hst E _ _ G x (N + 1 + F 24 2) _ hI hz (nI jr) 0 0 0) gL_law_L_ask ⟨(Nat.le_of_ble_eq_true rfl), (Nat.le_of_ble_eq_true rfl)⟩ hl.1 (Nat.le_of_ble_eq_true rfl) dL_law_1143 (show _ ≤ 677584 by omega) (show _ ≤ 7061175 by omega) (fun w H locs hz hP hS => ?_)
    refine W.eq (g2 := F0 m 1146 ls [.int (aE [-1001] (s_hasCanary G (nI jr)))]) rfl ?_
    refine W.eq (g2 := F0 m 1146 ls [.int 1]) (by rw [v_has (by omega) (by omega), if_neg h5]) ?_
    refine lv_iconst (v := 1) hx hb dL_law_1146 (by decide) ?_
    refine lv_icmp_ne (tgt := 1164) hx hb dL_law_1147 (by decide) (fun q9 => absurd rfl q9) (fun q9 => ?_)
    refine lv_aload_n hx hb dL_law_1150 rfl (lv_at hl 5 rfl) ?_
    refine lv_bipush (v := 9) hx hb dL_law_1151 (by decide) ?_
    refine lv_iload hx hb dL_law_1153 (lv_at hl 13 rfl) ?_
    refine lv_iconst (v := 0) hx hb dL_law_1155 (by decide) ?_
    refine lv_iconst (v := 0) hx hb dL_law_1156 (by decide) ?_
    refine lv_iconst (v := 0) hx hb dL_law_1157 (by decide) ?_
    refine wt_ask C1 hP hS (k_L_ask_takeBack l hst E _ _ G x (N + 1 + F 24 2) _ hI hz (nI jr) 0 0 0) gL_law_L_ask ⟨(Nat.le_of_ble_eq_true rfl), (Nat.le_of_ble_eq_true rfl)⟩ hl.1 (Nat.le_of_ble_eq_true rfl) dL_law_1158 (show _ ≤ 677584 by omega) (show _ ≤ 7061175 by omega) (fun w H locs hz hP hS => ?_)
    refine W.eq (g2 := F0 m 1161 ls [.int (aE [-1001, -1003] (s_takeBack G (nI jr)))]) rfl ?_
    rw [hvt] at hz
    refine W.eq (g2 := F0 m 1161 ls [.int (nI (n_und G jr (G 24 3)))]) (by rw [hvt, aE_0 rfl]) ?_
    refine lv_goto (tgt := 1165) hx hb dL_law_1161 (by decide) ?_
    refine lv_istore (lv' := [(20, .int (nI (n_und G jr (G 24 3)))), (19, .int 1), (18, .int (nI (F1 24 3))), (16, .long (h_b F1 (F 24 2))), (15, .int t), (0, .ref (E.2.2 102)), (1, .ref x), (2, .ref ob), (3, .ref op), (4, .int (nI (F 24 0))), (5, .int (nI (F 24 2))), (6, .int (nI (F 24 1))), (7, .int (nI ev)), (8, .int g8), (9, .int (nI jr)), (10, .int (nI jc)), (12, .int (nI pj)), (13, .long was)]) hx hb dL_law_1165 hl (by decide) rfl (fun ls hl => ?_)
    refine lv_iload hx hb dL_law_1167 (lv_at hl 0 rfl) ?_
    refine lv_if_lt (tgt := 1211) hx hb dL_law_1169 (by decide) (fun q9 => nI_nonneg (by omega) q9) (fun q9 => ?_)
    refine lv_iload hx hb dL_law_1172 (lv_at hl 1 rfl) ?_
    refine lv_if_eq (tgt := 1189) hx hb dL_law_1174 (by decide) (fun q9 => absurd q9 (by decide)) (fun q9 => ?_)
    refine lv_aload_n hx hb dL_law_1177 rfl (lv_at hl 6 rfl) ?_
    refine lv_iload hx hb dL_law_1178 (lv_at hl 10 rfl) ?_
    refine wt_goS (As := [.ref x, .int (nI (F 24 2))]) (rest := []) C1 hP hS (k_L_bills l hst E _ _ (f_und G jr (G 24 3)) x (N + 1 + F 24 2 + 1) _ hJ hz (F 24 2) (Nat.le_of_eq hkp.2.2.1.symm)) (va_cwS 2 hts gL_law_L_bills rfl rfl rfl (by decide +kernel) ⟨(Nat.le_of_ble_eq_true rfl), (Nat.le_of_ble_eq_true rfl)⟩) rfl rfl hl.1 (Nat.le_of_ble_eq_true rfl) dL_law_1180 (show _ ≤ 677584 by omega) (show _ ≤ 7061175 by omega) (fun v w H locs hq hP hS => ?_)
    obtain ⟨rfl, hz⟩ := hq
    refine W.eq (g2 := F0 m 1183 ls [.long (h_b (f_und G jr (G 24 3)) (F 24 2))]) rfl ?_
    refine lv_lload hx hb dL_law_1183 (lv_at hl 3 rfl) ?_
    refine W.lcmp hx hb dL_law_1185 ?_
    have hbb : h_b (f_und G jr (G 24 3)) (F 24 2) = h_b F1 (F 24 2) := hb_congr (fun c hc => bK_bill hI1 hJ (hrj ▸ hbk) (by rw [hkp1.2.2.1]; exact hc))
    refine lv_if_ne (tgt := 1211) hx hb dL_law_1186 (by decide) (fun q9 => absurd ((lg_cmp_eq _ _).mpr hbb) q9) (fun q9 => ?_)
    refine lv_aload_n hx hb dL_law_1189 rfl (lv_at hl 6 rfl) ?_
    refine wt_calls hst C1 hJ hz hP hS gL_law_X6_calls ⟨(Nat.le_of_ble_eq_true rfl), (Nat.le_of_ble_eq_true rfl)⟩ hl.1 (Nat.le_of_ble_eq_true rfl) dL_law_1190 (show _ ≤ 677584 by omega) (show _ ≤ 7061175 by omega) (fun H locs hP hS => ?_)
    refine W.eq (g2 := F0 m 1193 ls [.int (nI ((f_und G jr (G 24 3)) 24 3))]) rfl ?_
    refine lv_iload hx hb dL_law_1193 (lv_at hl 2 rfl) ?_
    refine lv_iload hx hb dL_law_1195 (lv_at hl 10 rfl) ?_
    refine lv_iadd hx hb dL_law_1197 ?_
    refine lv_icmp_ne (tgt := 1211) hx hb dL_law_1198 (by decide) (fun q9 => absurd (by rw [hks2.1, hbk.2.2.2.1, nI_add]) q9) (fun q9 => ?_)
    refine lv_iload hx hb dL_law_1201 (lv_at hl 1 rfl) ?_
    refine lv_if_ne (tgt := 1213) hx hb dL_law_1203 (by decide) (fun q9 => ?_) (fun q9 => absurd q9 (by decide))
    exact K (f_und G jr (G 24 3)) t w H locs ls _ _ (lwJ_kp hJ (by omega) hN (hbk.2.1.same hks2) hz hob hop hfb hfp hkp) (fun q => absurd q ht) (Nat.le_of_eq hkp.2.1.symm) (fun q => absurd q (by omega)) hP hS (by rw [hkp.1, hkp.2.1, hkp.2.2.1]; exact lv_sub hl [5, 6, 7, 8, 9, 10, 11, 12, 17, 4] rfl) (by omega) (by omega)
  · refine lv_icmp_ne (tgt := 1132) hx hb dL_law_1125 (by decide) (fun q9 => ?_) (fun q9 => (hrj (by split at q9 <;> first | exact (nI_eq (by omega) (by omega)).mp q9 | exact absurd q9.symm (fun z => nI_pos (n := jr) (by omega) (by rw [z]; decide)))).elim)
    refine lv_iconst (v := 0) hx hb dL_law_1132 (by decide) ?_
    refine lv_istore (lv' := [(19, .int 0), (18, .int (nI (F1 24 3))), (16, .long (h_b F1 (F 24 2))), (15, .int t), (0, .ref (E.2.2 102)), (1, .ref x), (2, .ref ob), (3, .ref op), (4, .int (nI (F 24 0))), (5, .int (nI (F 24 2))), (6, .int (nI (F 24 1))), (7, .int (nI ev)), (8, .int g8), (9, .int (nI jr)), (10, .int (nI jc)), (12, .int (nI pj)), (13, .long was)]) hx hb dL_law_1133 hl (by decide) rfl (fun ls hl => ?_)
    refine lv_aload_n hx hb dL_law_1135 rfl (lv_at hl 5 rfl) ?_
    refine lv_bipush (v := 10) hx hb dL_law_1136 (by decide) ?_
    refine lv_iload hx hb dL_law_1138 (lv_at hl 13 rfl) ?_
    refine lv_iconst (v := 0) hx hb dL_law_1140 (by decide) ?_
    refine lv_iconst (v := 0) hx hb dL_law_1141 (by decide) ?_
    refine lv_iconst (v := 0) hx hb dL_law_1142 (by decide) ?_
    refine wt_ask C1 hP hS (k_L_ask_hasCanary l hst E _ _ G x (N + 1 + F 24 2) _ hI hz (nI jr) 0 0 0) gL_law_L_ask ⟨(Nat.le_of_ble_eq_true rfl), (Nat.le_of_ble_eq_true rfl)⟩ hl.1 (Nat.le_of_ble_eq_true rfl) dL_law_1143 (show _ ≤ 677584 by omega) (show _ ≤ 7061175 by omega) (fun w H locs hz hP hS => ?_)
    refine W.eq (g2 := F0 m 1146 ls [.int (aE [-1001] (s_hasCanary G (nI jr)))]) rfl ?_
    refine W.eq (g2 := F0 m 1146 ls [.int 1]) (by rw [v_has (by omega) (by omega), if_neg h5]) ?_
    refine lv_iconst (v := 1) hx hb dL_law_1146 (by decide) ?_
    refine lv_icmp_ne (tgt := 1164) hx hb dL_law_1147 (by decide) (fun q9 => absurd rfl q9) (fun q9 => ?_)
    refine lv_aload_n hx hb dL_law_1150 rfl (lv_at hl 5 rfl) ?_
    refine lv_bipush (v := 9) hx hb dL_law_1151 (by decide) ?_
    refine lv_iload hx hb dL_law_1153 (lv_at hl 13 rfl) ?_
    refine lv_iconst (v := 0) hx hb dL_law_1155 (by decide) ?_
    refine lv_iconst (v := 0) hx hb dL_law_1156 (by decide) ?_
    refine lv_iconst (v := 0) hx hb dL_law_1157 (by decide) ?_
    refine wt_ask C1 hP hS (k_L_ask_takeBack l hst E _ _ G x (N + 1 + F 24 2) _ hI hz (nI jr) 0 0 0) gL_law_L_ask ⟨(Nat.le_of_ble_eq_true rfl), (Nat.le_of_ble_eq_true rfl)⟩ hl.1 (Nat.le_of_ble_eq_true rfl) dL_law_1158 (show _ ≤ 677584 by omega) (show _ ≤ 7061175 by omega) (fun w H locs hz hP hS => ?_)
    refine W.eq (g2 := F0 m 1161 ls [.int (aE [-1001, -1003] (s_takeBack G (nI jr)))]) rfl ?_
    rw [hvt] at hz
    refine W.eq (g2 := F0 m 1161 ls [.int (nI (n_und G jr (G 24 3)))]) (by rw [hvt, aE_0 rfl]) ?_
    refine lv_goto (tgt := 1165) hx hb dL_law_1161 (by decide) ?_
    refine lv_istore (lv' := [(20, .int (nI (n_und G jr (G 24 3)))), (19, .int 0), (18, .int (nI (F1 24 3))), (16, .long (h_b F1 (F 24 2))), (15, .int t), (0, .ref (E.2.2 102)), (1, .ref x), (2, .ref ob), (3, .ref op), (4, .int (nI (F 24 0))), (5, .int (nI (F 24 2))), (6, .int (nI (F 24 1))), (7, .int (nI ev)), (8, .int g8), (9, .int (nI jr)), (10, .int (nI jc)), (12, .int (nI pj)), (13, .long was)]) hx hb dL_law_1165 hl (by decide) rfl (fun ls hl => ?_)
    refine lv_iload hx hb dL_law_1167 (lv_at hl 0 rfl) ?_
    refine lv_if_lt (tgt := 1211) hx hb dL_law_1169 (by decide) (fun q9 => nI_nonneg (by omega) q9) (fun q9 => ?_)
    refine lv_iload hx hb dL_law_1172 (lv_at hl 1 rfl) ?_
    refine lv_if_eq (tgt := 1189) hx hb dL_law_1174 (by decide) (fun q9 => ?_) (fun q9 => absurd rfl q9)
    refine lv_aload_n hx hb dL_law_1189 rfl (lv_at hl 6 rfl) ?_
    refine wt_calls hst C1 hJ hz hP hS gL_law_X6_calls ⟨(Nat.le_of_ble_eq_true rfl), (Nat.le_of_ble_eq_true rfl)⟩ hl.1 (Nat.le_of_ble_eq_true rfl) dL_law_1190 (show _ ≤ 677584 by omega) (show _ ≤ 7061175 by omega) (fun H locs hP hS => ?_)
    refine W.eq (g2 := F0 m 1193 ls [.int (nI ((f_und G jr (G 24 3)) 24 3))]) rfl ?_
    refine lv_iload hx hb dL_law_1193 (lv_at hl 2 rfl) ?_
    refine lv_iload hx hb dL_law_1195 (lv_at hl 10 rfl) ?_
    refine lv_iadd hx hb dL_law_1197 ?_
    refine lv_icmp_ne (tgt := 1211) hx hb dL_law_1198 (by decide) (fun q9 => absurd (by rw [hks2.1, hbk.2.2.2.1, nI_add]) q9) (fun q9 => ?_)
    refine lv_iload hx hb dL_law_1201 (lv_at hl 1 rfl) ?_
    refine lv_if_ne (tgt := 1213) hx hb dL_law_1203 (by decide) (fun q9 => absurd rfl q9) (fun q9 => ?_)
    refine lv_iload hx hb dL_law_1206 (lv_at hl 0 rfl) ?_
    have hnz : n_und G jr (G 24 3) = 0 := ct_z (fun k hk => decide_eq_false (hbk.2.2.2.2.2.2 hrj k (by rw [← hbk.2.2.2.1]; exact hk)))
    refine lv_if_eq (tgt := 1213) hx hb dL_law_1208 (by decide) (fun q9 => ?_) (fun q9 => absurd (by rw [hnz]; rfl) q9)
    exact K (f_und G jr (G 24 3)) t w H locs ls _ _ (lwJ_kp hJ (by omega) hN (hbk.2.1.same hks2) hz hob hop hfb hfp hkp) (fun q => absurd q ht) (Nat.le_of_eq hkp.2.1.symm) (fun q => absurd q (by omega)) hP hS (by rw [hkp.1, hkp.2.1, hkp.2.2.1]; exact lv_sub hl [5, 6, 7, 8, 9, 10, 11, 12, 17, 4] rfl) (by omega) (by omega)
set_option maxHeartbeats 4000000 in
set_option maxRecDepth 100000 in
theorem lc_else (hst : l.stackTraces = false) (C1 : wCt p s m args meth c RL cL_law 21 wsL_law E A) (hI : wInv F N) (hki : wKi F) (hz : zK E F x w0 w) (hob : w0 ob = some (.inl (E.2.1 0, 3, .inl fb))) (hop : w0 op = some (.inl (E.2.1 0, 6, .inl fp))) (hfb : ∀ i, i < F 24 1 → fb i = nI (F 11 i)) (hfp : ∀ i, i < F 24 2 → fp i = nI (F 13 i)) (hP : wP E.1 A w H) (hS : va_S A s.heap H locs) (hl : lv_has ls 21 [(0, .ref (E.2.2 102)), (1, .ref x), (2, .ref ob), (3, .ref op), (4, .int (nI (F 24 0))), (5, .int (nI (F 24 2))), (6, .int (nI (F 24 1))), (7, .int (nI ev)), (8, .int g8), (9, .int (nI jr)), (10, .int (nI jc)), (12, .int (nI pj)), (13, .long was), (15, .int 0)]) (hc : cells ≤ cB + 1644) (hs : slots ≤ sB + 9864) (hcB : cB + 12000 ≤ 677584) (hsB : sB + 120000 ≤ 7061175) (hN : N + 8 ≤ 512) (hev : ev < 56) (hjr : jr ≤ F 24 0) (hjc : jc ≤ F 24 2) (hpj : pathB (nI pj) = true) (hpn : pj < 100) (K : lwK p l e s m args below meth c Q A E x ob op F N ev cB sB was) (h2e : 2 ≤ ev) : W p l e room_1 s m args below meth c H locs cells slots Q (F0 m 1041 ls []) := by
  have C0 := C1.1
  have hx := C0.1
  have hb := C0.2.1
  have hts := C0.2.2.2.2.1
  have hown := C0.2.2.2.1
  have hn9 := hI.n
  refine lv_aload_n hx hb dL_law_1041 rfl (lv_at hl 1 rfl) ?_
  refine lv_bipush (v := 6) hx hb dL_law_1042 (by decide) ?_
  refine lv_iload hx hb dL_law_1044 (lv_at hl 9 rfl) ?_
  refine lv_iconst (v := 0) hx hb dL_law_1046 (by decide) ?_
  refine lv_bipush (v := 100) hx hb dL_law_1047 (by decide) ?_
  refine lv_bipush (v := 9) hx hb dL_law_1049 (by decide) ?_
  refine wt_ask C1 hP hS (k_L_ask_begin l hst E _ _ F x N _ hI hz (nI jr) 0 100 9) gL_law_L_ask ⟨(Nat.le_of_ble_eq_true rfl), (Nat.le_of_ble_eq_true rfl)⟩ hl.1 (Nat.le_of_ble_eq_true rfl) dL_law_1051 (show _ ≤ 677584 by omega) (show _ ≤ 7061175 by omega) (fun w H locs hz hP hS => ?_)
  refine W.eq (g2 := F0 m 1054 ls [.int (aE [-1001, -1002, -1003] (s_begin F (nI jr) 0 100 9))]) rfl ?_
  have hJ := J_begin hI (by omega) (nI jr) 0 100 9
  rcases ao_begin (F := F) (a1 := nI jr) (b1 := 0) (c1 := 100) (d1 := 9) with ⟨h0, hv⟩ | ⟨h0, hv, hF⟩
  · obtain ⟨hv1, h5, h1, h2⟩ := m_begin h0
    obtain ⟨hjr9, etn⟩ := vpb_nI_t hv1 (by omega) (by omega)
    rw [etn] at h1 h2 h5
    rw [show tn (0 : Int32) = 0 from rfl, show tn (100 : Int32) = 100 from rfl, show tn (9 : Int32) = 9 from rfl] at h1 h2
    rw [h2] at hz hJ
    have hkp1 := (beg_kp (F := F) (i := jr) (a := 0) (sh := 100) (li := 9)).1
    have hbk := bK_0 (rr := gN (f_begin F jr 0 100 9) 4 (tn (nI pj))) hI hki h5
    have hnc : ncan (f_begin F jr 0 100 9) ≤ F 24 0 := Nat.le_trans (ct_le _ _) (Nat.le_of_eq hkp1.1)
    generalize f_begin F jr 0 100 9 = F1 at hz hJ hkp1 hbk hnc h1
    refine W.eq (g2 := F0 m 1054 ls [.int (nI (ncan F1))]) (by rw [hv, h1]) ?_
    refine lv_istore (lv' := [(15, .int (nI (ncan F1))), (0, .ref (E.2.2 102)), (1, .ref x), (2, .ref ob), (3, .ref op), (4, .int (nI (F 24 0))), (5, .int (nI (F 24 2))), (6, .int (nI (F 24 1))), (7, .int (nI ev)), (8, .int g8), (9, .int (nI jr)), (10, .int (nI jc)), (12, .int (nI pj)), (13, .long was)]) hx hb dL_law_1054 hl (by decide) rfl (fun ls hl => ?_)
    refine lv_iload hx hb dL_law_1056 (lv_at hl 0 rfl) ?_
    refine lv_if_lt (tgt := 1213) hx hb dL_law_1058 (by decide) (fun q9 => nI_nonneg (by omega) q9) (fun q9 => ?_)
    refine lv_aload_n hx hb dL_law_1061 rfl (lv_at hl 2 rfl) ?_
    refine lv_iload hx hb dL_law_1062 (lv_at hl 6 rfl) ?_
    refine wt_goS (As := [.ref x, .int (nI (F 24 2))]) (rest := []) C1 hP hS (k_L_bills l hst E _ _ F1 x (N + 1) _ hJ hz (F 24 2) (Nat.le_of_eq hkp1.2.2.1.symm)) (va_cwS 2 hts gL_law_L_bills rfl rfl rfl (by decide +kernel) ⟨(Nat.le_of_ble_eq_true rfl), (Nat.le_of_ble_eq_true rfl)⟩) rfl rfl hl.1 (Nat.le_of_ble_eq_true rfl) dL_law_1064 (show _ ≤ 677584 by omega) (show _ ≤ 7061175 by omega) (fun v w H locs hq hP hS => ?_)
    obtain ⟨rfl, hz⟩ := hq
    refine W.eq (g2 := F0 m 1067 ls [.long (h_b F1 (F 24 2))]) rfl ?_
    refine lv_lstore (lv' := [(16, .long (h_b F1 (F 24 2))), (15, .int (nI (ncan F1))), (0, .ref (E.2.2 102)), (1, .ref x), (2, .ref ob), (3, .ref op), (4, .int (nI (F 24 0))), (5, .int (nI (F 24 2))), (6, .int (nI (F 24 1))), (7, .int (nI ev)), (8, .int g8), (9, .int (nI jr)), (10, .int (nI jc)), (12, .int (nI pj)), (13, .long was)]) hx hb dL_law_1067 hl (by decide) rfl (fun ls hl => ?_)
    refine lv_aload_n hx hb dL_law_1069 rfl (lv_at hl 3 rfl) ?_
    refine wt_calls hst C1 hJ hz hP hS gL_law_X6_calls ⟨(Nat.le_of_ble_eq_true rfl), (Nat.le_of_ble_eq_true rfl)⟩ hl.1 (Nat.le_of_ble_eq_true rfl) dL_law_1070 (show _ ≤ 677584 by omega) (show _ ≤ 7061175 by omega) (fun H locs hP hS => ?_)
    refine W.eq (g2 := F0 m 1073 ls [.int (nI (F1 24 3))]) rfl ?_
    refine lv_istore (lv' := [(18, .int (nI (F1 24 3))), (16, .long (h_b F1 (F 24 2))), (15, .int (nI (ncan F1))), (0, .ref (E.2.2 102)), (1, .ref x), (2, .ref ob), (3, .ref op), (4, .int (nI (F 24 0))), (5, .int (nI (F 24 2))), (6, .int (nI (F 24 1))), (7, .int (nI ev)), (8, .int g8), (9, .int (nI jr)), (10, .int (nI jc)), (12, .int (nI pj)), (13, .long was)]) hx hb dL_law_1073 hl (by decide) rfl (fun ls hl => ?_)
    refine lv_iconst (v := 0) hx hb dL_law_1075 (by decide) ?_
    refine lv_istore (lv' := [(19, .int 0), (18, .int (nI (F1 24 3))), (16, .long (h_b F1 (F 24 2))), (15, .int (nI (ncan F1))), (0, .ref (E.2.2 102)), (1, .ref x), (2, .ref ob), (3, .ref op), (4, .int (nI (F 24 0))), (5, .int (nI (F 24 2))), (6, .int (nI (F 24 1))), (7, .int (nI ev)), (8, .int g8), (9, .int (nI jr)), (10, .int (nI jc)), (12, .int (nI pj)), (13, .long was)]) hx hb dL_law_1076 hl (by decide) rfl (fun ls hl => ?_)
    refine le_loop (cB := cB) (sB := sB) (w0 := w0) hst C1 hI hJ hkp1 hjr9 hpj rfl hcB hsB hN (fun G w H locs ls cells slots hI2 hbk2 hz hP hS hl hc hs => ?_) (F 24 2) 0 F1 w _ _ ls _ _ (by omega) hJ hbk hz hP hS (lv_sub hl [0, 1, 2, 3, 4, 5, 6, 7, 8, 9, 10, 11, 12, 13, 14, 15, 16] rfl) (by omega) (by omega)
    exact le_end hst C1 hI hJ hkp1 hjr9 hpj rfl hcB hsB hN hki hob hop hfb hfp (nI_pos (by omega)) h2e K hI2 hbk2 hz hP hS hl hc hs
  · rw [hF] at hz hJ
    refine lv_istore (lv' := [(15, .int (aE [-1001, -1002, -1003] (s_begin F (nI jr) 0 100 9))), (0, .ref (E.2.2 102)), (1, .ref x), (2, .ref ob), (3, .ref op), (4, .int (nI (F 24 0))), (5, .int (nI (F 24 2))), (6, .int (nI (F 24 1))), (7, .int (nI ev)), (8, .int g8), (9, .int (nI jr)), (10, .int (nI jc)), (12, .int (nI pj)), (13, .long was)]) hx hb dL_law_1054 hl (by decide) rfl (fun ls hl => ?_)
    refine lv_iload hx hb dL_law_1056 (lv_at hl 0 rfl) ?_
    refine lv_if_lt (tgt := 1213) hx hb dL_law_1058 (by decide) (fun q9 => ?_) (fun q9 => absurd hv q9)
    exact K F (aE [-1001, -1002, -1003] (s_begin F (nI jr) 0 100 9)) w H locs ls _ _ (lwJ_kp hJ (by omega) hN hki hz hob hop hfb hfp kpF.rf) (fun _ => rfl) (Nat.le_refl _) (fun q => absurd q (by omega)) hP hS (lv_sub hl [1, 2, 3, 4, 5, 6, 7, 8, 13, 0] rfl) (by omega) (by omega)
end LELSE
