/-! The law's looks: state, undone, tokens, bills. -/
def h_r (F : FF) : Nat → Int64
  | 0 => 47
  | k + 1 => 31 * (31 * (31 * h_r F k + (aE [-1001] (s_broken F (nI k))).toInt64) + (aE [-1001] (s_hasCanary F (nI k))).toInt64) + (aE [-1001, -1005] (s_faults F (nI k))).toInt64
def h_c (F : FF) (h0 : Int64) : Nat → Int64
  | 0 => h0
  | k + 1 => 31 * (31 * h_c F h0 k + (aE [-1001] (s_tokens F (nI k))).toInt64) + (aE [-1001] (s_bill32 F (nI k))).toInt64
def h_u (F : FF) (h0 : Int64) : Nat → Int64
  | 0 => h0
  | k + 1 => 31 * h_u F h0 k + (aE [-1001] (s_isUndone F (nI k))).toInt64
def h_state (F : FF) (r c : Nat) : Int64 := 31 * h_u F (h_c F (h_r F r) c) (F 24 3) + (nI (F 24 3)).toInt64
def h_b (F : FF) : Nat → Int64
  | 0 => 53
  | k + 1 => 31 * h_b F k + lN (F 15 k)
theorem v_isUndone {F : FF} {k : Nat} (hk : k < F 24 3) (hn : F 24 3 ≤ 512) : aE [-1001] (s_isUndone F (nI k)) = bI (decide (F 20 k ≠ 0)) := by
  unfold s_isUndone
  rw [if_pos (vpb_nI hk (by omega)), tn_nI (by omega)]
  exact aE_0 rfl
theorem v_tokens {F : FF} {k : Nat} (hk : k < F 24 2) (hn : F 24 2 ≤ 6) : aE [-1001] (s_tokens F (nI k)) = nI (F 14 k) := by
  unfold s_tokens
  rw [if_pos (vpb_nI hk (by omega)), tn_nI (by omega)]
  exact aE_0 rfl

def u_n (F : FF) : Nat → Int32
  | 0 => 0
  | k + 1 => u_n F k + aE [-1001] (s_isUndone F (nI k))
def t_n (F : FF) : Nat → Int32
  | 0 => 0
  | k + 1 => t_n F k + aE [-1001] (s_tokens F (nI k))
theorem u_n_eq {F : FF} {k : Nat} (hk : k ≤ F 24 3) (hn : F 24 3 ≤ 512) : u_n F k = nI (ct (fun i => decide (F 20 i ≠ 0)) k) := by
  induction k with
  | zero => rfl
  | succ k ih =>
    unfold u_n ct
    rw [ih (by omega), v_isUndone (by omega) hn]
    cases h : decide (F 20 k ≠ 0)
    · simp [bI]
    · simp [bI, nI_succ]
theorem t_n_eq {F : FF} {k : Nat} (hk : k ≤ F 24 2) (hn : F 24 2 ≤ 6) : t_n F k = nI (sm (fun i => F 14 i) k) := by
  induction k with
  | zero => rfl
  | succ k ih =>
    unfold t_n sm
    rw [ih (by omega), v_tokens (by omega) hn, nI_add]
section LKS
variable {p : Program} {l : Launch} {e : Env} {s : State} {m : MethodId} {args : Array Value} {below : List Frame} {meth : Method} {c : Code} {Q : State → Prop}
variable {A : Nat → Prop} {E : wEn} {w0 : wW} {F : FF} {x N : Nat}
set_option maxHeartbeats 4000000 in
set_option maxRecDepth 100000 in
theorem st_loop1 (hst : l.stackTraces = false) (C1 : wCt p s m args meth c RL cL_state 6 wsL_state E A) (hI : wInv F N) {r c1 c0 s0 : Nat} (hr : r ≤ 8) (hc0 : c0 + 72 ≤ 1644) (hs0 : s0 + 432 ≤ 9864)
    (K : ∀ (w : wW) (H : Heap) (locs : List Loc) (ls : Array Slot) (cells slots : Nat), zK E F x w0 w → wP E.1 A w H → va_S A s.heap H locs → lv_has ls 6 [(5, .int (nI r)), (3, .long (h_r F r)), (0, .ref x), (1, .int (nI r)), (2, .int (nI c1))] → cells ≤ c0 + 9 * r → slots ≤ s0 + 54 * r → W p l e (wRm 7 1644 9864) s m args below meth c H locs cells slots Q (F0 m 71 ls [])) :
    ∀ (n k : Nat) (w : wW) (H : Heap) (locs : List Loc) (ls : Array Slot) (cells slots : Nat), k + n = r → zK E F x w0 w → wP E.1 A w H → va_S A s.heap H locs → lv_has ls 6 [(5, .int (nI k)), (3, .long (h_r F k)), (0, .ref x), (1, .int (nI r)), (2, .int (nI c1))] → cells ≤ c0 + 9 * k → slots ≤ s0 + 54 * k → W p l e (wRm 7 1644 9864) s m args below meth c H locs cells slots Q (F0 m 7 ls []) := by
  have C0 := C1.1
  have hx := C0.1
  have hb := C0.2.1
  have hts := C0.2.2.2.2.1
  have hown := C0.2.2.2.1
  have hn9 := hI.n
  intro n
  induction n with
  | zero =>
    intro k w H locs ls cells slots hkn hz hP hS hl hc hs
    refine lv_iload hx hb dL_state_7 (lv_at hl 0 rfl) ?_
    refine lv_iload_n hx hb dL_state_9 rfl (lv_at hl 3 rfl) ?_
    refine lv_icmp_ge (tgt := 71) hx hb dL_state_10 (by decide) (fun q9 => ?_) (fun q9 => ?_)
    · obtain rfl : k = r := by omega
      exact K w H locs ls cells slots hz hP hS hl hc hs
    · exact absurd (nI_le (show r ≤ k by omega) (by omega)) q9
  | succ n ih =>
    intro k w H locs ls cells slots hkn hz hP hS hl hc hs
    refine lv_iload hx hb dL_state_7 (lv_at hl 0 rfl) ?_
    refine lv_iload_n hx hb dL_state_9 rfl (lv_at hl 3 rfl) ?_
    refine lv_icmp_ge (tgt := 71) hx hb dL_state_10 (by decide) (fun q9 => ?_) (fun q9 => ?_)
    · exact absurd q9 (nI_ge (show k < r by omega) (by omega))
    · refine lv_ldc2 (v := 31) hx hb hown (hts (.constantLong RL 105 31) (by decide +kernel)) dL_state_13 ?_
      refine lv_ldc2 (v := 31) hx hb hown (hts (.constantLong RL 105 31) (by decide +kernel)) dL_state_16 ?_
      refine lv_ldc2 (v := 31) hx hb hown (hts (.constantLong RL 105 31) (by decide +kernel)) dL_state_19 ?_
      refine lv_lload_n hx hb dL_state_22 rfl (lv_at hl 1 rfl) ?_
      refine lv_lmul hx hb dL_state_23 ?_
      refine lv_aload_n hx hb dL_state_24 rfl (lv_at hl 2 rfl) ?_
      refine lv_iconst (v := 5) hx hb dL_state_25 (by decide) ?_
      refine lv_iload hx hb dL_state_26 (lv_at hl 0 rfl) ?_
      refine lv_iconst (v := 0) hx hb dL_state_28 (by decide) ?_
      refine lv_iconst (v := 0) hx hb dL_state_29 (by decide) ?_
      refine lv_iconst (v := 0) hx hb dL_state_30 (by decide) ?_
      refine wt_ask C1 hP hS (k_L_ask_broken l hst E _ _ F x N _ hI hz (nI k) 0 0 0) gL_state_L_ask ⟨(Nat.le_of_ble_eq_true rfl), (Nat.le_of_ble_eq_true rfl)⟩ hl.1 (Nat.le_of_ble_eq_true rfl) dL_state_31 (show _ ≤ 1644 by omega) (show _ ≤ 9864 by omega) (fun w H locs hz hP hS => ?_)
      refine W.eq (g2 := F0 m 34 ls [.int (aE [-1001] (s_broken F (nI k))), .long (31 * (h_r F k)), .long 31, .long 31]) rfl ?_
      refine lv_i2l (v := (aE [-1001] (s_broken F (nI k))).toInt64) hx hb dL_state_34 rfl ?_
      refine lv_ladd hx hb dL_state_35 ?_
      refine lv_lmul hx hb dL_state_36 ?_
      refine lv_aload_n hx hb dL_state_37 rfl (lv_at hl 2 rfl) ?_
      refine lv_bipush (v := 10) hx hb dL_state_38 (by decide) ?_
      refine lv_iload hx hb dL_state_40 (lv_at hl 0 rfl) ?_
      refine lv_iconst (v := 0) hx hb dL_state_42 (by decide) ?_
      refine lv_iconst (v := 0) hx hb dL_state_43 (by decide) ?_
      refine lv_iconst (v := 0) hx hb dL_state_44 (by decide) ?_
      refine wt_ask C1 hP hS (k_L_ask_hasCanary l hst E _ _ F x N _ hI hz (nI k) 0 0 0) gL_state_L_ask ⟨(Nat.le_of_ble_eq_true rfl), (Nat.le_of_ble_eq_true rfl)⟩ hl.1 (Nat.le_of_ble_eq_true rfl) dL_state_45 (show _ ≤ 1644 by omega) (show _ ≤ 9864 by omega) (fun w H locs hz hP hS => ?_)
      refine W.eq (g2 := F0 m 48 ls [.int (aE [-1001] (s_hasCanary F (nI k))), .long (31 * ((31 * (h_r F k)) + ((aE [-1001] (s_broken F (nI k))).toInt64))), .long 31]) rfl ?_
      refine lv_i2l (v := (aE [-1001] (s_hasCanary F (nI k))).toInt64) hx hb dL_state_48 rfl ?_
      refine lv_ladd hx hb dL_state_49 ?_
      refine lv_lmul hx hb dL_state_50 ?_
      refine lv_aload_n hx hb dL_state_51 rfl (lv_at hl 2 rfl) ?_
      refine lv_bipush (v := 11) hx hb dL_state_52 (by decide) ?_
      refine lv_iload hx hb dL_state_54 (lv_at hl 0 rfl) ?_
      refine lv_iconst (v := 0) hx hb dL_state_56 (by decide) ?_
      refine lv_iconst (v := 0) hx hb dL_state_57 (by decide) ?_
      refine lv_iconst (v := 0) hx hb dL_state_58 (by decide) ?_
      refine wt_ask C1 hP hS (k_L_ask_faults l hst E _ _ F x N _ hI hz (nI k) 0 0 0) gL_state_L_ask ⟨(Nat.le_of_ble_eq_true rfl), (Nat.le_of_ble_eq_true rfl)⟩ hl.1 (Nat.le_of_ble_eq_true rfl) dL_state_59 (show _ ≤ 1644 by omega) (show _ ≤ 9864 by omega) (fun w H locs hz hP hS => ?_)
      refine W.eq (g2 := F0 m 62 ls [.int (aE [-1001, -1005] (s_faults F (nI k))), .long (31 * ((31 * ((31 * (h_r F k)) + ((aE [-1001] (s_broken F (nI k))).toInt64))) + ((aE [-1001] (s_hasCanary F (nI k))).toInt64)))]) rfl ?_
      refine lv_i2l (v := (aE [-1001, -1005] (s_faults F (nI k))).toInt64) hx hb dL_state_62 rfl ?_
      refine lv_ladd hx hb dL_state_63 ?_
      refine lv_lstore_n (lv' := [(3, .long ((31 * ((31 * ((31 * (h_r F k)) + ((aE [-1001] (s_broken F (nI k))).toInt64))) + ((aE [-1001] (s_hasCanary F (nI k))).toInt64))) + ((aE [-1001, -1005] (s_faults F (nI k))).toInt64))), (5, .int (nI k)), (0, .ref x), (1, .int (nI r)), (2, .int (nI c1))]) hx hb dL_state_64 rfl hl (by decide) rfl (fun ls hl => ?_)
      refine lv_iinc (v := nI (k + 1)) (lv' := [(5, .int (nI (k + 1))), (3, .long ((31 * ((31 * ((31 * (h_r F k)) + ((aE [-1001] (s_broken F (nI k))).toInt64))) + ((aE [-1001] (s_hasCanary F (nI k))).toInt64))) + ((aE [-1001, -1005] (s_faults F (nI k))).toInt64))), (0, .ref x), (1, .int (nI r)), (2, .int (nI c1))]) hx hb dL_state_65 hl (k := 1) rfl (nI_succ _).symm (by decide) rfl (fun ls hl => ?_)
      refine lv_goto (tgt := 7) hx hb dL_state_68 (by decide) ?_
      exact ih (k + 1) w H locs ls _ _ (by omega) hz hP hS (lv_sub hl [0, 1, 2, 3, 4] rfl) (by omega) (by omega)
set_option maxHeartbeats 4000000 in
set_option maxRecDepth 100000 in
theorem st_loop2 (hst : l.stackTraces = false) (C1 : wCt p s m args meth c RL cL_state 6 wsL_state E A) (hI : wInv F N) {r c1 c0 s0 : Nat} {h0 : Int64} (hr : c1 ≤ 6) (hc0 : c0 + 36 ≤ 1644) (hs0 : s0 + 216 ≤ 9864)
    (K : ∀ (w : wW) (H : Heap) (locs : List Loc) (ls : Array Slot) (cells slots : Nat), zK E F x w0 w → wP E.1 A w H → va_S A s.heap H locs → lv_has ls 6 [(5, .int (nI c1)), (3, .long (h_c F h0 c1)), (0, .ref x), (1, .int (nI r)), (2, .int (nI c1))] → cells ≤ c0 + 6 * c1 → slots ≤ s0 + 36 * c1 → W p l e (wRm 7 1644 9864) s m args below meth c H locs cells slots Q (F0 m 122 ls [])) :
    ∀ (n k : Nat) (w : wW) (H : Heap) (locs : List Loc) (ls : Array Slot) (cells slots : Nat), k + n = c1 → zK E F x w0 w → wP E.1 A w H → va_S A s.heap H locs → lv_has ls 6 [(5, .int (nI k)), (3, .long (h_c F h0 k)), (0, .ref x), (1, .int (nI r)), (2, .int (nI c1))] → cells ≤ c0 + 6 * k → slots ≤ s0 + 36 * k → W p l e (wRm 7 1644 9864) s m args below meth c H locs cells slots Q (F0 m 74 ls []) := by
  have C0 := C1.1
  have hx := C0.1
  have hb := C0.2.1
  have hts := C0.2.2.2.2.1
  have hown := C0.2.2.2.1
  have hn9 := hI.n
  intro n
  induction n with
  | zero =>
    intro k w H locs ls cells slots hkn hz hP hS hl hc hs
    refine lv_iload hx hb dL_state_74 (lv_at hl 0 rfl) ?_
    refine lv_iload_n hx hb dL_state_76 rfl (lv_at hl 4 rfl) ?_
    refine lv_icmp_ge (tgt := 122) hx hb dL_state_77 (by decide) (fun q9 => ?_) (fun q9 => ?_)
    · obtain rfl : k = c1 := by omega
      exact K w H locs ls cells slots hz hP hS hl hc hs
    · exact absurd (nI_le (show c1 ≤ k by omega) (by omega)) q9
  | succ n ih =>
    intro k w H locs ls cells slots hkn hz hP hS hl hc hs
    refine lv_iload hx hb dL_state_74 (lv_at hl 0 rfl) ?_
    refine lv_iload_n hx hb dL_state_76 rfl (lv_at hl 4 rfl) ?_
    refine lv_icmp_ge (tgt := 122) hx hb dL_state_77 (by decide) (fun q9 => ?_) (fun q9 => ?_)
    · exact absurd q9 (nI_ge (show k < c1 by omega) (by omega))
    · refine lv_ldc2 (v := 31) hx hb hown (hts (.constantLong RL 105 31) (by decide +kernel)) dL_state_80 ?_
      refine lv_ldc2 (v := 31) hx hb hown (hts (.constantLong RL 105 31) (by decide +kernel)) dL_state_83 ?_
      refine lv_lload_n hx hb dL_state_86 rfl (lv_at hl 1 rfl) ?_
      refine lv_lmul hx hb dL_state_87 ?_
      refine lv_aload_n hx hb dL_state_88 rfl (lv_at hl 2 rfl) ?_
      refine lv_bipush (v := 15) hx hb dL_state_89 (by decide) ?_
      refine lv_iload hx hb dL_state_91 (lv_at hl 0 rfl) ?_
      refine lv_iconst (v := 0) hx hb dL_state_93 (by decide) ?_
      refine lv_iconst (v := 0) hx hb dL_state_94 (by decide) ?_
      refine lv_iconst (v := 0) hx hb dL_state_95 (by decide) ?_
      refine wt_ask C1 hP hS (k_L_ask_tokens l hst E _ _ F x N _ hI hz (nI k) 0 0 0) gL_state_L_ask ⟨(Nat.le_of_ble_eq_true rfl), (Nat.le_of_ble_eq_true rfl)⟩ hl.1 (Nat.le_of_ble_eq_true rfl) dL_state_96 (show _ ≤ 1644 by omega) (show _ ≤ 9864 by omega) (fun w H locs hz hP hS => ?_)
      refine W.eq (g2 := F0 m 99 ls [.int (aE [-1001] (s_tokens F (nI k))), .long (31 * (h_c F h0 k)), .long 31]) rfl ?_
      refine lv_i2l (v := (aE [-1001] (s_tokens F (nI k))).toInt64) hx hb dL_state_99 rfl ?_
      refine lv_ladd hx hb dL_state_100 ?_
      refine lv_lmul hx hb dL_state_101 ?_
      refine lv_aload_n hx hb dL_state_102 rfl (lv_at hl 2 rfl) ?_
      refine lv_bipush (v := 17) hx hb dL_state_103 (by decide) ?_
      refine lv_iload hx hb dL_state_105 (lv_at hl 0 rfl) ?_
      refine lv_iconst (v := 0) hx hb dL_state_107 (by decide) ?_
      refine lv_iconst (v := 0) hx hb dL_state_108 (by decide) ?_
      refine lv_iconst (v := 0) hx hb dL_state_109 (by decide) ?_
      refine wt_ask C1 hP hS (k_L_ask_bill l hst E _ _ F x N _ hI hz (nI k) 0 0 0) gL_state_L_ask ⟨(Nat.le_of_ble_eq_true rfl), (Nat.le_of_ble_eq_true rfl)⟩ hl.1 (Nat.le_of_ble_eq_true rfl) dL_state_110 (show _ ≤ 1644 by omega) (show _ ≤ 9864 by omega) (fun w H locs hz hP hS => ?_)
      refine W.eq (g2 := F0 m 113 ls [.int (aE [-1001] (s_bill32 F (nI k))), .long (31 * ((31 * (h_c F h0 k)) + ((aE [-1001] (s_tokens F (nI k))).toInt64)))]) rfl ?_
      refine lv_i2l (v := (aE [-1001] (s_bill32 F (nI k))).toInt64) hx hb dL_state_113 rfl ?_
      refine lv_ladd hx hb dL_state_114 ?_
      refine lv_lstore_n (lv' := [(3, .long ((31 * ((31 * (h_c F h0 k)) + ((aE [-1001] (s_tokens F (nI k))).toInt64))) + ((aE [-1001] (s_bill32 F (nI k))).toInt64))), (5, .int (nI k)), (0, .ref x), (1, .int (nI r)), (2, .int (nI c1))]) hx hb dL_state_115 rfl hl (by decide) rfl (fun ls hl => ?_)
      refine lv_iinc (v := nI (k + 1)) (lv' := [(5, .int (nI (k + 1))), (3, .long ((31 * ((31 * (h_c F h0 k)) + ((aE [-1001] (s_tokens F (nI k))).toInt64))) + ((aE [-1001] (s_bill32 F (nI k))).toInt64))), (0, .ref x), (1, .int (nI r)), (2, .int (nI c1))]) hx hb dL_state_116 hl (k := 1) rfl (nI_succ _).symm (by decide) rfl (fun ls hl => ?_)
      refine lv_goto (tgt := 74) hx hb dL_state_119 (by decide) ?_
      exact ih (k + 1) w H locs ls _ _ (by omega) hz hP hS (lv_sub hl [0, 1, 2, 3, 4] rfl) (by omega) (by omega)
set_option maxHeartbeats 4000000 in
set_option maxRecDepth 100000 in
theorem st_loop3 (hst : l.stackTraces = false) (C1 : wCt p s m args meth c RL cL_state 6 wsL_state E A) (hI : wInv F N) {r c1 c0 s0 : Nat} {h0 : Int64} (hc0 : c0 + 1536 ≤ 1644) (hs0 : s0 + 9216 ≤ 9864)
    (K : ∀ (w : wW) (H : Heap) (locs : List Loc) (ls : Array Slot) (cells slots : Nat), zK E F x w0 w → wP E.1 A w H → va_S A s.heap H locs → lv_has ls 6 [(5, .int (nI (F 24 3))), (3, .long (h_u F h0 (F 24 3))), (0, .ref x), (1, .int (nI r)), (2, .int (nI c1))] → cells ≤ c0 + 3 * (F 24 3) → slots ≤ s0 + 18 * (F 24 3) → W p l e (wRm 7 1644 9864) s m args below meth c H locs cells slots Q (F0 m 159 ls [])) :
    ∀ (n k : Nat) (w : wW) (H : Heap) (locs : List Loc) (ls : Array Slot) (cells slots : Nat), k + n = F 24 3 → zK E F x w0 w → wP E.1 A w H → va_S A s.heap H locs → lv_has ls 6 [(5, .int (nI k)), (3, .long (h_u F h0 k)), (0, .ref x), (1, .int (nI r)), (2, .int (nI c1))] → cells ≤ c0 + 3 * k → slots ≤ s0 + 18 * k → W p l e (wRm 7 1644 9864) s m args below meth c H locs cells slots Q (F0 m 125 ls []) := by
  have C0 := C1.1
  have hx := C0.1
  have hb := C0.2.1
  have hts := C0.2.2.2.2.1
  have hown := C0.2.2.2.1
  have hn9 := hI.n
  intro n
  induction n with
  | zero =>
    intro k w H locs ls cells slots hkn hz hP hS hl hc hs
    refine lv_iload hx hb dL_state_125 (lv_at hl 0 rfl) ?_
    refine lv_aload_n hx hb dL_state_127 rfl (lv_at hl 2 rfl) ?_
    refine wt_calls hst C1 hI hz hP hS gL_state_X6_calls ⟨(Nat.le_of_ble_eq_true rfl), (Nat.le_of_ble_eq_true rfl)⟩ hl.1 (Nat.le_of_ble_eq_true rfl) dL_state_128 (show _ ≤ 1644 by omega) (show _ ≤ 9864 by omega) (fun H locs hP hS => ?_)
    refine W.eq (g2 := F0 m 131 ls [.int (nI (F 24 3)), .int (nI k)]) rfl ?_
    refine lv_icmp_ge (tgt := 159) hx hb dL_state_131 (by decide) (fun q9 => ?_) (fun q9 => ?_)
    · obtain rfl : k = F 24 3 := by omega
      exact K w H locs ls cells slots hz hP hS hl hc hs
    · exact absurd (nI_le (show F 24 3 ≤ k by omega) (by omega)) q9
  | succ n ih =>
    intro k w H locs ls cells slots hkn hz hP hS hl hc hs
    refine lv_iload hx hb dL_state_125 (lv_at hl 0 rfl) ?_
    refine lv_aload_n hx hb dL_state_127 rfl (lv_at hl 2 rfl) ?_
    refine wt_calls hst C1 hI hz hP hS gL_state_X6_calls ⟨(Nat.le_of_ble_eq_true rfl), (Nat.le_of_ble_eq_true rfl)⟩ hl.1 (Nat.le_of_ble_eq_true rfl) dL_state_128 (show _ ≤ 1644 by omega) (show _ ≤ 9864 by omega) (fun H locs hP hS => ?_)
    refine W.eq (g2 := F0 m 131 ls [.int (nI (F 24 3)), .int (nI k)]) rfl ?_
    refine lv_icmp_ge (tgt := 159) hx hb dL_state_131 (by decide) (fun q9 => ?_) (fun q9 => ?_)
    · exact absurd q9 (nI_ge (show k < F 24 3 by omega) (by omega))
    · refine lv_ldc2 (v := 31) hx hb hown (hts (.constantLong RL 105 31) (by decide +kernel)) dL_state_134 ?_
      refine lv_lload_n hx hb dL_state_137 rfl (lv_at hl 1 rfl) ?_
      refine lv_lmul hx hb dL_state_138 ?_
      refine lv_aload_n hx hb dL_state_139 rfl (lv_at hl 2 rfl) ?_
      refine lv_bipush (v := 22) hx hb dL_state_140 (by decide) ?_
      refine lv_iload hx hb dL_state_142 (lv_at hl 0 rfl) ?_
      refine lv_iconst (v := 0) hx hb dL_state_144 (by decide) ?_
      refine lv_iconst (v := 0) hx hb dL_state_145 (by decide) ?_
      refine lv_iconst (v := 0) hx hb dL_state_146 (by decide) ?_
      refine wt_ask C1 hP hS (k_L_ask_isUndone l hst E _ _ F x N _ hI hz (nI k) 0 0 0) gL_state_L_ask ⟨(Nat.le_of_ble_eq_true rfl), (Nat.le_of_ble_eq_true rfl)⟩ hl.1 (Nat.le_of_ble_eq_true rfl) dL_state_147 (show _ ≤ 1644 by omega) (show _ ≤ 9864 by omega) (fun w H locs hz hP hS => ?_)
      refine W.eq (g2 := F0 m 150 ls [.int (aE [-1001] (s_isUndone F (nI k))), .long (31 * (h_u F h0 k))]) rfl ?_
      refine lv_i2l (v := (aE [-1001] (s_isUndone F (nI k))).toInt64) hx hb dL_state_150 rfl ?_
      refine lv_ladd hx hb dL_state_151 ?_
      refine lv_lstore_n (lv' := [(3, .long ((31 * (h_u F h0 k)) + ((aE [-1001] (s_isUndone F (nI k))).toInt64))), (5, .int (nI k)), (0, .ref x), (1, .int (nI r)), (2, .int (nI c1))]) hx hb dL_state_152 rfl hl (by decide) rfl (fun ls hl => ?_)
      refine lv_iinc (v := nI (k + 1)) (lv' := [(5, .int (nI (k + 1))), (3, .long ((31 * (h_u F h0 k)) + ((aE [-1001] (s_isUndone F (nI k))).toInt64))), (0, .ref x), (1, .int (nI r)), (2, .int (nI c1))]) hx hb dL_state_153 hl (k := 1) rfl (nI_succ _).symm (by decide) rfl (fun ls hl => ?_)
      refine lv_goto (tgt := 125) hx hb dL_state_156 (by decide) ?_
      exact ih (k + 1) w H locs ls _ _ (by omega) hz hP hS (lv_sub hl [0, 1, 2, 3, 4] rfl) (by omega) (by omega)
set_option maxHeartbeats 4000000 in
set_option maxRecDepth 100000 in
theorem un_loop (hst : l.stackTraces = false) (C1 : wCt p s m args meth c RL cL_undone 3 wsL_undone E A) (hI : wInv F N) {c0 s0 : Nat} (hc0 : c0 + 1536 ≤ 1644) (hs0 : s0 + 9216 ≤ 9864)
    (K : ∀ (w : wW) (H : Heap) (locs : List Loc) (ls : Array Slot) (cells slots : Nat), zK E F x w0 w → wP E.1 A w H → va_S A s.heap H locs → lv_has ls 3 [(2, .int (nI (F 24 3))), (1, .int (u_n F (F 24 3))), (0, .ref x)] → cells ≤ c0 + 3 * (F 24 3) → slots ≤ s0 + 18 * (F 24 3) → W p l e (wRm 7 1644 9864) s m args below meth c H locs cells slots Q (F0 m 31 ls [])) :
    ∀ (n k : Nat) (w : wW) (H : Heap) (locs : List Loc) (ls : Array Slot) (cells slots : Nat), k + n = F 24 3 → zK E F x w0 w → wP E.1 A w H → va_S A s.heap H locs → lv_has ls 3 [(2, .int (nI k)), (1, .int (u_n F k)), (0, .ref x)] → cells ≤ c0 + 3 * k → slots ≤ s0 + 18 * k → W p l e (wRm 7 1644 9864) s m args below meth c H locs cells slots Q (F0 m 4 ls []) := by
  have C0 := C1.1
  have hx := C0.1
  have hb := C0.2.1
  have hts := C0.2.2.2.2.1
  have hown := C0.2.2.2.1
  have hn9 := hI.n
  intro n
  induction n with
  | zero =>
    intro k w H locs ls cells slots hkn hz hP hS hl hc hs
    refine lv_iload_n hx hb dL_undone_4 rfl (lv_at hl 0 rfl) ?_
    refine lv_aload_n hx hb dL_undone_5 rfl (lv_at hl 2 rfl) ?_
    refine wt_calls hst C1 hI hz hP hS gL_undone_X6_calls ⟨(Nat.le_of_ble_eq_true rfl), (Nat.le_of_ble_eq_true rfl)⟩ hl.1 (Nat.le_of_ble_eq_true rfl) dL_undone_6 (show _ ≤ 1644 by omega) (show _ ≤ 9864 by omega) (fun H locs hP hS => ?_)
    refine W.eq (g2 := F0 m 9 ls [.int (nI (F 24 3)), .int (nI k)]) rfl ?_
    refine lv_icmp_ge (tgt := 31) hx hb dL_undone_9 (by decide) (fun q9 => ?_) (fun q9 => ?_)
    · obtain rfl : k = F 24 3 := by omega
      exact K w H locs ls cells slots hz hP hS hl hc hs
    · exact absurd (nI_le (show F 24 3 ≤ k by omega) (by omega)) q9
  | succ n ih =>
    intro k w H locs ls cells slots hkn hz hP hS hl hc hs
    refine lv_iload_n hx hb dL_undone_4 rfl (lv_at hl 0 rfl) ?_
    refine lv_aload_n hx hb dL_undone_5 rfl (lv_at hl 2 rfl) ?_
    refine wt_calls hst C1 hI hz hP hS gL_undone_X6_calls ⟨(Nat.le_of_ble_eq_true rfl), (Nat.le_of_ble_eq_true rfl)⟩ hl.1 (Nat.le_of_ble_eq_true rfl) dL_undone_6 (show _ ≤ 1644 by omega) (show _ ≤ 9864 by omega) (fun H locs hP hS => ?_)
    refine W.eq (g2 := F0 m 9 ls [.int (nI (F 24 3)), .int (nI k)]) rfl ?_
    refine lv_icmp_ge (tgt := 31) hx hb dL_undone_9 (by decide) (fun q9 => ?_) (fun q9 => ?_)
    · exact absurd q9 (nI_ge (show k < F 24 3 by omega) (by omega))
    · refine lv_iload_n hx hb dL_undone_12 rfl (lv_at hl 1 rfl) ?_
      refine lv_aload_n hx hb dL_undone_13 rfl (lv_at hl 2 rfl) ?_
      refine lv_bipush (v := 22) hx hb dL_undone_14 (by decide) ?_
      refine lv_iload_n hx hb dL_undone_16 rfl (lv_at hl 0 rfl) ?_
      refine lv_iconst (v := 0) hx hb dL_undone_17 (by decide) ?_
      refine lv_iconst (v := 0) hx hb dL_undone_18 (by decide) ?_
      refine lv_iconst (v := 0) hx hb dL_undone_19 (by decide) ?_
      refine wt_ask C1 hP hS (k_L_ask_isUndone l hst E _ _ F x N _ hI hz (nI k) 0 0 0) gL_undone_L_ask ⟨(Nat.le_of_ble_eq_true rfl), (Nat.le_of_ble_eq_true rfl)⟩ hl.1 (Nat.le_of_ble_eq_true rfl) dL_undone_20 (show _ ≤ 1644 by omega) (show _ ≤ 9864 by omega) (fun w H locs hz hP hS => ?_)
      refine W.eq (g2 := F0 m 23 ls [.int (aE [-1001] (s_isUndone F (nI k))), .int (u_n F k)]) rfl ?_
      refine lv_iadd hx hb dL_undone_23 ?_
      refine lv_istore_n (lv' := [(1, .int ((u_n F k) + (aE [-1001] (s_isUndone F (nI k))))), (2, .int (nI k)), (0, .ref x)]) hx hb dL_undone_24 rfl hl (by decide) rfl (fun ls hl => ?_)
      refine lv_iinc (v := nI (k + 1)) (lv' := [(2, .int (nI (k + 1))), (1, .int ((u_n F k) + (aE [-1001] (s_isUndone F (nI k))))), (0, .ref x)]) hx hb dL_undone_25 hl (k := 1) rfl (nI_succ _).symm (by decide) rfl (fun ls hl => ?_)
      refine lv_goto (tgt := 4) hx hb dL_undone_28 (by decide) ?_
      exact ih (k + 1) w H locs ls _ _ (by omega) hz hP hS (lv_sub hl [0, 1, 2] rfl) (by omega) (by omega)
set_option maxHeartbeats 4000000 in
set_option maxRecDepth 100000 in
theorem tk_loop (hst : l.stackTraces = false) (C1 : wCt p s m args meth c RL cL_tokens 4 wsL_tokens E A) (hI : wInv F N) {c1 c0 s0 : Nat} (hr : c1 ≤ 6) (hc0 : c0 + 18 ≤ 1644) (hs0 : s0 + 108 ≤ 9864)
    (K : ∀ (w : wW) (H : Heap) (locs : List Loc) (ls : Array Slot) (cells slots : Nat), zK E F x w0 w → wP E.1 A w H → va_S A s.heap H locs → lv_has ls 4 [(3, .int (nI c1)), (2, .int (t_n F c1)), (0, .ref x), (1, .int (nI c1))] → cells ≤ c0 + 3 * c1 → slots ≤ s0 + 18 * c1 → W p l e (wRm 7 1644 9864) s m args below meth c H locs cells slots Q (F0 m 28 ls [])) :
    ∀ (n k : Nat) (w : wW) (H : Heap) (locs : List Loc) (ls : Array Slot) (cells slots : Nat), k + n = c1 → zK E F x w0 w → wP E.1 A w H → va_S A s.heap H locs → lv_has ls 4 [(3, .int (nI k)), (2, .int (t_n F k)), (0, .ref x), (1, .int (nI c1))] → cells ≤ c0 + 3 * k → slots ≤ s0 + 18 * k → W p l e (wRm 7 1644 9864) s m args below meth c H locs cells slots Q (F0 m 4 ls []) := by
  have C0 := C1.1
  have hx := C0.1
  have hb := C0.2.1
  have hts := C0.2.2.2.2.1
  have hown := C0.2.2.2.1
  have hn9 := hI.n
  intro n
  induction n with
  | zero =>
    intro k w H locs ls cells slots hkn hz hP hS hl hc hs
    refine lv_iload_n hx hb dL_tokens_4 rfl (lv_at hl 0 rfl) ?_
    refine lv_iload_n hx hb dL_tokens_5 rfl (lv_at hl 3 rfl) ?_
    refine lv_icmp_ge (tgt := 28) hx hb dL_tokens_6 (by decide) (fun q9 => ?_) (fun q9 => ?_)
    · obtain rfl : k = c1 := by omega
      exact K w H locs ls cells slots hz hP hS hl hc hs
    · exact absurd (nI_le (show c1 ≤ k by omega) (by omega)) q9
  | succ n ih =>
    intro k w H locs ls cells slots hkn hz hP hS hl hc hs
    refine lv_iload_n hx hb dL_tokens_4 rfl (lv_at hl 0 rfl) ?_
    refine lv_iload_n hx hb dL_tokens_5 rfl (lv_at hl 3 rfl) ?_
    refine lv_icmp_ge (tgt := 28) hx hb dL_tokens_6 (by decide) (fun q9 => ?_) (fun q9 => ?_)
    · exact absurd q9 (nI_ge (show k < c1 by omega) (by omega))
    · refine lv_iload_n hx hb dL_tokens_9 rfl (lv_at hl 1 rfl) ?_
      refine lv_aload_n hx hb dL_tokens_10 rfl (lv_at hl 2 rfl) ?_
      refine lv_bipush (v := 15) hx hb dL_tokens_11 (by decide) ?_
      refine lv_iload_n hx hb dL_tokens_13 rfl (lv_at hl 0 rfl) ?_
      refine lv_iconst (v := 0) hx hb dL_tokens_14 (by decide) ?_
      refine lv_iconst (v := 0) hx hb dL_tokens_15 (by decide) ?_
      refine lv_iconst (v := 0) hx hb dL_tokens_16 (by decide) ?_
      refine wt_ask C1 hP hS (k_L_ask_tokens l hst E _ _ F x N _ hI hz (nI k) 0 0 0) gL_tokens_L_ask ⟨(Nat.le_of_ble_eq_true rfl), (Nat.le_of_ble_eq_true rfl)⟩ hl.1 (Nat.le_of_ble_eq_true rfl) dL_tokens_17 (show _ ≤ 1644 by omega) (show _ ≤ 9864 by omega) (fun w H locs hz hP hS => ?_)
      refine W.eq (g2 := F0 m 20 ls [.int (aE [-1001] (s_tokens F (nI k))), .int (t_n F k)]) rfl ?_
      refine lv_iadd hx hb dL_tokens_20 ?_
      refine lv_istore_n (lv' := [(2, .int ((t_n F k) + (aE [-1001] (s_tokens F (nI k))))), (3, .int (nI k)), (0, .ref x), (1, .int (nI c1))]) hx hb dL_tokens_21 rfl hl (by decide) rfl (fun ls hl => ?_)
      refine lv_iinc (v := nI (k + 1)) (lv' := [(3, .int (nI (k + 1))), (2, .int ((t_n F k) + (aE [-1001] (s_tokens F (nI k))))), (0, .ref x), (1, .int (nI c1))]) hx hb dL_tokens_22 hl (k := 1) rfl (nI_succ _).symm (by decide) rfl (fun ls hl => ?_)
      refine lv_goto (tgt := 4) hx hb dL_tokens_25 (by decide) ?_
      exact ih (k + 1) w H locs ls _ _ (by omega) hz hP hS (lv_sub hl [0, 1, 2, 3] rfl) (by omega) (by omega)
set_option maxHeartbeats 4000000 in
set_option maxRecDepth 100000 in
theorem bi_loop (hst : l.stackTraces = false) (C1 : wCt p s m args meth c RL cL_bills 5 wsL_bills E A) (hI : wInv F N) {c1 c0 s0 : Nat} (hr : c1 ≤ 6) (hc1 : c1 ≤ F 24 2) (hc0 : c0 + 6 ≤ 1644) (hs0 : s0 + 36 ≤ 9864)
    (K : ∀ (w : wW) (H : Heap) (locs : List Loc) (ls : Array Slot) (cells slots : Nat), zK E F x w0 w → wP E.1 A w H → va_S A s.heap H locs → lv_has ls 5 [(4, .int (nI c1)), (2, .long (h_b F c1)), (0, .ref x), (1, .int (nI c1))] → cells ≤ c0 + 1 * c1 → slots ≤ s0 + 6 * c1 → W p l e (wRm 7 1644 9864) s m args below meth c H locs cells slots Q (F0 m 32 ls [])) :
    ∀ (n k : Nat) (w : wW) (H : Heap) (locs : List Loc) (ls : Array Slot) (cells slots : Nat), k + n = c1 → zK E F x w0 w → wP E.1 A w H → va_S A s.heap H locs → lv_has ls 5 [(4, .int (nI k)), (2, .long (h_b F k)), (0, .ref x), (1, .int (nI c1))] → cells ≤ c0 + 1 * k → slots ≤ s0 + 6 * k → W p l e (wRm 7 1644 9864) s m args below meth c H locs cells slots Q (F0 m 7 ls []) := by
  have C0 := C1.1
  have hx := C0.1
  have hb := C0.2.1
  have hts := C0.2.2.2.2.1
  have hown := C0.2.2.2.1
  have hn9 := hI.n
  intro n
  induction n with
  | zero =>
    intro k w H locs ls cells slots hkn hz hP hS hl hc hs
    refine lv_iload hx hb dL_bills_7 (lv_at hl 0 rfl) ?_
    refine lv_iload_n hx hb dL_bills_9 rfl (lv_at hl 3 rfl) ?_
    refine lv_icmp_ge (tgt := 32) hx hb dL_bills_10 (by decide) (fun q9 => ?_) (fun q9 => ?_)
    · obtain rfl : k = c1 := by omega
      exact K w H locs ls cells slots hz hP hS hl hc hs
    · exact absurd (nI_le (show c1 ≤ k by omega) (by omega)) q9
  | succ n ih =>
    intro k w H locs ls cells slots hkn hz hP hS hl hc hs
    refine lv_iload hx hb dL_bills_7 (lv_at hl 0 rfl) ?_
    refine lv_iload_n hx hb dL_bills_9 rfl (lv_at hl 3 rfl) ?_
    refine lv_icmp_ge (tgt := 32) hx hb dL_bills_10 (by decide) (fun q9 => ?_) (fun q9 => ?_)
    · exact absurd q9 (nI_ge (show k < c1 by omega) (by omega))
    · refine lv_ldc2 (v := 31) hx hb hown (hts (.constantLong RL 105 31) (by decide +kernel)) dL_bills_13 ?_
      refine lv_lload_n hx hb dL_bills_16 rfl (lv_at hl 1 rfl) ?_
      refine lv_lmul hx hb dL_bills_17 ?_
      refine lv_aload_n hx hb dL_bills_18 rfl (lv_at hl 2 rfl) ?_
      refine lv_iload hx hb dL_bills_19 (lv_at hl 0 rfl) ?_
      refine wt_bill (k := k) hst C1 hI hz (by omega) hP hS gL_bills_X6_bill ⟨(Nat.le_of_ble_eq_true rfl), (Nat.le_of_ble_eq_true rfl)⟩ hl.1 (Nat.le_of_ble_eq_true rfl) dL_bills_21 (show _ ≤ 1644 by omega) (show _ ≤ 9864 by omega) (fun w H locs hz hP hS => ?_)
      refine W.eq (g2 := F0 m 24 ls [.long (lN (F 15 k)), .long (31 * (h_b F k))]) rfl ?_
      refine lv_ladd hx hb dL_bills_24 ?_
      refine lv_lstore_n (lv' := [(2, .long ((31 * (h_b F k)) + (lN (F 15 k)))), (4, .int (nI k)), (0, .ref x), (1, .int (nI c1))]) hx hb dL_bills_25 rfl hl (by decide) rfl (fun ls hl => ?_)
      refine lv_iinc (v := nI (k + 1)) (lv' := [(4, .int (nI (k + 1))), (2, .long ((31 * (h_b F k)) + (lN (F 15 k)))), (0, .ref x), (1, .int (nI c1))]) hx hb dL_bills_26 hl (k := 1) rfl (nI_succ _).symm (by decide) rfl (fun ls hl => ?_)
      refine lv_goto (tgt := 7) hx hb dL_bills_29 (by decide) ?_
      exact ih (k + 1) w H locs ls _ _ (by omega) hz hP hS (lv_sub hl [0, 1, 2, 3] rfl) (by omega) (by omega)
end LKS
set_option maxHeartbeats 4000000 in
set_option maxRecDepth 100000 in
theorem k_L_state (l : Launch) (hst : l.stackTraces = false) (E : wEn) (w : wW) (sz : Nat) (F : FF) (x N : Nat) (w0 : wW) (hI : wInv F N) (hz : zK E F x w0 w) (r c1 : Nat) (hr8 : r ≤ 8) (hc6 : c1 ≤ 6) : wMt l yL_state wsL_state 7 1644 9864 E w sz [.ref x, .int (nI r), .int (nI c1)] (pL E F x w0 (h_state F r c1)) := by
  refine wt_start (own := RL) (cc := cL_state) (maxL := 6) (ret := (some .long)) rfl (by decide) rfl (Nat.le_of_ble_eq_true rfl) ?_
  intro p e s m args below meth c ls C1 hr hP hS hl
  have C0 := C1.1
  have hx := C0.1
  have hb := C0.2.1
  have hts := C0.2.2.2.2.1
  have hown := C0.2.2.2.1
  have hn9 := hI.n
  have hl : lv_has ls 6 [(0, .ref x), (1, .int (nI r)), (2, .int (nI c1))] := hl
  refine lv_ldc2 (v := 47) hx hb hown (hts (.constantLong RL 103 47) (by decide +kernel)) dL_state_0 ?_
  refine lv_lstore_n (lv' := [(3, .long 47), (0, .ref x), (1, .int (nI r)), (2, .int (nI c1))]) hx hb dL_state_3 rfl hl (by decide) rfl (fun ls hl => ?_)
  refine lv_iconst (v := 0) hx hb dL_state_4 (by decide) ?_
  refine lv_istore (lv' := [(5, .int 0), (3, .long 47), (0, .ref x), (1, .int (nI r)), (2, .int (nI c1))]) hx hb dL_state_5 hl (by decide) rfl (fun ls hl => ?_)
  refine st_loop1 (w0 := w0) (c0 := 0) (s0 := 0) (c1 := c1) hst C1 hI hr8 (by omega) (by omega) (fun w H locs ls cells slots hz hP hS hl hc hs => ?_) r 0 w _ _ ls _ _ (by omega) hz hP hS (lv_sub hl [0, 1, 2, 3, 4] rfl) (by omega) (by omega)
  refine lv_iconst (v := 0) hx hb dL_state_71 (by decide) ?_
  refine lv_istore (lv' := [(5, .int 0), (3, .long (h_r F r)), (0, .ref x), (1, .int (nI r)), (2, .int (nI c1))]) hx hb dL_state_72 hl (by decide) rfl (fun ls hl => ?_)
  refine st_loop2 (w0 := w0) (c0 := 72) (s0 := 432) (r := r) (h0 := h_r F r) hst C1 hI hc6 (by omega) (by omega) (fun w H locs ls cells slots hz hP hS hl hc hs => ?_) c1 0 w _ _ ls _ _ (by omega) hz hP hS (lv_sub hl [0, 1, 2, 3, 4] rfl) (by omega) (by omega)
  refine lv_iconst (v := 0) hx hb dL_state_122 (by decide) ?_
  refine lv_istore (lv' := [(5, .int 0), (3, .long (h_c F (h_r F r) c1)), (0, .ref x), (1, .int (nI r)), (2, .int (nI c1))]) hx hb dL_state_123 hl (by decide) rfl (fun ls hl => ?_)
  refine st_loop3 (w0 := w0) (c0 := 108) (s0 := 648) (r := r) (c1 := c1) (h0 := h_c F (h_r F r) c1) hst C1 hI (by omega) (by omega) (fun w H locs ls cells slots hz hP hS hl hc hs => ?_) (F 24 3) 0 w _ _ ls _ _ (by omega) hz hP hS (lv_sub hl [0, 1, 2, 3, 4] rfl) (by omega) (by omega)
  refine lv_ldc2 (v := 31) hx hb hown (hts (.constantLong RL 105 31) (by decide +kernel)) dL_state_159 ?_
  refine lv_lload_n hx hb dL_state_162 rfl (lv_at hl 1 rfl) ?_
  refine lv_lmul hx hb dL_state_163 ?_
  refine lv_aload_n hx hb dL_state_164 rfl (lv_at hl 2 rfl) ?_
  refine wt_calls hst C1 hI hz hP hS gL_state_X6_calls ⟨(Nat.le_of_ble_eq_true rfl), (Nat.le_of_ble_eq_true rfl)⟩ hl.1 (Nat.le_of_ble_eq_true rfl) dL_state_165 (show _ ≤ 1644 by omega) (show _ ≤ 9864 by omega) (fun H locs hP hS => ?_)
  refine W.eq (g2 := F0 m 168 ls [.int (nI (F 24 3)), .long (31 * (h_u F (h_c F (h_r F r) c1) (F 24 3)))]) rfl ?_
  refine lv_i2l (v := (nI (F 24 3)).toInt64) hx hb dL_state_168 rfl ?_
  refine lv_ladd hx hb dL_state_169 ?_
  exact wl_lret C0 hr hP hS dL_state_170 (by omega) (by omega) (⟨rfl, hz⟩)
set_option maxHeartbeats 4000000 in
set_option maxRecDepth 100000 in
theorem k_L_undone (l : Launch) (hst : l.stackTraces = false) (E : wEn) (w : wW) (sz : Nat) (F : FF) (x N : Nat) (w0 : wW) (hI : wInv F N) (hz : zK E F x w0 w)  : wMt l yL_undone wsL_undone 7 1644 9864 E w sz [.ref x] (pZ E F x w0 (nI (ct (fun i => decide (F 20 i ≠ 0)) (F 24 3)))) := by
  refine wt_start (own := RL) (cc := cL_undone) (maxL := 3) (ret := (some .int)) rfl (by decide) rfl (Nat.le_of_ble_eq_true rfl) ?_
  intro p e s m args below meth c ls C1 hr hP hS hl
  have C0 := C1.1
  have hx := C0.1
  have hb := C0.2.1
  have hts := C0.2.2.2.2.1
  have hown := C0.2.2.2.1
  have hn9 := hI.n
  have hl : lv_has ls 3 [(0, .ref x)] := hl
  refine lv_iconst (v := 0) hx hb dL_undone_0 (by decide) ?_
  refine lv_istore_n (lv' := [(1, .int 0), (0, .ref x)]) hx hb dL_undone_1 rfl hl (by decide) rfl (fun ls hl => ?_)
  refine lv_iconst (v := 0) hx hb dL_undone_2 (by decide) ?_
  refine lv_istore_n (lv' := [(2, .int 0), (1, .int 0), (0, .ref x)]) hx hb dL_undone_3 rfl hl (by decide) rfl (fun ls hl => ?_)
  refine un_loop (w0 := w0) (c0 := 0) (s0 := 0) hst C1 hI (by omega) (by omega) (fun w H locs ls cells slots hz hP hS hl hc hs => ?_) (F 24 3) 0 w _ _ ls _ _ (by omega) hz hP hS (lv_sub hl [0, 1, 2] rfl) (by omega) (by omega)
  refine lv_iload_n hx hb dL_undone_31 rfl (lv_at hl 1 rfl) ?_
  exact wl_iret C0 hr rfl hP hS dL_undone_32 (by omega) (by omega) (⟨by rw [u_n_eq (Nat.le_refl _) (by omega)], hz⟩)
set_option maxHeartbeats 4000000 in
set_option maxRecDepth 100000 in
theorem k_L_tokens (l : Launch) (hst : l.stackTraces = false) (E : wEn) (w : wW) (sz : Nat) (F : FF) (x N : Nat) (w0 : wW) (hI : wInv F N) (hz : zK E F x w0 w) (c1 : Nat) (hc1 : c1 ≤ F 24 2) : wMt l yL_tokens wsL_tokens 7 1644 9864 E w sz [.ref x, .int (nI c1)] (pZ E F x w0 (nI (sm (fun i => F 14 i) c1))) := by
  refine wt_start (own := RL) (cc := cL_tokens) (maxL := 4) (ret := (some .int)) rfl (by decide) rfl (Nat.le_of_ble_eq_true rfl) ?_
  intro p e s m args below meth c ls C1 hr hP hS hl
  have C0 := C1.1
  have hx := C0.1
  have hb := C0.2.1
  have hts := C0.2.2.2.2.1
  have hown := C0.2.2.2.1
  have hn9 := hI.n
  have hl : lv_has ls 4 [(0, .ref x), (1, .int (nI c1))] := hl
  refine lv_iconst (v := 0) hx hb dL_tokens_0 (by decide) ?_
  refine lv_istore_n (lv' := [(2, .int 0), (0, .ref x), (1, .int (nI c1))]) hx hb dL_tokens_1 rfl hl (by decide) rfl (fun ls hl => ?_)
  refine lv_iconst (v := 0) hx hb dL_tokens_2 (by decide) ?_
  refine lv_istore_n (lv' := [(3, .int 0), (2, .int 0), (0, .ref x), (1, .int (nI c1))]) hx hb dL_tokens_3 rfl hl (by decide) rfl (fun ls hl => ?_)
  refine tk_loop (w0 := w0) (c0 := 0) (s0 := 0) hst C1 hI (by omega) (by omega) (by omega) (fun w H locs ls cells slots hz hP hS hl hc hs => ?_) c1 0 w _ _ ls _ _ (by omega) hz hP hS (lv_sub hl [0, 1, 2, 3] rfl) (by omega) (by omega)
  refine lv_iload_n hx hb dL_tokens_28 rfl (lv_at hl 1 rfl) ?_
  exact wl_iret C0 hr rfl hP hS dL_tokens_29 (by omega) (by omega) (⟨by rw [t_n_eq hc1 (by omega)], hz⟩)
set_option maxHeartbeats 4000000 in
set_option maxRecDepth 100000 in
theorem k_L_bills (l : Launch) (hst : l.stackTraces = false) (E : wEn) (w : wW) (sz : Nat) (F : FF) (x N : Nat) (w0 : wW) (hI : wInv F N) (hz : zK E F x w0 w) (c1 : Nat) (hc1 : c1 ≤ F 24 2) : wMt l yL_bills wsL_bills 7 1644 9864 E w sz [.ref x, .int (nI c1)] (pL E F x w0 (h_b F c1)) := by
  refine wt_start (own := RL) (cc := cL_bills) (maxL := 5) (ret := (some .long)) rfl (by decide) rfl (Nat.le_of_ble_eq_true rfl) ?_
  intro p e s m args below meth c ls C1 hr hP hS hl
  have C0 := C1.1
  have hx := C0.1
  have hb := C0.2.1
  have hts := C0.2.2.2.2.1
  have hown := C0.2.2.2.1
  have hn9 := hI.n
  have hl : lv_has ls 5 [(0, .ref x), (1, .int (nI c1))] := hl
  refine lv_ldc2 (v := 53) hx hb hown (hts (.constantLong RL 150 53) (by decide +kernel)) dL_bills_0 ?_
  refine lv_lstore_n (lv' := [(2, .long 53), (0, .ref x), (1, .int (nI c1))]) hx hb dL_bills_3 rfl hl (by decide) rfl (fun ls hl => ?_)
  refine lv_iconst (v := 0) hx hb dL_bills_4 (by decide) ?_
  refine lv_istore (lv' := [(4, .int 0), (2, .long 53), (0, .ref x), (1, .int (nI c1))]) hx hb dL_bills_5 hl (by decide) rfl (fun ls hl => ?_)
  refine bi_loop (w0 := w0) (c0 := 0) (s0 := 0) hst C1 hI (by omega) hc1 (by omega) (by omega) (fun w H locs ls cells slots hz hP hS hl hc hs => ?_) c1 0 w _ _ ls _ _ (by omega) hz hP hS (lv_sub hl [0, 1, 2, 3] rfl) (by omega) (by omega)
  refine lv_lload_n hx hb dL_bills_32 rfl (lv_at hl 1 rfl) ?_
  exact wl_lret C0 hr hP hS dL_bills_33 (by omega) (by omega) (⟨rfl, hz⟩)
