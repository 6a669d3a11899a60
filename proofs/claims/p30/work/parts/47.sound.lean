/-! 'sound' answers true wherever the invariants hold. -/
/-- the kinds of the entries -/
def wKi (F : FF) : Prop := ∀ k, k < F 24 3 → F 17 k = 110 ∨ F 17 k = 108 ∨ F 17 k = 115 ∨ F 17 k = 99 ∨ F 17 k = 102
def kn (F : FF) (n c i : Nat) : Nat := ct (fun e => decide (F 16 e = c) && decide (nI (F 17 e) = sB i)) n
theorem sm_add (f g : Nat → Nat) (n : Nat) : sm (fun i => f i + g i) n = sm f n + sm g n := by
  induction n with
  | zero => rfl
  | succ n ih => unfold sm; rw [ih]; omega
theorem sm_1 {f : Nat → Nat} {n j v : Nat} (hj : j < n) (h : ∀ i, i < n → f i = if i = j then v else 0) : sm f n = v := by
  induction n with
  | zero => omega
  | succ n ih =>
    unfold sm
    by_cases hjn : j = n
    · subst hjn
      rw [h j (by omega), if_pos rfl, sm_z (fun i hi => by rw [h i (by omega), if_neg (by omega)])]
      omega
    · rw [h n (by omega), if_neg (by omega), ih (by omega) (fun i hi => h i (by omega))]
      omega
theorem kn_idx {v : Nat} (h : v = 110 ∨ v = 108 ∨ v = 115 ∨ v = 99 ∨ v = 102) : ∃ j, j < 5 ∧ ∀ i, i < 5 → decide (nI v = sB i) = decide (i = j) := by
  rcases h with rfl | rfl | rfl | rfl | rfl
  · exact ⟨0, by decide, by decide⟩
  · exact ⟨1, by decide, by decide⟩
  · exact ⟨2, by decide, by decide⟩
  · exact ⟨3, by decide, by decide⟩
  · exact ⟨4, by decide, by decide⟩
theorem kn_all {F : FF} {C n : Nat} (h16 : ∀ k, k < n → F 16 k < C) (hk : ∀ k, k < n → F 17 k = 110 ∨ F 17 k = 108 ∨ F 17 k = 115 ∨ F 17 k = 99 ∨ F 17 k = 102) : sm (fun c => sm (fun i => kn F n c i) 5) C = n := by
  induction n with
  | zero => exact sm_z (fun c _ => sm_z (fun i _ => rfl))
  | succ n ih =>
    have h1 := ih (fun k hk => h16 k (by omega)) (fun k hk9 => hk k (by omega))
    obtain ⟨j, hj5, hj⟩ := kn_idx (hk n (by omega))
    have h2 : sm (fun c => sm (fun i => kn F (n + 1) c i) 5) C = sm (fun c => sm (fun i => kn F n c i) 5 + (if c = F 16 n then 1 else 0)) C := by
      refine sm_congr (fun c _ => ?_)
      have h3 : sm (fun i => kn F (n + 1) c i) 5 = sm (fun i => kn F n c i + (if i = j then (if c = F 16 n then 1 else 0) else 0)) 5 := by
        refine sm_congr (fun i hi => ?_)
        show ct _ n + (if (decide (F 16 n = c) && decide (nI (F 17 n) = sB i)) = true then 1 else 0) = ct _ n + _
        rw [hj i hi]
        by_cases hc : c = F 16 n
        · by_cases hij : i = j
          · simp [hc, hij]
          · simp [hc, hij]
        · have hc2 : ¬ F 16 n = c := fun q => hc q.symm
          simp [hc, hc2]
      rw [h3, sm_add, sm_1 (v := if c = F 16 n then 1 else 0) hj5 (fun i _ => rfl)]
    rw [h2, sm_add, h1, sm_1 (v := 1) (h16 n (by omega)) (fun c _ => rfl)]
def a_k (F : FF) (c a : Nat) : Nat → Nat
  | 0 => a
  | i + 1 => a_k F c a i + kn F (F 24 3) c i
def a_n (F : FF) : Nat → Nat
  | 0 => 0
  | c + 1 => a_k F c (a_n F c) 5
theorem a_k_eq (F : FF) (c a i : Nat) : a_k F c a i = a + sm (fun i => kn F (F 24 3) c i) i := by
  induction i with
  | zero => rfl
  | succ i ih => unfold a_k sm; rw [ih]; omega
theorem a_n_eq (F : FF) (c : Nat) : a_n F c = sm (fun c => sm (fun i => kn F (F 24 3) c i) 5) c := by
  induction c with
  | zero => rfl
  | succ c ih => unfold a_n sm; rw [a_k_eq, ih]
theorem sB_isK {i : Nat} (hi : i < 5) : isK (sB i) = true := by
  rcases (show i = 0 ∨ i = 1 ∨ i = 2 ∨ i = 3 ∨ i = 4 by omega) with rfl | rfl | rfl | rfl | rfl <;> decide
theorem v_count {F : FF} {c i : Nat} (hc : c < F 24 2) (hn : F 24 2 ≤ 6) (hi : i < 5) : aE [-1001, -1002] (s_count F (nI c) (sB i)) = nI (kn F (F 24 3) c i) := by
  unfold s_count
  rw [if_pos (vpb_nI hc (by omega)), if_pos (sB_isK hi), tn_nI (by omega)]
  exact aE_0 rfl
theorem v_greatest {F : FF} (h : F 24 2 ≠ 0) : aE [-1005] (s_greatest F) = nI (g_best F (F 24 2)) := by
  unfold s_greatest
  rw [if_neg h]
  exact aE_0 rfl
theorem v_faults {F : FF} {k : Nat} (hk : k < F 24 0) (hn : F 24 0 ≤ 8) : aE [-1001, -1005] (s_faults F (nI k)) = if F 5 k = 0 then -1005 else nI (F 9 k) := by
  unfold s_faults
  rw [if_pos (vpb_nI hk (by omega)), tn_nI (by omega)]
  split
  · exact aE_x (k := 1) rfl rfl
  · exact aE_0 rfl
theorem v_has {F : FF} {k : Nat} (hk : k < F 24 0) (hn : F 24 0 ≤ 8) : aE [-1001] (s_hasCanary F (nI k)) = if F 5 k = 0 then 0 else 1 := by
  unfold s_hasCanary
  rw [if_pos (vpb_nI hk (by omega)), tn_nI (by omega)]
  refine (aE_0 rfl).trans ?_
  show bI (decide (F 5 k ≠ 0)) = _
  by_cases h : F 5 k = 0
  · simp [h, bI]
  · simp [h, bI]
theorem g_best_lt {F : FF} {n : Nat} (h : 0 < n) : g_best F n < n := by
  induction n with
  | zero => omega
  | succ n ih =>
    unfold g_best
    split
    · omega
    · rcases Nat.eq_zero_or_pos n with rfl | h0
      · exact Nat.zero_lt_one
      · exact Nat.lt_succ_of_lt (ih h0)
theorem g_best_ge {F : FF} {n c : Nat} (h : c < n) : F 15 c ≤ F 15 (g_best F n) := by
  induction n with
  | zero => omega
  | succ n ih =>
    unfold g_best
    split
    · rename_i h1
      by_cases hc : c = n
      · rw [hc]; exact Nat.le_refl _
      · exact Nat.le_of_lt (Nat.lt_of_le_of_lt (ih (by omega)) h1)
    · rename_i h1
      by_cases hc : c = n
      · rw [hc]; omega
      · exact ih (by omega)
theorem kn_le (F : FF) (n c i : Nat) : kn F n c i ≤ n := ct_le _ _
section SND
variable {p : Program} {l : Launch} {e : Env} {s : State} {m : MethodId} {args : Array Value} {below : List Frame} {meth : Method} {c : Code} {Q : State → Prop}
variable {A : Nat → Prop} {E : wEn} {w0 : wW} {F : FF} {x N ob op : Nat} {fb fp : Nat → Int32}
set_option maxHeartbeats 4000000 in
set_option maxRecDepth 100000 in
theorem sd_inner (hst : l.stackTraces = false) (C1 : wCt p s m args meth c RL cL_sound 9 wsL_sound E A) (hI : wInv F N) {k a0 c0 s0 : Nat} {v7 : Int32} (hk : k < F 24 2) (hc0 : c0 + 15 ≤ 300) (hs0 : s0 + 90 ≤ 1800)
    (K : ∀ (w : wW) (H : Heap) (locs : List Loc) (ls : Array Slot) (cells slots : Nat), zK E F x w0 w → wP E.1 A w H → va_S A s.heap H locs → lv_has ls 9 [(8, .int (nI 5)), (5, .int (nI (a_k F k a0 5))), (6, .int (nI k)), (7, .int v7), (0, .ref x), (1, .int (nI (F 24 0))), (2, .int (nI (F 24 2))), (3, .ref ob), (4, .ref op)] → cells ≤ c0 + 15 → slots ≤ s0 + 90 → W p l e (wRm 7 300 1800) s m args below meth c H locs cells slots Q (F0 m 132 ls [])) :
    ∀ (n i : Nat) (w : wW) (H : Heap) (locs : List Loc) (ls : Array Slot) (cells slots : Nat), i + n = 5 → zK E F x w0 w → wP E.1 A w H → va_S A s.heap H locs → lv_has ls 9 [(8, .int (nI i)), (5, .int (nI (a_k F k a0 i))), (6, .int (nI k)), (7, .int v7), (0, .ref x), (1, .int (nI (F 24 0))), (2, .int (nI (F 24 2))), (3, .ref ob), (4, .ref op)] → cells ≤ c0 + 3 * i → slots ≤ s0 + 18 * i → W p l e (wRm 7 300 1800) s m args below meth c H locs cells slots Q (F0 m 98 ls []) := by
  have C0 := C1.1
  have hx := C0.1
  have hb := C0.2.1
  have hts := C0.2.2.2.2.1
  have hown := C0.2.2.2.1
  have hn9 := hI.n
  intro n
  induction n with
  | zero =>
    intro i w H locs ls cells slots hkn hz hP hS hl hc hs
    refine lv_iload hx hb dL_sound_98 (lv_at hl 0 rfl) ?_
    refine lv_iconst (v := 5) hx hb dL_sound_100 (by decide) ?_
    refine lv_icmp_ge (tgt := 132) hx hb dL_sound_101 (by decide) (fun q9 => ?_) (fun q9 => ?_)
    · obtain rfl : i = 5 := by omega
      exact K w H locs ls cells slots hz hP hS hl (by omega) (by omega)
    · exact absurd (nI_le (a := 5) (b := i) (by omega) (by omega)) q9
  | succ n ih =>
    intro i w H locs ls cells slots hkn hz hP hS hl hc hs
    refine lv_iload hx hb dL_sound_98 (lv_at hl 0 rfl) ?_
    refine lv_iconst (v := 5) hx hb dL_sound_100 (by decide) ?_
    refine lv_icmp_ge (tgt := 132) hx hb dL_sound_101 (by decide) (fun q9 => ?_) (fun q9 => ?_)
    · exact absurd q9 (nI_ge (a := i) (b := 5) (by omega) (by omega))
    · refine lv_iload hx hb dL_sound_104 (lv_at hl 1 rfl) ?_
      refine lv_aload_n hx hb dL_sound_106 rfl (lv_at hl 4 rfl) ?_
      refine lv_bipush (v := 21) hx hb dL_sound_107 (by decide) ?_
      refine lv_iload hx hb dL_sound_109 (lv_at hl 2 rfl) ?_
      refine va_ldcS hx hb hown C1.2.2.1 dL_sound_111 ?_
      refine lv_iload hx hb dL_sound_113 (lv_at hl 0 rfl) ?_
      refine wt_charAt (i := i) hst C1 hP hS (by omega) gL_sound_J0_charAt_5068e ⟨(Nat.le_of_ble_eq_true rfl), (Nat.le_of_ble_eq_true rfl)⟩ hl.1 (Nat.le_of_ble_eq_true rfl) dL_sound_115 (show _ ≤ 300 by omega) (show _ ≤ 1800 by omega) (fun H locs hP hS => ?_)
      refine W.eq (g2 := F0 m 118 ls [.int (sB i), .int (nI k), .int 21, .ref x, .int (nI (a_k F k a0 i))]) rfl ?_
      refine lv_iconst (v := 0) hx hb dL_sound_118 (by decide) ?_
      refine lv_iconst (v := 0) hx hb dL_sound_119 (by decide) ?_
      refine wt_ask C1 hP hS (k_L_ask_count l hst E _ _ F x N _ hI hz (nI k) (sB i) 0 0 (sB_nar (show i < 5 by omega)).2.1) gL_sound_L_ask ⟨(Nat.le_of_ble_eq_true rfl), (Nat.le_of_ble_eq_true rfl)⟩ hl.1 (Nat.le_of_ble_eq_true rfl) dL_sound_120 (show _ ≤ 300 by omega) (show _ ≤ 1800 by omega) (fun w H locs hz hP hS => ?_)
      refine W.eq (g2 := F0 m 123 ls [.int (aE [-1001, -1002] (s_count F (nI k) (sB i))), .int (nI (a_k F k a0 i))]) rfl ?_
      refine W.eq (g2 := F0 m 123 ls [.int (nI (kn F (F 24 3) k i)), .int (nI (a_k F k a0 i))]) (by rw [v_count hk (by omega) (show i < 5 by omega)]) ?_
      refine lv_iadd hx hb dL_sound_123 ?_
      refine W.eq (g2 := F0 m 124 ls [.int (nI (a_k F k a0 (i + 1)))]) (by rw [nI_add]; rfl) ?_
      refine lv_istore (lv' := [(5, .int (nI (a_k F k a0 (i + 1)))), (8, .int (nI i)), (6, .int (nI k)), (7, .int v7), (0, .ref x), (1, .int (nI (F 24 0))), (2, .int (nI (F 24 2))), (3, .ref ob), (4, .ref op)]) hx hb dL_sound_124 hl (by decide) rfl (fun ls hl => ?_)
      refine lv_iinc (v := nI (i + 1)) (lv' := [(8, .int (nI (i + 1))), (5, .int (nI (a_k F k a0 (i + 1)))), (6, .int (nI k)), (7, .int v7), (0, .ref x), (1, .int (nI (F 24 0))), (2, .int (nI (F 24 2))), (3, .ref ob), (4, .ref op)]) hx hb dL_sound_126 hl (k := 1) rfl (nI_succ _).symm (by decide) rfl (fun ls hl => ?_)
      refine lv_goto (tgt := 98) hx hb dL_sound_129 (by decide) ?_
      exact ih (i + 1) w H locs ls _ _ (by omega) hz hP hS (lv_sub hl [0, 1, 2, 3, 4, 5, 6, 7, 8] rfl) (by omega) (by omega)
set_option maxHeartbeats 4000000 in
set_option maxRecDepth 100000 in
theorem sd_outer (hst : l.stackTraces = false) (C1 : wCt p s m args meth c RL cL_sound 9 wsL_sound E A) (hI : wInv F N) (hob : w0 ob = some (.inl (E.2.1 0, 3, .inl fb))) (hop : w0 op = some (.inl (E.2.1 0, 6, .inl fp))) (hfb : ∀ i, i < F 24 1 → fb i = nI (F 11 i)) (hfp : ∀ i, i < F 24 2 → fp i = nI (F 13 i))
    (K : ∀ (w : wW) (H : Heap) (locs : List Loc) (ls : Array Slot) (cells slots : Nat), zK E F x w0 w → wP E.1 A w H → va_S A s.heap H locs → lv_has ls 9 [(6, .int (nI (F 24 2))), (5, .int (nI (a_n F (F 24 2)))), (0, .ref x), (1, .int (nI (F 24 0))), (2, .int (nI (F 24 2))), (3, .ref ob), (4, .ref op)] → cells ≤ 30 * F 24 2 → slots ≤ 180 * F 24 2 → W p l e (wRm 7 300 1800) s m args below meth c H locs cells slots Q (F0 m 138 ls [])) :
    ∀ (n k : Nat) (w : wW) (H : Heap) (locs : List Loc) (ls : Array Slot) (cells slots : Nat), k + n = F 24 2 → zK E F x w0 w → wP E.1 A w H → va_S A s.heap H locs → lv_has ls 9 [(6, .int (nI k)), (5, .int (nI (a_n F k))), (0, .ref x), (1, .int (nI (F 24 0))), (2, .int (nI (F 24 2))), (3, .ref ob), (4, .ref op)] → cells ≤ 30 * k → slots ≤ 180 * k → W p l e (wRm 7 300 1800) s m args below meth c H locs cells slots Q (F0 m 6 ls []) := by
  have C0 := C1.1
  have hx := C0.1
  have hb := C0.2.1
  have hts := C0.2.2.2.2.1
  have hown := C0.2.2.2.1
  have hn9 := hI.n
  intro n
  induction n with
  | zero =>
    intro k w H locs ls cells slots hkn hz hP hS hl hc hs
    refine lv_iload hx hb dL_sound_6 (lv_at hl 0 rfl) ?_
    refine lv_iload_n hx hb dL_sound_8 rfl (lv_at hl 4 rfl) ?_
    refine lv_icmp_ge (tgt := 138) hx hb dL_sound_9 (by decide) (fun q9 => ?_) (fun q9 => ?_)
    · obtain rfl : k = F 24 2 := by omega
      exact K w H locs ls cells slots hz hP hS hl (by omega) (by omega)
    · exact absurd (nI_le (show F 24 2 ≤ k by omega) (by omega)) q9
  | succ n ih =>
    intro k w H locs ls cells slots hkn hz hP hS hl hc hs
    refine lv_iload hx hb dL_sound_6 (lv_at hl 0 rfl) ?_
    refine lv_iload_n hx hb dL_sound_8 rfl (lv_at hl 4 rfl) ?_
    refine lv_icmp_ge (tgt := 138) hx hb dL_sound_9 (by decide) (fun q9 => ?_) (fun q9 => ?_)
    · exact absurd q9 (nI_ge (show k < F 24 2 by omega) (by omega))
    · have hk : k < F 24 2 := by omega
      have hcl := hI.cl hk
      have hpl := hI.pl hcl.1
      have hbl := hI.bl hk
      have hgl : g_best F (F 24 2) < F 24 2 := g_best_lt (by omega)
      have hgg := hI.bl hgl
      refine lv_aload_n hx hb dL_sound_12 rfl (lv_at hl 2 rfl) ?_
      refine lv_bipush (v := 15) hx hb dL_sound_13 (by decide) ?_
      refine lv_iload hx hb dL_sound_15 (lv_at hl 0 rfl) ?_
      refine lv_iconst (v := 0) hx hb dL_sound_17 (by decide) ?_
      refine lv_iconst (v := 0) hx hb dL_sound_18 (by decide) ?_
      refine lv_iconst (v := 0) hx hb dL_sound_19 (by decide) ?_
      refine wt_ask C1 hP hS (k_L_ask_tokens l hst E _ _ F x N _ hI hz (nI k) 0 0 0) gL_sound_L_ask ⟨(Nat.le_of_ble_eq_true rfl), (Nat.le_of_ble_eq_true rfl)⟩ hl.1 (Nat.le_of_ble_eq_true rfl) dL_sound_20 (show _ ≤ 300 by omega) (show _ ≤ 1800 by omega) (fun w H locs hz hP hS => ?_)
      refine W.eq (g2 := F0 m 23 ls [.int (aE [-1001] (s_tokens F (nI k)))]) rfl ?_
      refine W.eq (g2 := F0 m 23 ls [.int (nI (F 14 k))]) (by rw [v_tokens hk (by omega)]) ?_
      refine lv_istore (lv' := [(7, .int (nI (F 14 k))), (6, .int (nI k)), (5, .int (nI (a_n F k))), (0, .ref x), (1, .int (nI (F 24 0))), (2, .int (nI (F 24 2))), (3, .ref ob), (4, .ref op)]) hx hb dL_sound_23 hl (by decide) rfl (fun ls hl => ?_)
      refine lv_iload hx hb dL_sound_25 (lv_at hl 0 rfl) ?_
      refine lv_if_lt (tgt := 93) hx hb dL_sound_27 (by decide) (fun q9 => absurd q9 (nI_pos (by omega))) (fun q9 => ?_)
      refine lv_iload hx hb dL_sound_30 (lv_at hl 0 rfl) ?_
      refine lv_aload_n hx hb dL_sound_32 rfl (lv_at hl 6 rfl) ?_
      refine lv_aload hx hb dL_sound_33 (lv_at hl 7 rfl) ?_
      refine lv_iload hx hb dL_sound_35 (lv_at hl 1 rfl) ?_
      refine wl_iald C0 hP (hz.2 op _ hop rfl) (vp_in_nI (show k < 6 by omega) (by omega)) dL_sound_37 ?_
      refine W.eq (g2 := F0 m 38 ls [.int (nI (F 13 k)), .ref ob, .int (nI (F 14 k))]) (by rw [nI_clamp (show k < 2 ^ 31 by omega), hfp k hk]) ?_
      refine wl_iald C0 hP (hz.2 ob _ hob rfl) (vp_in_nI (show F 13 k < 3 by omega) (by omega)) dL_sound_38 ?_
      refine W.eq (g2 := F0 m 39 ls [.int (nI (F 11 (F 13 k))), .int (nI (F 14 k))]) (by rw [nI_clamp (show F 13 k < 2 ^ 31 by omega), hfb (F 13 k) hcl.1]) ?_
      refine lv_icmp_gt (tgt := 93) hx hb dL_sound_39 (by decide) (fun q9 => absurd q9 (nI_nlt hcl.2 (by omega))) (fun q9 => ?_)
      refine lv_aload_n hx hb dL_sound_42 rfl (lv_at hl 3 rfl) ?_
      refine lv_iload hx hb dL_sound_43 (lv_at hl 1 rfl) ?_
      refine wt_bill (k := k) hst C1 hI hz (by omega) hP hS gL_sound_X6_bill ⟨(Nat.le_of_ble_eq_true rfl), (Nat.le_of_ble_eq_true rfl)⟩ hl.1 (Nat.le_of_ble_eq_true rfl) dL_sound_45 (show _ ≤ 300 by omega) (show _ ≤ 1800 by omega) (fun w H locs hz hP hS => ?_)
      refine W.eq (g2 := F0 m 48 ls [.long (lN (F 15 k))]) rfl ?_
      refine lv_aload_n hx hb dL_sound_48 rfl (lv_at hl 3 rfl) ?_
      refine lv_iload hx hb dL_sound_49 (lv_at hl 1 rfl) ?_
      refine wt_bbl (k := k) hst C1 hI hz (by omega) hP hS gL_sound_X6_billByLog ⟨(Nat.le_of_ble_eq_true rfl), (Nat.le_of_ble_eq_true rfl)⟩ hl.1 (Nat.le_of_ble_eq_true rfl) dL_sound_51 (show _ ≤ 300 by omega) (show _ ≤ 1800 by omega) (fun w H locs hz hP hS => ?_)
      refine W.eq (g2 := F0 m 54 ls [.long (lN (F 15 k)), .long (lN (F 15 k))]) rfl ?_
      refine W.lcmp hx hb dL_sound_54 ?_
      refine lv_if_ne (tgt := 93) hx hb dL_sound_55 (by decide) (fun q9 => absurd ((lg_cmp_eq _ _).mpr rfl) q9) (fun q9 => ?_)
      refine lv_aload_n hx hb dL_sound_58 rfl (lv_at hl 3 rfl) ?_
      refine lv_iload hx hb dL_sound_59 (lv_at hl 1 rfl) ?_
      refine wt_bill (k := k) hst C1 hI hz (by omega) hP hS gL_sound_X6_bill ⟨(Nat.le_of_ble_eq_true rfl), (Nat.le_of_ble_eq_true rfl)⟩ hl.1 (Nat.le_of_ble_eq_true rfl) dL_sound_61 (show _ ≤ 300 by omega) (show _ ≤ 1800 by omega) (fun w H locs hz hP hS => ?_)
      refine W.eq (g2 := F0 m 64 ls [.long (lN (F 15 k))]) rfl ?_
      refine lv_lconst (v := 0) hx hb dL_sound_64 (by decide) ?_
      refine W.lcmp hx hb dL_sound_65 ?_
      refine lv_if_lt (tgt := 93) hx hb dL_sound_66 (by decide) (fun q9 => absurd ((lg_cmp_lt _ _).mp q9) (fun q8 => Nat.not_lt_zero _ ((lN_lt (a := F 15 k) (b := 0) (by omega) (by omega)).mp q8))) (fun q9 => ?_)
      refine lv_aload_n hx hb dL_sound_69 rfl (lv_at hl 3 rfl) ?_
      refine lv_iload hx hb dL_sound_70 (lv_at hl 1 rfl) ?_
      refine wt_bill (k := k) hst C1 hI hz (by omega) hP hS gL_sound_X6_bill ⟨(Nat.le_of_ble_eq_true rfl), (Nat.le_of_ble_eq_true rfl)⟩ hl.1 (Nat.le_of_ble_eq_true rfl) dL_sound_72 (show _ ≤ 300 by omega) (show _ ≤ 1800 by omega) (fun w H locs hz hP hS => ?_)
      refine W.eq (g2 := F0 m 75 ls [.long (lN (F 15 k))]) rfl ?_
      refine lv_aload_n hx hb dL_sound_75 rfl (lv_at hl 3 rfl) ?_
      refine lv_aload_n hx hb dL_sound_76 rfl (lv_at hl 3 rfl) ?_
      refine lv_bipush (v := 23) hx hb dL_sound_77 (by decide) ?_
      refine lv_iconst (v := 0) hx hb dL_sound_79 (by decide) ?_
      refine lv_iconst (v := 0) hx hb dL_sound_80 (by decide) ?_
      refine lv_iconst (v := 0) hx hb dL_sound_81 (by decide) ?_
      refine lv_iconst (v := 0) hx hb dL_sound_82 (by decide) ?_
      refine wt_ask C1 hP hS (k_L_ask_greatest l hst E _ _ F x N _ hI hz 0 0 0 0) gL_sound_L_ask ⟨(Nat.le_of_ble_eq_true rfl), (Nat.le_of_ble_eq_true rfl)⟩ hl.1 (Nat.le_of_ble_eq_true rfl) dL_sound_83 (show _ ≤ 300 by omega) (show _ ≤ 1800 by omega) (fun w H locs hz hP hS => ?_)
      refine W.eq (g2 := F0 m 86 ls [.int (aE [-1005] (s_greatest F)), .ref x, .long (lN (F 15 k))]) rfl ?_
      refine W.eq (g2 := F0 m 86 ls [.int (nI (g_best F (F 24 2))), .ref x, .long (lN (F 15 k))]) (by rw [v_greatest (by omega)]) ?_
      refine wt_bill (k := (g_best F (F 24 2))) hst C1 hI hz hgl hP hS gL_sound_X6_bill ⟨(Nat.le_of_ble_eq_true rfl), (Nat.le_of_ble_eq_true rfl)⟩ hl.1 (Nat.le_of_ble_eq_true rfl) dL_sound_86 (show _ ≤ 300 by omega) (show _ ≤ 1800 by omega) (fun w H locs hz hP hS => ?_)
      refine W.eq (g2 := F0 m 89 ls [.long (lN (F 15 (g_best F (F 24 2)))), .long (lN (F 15 k))]) rfl ?_
      refine W.lcmp hx hb dL_sound_89 ?_
      refine lv_if_le (tgt := 95) hx hb dL_sound_90 (by decide) (fun q9 => ?_) (fun q9 => absurd ((lg_cmp_le _ _).mpr ((lN_le (by omega) (by omega)).mpr (g_best_ge hk))) q9)
      refine lv_iconst (v := 0) hx hb dL_sound_95 (by decide) ?_
      refine lv_istore (lv' := [(8, .int 0), (7, .int (nI (F 14 k))), (6, .int (nI k)), (5, .int (nI (a_n F k))), (0, .ref x), (1, .int (nI (F 24 0))), (2, .int (nI (F 24 2))), (3, .ref ob), (4, .ref op)]) hx hb dL_sound_96 hl (by decide) rfl (fun ls hl => ?_)
      refine sd_inner (k := k) (a0 := a_n F k) (c0 := 30 * k + 15) (s0 := 180 * k + 90) (v7 := nI (F 14 k)) hst C1 hI hk (by omega) (by omega) (fun w H locs ls cells slots hz hP hS hl hc hs => ?_) 5 0 w _ _ ls _ _ (by omega) hz hP hS (lv_sub hl [0, 3, 2, 1, 4, 5, 6, 7, 8] rfl) (by omega) (by omega)
      refine lv_iinc (v := nI (k + 1)) (lv' := [(6, .int (nI (k + 1))), (8, .int (nI 5)), (5, .int (nI (a_k F k (a_n F k) 5))), (7, .int (nI (F 14 k))), (0, .ref x), (1, .int (nI (F 24 0))), (2, .int (nI (F 24 2))), (3, .ref ob), (4, .ref op)]) hx hb dL_sound_132 hl (k := 2) rfl (nI_succ _).symm (by decide) rfl (fun ls hl => ?_)
      refine lv_goto (tgt := 6) hx hb dL_sound_135 (by decide) ?_
      exact ih (k + 1) w H locs ls _ _ (by omega) hz hP hS (lv_sub hl [0, 2, 4, 5, 6, 7, 8] rfl) (by omega) (by omega)
set_option maxHeartbeats 4000000 in
set_option maxRecDepth 100000 in
theorem sd_routes (hst : l.stackTraces = false) (C1 : wCt p s m args meth c RL cL_sound 9 wsL_sound E A) (hI : wInv F N) {a0 : Nat}
    (K : ∀ (w : wW) (H : Heap) (locs : List Loc) (ls : Array Slot) (cells slots : Nat), zK E F x w0 w → wP E.1 A w H → va_S A s.heap H locs → lv_has ls 9 [(6, .int (nI (F 24 0))), (5, .int (nI a0)), (0, .ref x), (1, .int (nI (F 24 0))), (2, .int (nI (F 24 2))), (3, .ref ob), (4, .ref op)] → cells ≤ 180 + 6 * F 24 0 → slots ≤ 1080 + 36 * F 24 0 → W p l e (wRm 7 300 1800) s m args below meth c H locs cells slots Q (F0 m 210 ls [])) :
    ∀ (n k : Nat) (w : wW) (H : Heap) (locs : List Loc) (ls : Array Slot) (cells slots : Nat), k + n = F 24 0 → zK E F x w0 w → wP E.1 A w H → va_S A s.heap H locs → lv_has ls 9 [(6, .int (nI k)), (5, .int (nI a0)), (0, .ref x), (1, .int (nI (F 24 0))), (2, .int (nI (F 24 2))), (3, .ref ob), (4, .ref op)] → cells ≤ 180 + 6 * k → slots ≤ 1080 + 36 * k → W p l e (wRm 7 300 1800) s m args below meth c H locs cells slots Q (F0 m 141 ls []) := by
  have C0 := C1.1
  have hx := C0.1
  have hb := C0.2.1
  have hts := C0.2.2.2.2.1
  have hown := C0.2.2.2.1
  have hn9 := hI.n
  intro n
  induction n with
  | zero =>
    intro k w H locs ls cells slots hkn hz hP hS hl hc hs
    refine lv_iload hx hb dL_sound_141 (lv_at hl 0 rfl) ?_
    refine lv_iload_n hx hb dL_sound_143 rfl (lv_at hl 3 rfl) ?_
    refine lv_icmp_ge (tgt := 210) hx hb dL_sound_144 (by decide) (fun q9 => ?_) (fun q9 => ?_)
    · obtain rfl : k = F 24 0 := by omega
      exact K w H locs ls cells slots hz hP hS hl (by omega) (by omega)
    · exact absurd (nI_le (show F 24 0 ≤ k by omega) (by omega)) q9
  | succ n ih =>
    intro k w H locs ls cells slots hkn hz hP hS hl hc hs
    refine lv_iload hx hb dL_sound_141 (lv_at hl 0 rfl) ?_
    refine lv_iload_n hx hb dL_sound_143 rfl (lv_at hl 3 rfl) ?_
    refine lv_icmp_ge (tgt := 210) hx hb dL_sound_144 (by decide) (fun q9 => ?_) (fun q9 => ?_)
    · exact absurd q9 (nI_ge (show k < F 24 0 by omega) (by omega))
    · have hk : k < F 24 0 := by omega
      refine lv_aload_n hx hb dL_sound_147 rfl (lv_at hl 2 rfl) ?_
      refine lv_bipush (v := 11) hx hb dL_sound_148 (by decide) ?_
      refine lv_iload hx hb dL_sound_150 (lv_at hl 0 rfl) ?_
      refine lv_iconst (v := 0) hx hb dL_sound_152 (by decide) ?_
      refine lv_iconst (v := 0) hx hb dL_sound_153 (by decide) ?_
      refine lv_iconst (v := 0) hx hb dL_sound_154 (by decide) ?_
      refine wt_ask C1 hP hS (k_L_ask_faults l hst E _ _ F x N _ hI hz (nI k) 0 0 0) gL_sound_L_ask ⟨(Nat.le_of_ble_eq_true rfl), (Nat.le_of_ble_eq_true rfl)⟩ hl.1 (Nat.le_of_ble_eq_true rfl) dL_sound_155 (show _ ≤ 300 by omega) (show _ ≤ 1800 by omega) (fun w H locs hz hP hS => ?_)
      refine W.eq (g2 := F0 m 158 ls [.int (aE [-1001, -1005] (s_faults F (nI k)))]) rfl ?_
      by_cases h5 : F 5 k = 0
      · refine W.eq (g2 := F0 m 158 ls [.int (-1005)]) (by rw [v_faults hk (by omega), if_pos h5]) ?_
        refine lv_istore (lv' := [(7, .int (-1005)), (6, .int (nI k)), (5, .int (nI a0)), (0, .ref x), (1, .int (nI (F 24 0))), (2, .int (nI (F 24 2))), (3, .ref ob), (4, .ref op)]) hx hb dL_sound_158 hl (by decide) rfl (fun ls hl => ?_)
        refine lv_iload hx hb dL_sound_160 (lv_at hl 0 rfl) ?_
        refine lv_bipush (v := 8) hx hb dL_sound_162 (by decide) ?_
        refine lv_icmp_gt (tgt := 202) hx hb dL_sound_164 (by decide) (fun q9 => absurd q9 (by decide)) (fun q9 => ?_)
        refine lv_iload hx hb dL_sound_167 (lv_at hl 0 rfl) ?_
        refine lv_sipush (v := -1005) hx hb dL_sound_169 (by decide) ?_
        refine lv_icmp_ne (tgt := 179) hx hb dL_sound_172 (by decide) (fun q9 => absurd rfl q9) (fun q9 => ?_)
        refine lv_iconst (v := 1) hx hb dL_sound_175 (by decide) ?_
        refine lv_goto (tgt := 180) hx hb dL_sound_176 (by decide) ?_
        refine lv_aload_n hx hb dL_sound_180 rfl (lv_at hl 3 rfl) ?_
        refine lv_bipush (v := 10) hx hb dL_sound_181 (by decide) ?_
        refine lv_iload hx hb dL_sound_183 (lv_at hl 1 rfl) ?_
        refine lv_iconst (v := 0) hx hb dL_sound_185 (by decide) ?_
        refine lv_iconst (v := 0) hx hb dL_sound_186 (by decide) ?_
        refine lv_iconst (v := 0) hx hb dL_sound_187 (by decide) ?_
        refine wt_ask C1 hP hS (k_L_ask_hasCanary l hst E _ _ F x N _ hI hz (nI k) 0 0 0) gL_sound_L_ask ⟨(Nat.le_of_ble_eq_true rfl), (Nat.le_of_ble_eq_true rfl)⟩ hl.1 (Nat.le_of_ble_eq_true rfl) dL_sound_188 (show _ ≤ 300 by omega) (show _ ≤ 1800 by omega) (fun w H locs hz hP hS => ?_)
        refine W.eq (g2 := F0 m 191 ls [.int (aE [-1001] (s_hasCanary F (nI k))), .int 1]) rfl ?_
        refine W.eq (g2 := F0 m 191 ls [.int 0, .int 1]) (by rw [v_has hk (by omega), if_pos h5]) ?_
        refine lv_if_ne (tgt := 198) hx hb dL_sound_191 (by decide) (fun q9 => absurd rfl q9) (fun q9 => ?_)
        refine lv_iconst (v := 1) hx hb dL_sound_194 (by decide) ?_
        refine lv_goto (tgt := 199) hx hb dL_sound_195 (by decide) ?_
        refine lv_icmp_eq (tgt := 204) hx hb dL_sound_199 (by decide) (fun q9 => ?_) (fun q9 => absurd rfl q9)
        refine lv_iinc (v := nI (k + 1)) (lv' := [(6, .int (nI (k + 1))), (7, .int (-1005)), (5, .int (nI a0)), (0, .ref x), (1, .int (nI (F 24 0))), (2, .int (nI (F 24 2))), (3, .ref ob), (4, .ref op)]) hx hb dL_sound_204 hl (k := 1) rfl (nI_succ _).symm (by decide) rfl (fun ls hl => ?_)
        refine lv_goto (tgt := 141) hx hb dL_sound_207 (by decide) ?_
        exact ih (k + 1) w H locs ls _ _ (by omega) hz hP hS (lv_sub hl [0, 2, 3, 4, 5, 6, 7] rfl) (by omega) (by omega)
      · have hca := hI.ca hk h5
        refine W.eq (g2 := F0 m 158 ls [.int (nI (F 9 k))]) (by rw [v_faults hk (by omega), if_neg h5]) ?_
        refine lv_istore (lv' := [(7, .int (nI (F 9 k))), (6, .int (nI k)), (5, .int (nI a0)), (0, .ref x), (1, .int (nI (F 24 0))), (2, .int (nI (F 24 2))), (3, .ref ob), (4, .ref op)]) hx hb dL_sound_158 hl (by decide) rfl (fun ls hl => ?_)
        refine lv_iload hx hb dL_sound_160 (lv_at hl 0 rfl) ?_
        refine lv_bipush (v := 8) hx hb dL_sound_162 (by decide) ?_
        refine lv_icmp_gt (tgt := 202) hx hb dL_sound_164 (by decide) (fun q9 => absurd q9 (nI_nlt (a := 8) (b := F 9 k) (by omega) (by omega))) (fun q9 => ?_)
        refine lv_iload hx hb dL_sound_167 (lv_at hl 0 rfl) ?_
        refine lv_sipush (v := -1005) hx hb dL_sound_169 (by decide) ?_
        refine lv_icmp_ne (tgt := 179) hx hb dL_sound_172 (by decide) (fun q9 => ?_) (fun q9 => (nI_pos (n := F 9 k) (by omega) (show nI (F 9 k) < 0 by rw [q9]; decide)).elim)
        refine lv_iconst (v := 0) hx hb dL_sound_179 (by decide) ?_
        refine lv_aload_n hx hb dL_sound_180 rfl (lv_at hl 3 rfl) ?_
        refine lv_bipush (v := 10) hx hb dL_sound_181 (by decide) ?_
        refine lv_iload hx hb dL_sound_183 (lv_at hl 1 rfl) ?_
        refine lv_iconst (v := 0) hx hb dL_sound_185 (by decide) ?_
        refine lv_iconst (v := 0) hx hb dL_sound_186 (by decide) ?_
        refine lv_iconst (v := 0) hx hb dL_sound_187 (by decide) ?_
        refine wt_ask C1 hP hS (k_L_ask_hasCanary l hst E _ _ F x N _ hI hz (nI k) 0 0 0) gL_sound_L_ask ⟨(Nat.le_of_ble_eq_true rfl), (Nat.le_of_ble_eq_true rfl)⟩ hl.1 (Nat.le_of_ble_eq_true rfl) dL_sound_188 (show _ ≤ 300 by omega) (show _ ≤ 1800 by omega) (fun w H locs hz hP hS => ?_)
        refine W.eq (g2 := F0 m 191 ls [.int (aE [-1001] (s_hasCanary F (nI k))), .int 0]) rfl ?_
        refine W.eq (g2 := F0 m 191 ls [.int 1, .int 0]) (by rw [v_has hk (by omega), if_neg h5]) ?_
        refine lv_if_ne (tgt := 198) hx hb dL_sound_191 (by decide) (fun q9 => ?_) (fun q9 => absurd q9 (by decide))
        refine lv_iconst (v := 0) hx hb dL_sound_198 (by decide) ?_
        refine lv_icmp_eq (tgt := 204) hx hb dL_sound_199 (by decide) (fun q9 => ?_) (fun q9 => absurd rfl q9)
        refine lv_iinc (v := nI (k + 1)) (lv' := [(6, .int (nI (k + 1))), (7, .int (nI (F 9 k))), (5, .int (nI a0)), (0, .ref x), (1, .int (nI (F 24 0))), (2, .int (nI (F 24 2))), (3, .ref ob), (4, .ref op)]) hx hb dL_sound_204 hl (k := 1) rfl (nI_succ _).symm (by decide) rfl (fun ls hl => ?_)
        refine lv_goto (tgt := 141) hx hb dL_sound_207 (by decide) ?_
        exact ih (k + 1) w H locs ls _ _ (by omega) hz hP hS (lv_sub hl [0, 2, 3, 4, 5, 6, 7] rfl) (by omega) (by omega)
end SND
set_option maxHeartbeats 4000000 in
set_option maxRecDepth 100000 in
theorem k_L_sound (l : Launch) (hst : l.stackTraces = false) (E : wEn) (w : wW) (sz : Nat) (F : FF) (x N : Nat) (w0 : wW) (hI : wInv F N) (hz : zK E F x w0 w) (hki : wKi F) (ob op : Nat) (fb fp : Nat → Int32) (hob : w0 ob = some (.inl (E.2.1 0, 3, .inl fb))) (hop : w0 op = some (.inl (E.2.1 0, 6, .inl fp))) (hfb : ∀ i, i < F 24 1 → fb i = nI (F 11 i)) (hfp : ∀ i, i < F 24 2 → fp i = nI (F 13 i)) : wMt l yL_sound wsL_sound 7 300 1800 E w sz [.ref x, .int (nI (F 24 0)), .int (nI (F 24 2)), .ref ob, .ref op] (pZ E F x w0 1) := by
  refine wt_start (own := RL) (cc := cL_sound) (maxL := 9) (ret := (some .boolean)) rfl (by decide) rfl (Nat.le_of_ble_eq_true rfl) ?_
  intro p e s m args below meth c ls C1 hr hP hS hl
  have C0 := C1.1
  have hx := C0.1
  have hb := C0.2.1
  have hts := C0.2.2.2.2.1
  have hown := C0.2.2.2.1
  have hn9 := hI.n
  have hl : lv_has ls 9 [(0, .ref x), (1, .int (nI (F 24 0))), (2, .int (nI (F 24 2))), (3, .ref ob), (4, .ref op)] := hl
  refine lv_iconst (v := 0) hx hb dL_sound_0 (by decide) ?_
  refine lv_istore (lv' := [(5, .int 0), (0, .ref x), (1, .int (nI (F 24 0))), (2, .int (nI (F 24 2))), (3, .ref ob), (4, .ref op)]) hx hb dL_sound_1 hl (by decide) rfl (fun ls hl => ?_)
  refine lv_iconst (v := 0) hx hb dL_sound_3 (by decide) ?_
  refine lv_istore (lv' := [(6, .int 0), (5, .int 0), (0, .ref x), (1, .int (nI (F 24 0))), (2, .int (nI (F 24 2))), (3, .ref ob), (4, .ref op)]) hx hb dL_sound_4 hl (by decide) rfl (fun ls hl => ?_)
  refine sd_outer (w0 := w0) hst C1 hI hob hop hfb hfp (fun w H locs ls cells slots hz hP hS hl hc hs => ?_) (F 24 2) 0 w _ _ ls _ _ (by omega) hz hP hS (lv_sub hl [0, 1, 2, 3, 4, 5, 6] rfl) (by omega) (by omega)
  refine lv_iconst (v := 0) hx hb dL_sound_138 (by decide) ?_
  refine lv_istore (lv' := [(6, .int 0), (5, .int (nI (a_n F (F 24 2)))), (0, .ref x), (1, .int (nI (F 24 0))), (2, .int (nI (F 24 2))), (3, .ref ob), (4, .ref op)]) hx hb dL_sound_139 hl (by decide) rfl (fun ls hl => ?_)
  refine sd_routes (w0 := w0) (a0 := a_n F (F 24 2)) hst C1 hI (fun w H locs ls cells slots hz hP hS hl hc hs => ?_) (F 24 0) 0 w _ _ ls _ _ (by omega) hz hP hS (lv_sub hl [0, 1, 2, 3, 4, 5, 6] rfl) (by omega) (by omega)
  refine lv_iload hx hb dL_sound_210 (lv_at hl 1 rfl) ?_
  refine lv_aload_n hx hb dL_sound_212 rfl (lv_at hl 2 rfl) ?_
  refine wt_calls hst C1 hI hz hP hS gL_sound_X6_calls ⟨(Nat.le_of_ble_eq_true rfl), (Nat.le_of_ble_eq_true rfl)⟩ hl.1 (Nat.le_of_ble_eq_true rfl) dL_sound_213 (show _ ≤ 300 by omega) (show _ ≤ 1800 by omega) (fun H locs hP hS => ?_)
  refine W.eq (g2 := F0 m 216 ls [.int (nI (F 24 3)), .int (nI (a_n F (F 24 2)))]) rfl ?_
  have hall : a_n F (F 24 2) = F 24 3 := by
    rw [a_n_eq]
    exact kn_all (fun k hk => (hI.en hk).1) hki
  refine lv_icmp_ne (tgt := 223) hx hb dL_sound_216 (by decide) (fun q9 => absurd (by rw [hall]) q9) (fun q9 => ?_)
  refine lv_iconst (v := 1) hx hb dL_sound_219 (by decide) ?_
  refine lv_goto (tgt := 224) hx hb dL_sound_220 (by decide) ?_
  exact wl_iret C0 hr (by decide) hP hS dL_sound_224 (by omega) (by omega) (⟨rfl, hz⟩)
