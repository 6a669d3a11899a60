/-! Short calls: low, cell, charAt, calls, bill, billByLog. -/
def lowN (v : Int32) (n : Nat) : Nat := (v.toBitVec.toNat % 2 ^ 31) % n
theorem lowN_lt {v : Int32} {n : Nat} (h : 0 < n) : lowN v n < n := Nat.mod_lt _ h
set_option maxHeartbeats 4000000 in
set_option maxRecDepth 100000 in
theorem k_L_low (l : Launch) (hst : l.stackTraces = false) (E : wEn) (w : wW) (sz : Nat) (v1 : Int32) (n : Nat) (h0 : 0 < n) (hn : n < 2 ^ 31) : wMt l yL_low wsL_low 0 0 0 E w sz [.int v1, .int (nI n)] (fun v w2 => v = some (.int (nI (lowN v1 n))) ∧ w2 = w) := by
  refine wt_start (own := RL) (cc := cL_low) (maxL := 2) (ret := (some .int)) rfl (by decide) rfl (Nat.le_of_ble_eq_true rfl) ?_
  intro p e s m args below meth c ls C1 hr hP hS hl
  have C0 := C1.1
  have hx := C0.1
  have hb := C0.2.1
  have hts := C0.2.2.2.2.1
  have hown := C0.2.2.2.1
  have hl : lv_has ls 2 [(0, .int v1), (1, .int (nI n))] := hl
  have ha : v1.toBitVec.toNat % 2 ^ 31 < 2 ^ 31 := Nat.mod_lt _ (Nat.two_pow_pos 31)
  refine lv_iload_n hx hb dL_low_0 rfl (lv_at hl 0 rfl) ?_
  refine lv_ldc (v := 2147483647) hx hb hown (hts (.constant RL 8 2147483647) (by decide +kernel)) dL_low_1 ?_
  refine lv_iand hx hb dL_low_3 ?_
  refine lv_iload_n hx hb dL_low_4 rfl (lv_at hl 1 rfl) ?_
  refine lv_irem hx hb dL_low_5 (nI_ne0 h0 hn) ?_
  rw [pk_and v1 31 (by decide), pk_rem ha h0 hn]
  exact wl_iret C0 hr rfl hP hS dL_low_6 (Nat.le_of_ble_eq_true rfl) (Nat.le_of_ble_eq_true rfl) (⟨rfl, rfl⟩)
set_option maxHeartbeats 4000000 in
set_option maxRecDepth 100000 in
theorem k_L_cell (l : Launch) (hst : l.stackTraces = false) (E : wEn) (w : wW) (sz : Nat) (k : Nat) (hk : k < 2 ^ 31) : wMt l yL_cell wsL_cell 0 0 0 E w sz [.ref (E.2.2 102), .int (nI k)] (fun v w2 => (∃ g : Int32, v = some (.int g)) ∧ w2 = w) := by
  refine wt_start (own := RL) (cc := cL_cell) (maxL := 2) (ret := (some .int)) rfl (by decide) rfl (Nat.le_of_ble_eq_true rfl) ?_
  intro p e s m args below meth c ls C1 hr hP hS hl
  have C0 := C1.1
  have hx := C0.1
  have hb := C0.2.1
  have hts := C0.2.2.2.2.1
  have hown := C0.2.2.2.1
  obtain ⟨L, xs, hL, hX, hbl, hbA⟩ := C1.2.2.2.2.2.2
  have hl : lv_has ls 2 [(0, .ref (E.2.2 102)), (1, .int (nI k))] := hl
  refine lv_iload_n hx hb dL_cell_0 rfl (lv_at hl 1 rfl) ?_
  refine lv_aload_n hx hb dL_cell_1 rfl (lv_at hl 0 rfl) ?_
  refine va_slen hx hb hX hbl hbA hS dL_cell_2 ?_
  refine lv_icmp_ge (tgt := 12) hx hb dL_cell_3 (by decide) (fun c1 => ?_) (fun c1 => ?_)
  · refine lv_ldc (v := 880001) hx hb hown (hts (.constant RL 7 880001) (by decide +kernel)) dL_cell_12 ?_
    refine lv_iload_n hx hb dL_cell_14 rfl (lv_at hl 1 rfl) ?_
    refine lv_imul hx hb dL_cell_15 ?_
    refine lv_sipush (v := 151) hx hb dL_cell_16 (by decide) ?_
    refine lv_iadd hx hb dL_cell_19 ?_
    exact wl_iret C0 hr rfl hP hS dL_cell_20 (Nat.le_of_ble_eq_true rfl) (Nat.le_of_ble_eq_true rfl) (⟨⟨_, rfl⟩, rfl⟩)
  · have hkL : k < L := by
      rcases Nat.lt_or_ge k L with h | h
      · exact h
      · exact absurd (nI_le h hk) c1
    refine lv_aload_n hx hb dL_cell_6 rfl (lv_at hl 0 rfl) ?_
    refine lv_iload_n hx hb dL_cell_7 rfl (lv_at hl 1 rfl) ?_
    refine va_sld hx hb hX hbl hbA hS (vp_in_nI hkL hL) dL_cell_8 ?_
    refine lv_goto (tgt := 20) hx hb dL_cell_9 (by decide) ?_
    exact wl_iret C0 hr rfl hP hS dL_cell_20 (Nat.le_of_ble_eq_true rfl) (Nat.le_of_ble_eq_true rfl) (⟨⟨_, rfl⟩, rfl⟩)
section CLS
variable {p : Program} {l : Launch} {e : Env} {R : Room} {s : State} {m : MethodId} {args : Array Value} {below : List Frame} {meth : Method} {c : Code} {H : Heap} {locs : List Loc} {cells slots : Nat} {Q : State → Prop}
variable {cc : ByteArray} {pc nL : Nat} {ls : Array Slot} {rest : List Value} {A : Nat → Prop} {Ts : List Cond} {E : wEn} {w : wW}
theorem wt_low {v1 nv : Int32} (n : Nat) (hst : l.stackTraces = false) (C1 : wCt p s m args meth c RL cc nL Ts E A) (hP : wP E.1 A w H) (hS : va_S A s.heap H locs) (hn : nv = nI n) (h0 : 0 < n) (hn2 : n < 2 ^ 31) (hg : GoodIn Ts (va_wsS RL 128 yL_low wsL_low)) (hR : (wRm 0 0 0).frames + 1 ≤ R.frames ∧ 8 + (2 + 11) + (wRm 0 0 0).locals ≤ R.locals)
    (hsize : ls.size = nL) (hW : (rest.map fun v => v.category).sum ≤ 8) (hdg : decode cc pc = .ok (.invokestatic 128, 3)) (hc : cells ≤ R.cells) (hs : slots ≤ R.slots)
    (kk : ∀ (j : Nat) (H1 : Heap) (locs1 : List Loc), j < n → lowN v1 n = j → wP E.1 A w H1 → va_S A s.heap H1 locs1 → W p l e R s m args below meth c H1 locs1 cells slots Q (F0 m (pc + 3) ls (.int (nI j) :: rest))) :
    W p l e R s m args below meth c H locs cells slots Q (F0 m pc ls (.int nv :: .int v1 :: rest)) := by
  subst hn
  refine wt_goS (As := [.int v1, .int (nI n)]) (rest := rest) C1 hP hS (k_L_low l hst E w H.size v1 n h0 hn2) (va_cwS 2 C1.1.2.2.2.2.1 hg rfl rfl rfl (by decide +kernel) hR) rfl rfl hsize hW hdg hc hs (fun v w2 H1 locs1 h hP1 hS1 => ?_)
  obtain ⟨rfl, hw⟩ := h
  rw [hw] at hP1
  exact kk _ H1 locs1 (lowN_lt h0) rfl hP1 hS1
theorem wt_cell {k : Nat} (hst : l.stackTraces = false) (C1 : wCt p s m args meth c RL cc nL Ts E A) (hP : wP E.1 A w H) (hS : va_S A s.heap H locs) (hk : k < 2 ^ 31) (hg : GoodIn Ts (va_wsS RL 124 yL_cell wsL_cell)) (hR : (wRm 0 0 0).frames + 1 ≤ R.frames ∧ 8 + (2 + 11) + (wRm 0 0 0).locals ≤ R.locals)
    (hsize : ls.size = nL) (hW : (rest.map fun v => v.category).sum ≤ 8) (hdg : decode cc pc = .ok (.invokestatic 124, 3)) (hc : cells ≤ R.cells) (hs : slots ≤ R.slots)
    (kk : ∀ (g : Int32) (H1 : Heap) (locs1 : List Loc), wP E.1 A w H1 → va_S A s.heap H1 locs1 → W p l e R s m args below meth c H1 locs1 cells slots Q (F0 m (pc + 3) ls (.int g :: rest))) :
    W p l e R s m args below meth c H locs cells slots Q (F0 m pc ls (.int (nI k) :: .ref (E.2.2 102) :: rest)) := by
  refine wt_goS (As := [.ref (E.2.2 102), .int (nI k)]) (rest := rest) C1 hP hS (k_L_cell l hst E w H.size k hk) (va_cwS 2 C1.1.2.2.2.2.1 hg rfl rfl rfl (by decide +kernel) hR) rfl rfl hsize hW hdg hc hs (fun v w2 H1 locs1 h hP1 hS1 => ?_)
  obtain ⟨⟨g, rfl⟩, hw⟩ := h
  rw [hw] at hP1
  exact kk g H1 locs1 hP1 hS1
theorem wt_charAt {i : Nat} (hst : l.stackTraces = false) (C1 : wCt p s m args meth c RL cc nL Ts E A) (hP : wP E.1 A w H) (hS : va_S A s.heap H locs) (hi : i < 5) (hg : GoodIn Ts (wsV RL 118 RJ0 yJ0_charAt_5068e wsJ0_charAt_5068e)) (hR : (wRm 3 0 0).frames + 1 ≤ R.frames ∧ 8 + (2 + 11) + (wRm 3 0 0).locals ≤ R.locals)
    (hsize : ls.size = nL) (hW : (rest.map fun v => v.category).sum ≤ 8) (hdg : decode cc pc = .ok (.invokevirtual 118, 3)) (hc : cells ≤ R.cells) (hs : slots ≤ R.slots)
    (kk : ∀ (H1 : Heap) (locs1 : List Loc), wP E.1 A w H1 → va_S A s.heap H1 locs1 → W p l e R s m args below meth c H1 locs1 cells slots Q (F0 m (pc + 3) ls (.int (sB i) :: rest))) :
    W p l e R s m args below meth c H locs cells slots Q (F0 m pc ls (.int (nI i) :: .ref (E.2.2 100) :: rest)) := by
  refine wt_goV (As := [.int (nI i)]) (rest := rest) C1 hP hS (k_J0_charAt l hst E w H.size i hi) (cwV 1 C1.1.2.2.2.2.1 hg rfl rfl rfl (by decide +kernel) hR) (vk_recv (i := 0) C1.2.2.2.1 (by decide) hS) rfl rfl hsize hW hdg hc hs (fun v w2 H1 locs1 h hP1 hS1 => ?_)
  obtain ⟨rfl, hw⟩ := h
  rw [hw] at hP1
  exact kk H1 locs1 hP1 hS1
theorem wt_calls {F : FF} {x N : Nat} {w0 : wW} (hst : l.stackTraces = false) (C1 : wCt p s m args meth c RL cc nL Ts E A) (hI : wInv F N) (hz : zK E F x w0 w) (hP : wP E.1 A w H) (hS : va_S A s.heap H locs) (hg : GoodIn Ts (wsV RL 113 RX6 yX6_calls wsX6_calls)) (hR : (wRm 0 0 0).frames + 1 ≤ R.frames ∧ 8 + (1 + 11) + (wRm 0 0 0).locals ≤ R.locals)
    (hsize : ls.size = nL) (hW : (rest.map fun v => v.category).sum ≤ 8) (hdg : decode cc pc = .ok (.invokevirtual 113, 3)) (hc : cells ≤ R.cells) (hs : slots ≤ R.slots)
    (kk : ∀ (H1 : Heap) (locs1 : List Loc), wP E.1 A w H1 → va_S A s.heap H1 locs1 → W p l e R s m args below meth c H1 locs1 cells slots Q (F0 m (pc + 3) ls (.int (nI (F 24 3)) :: rest))) :
    W p l e R s m args below meth c H locs cells slots Q (F0 m pc ls (.ref x :: rest)) := by
  obtain ⟨⟨AD, h6, rfl⟩, hk0⟩ := hz
  have C0 := C1.1
  refine wl_go (wl_runV (As := []) (rest := rest) C0 hP hS (k_X6_calls l hst E w H.size F AD N hI h6) (cwV 0 C0.2.2.2.2.1 hg rfl rfl rfl (by decide +kernel) hR) h6.x rfl rfl rfl hsize hW hdg ⟨hc, hs⟩) hS (wA_in hP hS C0.2.2.2.2.2.2.2.2 rfl) (fun X ce q9 w2 H locs hpx => hpx.elim) (fun v w2 H1 locs1 hq hP1 _ hS1 _ _ => ?_)
  obtain ⟨rfl, hw⟩ := hq
  rw [hw] at hP1
  exact kk H1 locs1 hP1 hS1
theorem s_bill_in {F : FF} {k : Nat} (hk : k < F 24 2) (hn : F 24 2 < 2 ^ 31) : s_bill F (nI k) = (0, lN (F 15 k), F) := by
  unfold s_bill
  rw [if_pos (vpb_nI hk hn), tn_nI (by omega)]
theorem wt_bill {F : FF} {x N k : Nat} {w0 : wW} (hst : l.stackTraces = false) (C1 : wCt p s m args meth c RL cc nL Ts E A) (hI : wInv F N) (hz : zK E F x w0 w) (hk : k < F 24 2) (hP : wP E.1 A w H) (hS : va_S A s.heap H locs) (hg : GoodIn Ts (wsV RL 68 RX6 yX6_bill wsX6_bill)) (hR : (wRm 1 1 6).frames + 1 ≤ R.frames ∧ 8 + (2 + 11) + (wRm 1 1 6).locals ≤ R.locals)
    (hsize : ls.size = nL) (hW : (rest.map fun v => v.category).sum ≤ 8) (hdg : decode cc pc = .ok (.invokevirtual 68, 3)) (hc : cells + 1 ≤ R.cells) (hs : slots + 6 ≤ R.slots)
    (kk : ∀ (w2 : wW) (H1 : Heap) (locs1 : List Loc), zK E F x w0 w2 → wP E.1 A w2 H1 → va_S A s.heap H1 locs1 → W p l e R s m args below meth c H1 locs1 (cells + 1) (slots + 6) Q (F0 m (pc + 3) ls (.long (lN (F 15 k)) :: rest))) :
    W p l e R s m args below meth c H locs cells slots Q (F0 m pc ls (.int (nI k) :: .ref x :: rest)) := by
  obtain ⟨⟨AD, h6, rfl⟩, hk0⟩ := hz
  have C0 := C1.1
  have hn := hI.n
  have hsb := s_bill_in hk (by omega)
  refine wl_go (wl_runV (As := [.int (nI k)]) (rest := rest) C0 hP hS (k_X6_bill l hst E w H.size F AD N hI h6 (nI k)) (cwV 1 C0.2.2.2.2.1 hg rfl rfl rfl (by decide +kernel) hR) h6.x rfl rfl rfl hsize hW hdg ⟨hc, hs⟩) hS (wA_in hP hS C0.2.2.2.2.2.2.2.2 rfl) (fun X ce q9 w2 H locs hpx => ?_) (fun v w2 H1 locs1 hq hP1 _ hS1 _ _ => ?_)
  · rw [hsb] at hpx
    exact absurd hpx.2.1 Nat.zero_ne_one
  · obtain ⟨AD2, h0, rfl, hs2, ha2, hk2⟩ := hq
    rw [hsb] at hs2 ⊢
    exact kk w2 H1 locs1 ⟨⟨AD2, hs2, ha2⟩, hk0.tr hk2⟩ hP1 hS1
theorem wt_bbl {F : FF} {x N k : Nat} {w0 : wW} (hst : l.stackTraces = false) (C1 : wCt p s m args meth c RL cc nL Ts E A) (hI : wInv F N) (hz : zK E F x w0 w) (hk : k < F 24 2) (hP : wP E.1 A w H) (hS : va_S A s.heap H locs) (hg : GoodIn Ts (wsV RL 72 RX6 yX6_billByLog wsX6_billByLog)) (hR : (wRm 2 1 6).frames + 1 ≤ R.frames ∧ 8 + (2 + 11) + (wRm 2 1 6).locals ≤ R.locals)
    (hsize : ls.size = nL) (hW : (rest.map fun v => v.category).sum ≤ 8) (hdg : decode cc pc = .ok (.invokevirtual 72, 3)) (hc : cells + 1 ≤ R.cells) (hs : slots + 6 ≤ R.slots)
    (kk : ∀ (w2 : wW) (H1 : Heap) (locs1 : List Loc), zK E F x w0 w2 → wP E.1 A w2 H1 → va_S A s.heap H1 locs1 → W p l e R s m args below meth c H1 locs1 (cells + 1) (slots + 6) Q (F0 m (pc + 3) ls (.long (lN (F 15 k)) :: rest))) :
    W p l e R s m args below meth c H locs cells slots Q (F0 m pc ls (.int (nI k) :: .ref x :: rest)) := by
  obtain ⟨⟨AD, h6, rfl⟩, hk0⟩ := hz
  have C0 := C1.1
  have hn := hI.n
  have hsb := s_bill_in hk (by omega)
  refine wl_go (wl_runV (As := [.int (nI k)]) (rest := rest) C0 hP hS (k_X6_billByLog l hst E w H.size F AD N hI h6 (nI k)) (cwV 1 C0.2.2.2.2.1 hg rfl rfl rfl (by decide +kernel) hR) h6.x rfl rfl rfl hsize hW hdg ⟨hc, hs⟩) hS (wA_in hP hS C0.2.2.2.2.2.2.2.2 rfl) (fun X ce q9 w2 H locs hpx => ?_) (fun v w2 H1 locs1 hq hP1 _ hS1 _ _ => ?_)
  · rw [hsb] at hpx
    exact absurd hpx.2.1 Nat.zero_ne_one
  · obtain ⟨AD2, h0, rfl, hs2, ha2, hk2⟩ := hq
    rw [hsb] at hs2 ⊢
    exact kk w2 H1 locs1 ⟨⟨AD2, hs2, ha2⟩, hk0.tr hk2⟩ hP1 hS1
end CLS
