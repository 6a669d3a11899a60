/-! The law: what one event leaves, and the step to its end. -/
def lwJ (E : wEn) (x ob op : Nat) (F2 : FF) (w2 : wW) (N : Nat) : Prop := wInv F2 N ∧ wKi F2 ∧ (∃ AD : AT, wSys E F2 AD w2 ∧ AD 5 0 = x) ∧ (∃ fb : Nat → Int32, w2 ob = some (.inl (E.2.1 0, 3, .inl fb)) ∧ ∀ i, i < F2 24 1 → fb i = nI (F2 11 i)) ∧ ∃ fp : Nat → Int32, w2 op = some (.inl (E.2.1 0, 6, .inl fp)) ∧ ∀ i, i < F2 24 2 → fp i = nI (F2 13 i)
def lwK (p : Program) (l : Launch) (e : Env) (s : State) (m : MethodId) (args : Array Value) (below : List Frame) (meth : Method) (c : Code) (Q : State → Prop) (A : Nat → Prop) (E : wEn) (x ob op : Nat) (F : FF) (N ev cB sB : Nat) (was : Int64) : Prop :=
  ∀ (F2 : FF) (t : Int32) (w2 : wW) (H2 : Heap) (locs2 : List Loc) (ls2 : Array Slot) (c2 s2 : Nat), lwJ E x ob op F2 w2 (N + 8) → (t < 0 → F2 = F) → F 24 1 ≤ F2 24 1 → (ev < 2 → F2 24 1 = F 24 1 + 1) → wP E.1 A w2 H2 → va_S A s.heap H2 locs2 → lv_has ls2 21 [(0, .ref (E.2.2 102)), (1, .ref x), (2, .ref ob), (3, .ref op), (4, .int (nI (F2 24 0))), (5, .int (nI (F2 24 2))), (6, .int (nI (F2 24 1))), (7, .int (nI ev)), (13, .long was), (15, .int t)] → c2 ≤ cB + 5200 → s2 ≤ sB + 30000 → W p l e room_1 s m args below meth c H2 locs2 c2 s2 Q (F0 m 1213 ls2 [])
theorem lwJ_of {E : wEn} {x ob op N M : Nat} {F2 : FF} {w0 w2 : wW} {fb fp : Nat → Int32} (hI : wInv F2 M) (hM : M ≤ N + 8) (h8 : N + 8 ≤ 512) (hki : wKi F2) (hz : zK E F2 x w0 w2) (hob : w0 ob = some (.inl (E.2.1 0, 3, .inl fb))) (hop : w0 op = some (.inl (E.2.1 0, 6, .inl fp))) (hfb : ∀ i, i < F2 24 1 → fb i = nI (F2 11 i)) (hfp : ∀ i, i < F2 24 2 → fp i = nI (F2 13 i)) : lwJ E x ob op F2 w2 (N + 8) :=
  ⟨I_mono hI hM h8, hki, hz.1, ⟨fb, hz.2 ob _ hob rfl, hfb⟩, fp, hz.2 op _ hop rfl, hfp⟩
theorem lwJ_kp {E : wEn} {x ob op N M : Nat} {F F2 : FF} {w0 w2 : wW} {fb fp : Nat → Int32} (hI : wInv F2 M) (hM : M ≤ N + 8) (h8 : N + 8 ≤ 512) (hki : wKi F2) (hz : zK E F2 x w0 w2) (hob : w0 ob = some (.inl (E.2.1 0, 3, .inl fb))) (hop : w0 op = some (.inl (E.2.1 0, 6, .inl fp))) (hfb : ∀ i, i < F 24 1 → fb i = nI (F 11 i)) (hfp : ∀ i, i < F 24 2 → fp i = nI (F 13 i)) (hk : kpF F F2) : lwJ E x ob op F2 w2 (N + 8) :=
  lwJ_of hI hM h8 hki hz hob hop (fun i hi => by rw [hk.2.2.2.1]; exact hfb i (by rw [← hk.2.1]; exact hi)) (fun i hi => by rw [hk.2.2.2.2]; exact hfp i (by rw [← hk.2.2.1]; exact hi))
theorem wSys_fr {E : wEn} {F : FF} {AD : AT} {w w2 : wW} (hs : wSys E F AD w) (h : ∀ (a : Nat) (e : va_E), w a = some e → sysK e = true → w2 a = some e) : wSys E F AD w2 :=
  ⟨h _ _ hs.x rfl, h _ _ hs.aR rfl, h _ _ hs.aP rfl, h _ _ hs.aC rfl, h _ _ hs.log rfl, h _ _ hs.aE rfl, fun i hi => h _ _ (hs.ro hi) rfl, fun i hi h5 => h _ _ (hs.ca hi h5) rfl, fun i hi => h _ _ (hs.pl hi) rfl, fun i hi => h _ _ (hs.cl hi) rfl, fun k hk => h _ _ (hs.en hk) rfl, hs.2.2.2.2.2.2.2.2.2.2.2⟩
theorem wSys_o {E : wEn} {F : FF} {AD : AT} {w : wW} {oa : Nat} {e0 e1 : va_E} (hs : wSys E F AD w) (ho : w oa = some e0) (hk : sysK e0 = false) : wSys E F AD (wU w oa e1) :=
  wSys_fr hs (fun a e h k => by
    have hne : a ≠ oa := fun q => by
      subst q
      rw [ho] at h
      cases h
      rw [hk] at k
      cases k
    rw [wU_n _ _ hne]
    exact h)
theorem nI_nonneg {n : Nat} (h : n < 2 ^ 31) {P : Prop} : nI n < 0 → P := fun q => absurd q (nI_pos h)
theorem vpb_nI_t {j n : Nat} (h : vpb (nI j) n = true) (hj : j < 2 ^ 31) (hn : n < 2 ^ 31) : j < n ∧ tn (nI j) = j := by
  obtain ⟨i, h1, h2, h3⟩ := vpb_ex h hn
  have := (nI_eq hj (by omega)).mp h2
  subst this
  exact ⟨h1, h3⟩
section LAW
variable {p : Program} {l : Launch} {e : Env} {s : State} {m : MethodId} {args : Array Value} {below : List Frame} {meth : Method} {c : Code} {H : Heap} {locs : List Loc} {cells slots : Nat} {Q : State → Prop}
variable {ls : Array Slot} {A : Nat → Prop} {E : wEn} {w w0 : wW} {F : FF} {x ob op N ev cB sB jr jc pj : Nat} {g8 : Int32} {was : Int64} {fb fp : Nat → Int32}
set_option maxHeartbeats 4000000 in
set_option maxRecDepth 100000 in
theorem lc_addRoute (hst : l.stackTraces = false) (C1 : wCt p s m args meth c RL cL_law 21 wsL_law E A) (hI : wInv F N) (hki : wKi F) (hz : zK E F x w0 w) (hob : w0 ob = some (.inl (E.2.1 0, 3, .inl fb))) (hop : w0 op = some (.inl (E.2.1 0, 6, .inl fp))) (hfb : ∀ i, i < F 24 1 → fb i = nI (F 11 i)) (hfp : ∀ i, i < F 24 2 → fp i = nI (F 13 i)) (hP : wP E.1 A w H) (hS : va_S A s.heap H locs) (hl : lv_has ls 21 [(0, .ref (E.2.2 102)), (1, .ref x), (2, .ref ob), (3, .ref op), (4, .int (nI (F 24 0))), (5, .int (nI (F 24 2))), (6, .int (nI (F 24 1))), (7, .int (nI ev)), (8, .int g8), (9, .int (nI jr)), (10, .int (nI jc)), (12, .int (nI pj)), (13, .long was), (15, .int 0)]) (hc : cells ≤ cB + 1644) (hs : slots ≤ sB + 9864) (hcB : cB + 12000 ≤ 677584) (hsB : sB + 120000 ≤ 7061175) (hN : N + 8 ≤ 512) (hev : ev < 56) (hjr : jr ≤ F 24 0) (hjc : jc ≤ F 24 2) (hpj : pathB (nI pj) = true) (hpn : pj < 100) (K : lwK p l e s m args below meth c Q A E x ob op F N ev cB sB was) (h2e : 2 ≤ ev) : W p l e room_1 s m args below meth c H locs cells slots Q (F0 m 183 ls []) := by
  have C0 := C1.1
  have hx := C0.1
  have hb := C0.2.1
  have hts := C0.2.2.2.2.1
  have hown := C0.2.2.2.1
  have hn9 := hI.n
  refine lv_aload_n hx hb dL_law_183 rfl (lv_at hl 1 rfl) ?_
  refine lv_iconst (v := 0) hx hb dL_law_184 (by decide) ?_
  refine lv_iload hx hb dL_law_185 (lv_at hl 11 rfl) ?_
  refine lv_iconst (v := 1) hx hb dL_law_187 (by decide) ?_
  refine lv_iload hx hb dL_law_188 (lv_at hl 8 rfl) ?_
  refine lv_bipush (v := 19) hx hb dL_law_190 (by decide) ?_
  refine lv_ishr hx hb dL_law_192 ?_
  refine lv_iconst (v := 5) hx hb dL_law_193 (by decide) ?_
  refine wt_low (v1 := g8 >>> (19 &&& 31)) 5 hst C1 hP hS (by decide) (by omega) (by omega) gL_law_L_low ⟨(Nat.le_of_ble_eq_true rfl), (Nat.le_of_ble_eq_true rfl)⟩ hl.1 (Nat.le_of_ble_eq_true rfl) dL_law_194 (show _ ≤ 677584 by omega) (show _ ≤ 7061175 by omega) (fun j194 H locs hj194 ej194 hP hS => ?_)
  refine W.eq (g2 := F0 m 197 ls [.int (nI j194), .int 1, .int (nI pj), .int 0, .ref x]) rfl ?_
  refine lv_iadd hx hb dL_law_197 ?_
  refine lv_iconst (v := 0) hx hb dL_law_198 (by decide) ?_
  refine lv_iload hx hb dL_law_199 (lv_at hl 8 rfl) ?_
  refine lv_bipush (v := 21) hx hb dL_law_201 (by decide) ?_
  refine lv_ishr hx hb dL_law_203 ?_
  refine lv_sipush (v := 1000) hx hb dL_law_204 (by decide) ?_
  refine wt_low (v1 := g8 >>> (21 &&& 31)) 1000 hst C1 hP hS (by decide) (by omega) (by omega) gL_law_L_low ⟨(Nat.le_of_ble_eq_true rfl), (Nat.le_of_ble_eq_true rfl)⟩ hl.1 (Nat.le_of_ble_eq_true rfl) dL_law_207 (show _ ≤ 677584 by omega) (show _ ≤ 7061175 by omega) (fun j207 H locs hj207 ej207 hP hS => ?_)
  refine W.eq (g2 := F0 m 210 ls [.int (nI j207), .int 0, .int (1 + (nI j194)), .int (nI pj), .int 0, .ref x]) rfl ?_
  refine wt_ask C1 hP hS (k_L_ask_addRoute l hst E _ _ F x N _ hI hz (nI pj) (1 + (nI j194)) 0 (nI j207)) gL_law_L_ask ⟨(Nat.le_of_ble_eq_true rfl), (Nat.le_of_ble_eq_true rfl)⟩ hl.1 (Nat.le_of_ble_eq_true rfl) dL_law_210 (show _ ≤ 677584 by omega) (show _ ≤ 7061175 by omega) (fun w H locs hz hP hS => ?_)
  refine W.eq (g2 := F0 m 213 ls [.int (aE [-1002, -1003] (s_addRoute F (nI pj) (1 + (nI j194)) 0 (nI j207)))]) rfl ?_
  have hJ := J_addRoute hI (by omega) (nI pj) (1 + (nI j194)) 0 (nI j207)
  rcases ao_addRoute (F := F) (a1 := nI pj) (b1 := 1 + (nI j194)) (c1 := 0) (d1 := nI j207) with ⟨h0, hv⟩ | ⟨h0, hv, hF⟩
  · obtain ⟨h1, h2⟩ := m_addRoute h0
    rw [h2] at hz hJ
    refine W.eq (g2 := F0 m 213 ls [.int (nI (F 24 0))]) (by rw [hv, h1]) ?_
    refine lv_istore (lv' := [(15, .int (nI (F 24 0))), (0, .ref (E.2.2 102)), (1, .ref x), (2, .ref ob), (3, .ref op), (4, .int (nI (F 24 0))), (5, .int (nI (F 24 2))), (6, .int (nI (F 24 1))), (7, .int (nI ev)), (8, .int g8), (9, .int (nI jr)), (10, .int (nI jc)), (12, .int (nI pj)), (13, .long was)]) hx hb dL_law_213 hl (by decide) rfl (fun ls hl => ?_)
    refine lv_iload hx hb dL_law_215 (lv_at hl 5 rfl) ?_
    refine lv_iload hx hb dL_law_217 (lv_at hl 0 rfl) ?_
    refine lv_if_lt (tgt := 226) hx hb dL_law_219 (by decide) (fun q9 => nI_nonneg (by omega) q9) (fun q9 => ?_)
    refine lv_iconst (v := 1) hx hb dL_law_222 (by decide) ?_
    refine lv_goto (tgt := 227) hx hb dL_law_223 (by decide) ?_
    refine lv_iadd hx hb dL_law_227 ?_
    refine W.eq (g2 := F0 m 228 ls [.int (nI (F 24 0 + 1))]) (by rw [nI_succ]) ?_
    refine lv_istore (lv' := [(4, .int (nI (F 24 0 + 1))), (15, .int (nI (F 24 0))), (0, .ref (E.2.2 102)), (1, .ref x), (2, .ref ob), (3, .ref op), (5, .int (nI (F 24 2))), (6, .int (nI (F 24 1))), (7, .int (nI ev)), (8, .int g8), (9, .int (nI jr)), (10, .int (nI jc)), (12, .int (nI pj)), (13, .long was)]) hx hb dL_law_228 hl (by decide) rfl (fun ls hl => ?_)
    refine lv_goto (tgt := 1213) hx hb dL_law_230 (by decide) ?_
    have e1 : (f_addRoute F (tn (nI pj)) (tn (1 + (nI j194))) (tn 0) (tn (nI j207))) 24 1 = F 24 1 := aro_o (by omega)
    have e2 : (f_addRoute F (tn (nI pj)) (tn (1 + (nI j194))) (tn 0) (tn (nI j207))) 24 2 = F 24 2 := aro_o (by omega)
    exact K (f_addRoute F (tn (nI pj)) (tn (1 + (nI j194))) (tn 0) (tn (nI j207))) (nI (F 24 0)) w H locs ls _ _ (lwJ_of hJ (by omega) hN (hki.same ⟨aro_o (by omega), fun k => aro_o (by omega)⟩) hz hob hop (fun i hi => by rw [aro_o (by omega)]; exact hfb i (by omega)) (fun i hi => by rw [aro_o (by omega)]; exact hfp i (by omega))) (nI_nonneg (by omega)) (by omega) (fun q => absurd q (by omega)) hP hS (by rw [aro_0, e1, e2]; exact lv_sub hl [2, 3, 4, 5, 0, 6, 7, 8, 13, 1] rfl) (by omega) (by omega)
  · rw [hF] at hz hJ
    refine lv_istore (lv' := [(15, .int (aE [-1002, -1003] (s_addRoute F (nI pj) (1 + (nI j194)) 0 (nI j207)))), (0, .ref (E.2.2 102)), (1, .ref x), (2, .ref ob), (3, .ref op), (4, .int (nI (F 24 0))), (5, .int (nI (F 24 2))), (6, .int (nI (F 24 1))), (7, .int (nI ev)), (8, .int g8), (9, .int (nI jr)), (10, .int (nI jc)), (12, .int (nI pj)), (13, .long was)]) hx hb dL_law_213 hl (by decide) rfl (fun ls hl => ?_)
    refine lv_iload hx hb dL_law_215 (lv_at hl 5 rfl) ?_
    refine lv_iload hx hb dL_law_217 (lv_at hl 0 rfl) ?_
    refine lv_if_lt (tgt := 226) hx hb dL_law_219 (by decide) (fun q9 => ?_) (fun q9 => absurd hv q9)
    refine lv_iconst (v := 0) hx hb dL_law_226 (by decide) ?_
    refine lv_iadd hx hb dL_law_227 ?_
    refine W.eq (g2 := F0 m 228 ls [.int (nI (F 24 0))]) (by rw [Int32.add_zero]) ?_
    refine lv_istore (lv' := [(4, .int (nI (F 24 0))), (15, .int (aE [-1002, -1003] (s_addRoute F (nI pj) (1 + (nI j194)) 0 (nI j207)))), (0, .ref (E.2.2 102)), (1, .ref x), (2, .ref ob), (3, .ref op), (5, .int (nI (F 24 2))), (6, .int (nI (F 24 1))), (7, .int (nI ev)), (8, .int g8), (9, .int (nI jr)), (10, .int (nI jc)), (12, .int (nI pj)), (13, .long was)]) hx hb dL_law_228 hl (by decide) rfl (fun ls hl => ?_)
    refine lv_goto (tgt := 1213) hx hb dL_law_230 (by decide) ?_
    exact K F (aE [-1002, -1003] (s_addRoute F (nI pj) (1 + (nI j194)) 0 (nI j207))) w H locs ls _ _ (lwJ_kp hJ (by omega) hN hki hz hob hop hfb hfp kpF.rf) (fun _ => rfl) (Nat.le_refl _) (fun q => absurd q (by omega)) hP hS (lv_sub hl [2, 3, 4, 5, 0, 6, 7, 8, 13, 1] rfl) (by omega) (by omega)
set_option maxHeartbeats 4000000 in
set_option maxRecDepth 100000 in
theorem lc_begin (hst : l.stackTraces = false) (C1 : wCt p s m args meth c RL cL_law 21 wsL_law E A) (hI : wInv F N) (hki : wKi F) (hz : zK E F x w0 w) (hob : w0 ob = some (.inl (E.2.1 0, 3, .inl fb))) (hop : w0 op = some (.inl (E.2.1 0, 6, .inl fp))) (hfb : ∀ i, i < F 24 1 → fb i = nI (F 11 i)) (hfp : ∀ i, i < F 24 2 → fp i = nI (F 13 i)) (hP : wP E.1 A w H) (hS : va_S A s.heap H locs) (hl : lv_has ls 21 [(0, .ref (E.2.2 102)), (1, .ref x), (2, .ref ob), (3, .ref op), (4, .int (nI (F 24 0))), (5, .int (nI (F 24 2))), (6, .int (nI (F 24 1))), (7, .int (nI ev)), (8, .int g8), (9, .int (nI jr)), (10, .int (nI jc)), (12, .int (nI pj)), (13, .long was), (15, .int 0)]) (hc : cells ≤ cB + 1644) (hs : slots ≤ sB + 9864) (hcB : cB + 12000 ≤ 677584) (hsB : sB + 120000 ≤ 7061175) (hN : N + 8 ≤ 512) (hev : ev < 56) (hjr : jr ≤ F 24 0) (hjc : jc ≤ F 24 2) (hpj : pathB (nI pj) = true) (hpn : pj < 100) (K : lwK p l e s m args below meth c Q A E x ob op F N ev cB sB was) (h2e : 2 ≤ ev) : W p l e room_1 s m args below meth c H locs cells slots Q (F0 m 239 ls []) := by
  have C0 := C1.1
  have hx := C0.1
  have hb := C0.2.1
  have hts := C0.2.2.2.2.1
  have hown := C0.2.2.2.1
  have hn9 := hI.n
  refine lv_aload_n hx hb dL_law_239 rfl (lv_at hl 1 rfl) ?_
  refine lv_bipush (v := 6) hx hb dL_law_240 (by decide) ?_
  refine lv_iload hx hb dL_law_242 (lv_at hl 9 rfl) ?_
  refine lv_iload hx hb dL_law_244 (lv_at hl 8 rfl) ?_
  refine lv_bipush (v := 12) hx hb dL_law_246 (by decide) ?_
  refine lv_ishr hx hb dL_law_248 ?_
  refine lv_sipush (v := 1002) hx hb dL_law_249 (by decide) ?_
  refine wt_low (v1 := g8 >>> (12 &&& 31)) 1002 hst C1 hP hS (by decide) (by omega) (by omega) gL_law_L_low ⟨(Nat.le_of_ble_eq_true rfl), (Nat.le_of_ble_eq_true rfl)⟩ hl.1 (Nat.le_of_ble_eq_true rfl) dL_law_252 (show _ ≤ 677584 by omega) (show _ ≤ 7061175 by omega) (fun j252 H locs hj252 ej252 hP hS => ?_)
  refine W.eq (g2 := F0 m 255 ls [.int (nI j252), .int (nI jr), .int 6, .ref x]) rfl ?_
  refine lv_iconst (v := 1) hx hb dL_law_255 (by decide) ?_
  refine lv_iload hx hb dL_law_256 (lv_at hl 8 rfl) ?_
  refine lv_bipush (v := 15) hx hb dL_law_258 (by decide) ?_
  refine lv_ishr hx hb dL_law_260 ?_
  refine lv_bipush (v := 100) hx hb dL_law_261 (by decide) ?_
  refine wt_low (v1 := g8 >>> (15 &&& 31)) 100 hst C1 hP hS (by decide) (by omega) (by omega) gL_law_L_low ⟨(Nat.le_of_ble_eq_true rfl), (Nat.le_of_ble_eq_true rfl)⟩ hl.1 (Nat.le_of_ble_eq_true rfl) dL_law_263 (show _ ≤ 677584 by omega) (show _ ≤ 7061175 by omega) (fun j263 H locs hj263 ej263 hP hS => ?_)
  refine W.eq (g2 := F0 m 266 ls [.int (nI j263), .int 1, .int (nI j252), .int (nI jr), .int 6, .ref x]) rfl ?_
  refine lv_iadd hx hb dL_law_266 ?_
  refine lv_iconst (v := 1) hx hb dL_law_267 (by decide) ?_
  refine lv_iload hx hb dL_law_268 (lv_at hl 8 rfl) ?_
  refine lv_bipush (v := 20) hx hb dL_law_270 (by decide) ?_
  refine lv_ishr hx hb dL_law_272 ?_
  refine lv_bipush (v := 9) hx hb dL_law_273 (by decide) ?_
  refine wt_low (v1 := g8 >>> (20 &&& 31)) 9 hst C1 hP hS (by decide) (by omega) (by omega) gL_law_L_low ⟨(Nat.le_of_ble_eq_true rfl), (Nat.le_of_ble_eq_true rfl)⟩ hl.1 (Nat.le_of_ble_eq_true rfl) dL_law_275 (show _ ≤ 677584 by omega) (show _ ≤ 7061175 by omega) (fun j275 H locs hj275 ej275 hP hS => ?_)
  refine W.eq (g2 := F0 m 278 ls [.int (nI j275), .int 1, .int (1 + (nI j263)), .int (nI j252), .int (nI jr), .int 6, .ref x]) rfl ?_
  refine lv_iadd hx hb dL_law_278 ?_
  refine wt_ask C1 hP hS (k_L_ask_begin l hst E _ _ F x N _ hI hz (nI jr) (nI j252) (1 + (nI j263)) (1 + (nI j275))) gL_law_L_ask ⟨(Nat.le_of_ble_eq_true rfl), (Nat.le_of_ble_eq_true rfl)⟩ hl.1 (Nat.le_of_ble_eq_true rfl) dL_law_279 (show _ ≤ 677584 by omega) (show _ ≤ 7061175 by omega) (fun w H locs hz hP hS => ?_)
  refine W.eq (g2 := F0 m 282 ls [.int (aE [-1001, -1002, -1003] (s_begin F (nI jr) (nI j252) (1 + (nI j263)) (1 + (nI j275))))]) rfl ?_
  have hJ := J_begin hI (by omega) (nI jr) (nI j252) (1 + (nI j263)) (1 + (nI j275))
  rcases ao_begin (F := F) (a1 := nI jr) (b1 := nI j252) (c1 := 1 + (nI j263)) (d1 := 1 + (nI j275)) with ⟨h0, hv⟩ | ⟨h0, hv, hF⟩
  · obtain ⟨hv1, h5, h1, h2⟩ := m_begin h0
    obtain ⟨hjr9, etn⟩ := vpb_nI_t hv1 (by omega) (by omega)
    rw [etn] at h1 h2 h5
    rw [h2] at hz hJ
    have hnc : ncan (f_begin F jr (tn (nI j252)) (tn (1 + (nI j263))) (tn (1 + (nI j275)))) ≤ F 24 0 := Nat.le_trans (ct_le _ _) (Nat.le_of_eq (beg_kp (F := F) (i := jr)).1.1)
    refine W.eq (g2 := F0 m 282 ls [.int (nI (ncan (f_begin F jr (tn (nI j252)) (tn (1 + (nI j263))) (tn (1 + (nI j275))))))]) (by rw [hv, h1]) ?_
    refine lv_istore (lv' := [(15, .int (nI (ncan (f_begin F jr (tn (nI j252)) (tn (1 + (nI j263))) (tn (1 + (nI j275))))))), (0, .ref (E.2.2 102)), (1, .ref x), (2, .ref ob), (3, .ref op), (4, .int (nI (F 24 0))), (5, .int (nI (F 24 2))), (6, .int (nI (F 24 1))), (7, .int (nI ev)), (8, .int g8), (9, .int (nI jr)), (10, .int (nI jc)), (12, .int (nI pj)), (13, .long was)]) hx hb dL_law_282 hl (by decide) rfl (fun ls hl => ?_)
    refine lv_iload hx hb dL_law_284 (lv_at hl 0 rfl) ?_
    refine lv_if_lt (tgt := 1213) hx hb dL_law_286 (by decide) (fun q9 => nI_nonneg (by omega) q9) (fun q9 => ?_)
    refine lv_aload_n hx hb dL_law_289 rfl (lv_at hl 2 rfl) ?_
    refine lv_bipush (v := 11) hx hb dL_law_290 (by decide) ?_
    refine lv_iload hx hb dL_law_292 (lv_at hl 10 rfl) ?_
    refine lv_iconst (v := 0) hx hb dL_law_294 (by decide) ?_
    refine lv_iconst (v := 0) hx hb dL_law_295 (by decide) ?_
    refine lv_iconst (v := 0) hx hb dL_law_296 (by decide) ?_
    refine wt_ask C1 hP hS (k_L_ask_faults l hst E _ _ (f_begin F jr (tn (nI j252)) (tn (1 + (nI j263))) (tn (1 + (nI j275)))) x (N + 1) _ hJ hz (nI jr) 0 0 0) gL_law_L_ask ⟨(Nat.le_of_ble_eq_true rfl), (Nat.le_of_ble_eq_true rfl)⟩ hl.1 (Nat.le_of_ble_eq_true rfl) dL_law_297 (show _ ≤ 677584 by omega) (show _ ≤ 7061175 by omega) (fun w H locs hz hP hS => ?_)
    refine W.eq (g2 := F0 m 300 ls [.int (aE [-1001, -1005] (s_faults (f_begin F jr (tn (nI j252)) (tn (1 + (nI j263))) (tn (1 + (nI j275)))) (nI jr)))]) rfl ?_
    have e0 : (f_begin F jr (tn (nI j252)) (tn (1 + (nI j263))) (tn (1 + (nI j275)))) 24 0 = F 24 0 := beg_kp.1.1
    refine W.eq (g2 := F0 m 300 ls [.int 0]) (by rw [v_faults (by omega) (by omega), if_neg (by rw [beg_5]; decide), beg_9]; first | done | rfl) ?_
    refine lv_if_ne (tgt := 310) hx hb dL_law_300 (by decide) (fun q9 => absurd rfl q9) (fun q9 => ?_)
    refine lv_iload hx hb dL_law_303 (lv_at hl 0 rfl) ?_
    refine lv_iload hx hb dL_law_305 (lv_at hl 5 rfl) ?_
    refine lv_icmp_le (tgt := 1213) hx hb dL_law_307 (by decide) (fun q9 => ?_) (fun q9 => absurd (nI_le hnc (by omega)) q9)
    exact K (f_begin F jr (tn (nI j252)) (tn (1 + (nI j263))) (tn (1 + (nI j275)))) (nI (ncan (f_begin F jr (tn (nI j252)) (tn (1 + (nI j263))) (tn (1 + (nI j275)))))) w H locs ls _ _ (lwJ_kp hJ (by omega) hN (hki.same beg_kp.2) hz hob hop hfb hfp (beg_kp (F := F) (i := jr) (a := tn (nI j252)) (sh := tn (1 + (nI j263))) (li := tn (1 + (nI j275)))).1) (nI_nonneg (by omega)) (Nat.le_of_eq (beg_kp (F := F) (i := jr) (a := tn (nI j252)) (sh := tn (1 + (nI j263))) (li := tn (1 + (nI j275)))).1.2.1.symm) (fun q => absurd q (by omega)) hP hS (by rw [(beg_kp (F := F) (i := jr) (a := tn (nI j252)) (sh := tn (1 + (nI j263))) (li := tn (1 + (nI j275)))).1.1, (beg_kp (F := F) (i := jr) (a := tn (nI j252)) (sh := tn (1 + (nI j263))) (li := tn (1 + (nI j275)))).1.2.1, (beg_kp (F := F) (i := jr) (a := tn (nI j252)) (sh := tn (1 + (nI j263))) (li := tn (1 + (nI j275)))).1.2.2.1]; exact lv_sub hl [1, 2, 3, 4, 5, 6, 7, 8, 13, 0] rfl) (by omega) (by omega)
  · rw [hF] at hz hJ
    refine lv_istore (lv' := [(15, .int (aE [-1001, -1002, -1003] (s_begin F (nI jr) (nI j252) (1 + (nI j263)) (1 + (nI j275))))), (0, .ref (E.2.2 102)), (1, .ref x), (2, .ref ob), (3, .ref op), (4, .int (nI (F 24 0))), (5, .int (nI (F 24 2))), (6, .int (nI (F 24 1))), (7, .int (nI ev)), (8, .int g8), (9, .int (nI jr)), (10, .int (nI jc)), (12, .int (nI pj)), (13, .long was)]) hx hb dL_law_282 hl (by decide) rfl (fun ls hl => ?_)
    refine lv_iload hx hb dL_law_284 (lv_at hl 0 rfl) ?_
    refine lv_if_lt (tgt := 1213) hx hb dL_law_286 (by decide) (fun q9 => ?_) (fun q9 => absurd hv q9)
    exact K F (aE [-1001, -1002, -1003] (s_begin F (nI jr) (nI j252) (1 + (nI j263)) (1 + (nI j275)))) w H locs ls _ _ (lwJ_kp hJ (by omega) hN hki hz hob hop hfb hfp kpF.rf) (fun _ => rfl) (Nat.le_refl _) (fun q => absurd q (by omega)) hP hS (lv_sub hl [1, 2, 3, 4, 5, 6, 7, 8, 13, 0] rfl) (by omega) (by omega)
set_option maxHeartbeats 4000000 in
set_option maxRecDepth 100000 in
theorem lc_promote (hst : l.stackTraces = false) (C1 : wCt p s m args meth c RL cL_law 21 wsL_law E A) (hI : wInv F N) (hki : wKi F) (hz : zK E F x w0 w) (hob : w0 ob = some (.inl (E.2.1 0, 3, .inl fb))) (hop : w0 op = some (.inl (E.2.1 0, 6, .inl fp))) (hfb : ∀ i, i < F 24 1 → fb i = nI (F 11 i)) (hfp : ∀ i, i < F 24 2 → fp i = nI (F 13 i)) (hP : wP E.1 A w H) (hS : va_S A s.heap H locs) (hl : lv_has ls 21 [(0, .ref (E.2.2 102)), (1, .ref x), (2, .ref ob), (3, .ref op), (4, .int (nI (F 24 0))), (5, .int (nI (F 24 2))), (6, .int (nI (F 24 1))), (7, .int (nI ev)), (8, .int g8), (9, .int (nI jr)), (10, .int (nI jc)), (12, .int (nI pj)), (13, .long was), (15, .int 0)]) (hc : cells ≤ cB + 1644) (hs : slots ≤ sB + 9864) (hcB : cB + 12000 ≤ 677584) (hsB : sB + 120000 ≤ 7061175) (hN : N + 8 ≤ 512) (hev : ev < 56) (hjr : jr ≤ F 24 0) (hjc : jc ≤ F 24 2) (hpj : pathB (nI pj) = true) (hpn : pj < 100) (K : lwK p l e s m args below meth c Q A E x ob op F N ev cB sB was) (h2e : 2 ≤ ev) : W p l e room_1 s m args below meth c H locs cells slots Q (F0 m 318 ls []) := by
  have C0 := C1.1
  have hx := C0.1
  have hb := C0.2.1
  have hts := C0.2.2.2.2.1
  have hown := C0.2.2.2.1
  have hn9 := hI.n
  refine lv_aload_n hx hb dL_law_318 rfl (lv_at hl 1 rfl) ?_
  refine lv_iconst (v := 0) hx hb dL_law_319 (by decide) ?_
  refine lv_iload hx hb dL_law_320 (lv_at hl 5 rfl) ?_
  refine wt_goS (As := [.ref x, .int 0, .int (nI (F 24 2))]) (rest := []) C1 hP hS (k_L_state l hst E _ _ F x N _ hI hz 0 (F 24 2) (by omega) (by omega)) (va_cwS 3 hts gL_law_L_state rfl rfl rfl (by decide +kernel) ⟨(Nat.le_of_ble_eq_true rfl), (Nat.le_of_ble_eq_true rfl)⟩) rfl rfl hl.1 (Nat.le_of_ble_eq_true rfl) dL_law_322 (show _ ≤ 677584 by omega) (show _ ≤ 7061175 by omega) (fun v w H locs hq hP hS => ?_)
  obtain ⟨rfl, hz⟩ := hq
  refine W.eq (g2 := F0 m 325 ls [.long (h_state F 0 (F 24 2))]) rfl ?_
  refine lv_lstore (lv' := [(16, .long (h_state F 0 (F 24 2))), (0, .ref (E.2.2 102)), (1, .ref x), (2, .ref ob), (3, .ref op), (4, .int (nI (F 24 0))), (5, .int (nI (F 24 2))), (6, .int (nI (F 24 1))), (7, .int (nI ev)), (8, .int g8), (9, .int (nI jr)), (10, .int (nI jc)), (12, .int (nI pj)), (13, .long was), (15, .int 0)]) hx hb dL_law_325 hl (by decide) rfl (fun ls hl => ?_)
  refine lv_aload_n hx hb dL_law_327 rfl (lv_at hl 2 rfl) ?_
  refine lv_bipush (v := 8) hx hb dL_law_328 (by decide) ?_
  refine lv_iload hx hb dL_law_330 (lv_at hl 10 rfl) ?_
  refine lv_iconst (v := 0) hx hb dL_law_332 (by decide) ?_
  refine lv_iconst (v := 0) hx hb dL_law_333 (by decide) ?_
  refine lv_iconst (v := 0) hx hb dL_law_334 (by decide) ?_
  refine wt_ask C1 hP hS (k_L_ask_promote l hst E _ _ F x N _ hI hz (nI jr) 0 0 0) gL_law_L_ask ⟨(Nat.le_of_ble_eq_true rfl), (Nat.le_of_ble_eq_true rfl)⟩ hl.1 (Nat.le_of_ble_eq_true rfl) dL_law_335 (show _ ≤ 677584 by omega) (show _ ≤ 7061175 by omega) (fun w H locs hz hP hS => ?_)
  refine W.eq (g2 := F0 m 338 ls [.int (aE [-1001, -1003] (s_promote F (nI jr)))]) rfl ?_
  have hJ := J_promote hI (by omega) (nI jr)
  rcases ao_promote (F := F) (a1 := nI jr) with ⟨h0, hv⟩ | ⟨h0, hv, hF⟩
  · obtain ⟨hv1, h5, h2⟩ := m_promote h0
    obtain ⟨hjr9, etn⟩ := vpb_nI_t hv1 (by omega) (by omega)
    rw [etn] at h2 h5
    have hca := hI.ca hjr9 h5
    have h1 : (s_promote F (nI jr)).2.1 = nI (F 6 jr) := by rw [v_prom h0, etn]
    rw [h2] at hz hJ
    refine W.eq (g2 := F0 m 338 ls [.int (nI (F 6 jr))]) (by rw [hv, h1]) ?_
    refine lv_istore (lv' := [(15, .int (nI (F 6 jr))), (16, .long (h_state F 0 (F 24 2))), (0, .ref (E.2.2 102)), (1, .ref x), (2, .ref ob), (3, .ref op), (4, .int (nI (F 24 0))), (5, .int (nI (F 24 2))), (6, .int (nI (F 24 1))), (7, .int (nI ev)), (8, .int g8), (9, .int (nI jr)), (10, .int (nI jc)), (12, .int (nI pj)), (13, .long was)]) hx hb dL_law_338 hl (by decide) rfl (fun ls hl => ?_)
    refine lv_iload hx hb dL_law_340 (lv_at hl 0 rfl) ?_
    refine lv_if_lt (tgt := 374) hx hb dL_law_342 (by decide) (fun q9 => nI_nonneg (by omega) q9) (fun q9 => ?_)
    have hkp := (prom_kp (F := F) (i := jr)).1
    refine lv_aload_n hx hb dL_law_345 rfl (lv_at hl 3 rfl) ?_
    refine lv_iconst (v := 0) hx hb dL_law_346 (by decide) ?_
    refine lv_iload hx hb dL_law_347 (lv_at hl 7 rfl) ?_
    refine wt_goS (As := [.ref x, .int 0, .int (nI (F 24 2))]) (rest := []) C1 hP hS (k_L_state l hst E _ _ (f_promote F jr) x (N + 1) _ hJ hz 0 (F 24 2) (by omega) (by omega)) (va_cwS 3 hts gL_law_L_state rfl rfl rfl (by decide +kernel) ⟨(Nat.le_of_ble_eq_true rfl), (Nat.le_of_ble_eq_true rfl)⟩) rfl rfl hl.1 (Nat.le_of_ble_eq_true rfl) dL_law_349 (show _ ≤ 677584 by omega) (show _ ≤ 7061175 by omega) (fun v w H locs hq hP hS => ?_)
    obtain ⟨rfl, hz⟩ := hq
    refine W.eq (g2 := F0 m 352 ls [.long (h_state (f_promote F jr) 0 (F 24 2))]) rfl ?_
    refine lv_lload hx hb dL_law_352 (lv_at hl 1 rfl) ?_
    refine W.lcmp hx hb dL_law_354 ?_
    refine lv_if_ne (tgt := 372) hx hb dL_law_355 (by decide) (fun q9 => absurd ((lg_cmp_eq _ _).mpr hs_prom) q9) (fun q9 => ?_)
    refine lv_aload_n hx hb dL_law_358 rfl (lv_at hl 3 rfl) ?_
    refine lv_bipush (v := 10) hx hb dL_law_359 (by decide) ?_
    refine lv_iload hx hb dL_law_361 (lv_at hl 11 rfl) ?_
    refine lv_iconst (v := 0) hx hb dL_law_363 (by decide) ?_
    refine lv_iconst (v := 0) hx hb dL_law_364 (by decide) ?_
    refine lv_iconst (v := 0) hx hb dL_law_365 (by decide) ?_
    refine wt_ask C1 hP hS (k_L_ask_hasCanary l hst E _ _ (f_promote F jr) x (N + 1) _ hJ hz (nI jr) 0 0 0) gL_law_L_ask ⟨(Nat.le_of_ble_eq_true rfl), (Nat.le_of_ble_eq_true rfl)⟩ hl.1 (Nat.le_of_ble_eq_true rfl) dL_law_366 (show _ ≤ 677584 by omega) (show _ ≤ 7061175 by omega) (fun w H locs hz hP hS => ?_)
    refine W.eq (g2 := F0 m 369 ls [.int (aE [-1001] (s_hasCanary (f_promote F jr) (nI jr)))]) rfl ?_
    have e0 : (f_promote F jr) 24 0 = F 24 0 := hkp.1
    refine W.eq (g2 := F0 m 369 ls [.int 0]) (by rw [v_has (by omega) (by omega), if_pos prom_5]) ?_
    refine lv_if_eq (tgt := 374) hx hb dL_law_369 (by decide) (fun q9 => ?_) (fun q9 => absurd rfl q9)
    refine lv_goto (tgt := 1213) hx hb dL_law_374 (by decide) ?_
    exact K (f_promote F jr) (nI (F 6 jr)) w H locs ls _ _ (lwJ_kp hJ (by omega) hN (hki.same prom_kp.2) hz hob hop hfb hfp hkp) (nI_nonneg (by omega)) (Nat.le_of_eq hkp.2.1.symm) (fun q => absurd q (by omega)) hP hS (by rw [hkp.1, hkp.2.1, hkp.2.2.1]; exact lv_sub hl [2, 3, 4, 5, 6, 7, 8, 9, 14, 0] rfl) (by omega) (by omega)
  · rw [hF] at hz hJ
    refine lv_istore (lv' := [(15, .int (aE [-1001, -1003] (s_promote F (nI jr)))), (16, .long (h_state F 0 (F 24 2))), (0, .ref (E.2.2 102)), (1, .ref x), (2, .ref ob), (3, .ref op), (4, .int (nI (F 24 0))), (5, .int (nI (F 24 2))), (6, .int (nI (F 24 1))), (7, .int (nI ev)), (8, .int g8), (9, .int (nI jr)), (10, .int (nI jc)), (12, .int (nI pj)), (13, .long was)]) hx hb dL_law_338 hl (by decide) rfl (fun ls hl => ?_)
    refine lv_iload hx hb dL_law_340 (lv_at hl 0 rfl) ?_
    refine lv_if_lt (tgt := 374) hx hb dL_law_342 (by decide) (fun q9 => ?_) (fun q9 => absurd hv q9)
    refine lv_goto (tgt := 1213) hx hb dL_law_374 (by decide) ?_
    exact K F (aE [-1001, -1003] (s_promote F (nI jr))) w H locs ls _ _ (lwJ_kp hJ (by omega) hN hki hz hob hop hfb hfp kpF.rf) (fun _ => rfl) (Nat.le_refl _) (fun q => absurd q (by omega)) hP hS (lv_sub hl [2, 3, 4, 5, 6, 7, 8, 9, 14, 0] rfl) (by omega) (by omega)
set_option maxHeartbeats 4000000 in
set_option maxRecDepth 100000 in
theorem lc_takeBack (hst : l.stackTraces = false) (C1 : wCt p s m args meth c RL cL_law 21 wsL_law E A) (hI : wInv F N) (hki : wKi F) (hz : zK E F x w0 w) (hob : w0 ob = some (.inl (E.2.1 0, 3, .inl fb))) (hop : w0 op = some (.inl (E.2.1 0, 6, .inl fp))) (hfb : ∀ i, i < F 24 1 → fb i = nI (F 11 i)) (hfp : ∀ i, i < F 24 2 → fp i = nI (F 13 i)) (hP : wP E.1 A w H) (hS : va_S A s.heap H locs) (hl : lv_has ls 21 [(0, .ref (E.2.2 102)), (1, .ref x), (2, .ref ob), (3, .ref op), (4, .int (nI (F 24 0))), (5, .int (nI (F 24 2))), (6, .int (nI (F 24 1))), (7, .int (nI ev)), (8, .int g8), (9, .int (nI jr)), (10, .int (nI jc)), (12, .int (nI pj)), (13, .long was), (15, .int 0)]) (hc : cells ≤ cB + 1644) (hs : slots ≤ sB + 9864) (hcB : cB + 12000 ≤ 677584) (hsB : sB + 120000 ≤ 7061175) (hN : N + 8 ≤ 512) (hev : ev < 56) (hjr : jr ≤ F 24 0) (hjc : jc ≤ F 24 2) (hpj : pathB (nI pj) = true) (hpn : pj < 100) (K : lwK p l e s m args below meth c Q A E x ob op F N ev cB sB was) (h2e : 2 ≤ ev) : W p l e room_1 s m args below meth c H locs cells slots Q (F0 m 384 ls []) := by
  have C0 := C1.1
  have hx := C0.1
  have hb := C0.2.1
  have hts := C0.2.2.2.2.1
  have hown := C0.2.2.2.1
  have hn9 := hI.n
  refine lv_aload_n hx hb dL_law_384 rfl (lv_at hl 1 rfl) ?_
  refine wt_goS (As := [.ref x]) (rest := []) C1 hP hS (k_L_undone l hst E _ _ F x N _ hI hz ) (va_cwS 1 hts gL_law_L_undone rfl rfl rfl (by decide +kernel) ⟨(Nat.le_of_ble_eq_true rfl), (Nat.le_of_ble_eq_true rfl)⟩) rfl rfl hl.1 (Nat.le_of_ble_eq_true rfl) dL_law_385 (show _ ≤ 677584 by omega) (show _ ≤ 7061175 by omega) (fun v w H locs hq hP hS => ?_)
  obtain ⟨rfl, hz⟩ := hq
  refine W.eq (g2 := F0 m 388 ls [.int (nI (ct (fun i => decide (F 20 i ≠ 0)) (F 24 3)))]) rfl ?_
  refine lv_istore (lv' := [(16, .int (nI (ct (fun i => decide (F 20 i ≠ 0)) (F 24 3)))), (0, .ref (E.2.2 102)), (1, .ref x), (2, .ref ob), (3, .ref op), (4, .int (nI (F 24 0))), (5, .int (nI (F 24 2))), (6, .int (nI (F 24 1))), (7, .int (nI ev)), (8, .int g8), (9, .int (nI jr)), (10, .int (nI jc)), (12, .int (nI pj)), (13, .long was), (15, .int 0)]) hx hb dL_law_388 hl (by decide) rfl (fun ls hl => ?_)
  refine lv_aload_n hx hb dL_law_390 rfl (lv_at hl 2 rfl) ?_
  refine lv_bipush (v := 9) hx hb dL_law_391 (by decide) ?_
  refine lv_iload hx hb dL_law_393 (lv_at hl 10 rfl) ?_
  refine lv_iconst (v := 0) hx hb dL_law_395 (by decide) ?_
  refine lv_iconst (v := 0) hx hb dL_law_396 (by decide) ?_
  refine lv_iconst (v := 0) hx hb dL_law_397 (by decide) ?_
  refine wt_ask C1 hP hS (k_L_ask_takeBack l hst E _ _ F x N _ hI hz (nI jr) 0 0 0) gL_law_L_ask ⟨(Nat.le_of_ble_eq_true rfl), (Nat.le_of_ble_eq_true rfl)⟩ hl.1 (Nat.le_of_ble_eq_true rfl) dL_law_398 (show _ ≤ 677584 by omega) (show _ ≤ 7061175 by omega) (fun w H locs hz hP hS => ?_)
  refine W.eq (g2 := F0 m 401 ls [.int (aE [-1001, -1003] (s_takeBack F (nI jr)))]) rfl ?_
  have hJ := J_takeBack hI (by omega) (nI jr)
  rcases ao_takeBack (F := F) (a1 := nI jr) with ⟨h0, hv⟩ | ⟨h0, hv, hF⟩
  · obtain ⟨hv1, h5, h1, h2⟩ := m_takeBack h0
    obtain ⟨hjr9, etn⟩ := vpb_nI_t hv1 (by omega) (by omega)
    rw [etn] at h1 h2 h5
    rw [h2] at hz hJ
    have hnu : n_und F jr (F 24 3) ≤ F 24 3 := ct_le _ _
    refine W.eq (g2 := F0 m 401 ls [.int (nI (n_und F jr (F 24 3)))]) (by rw [hv, h1]) ?_
    refine lv_istore (lv' := [(15, .int (nI (n_und F jr (F 24 3)))), (16, .int (nI (ct (fun i => decide (F 20 i ≠ 0)) (F 24 3)))), (0, .ref (E.2.2 102)), (1, .ref x), (2, .ref ob), (3, .ref op), (4, .int (nI (F 24 0))), (5, .int (nI (F 24 2))), (6, .int (nI (F 24 1))), (7, .int (nI ev)), (8, .int g8), (9, .int (nI jr)), (10, .int (nI jc)), (12, .int (nI pj)), (13, .long was)]) hx hb dL_law_401 hl (by decide) rfl (fun ls hl => ?_)
    refine lv_iload hx hb dL_law_403 (lv_at hl 0 rfl) ?_
    refine lv_if_lt (tgt := 436) hx hb dL_law_405 (by decide) (fun q9 => nI_nonneg (by omega) q9) (fun q9 => ?_)
    have hkp := (und_kp (F := F) (i := jr) (k := F 24 3)).1
    have hks := (und_kp (F := F) (i := jr) (k := F 24 3)).2
    refine lv_aload_n hx hb dL_law_408 rfl (lv_at hl 3 rfl) ?_
    refine wt_goS (As := [.ref x]) (rest := []) C1 hP hS (k_L_undone l hst E _ _ (f_und F jr (F 24 3)) x (N + 1) _ hJ hz ) (va_cwS 1 hts gL_law_L_undone rfl rfl rfl (by decide +kernel) ⟨(Nat.le_of_ble_eq_true rfl), (Nat.le_of_ble_eq_true rfl)⟩) rfl rfl hl.1 (Nat.le_of_ble_eq_true rfl) dL_law_409 (show _ ≤ 677584 by omega) (show _ ≤ 7061175 by omega) (fun v w H locs hq hP hS => ?_)
    obtain ⟨rfl, hz⟩ := hq
    refine W.eq (g2 := F0 m 412 ls [.int (nI (ct (fun i => decide ((f_und F jr (F 24 3)) 20 i ≠ 0)) ((f_und F jr (F 24 3)) 24 3)))]) rfl ?_
    refine lv_iload hx hb dL_law_412 (lv_at hl 1 rfl) ?_
    refine lv_iload hx hb dL_law_414 (lv_at hl 0 rfl) ?_
    refine lv_iadd hx hb dL_law_416 ?_
    refine lv_icmp_ne (tgt := 434) hx hb dL_law_417 (by decide) (fun q9 => absurd (by rw [hks.1, und_cnt hI, nI_add]) q9) (fun q9 => ?_)
    refine lv_aload_n hx hb dL_law_420 rfl (lv_at hl 3 rfl) ?_
    refine lv_bipush (v := 10) hx hb dL_law_421 (by decide) ?_
    refine lv_iload hx hb dL_law_423 (lv_at hl 11 rfl) ?_
    refine lv_iconst (v := 0) hx hb dL_law_425 (by decide) ?_
    refine lv_iconst (v := 0) hx hb dL_law_426 (by decide) ?_
    refine lv_iconst (v := 0) hx hb dL_law_427 (by decide) ?_
    refine wt_ask C1 hP hS (k_L_ask_hasCanary l hst E _ _ (f_und F jr (F 24 3)) x (N + 1) _ hJ hz (nI jr) 0 0 0) gL_law_L_ask ⟨(Nat.le_of_ble_eq_true rfl), (Nat.le_of_ble_eq_true rfl)⟩ hl.1 (Nat.le_of_ble_eq_true rfl) dL_law_428 (show _ ≤ 677584 by omega) (show _ ≤ 7061175 by omega) (fun w H locs hz hP hS => ?_)
    refine W.eq (g2 := F0 m 431 ls [.int (aE [-1001] (s_hasCanary (f_und F jr (F 24 3)) (nI jr)))]) rfl ?_
    have e0 : (f_und F jr (F 24 3)) 24 0 = F 24 0 := hkp.1
    refine W.eq (g2 := F0 m 431 ls [.int 0]) (by rw [v_has (by omega) (by omega), if_pos (by rw [und_5, if_pos rfl])]) ?_
    refine lv_if_eq (tgt := 436) hx hb dL_law_431 (by decide) (fun q9 => ?_) (fun q9 => absurd rfl q9)
    refine lv_goto (tgt := 1213) hx hb dL_law_436 (by decide) ?_
    exact K (f_und F jr (F 24 3)) (nI (n_und F jr (F 24 3))) w H locs ls _ _ (lwJ_kp hJ (by omega) hN (hki.same hks) hz hob hop hfb hfp hkp) (nI_nonneg (by omega)) (Nat.le_of_eq hkp.2.1.symm) (fun q => absurd q (by omega)) hP hS (by rw [hkp.1, hkp.2.1, hkp.2.2.1]; exact lv_sub hl [2, 3, 4, 5, 6, 7, 8, 9, 14, 0] rfl) (by omega) (by omega)
  · rw [hF] at hz hJ
    refine lv_istore (lv' := [(15, .int (aE [-1001, -1003] (s_takeBack F (nI jr)))), (16, .int (nI (ct (fun i => decide (F 20 i ≠ 0)) (F 24 3)))), (0, .ref (E.2.2 102)), (1, .ref x), (2, .ref ob), (3, .ref op), (4, .int (nI (F 24 0))), (5, .int (nI (F 24 2))), (6, .int (nI (F 24 1))), (7, .int (nI ev)), (8, .int g8), (9, .int (nI jr)), (10, .int (nI jc)), (12, .int (nI pj)), (13, .long was)]) hx hb dL_law_401 hl (by decide) rfl (fun ls hl => ?_)
    refine lv_iload hx hb dL_law_403 (lv_at hl 0 rfl) ?_
    refine lv_if_lt (tgt := 436) hx hb dL_law_405 (by decide) (fun q9 => ?_) (fun q9 => absurd hv q9)
    refine lv_goto (tgt := 1213) hx hb dL_law_436 (by decide) ?_
    exact K F (aE [-1001, -1003] (s_takeBack F (nI jr))) w H locs ls _ _ (lwJ_kp hJ (by omega) hN hki hz hob hop hfb hfp kpF.rf) (fun _ => rfl) (Nat.le_refl _) (fun q => absurd q (by omega)) hP hS (lv_sub hl [2, 3, 4, 5, 6, 7, 8, 9, 14, 0] rfl) (by omega) (by omega)
set_option maxHeartbeats 4000000 in
set_option maxRecDepth 100000 in
theorem lc_setContract (hst : l.stackTraces = false) (C1 : wCt p s m args meth c RL cL_law 21 wsL_law E A) (hI : wInv F N) (hki : wKi F) (hz : zK E F x w0 w) (hob : w0 ob = some (.inl (E.2.1 0, 3, .inl fb))) (hop : w0 op = some (.inl (E.2.1 0, 6, .inl fp))) (hfb : ∀ i, i < F 24 1 → fb i = nI (F 11 i)) (hfp : ∀ i, i < F 24 2 → fp i = nI (F 13 i)) (hP : wP E.1 A w H) (hS : va_S A s.heap H locs) (hl : lv_has ls 21 [(0, .ref (E.2.2 102)), (1, .ref x), (2, .ref ob), (3, .ref op), (4, .int (nI (F 24 0))), (5, .int (nI (F 24 2))), (6, .int (nI (F 24 1))), (7, .int (nI ev)), (8, .int g8), (9, .int (nI jr)), (10, .int (nI jc)), (12, .int (nI pj)), (13, .long was), (15, .int 0)]) (hc : cells ≤ cB + 1644) (hs : slots ≤ sB + 9864) (hcB : cB + 12000 ≤ 677584) (hsB : sB + 120000 ≤ 7061175) (hN : N + 8 ≤ 512) (hev : ev < 56) (hjr : jr ≤ F 24 0) (hjc : jc ≤ F 24 2) (hpj : pathB (nI pj) = true) (hpn : pj < 100) (K : lwK p l e s m args below meth c Q A E x ob op F N ev cB sB was) (h2e : 2 ≤ ev) : W p l e room_1 s m args below meth c H locs cells slots Q (F0 m 446 ls []) := by
  have C0 := C1.1
  have hx := C0.1
  have hb := C0.2.1
  have hts := C0.2.2.2.2.1
  have hown := C0.2.2.2.1
  have hn9 := hI.n
  refine lv_aload_n hx hb dL_law_446 rfl (lv_at hl 1 rfl) ?_
  refine lv_iconst (v := 3) hx hb dL_law_447 (by decide) ?_
  refine lv_iload hx hb dL_law_448 (lv_at hl 9 rfl) ?_
  refine lv_iload hx hb dL_law_450 (lv_at hl 8 rfl) ?_
  refine lv_bipush (v := 10) hx hb dL_law_452 (by decide) ?_
  refine lv_ishr hx hb dL_law_454 ?_
  refine lv_sipush (v := 400) hx hb dL_law_455 (by decide) ?_
  refine wt_low (v1 := g8 >>> (10 &&& 31)) 400 hst C1 hP hS (by decide) (by omega) (by omega) gL_law_L_low ⟨(Nat.le_of_ble_eq_true rfl), (Nat.le_of_ble_eq_true rfl)⟩ hl.1 (Nat.le_of_ble_eq_true rfl) dL_law_458 (show _ ≤ 677584 by omega) (show _ ≤ 7061175 by omega) (fun j458 H locs hj458 ej458 hP hS => ?_)
  refine W.eq (g2 := F0 m 461 ls [.int (nI j458), .int (nI jr), .int 3, .ref x]) rfl ?_
  refine lv_iload hx hb dL_law_461 (lv_at hl 8 rfl) ?_
  refine lv_bipush (v := 14) hx hb dL_law_463 (by decide) ?_
  refine lv_ishr hx hb dL_law_465 ?_
  refine lv_sipush (v := 1001) hx hb dL_law_466 (by decide) ?_
  refine wt_low (v1 := g8 >>> (14 &&& 31)) 1001 hst C1 hP hS (by decide) (by omega) (by omega) gL_law_L_low ⟨(Nat.le_of_ble_eq_true rfl), (Nat.le_of_ble_eq_true rfl)⟩ hl.1 (Nat.le_of_ble_eq_true rfl) dL_law_469 (show _ ≤ 677584 by omega) (show _ ≤ 7061175 by omega) (fun j469 H locs hj469 ej469 hP hS => ?_)
  refine W.eq (g2 := F0 m 472 ls [.int (nI j469), .int (nI j458), .int (nI jr), .int 3, .ref x]) rfl ?_
  refine lv_iconst (v := 0) hx hb dL_law_472 (by decide) ?_
  refine wt_ask C1 hP hS (k_L_ask_setContract l hst E _ _ F x N _ hI hz (nI jr) (nI j458) (nI j469) 0) gL_law_L_ask ⟨(Nat.le_of_ble_eq_true rfl), (Nat.le_of_ble_eq_true rfl)⟩ hl.1 (Nat.le_of_ble_eq_true rfl) dL_law_473 (show _ ≤ 677584 by omega) (show _ ≤ 7061175 by omega) (fun w H locs hz hP hS => ?_)
  refine W.eq (g2 := F0 m 476 ls [.int (aE [-1001, -1002] (s_setContract F (nI jr) (nI j458) (nI j469)))]) rfl ?_
  have hJ := J_setContract hI (by omega) (nI jr) (nI j458) (nI j469)
  rcases ao_setContract (F := F) (a1 := nI jr) (b1 := nI j458) (c1 := nI j469) with ⟨h0, hv⟩ | ⟨h0, hv, hF⟩
  · have hm := m_setContract h0
    obtain ⟨hjr9, etn⟩ := vpb_nI_t hm.1 (by omega) (by omega)
    have hro := hI.ro hjr9
    have h1 := hm.2
    rw [etn] at h1
    refine W.eq (g2 := F0 m 476 ls [.int (nI (F 2 jr))]) (by rw [hv, h1]) ?_
    refine lv_istore (lv' := [(15, .int (nI (F 2 jr))), (0, .ref (E.2.2 102)), (1, .ref x), (2, .ref ob), (3, .ref op), (4, .int (nI (F 24 0))), (5, .int (nI (F 24 2))), (6, .int (nI (F 24 1))), (7, .int (nI ev)), (8, .int g8), (9, .int (nI jr)), (10, .int (nI jc)), (12, .int (nI pj)), (13, .long was)]) hx hb dL_law_476 hl (by decide) rfl (fun ls hl => ?_)
    refine lv_goto (tgt := 1213) hx hb dL_law_478 (by decide) ?_
    have hkp := kp_setContract (F := F) (a1 := nI jr) (b1 := nI j458) (c1 := nI j469)
    exact K (((s_setContract F (nI jr) (nI j458) (nI j469))).2.2) (nI (F 2 jr)) w H locs ls _ _ (lwJ_kp hJ (by omega) hN (hki.same hkp.2) hz hob hop hfb hfp hkp.1) (nI_nonneg (by omega)) (Nat.le_of_eq hkp.1.2.1.symm) (fun q => absurd q (by omega)) hP hS (by rw [hkp.1.1, hkp.1.2.1, hkp.1.2.2.1]; exact lv_sub hl [1, 2, 3, 4, 5, 6, 7, 8, 13, 0] rfl) (by omega) (by omega)
  · rw [hF] at hz hJ
    refine lv_istore (lv' := [(15, .int (aE [-1001, -1002] (s_setContract F (nI jr) (nI j458) (nI j469)))), (0, .ref (E.2.2 102)), (1, .ref x), (2, .ref ob), (3, .ref op), (4, .int (nI (F 24 0))), (5, .int (nI (F 24 2))), (6, .int (nI (F 24 1))), (7, .int (nI ev)), (8, .int g8), (9, .int (nI jr)), (10, .int (nI jc)), (12, .int (nI pj)), (13, .long was)]) hx hb dL_law_476 hl (by decide) rfl (fun ls hl => ?_)
    refine lv_goto (tgt := 1213) hx hb dL_law_478 (by decide) ?_
    exact K F (aE [-1001, -1002] (s_setContract F (nI jr) (nI j458) (nI j469))) w H locs ls _ _ (lwJ_kp hJ (by omega) hN hki hz hob hop hfb hfp kpF.rf) (fun _ => rfl) (Nat.le_refl _) (fun q => absurd q (by omega)) hP hS (lv_sub hl [1, 2, 3, 4, 5, 6, 7, 8, 13, 0] rfl) (by omega) (by omega)
set_option maxHeartbeats 4000000 in
set_option maxRecDepth 100000 in
theorem lc_setAnswer (hst : l.stackTraces = false) (C1 : wCt p s m args meth c RL cL_law 21 wsL_law E A) (hI : wInv F N) (hki : wKi F) (hz : zK E F x w0 w) (hob : w0 ob = some (.inl (E.2.1 0, 3, .inl fb))) (hop : w0 op = some (.inl (E.2.1 0, 6, .inl fp))) (hfb : ∀ i, i < F 24 1 → fb i = nI (F 11 i)) (hfp : ∀ i, i < F 24 2 → fp i = nI (F 13 i)) (hP : wP E.1 A w H) (hS : va_S A s.heap H locs) (hl : lv_has ls 21 [(0, .ref (E.2.2 102)), (1, .ref x), (2, .ref ob), (3, .ref op), (4, .int (nI (F 24 0))), (5, .int (nI (F 24 2))), (6, .int (nI (F 24 1))), (7, .int (nI ev)), (8, .int g8), (9, .int (nI jr)), (10, .int (nI jc)), (12, .int (nI pj)), (13, .long was), (15, .int 0)]) (hc : cells ≤ cB + 1644) (hs : slots ≤ sB + 9864) (hcB : cB + 12000 ≤ 677584) (hsB : sB + 120000 ≤ 7061175) (hN : N + 8 ≤ 512) (hev : ev < 56) (hjr : jr ≤ F 24 0) (hjc : jc ≤ F 24 2) (hpj : pathB (nI pj) = true) (hpn : pj < 100) (K : lwK p l e s m args below meth c Q A E x ob op F N ev cB sB was) (h2e : 2 ≤ ev) : W p l e room_1 s m args below meth c H locs cells slots Q (F0 m 488 ls []) := by
  have C0 := C1.1
  have hx := C0.1
  have hb := C0.2.1
  have hts := C0.2.2.2.2.1
  have hown := C0.2.2.2.1
  have hn9 := hI.n
  refine lv_aload_n hx hb dL_law_488 rfl (lv_at hl 1 rfl) ?_
  refine lv_iconst (v := 4) hx hb dL_law_489 (by decide) ?_
  refine lv_iload hx hb dL_law_490 (lv_at hl 9 rfl) ?_
  refine lv_iload hx hb dL_law_492 (lv_at hl 8 rfl) ?_
  refine lv_bipush (v := 10) hx hb dL_law_494 (by decide) ?_
  refine lv_ishr hx hb dL_law_496 ?_
  refine lv_sipush (v := 1001) hx hb dL_law_497 (by decide) ?_
  refine wt_low (v1 := g8 >>> (10 &&& 31)) 1001 hst C1 hP hS (by decide) (by omega) (by omega) gL_law_L_low ⟨(Nat.le_of_ble_eq_true rfl), (Nat.le_of_ble_eq_true rfl)⟩ hl.1 (Nat.le_of_ble_eq_true rfl) dL_law_500 (show _ ≤ 677584 by omega) (show _ ≤ 7061175 by omega) (fun j500 H locs hj500 ej500 hP hS => ?_)
  refine W.eq (g2 := F0 m 503 ls [.int (nI j500), .int (nI jr), .int 4, .ref x]) rfl ?_
  refine lv_iconst (v := 0) hx hb dL_law_503 (by decide) ?_
  refine lv_iconst (v := 0) hx hb dL_law_504 (by decide) ?_
  refine wt_ask C1 hP hS (k_L_ask_setAnswer l hst E _ _ F x N _ hI hz (nI jr) (nI j500) 0 0) gL_law_L_ask ⟨(Nat.le_of_ble_eq_true rfl), (Nat.le_of_ble_eq_true rfl)⟩ hl.1 (Nat.le_of_ble_eq_true rfl) dL_law_505 (show _ ≤ 677584 by omega) (show _ ≤ 7061175 by omega) (fun w H locs hz hP hS => ?_)
  refine W.eq (g2 := F0 m 508 ls [.int (aE [-1001, -1002] (s_setAnswer F (nI jr) (nI j500)))]) rfl ?_
  have hJ := J_setAnswer hI (by omega) (nI jr) (nI j500)
  rcases ao_setAnswer (F := F) (a1 := nI jr) (b1 := nI j500) with ⟨h0, hv⟩ | ⟨h0, hv, hF⟩
  · have hm := m_setAnswer h0
    obtain ⟨hjr9, etn⟩ := vpb_nI_t hm.1 (by omega) (by omega)
    have hro := hI.ro hjr9
    have h1 := hm.2
    rw [etn] at h1
    refine W.eq (g2 := F0 m 508 ls [.int (nI (F 4 jr))]) (by rw [hv, h1]) ?_
    refine lv_istore (lv' := [(15, .int (nI (F 4 jr))), (0, .ref (E.2.2 102)), (1, .ref x), (2, .ref ob), (3, .ref op), (4, .int (nI (F 24 0))), (5, .int (nI (F 24 2))), (6, .int (nI (F 24 1))), (7, .int (nI ev)), (8, .int g8), (9, .int (nI jr)), (10, .int (nI jc)), (12, .int (nI pj)), (13, .long was)]) hx hb dL_law_508 hl (by decide) rfl (fun ls hl => ?_)
    refine lv_goto (tgt := 1213) hx hb dL_law_510 (by decide) ?_
    have hkp := kp_setAnswer (F := F) (a1 := nI jr) (b1 := nI j500)
    exact K (((s_setAnswer F (nI jr) (nI j500))).2.2) (nI (F 4 jr)) w H locs ls _ _ (lwJ_kp hJ (by omega) hN (hki.same hkp.2) hz hob hop hfb hfp hkp.1) (nI_nonneg (by omega)) (Nat.le_of_eq hkp.1.2.1.symm) (fun q => absurd q (by omega)) hP hS (by rw [hkp.1.1, hkp.1.2.1, hkp.1.2.2.1]; exact lv_sub hl [1, 2, 3, 4, 5, 6, 7, 8, 13, 0] rfl) (by omega) (by omega)
  · rw [hF] at hz hJ
    refine lv_istore (lv' := [(15, .int (aE [-1001, -1002] (s_setAnswer F (nI jr) (nI j500)))), (0, .ref (E.2.2 102)), (1, .ref x), (2, .ref ob), (3, .ref op), (4, .int (nI (F 24 0))), (5, .int (nI (F 24 2))), (6, .int (nI (F 24 1))), (7, .int (nI ev)), (8, .int g8), (9, .int (nI jr)), (10, .int (nI jc)), (12, .int (nI pj)), (13, .long was)]) hx hb dL_law_508 hl (by decide) rfl (fun ls hl => ?_)
    refine lv_goto (tgt := 1213) hx hb dL_law_510 (by decide) ?_
    exact K F (aE [-1001, -1002] (s_setAnswer F (nI jr) (nI j500))) w H locs ls _ _ (lwJ_kp hJ (by omega) hN hki hz hob hop hfb hfp kpF.rf) (fun _ => rfl) (Nat.le_refl _) (fun q => absurd q (by omega)) hP hS (lv_sub hl [1, 2, 3, 4, 5, 6, 7, 8, 13, 0] rfl) (by omega) (by omega)
set_option maxHeartbeats 4000000 in
set_option maxRecDepth 100000 in
theorem lc_setPlan (hst : l.stackTraces = false) (C1 : wCt p s m args meth c RL cL_law 21 wsL_law E A) (hI : wInv F N) (hki : wKi F) (hz : zK E F x w0 w) (hob : w0 ob = some (.inl (E.2.1 0, 3, .inl fb))) (hop : w0 op = some (.inl (E.2.1 0, 6, .inl fp))) (hfb : ∀ i, i < F 24 1 → fb i = nI (F 11 i)) (hfp : ∀ i, i < F 24 2 → fp i = nI (F 13 i)) (hP : wP E.1 A w H) (hS : va_S A s.heap H locs) (hl : lv_has ls 21 [(0, .ref (E.2.2 102)), (1, .ref x), (2, .ref ob), (3, .ref op), (4, .int (nI (F 24 0))), (5, .int (nI (F 24 2))), (6, .int (nI (F 24 1))), (7, .int (nI ev)), (8, .int g8), (9, .int (nI jr)), (10, .int (nI jc)), (12, .int (nI pj)), (13, .long was), (15, .int 0)]) (hc : cells ≤ cB + 1644) (hs : slots ≤ sB + 9864) (hcB : cB + 12000 ≤ 677584) (hsB : sB + 120000 ≤ 7061175) (hN : N + 8 ≤ 512) (hev : ev < 56) (hjr : jr ≤ F 24 0) (hjc : jc ≤ F 24 2) (hpj : pathB (nI pj) = true) (hpn : pj < 100) (K : lwK p l e s m args below meth c Q A E x ob op F N ev cB sB was) (h2e : 2 ≤ ev) : W p l e room_1 s m args below meth c H locs cells slots Q (F0 m 520 ls []) := by
  have C0 := C1.1
  have hx := C0.1
  have hb := C0.2.1
  have hts := C0.2.2.2.2.1
  have hown := C0.2.2.2.1
  have hn9 := hI.n
  refine lv_aload_n hx hb dL_law_520 rfl (lv_at hl 1 rfl) ?_
  refine lv_bipush (v := 14) hx hb dL_law_521 (by decide) ?_
  refine lv_iload hx hb dL_law_523 (lv_at hl 10 rfl) ?_
  refine lv_iload hx hb dL_law_525 (lv_at hl 8 rfl) ?_
  refine lv_bipush (v := 12) hx hb dL_law_527 (by decide) ?_
  refine lv_ishr hx hb dL_law_529 ?_
  refine lv_iload hx hb dL_law_530 (lv_at hl 6 rfl) ?_
  refine lv_iconst (v := 1) hx hb dL_law_532 (by decide) ?_
  refine lv_iadd hx hb dL_law_533 ?_
  refine wt_low (v1 := g8 >>> (12 &&& 31)) (F 24 1 + 1) hst C1 hP hS (nI_succ _).symm (by omega) (by omega) gL_law_L_low ⟨(Nat.le_of_ble_eq_true rfl), (Nat.le_of_ble_eq_true rfl)⟩ hl.1 (Nat.le_of_ble_eq_true rfl) dL_law_534 (show _ ≤ 677584 by omega) (show _ ≤ 7061175 by omega) (fun j534 H locs hj534 ej534 hP hS => ?_)
  refine W.eq (g2 := F0 m 537 ls [.int (nI j534), .int (nI jc), .int 14, .ref x]) rfl ?_
  refine lv_iconst (v := 0) hx hb dL_law_537 (by decide) ?_
  refine lv_iconst (v := 0) hx hb dL_law_538 (by decide) ?_
  refine wt_ask C1 hP hS (k_L_ask_setPlan l hst E _ _ F x N _ hI hz (nI jc) (nI j534) 0 0) gL_law_L_ask ⟨(Nat.le_of_ble_eq_true rfl), (Nat.le_of_ble_eq_true rfl)⟩ hl.1 (Nat.le_of_ble_eq_true rfl) dL_law_539 (show _ ≤ 677584 by omega) (show _ ≤ 7061175 by omega) (fun w H locs hz hP hS => ?_)
  refine W.eq (g2 := F0 m 542 ls [.int (aE [-1001] (s_setPlan F (nI jc) (nI j534)))]) rfl ?_
  have hJ := J_setPlan hI (by omega) (nI jc) (nI j534)
  rcases ao_setPlan (F := F) (a1 := nI jc) (b1 := nI j534) with ⟨h0, hv⟩ | ⟨h0, hv, hF⟩
  · obtain ⟨hv1, hv2, h1, h2⟩ := m_setPlan h0
    obtain ⟨hjc9, etn⟩ := vpb_nI_t hv1 (by omega) (by omega)
    obtain ⟨hj9, etj⟩ := vpb_nI_t hv2 (by omega) (by omega)
    rw [etn, etj] at h1 h2
    rw [h2] at hz hJ
    have hcl := hI.cl hjc9
    have hpl := hI.pl hcl.1
    refine W.eq (g2 := F0 m 542 ls [.int (nI (F 14 jc - F 11 j534))]) (by rw [hv, h1]) ?_
    refine lv_istore (lv' := [(15, .int (nI (F 14 jc - F 11 j534))), (0, .ref (E.2.2 102)), (1, .ref x), (2, .ref ob), (3, .ref op), (4, .int (nI (F 24 0))), (5, .int (nI (F 24 2))), (6, .int (nI (F 24 1))), (7, .int (nI ev)), (8, .int g8), (9, .int (nI jr)), (10, .int (nI jc)), (12, .int (nI pj)), (13, .long was)]) hx hb dL_law_542 hl (by decide) rfl (fun ls hl => ?_)
    refine lv_iload hx hb dL_law_544 (lv_at hl 0 rfl) ?_
    refine lv_if_lt (tgt := 1213) hx hb dL_law_546 (by decide) (fun q9 => nI_nonneg (by omega) q9) (fun q9 => ?_)
    refine lv_aload_n hx hb dL_law_549 rfl (lv_at hl 4 rfl) ?_
    refine lv_iload hx hb dL_law_550 (lv_at hl 11 rfl) ?_
    refine lv_iload hx hb dL_law_552 (lv_at hl 9 rfl) ?_
    refine lv_bipush (v := 12) hx hb dL_law_554 (by decide) ?_
    refine lv_ishr hx hb dL_law_556 ?_
    refine lv_iload hx hb dL_law_557 (lv_at hl 7 rfl) ?_
    refine lv_iconst (v := 1) hx hb dL_law_559 (by decide) ?_
    refine lv_iadd hx hb dL_law_560 ?_
    refine wt_low (v1 := g8 >>> (12 &&& 31)) (F 24 1 + 1) hst C1 hP hS (nI_succ _).symm (by omega) (by omega) gL_law_L_low ⟨(Nat.le_of_ble_eq_true rfl), (Nat.le_of_ble_eq_true rfl)⟩ hl.1 (Nat.le_of_ble_eq_true rfl) dL_law_561 (show _ ≤ 677584 by omega) (show _ ≤ 7061175 by omega) (fun j561 H locs hj561 ej561 hP hS => ?_)
    refine W.eq (g2 := F0 m 564 ls [.int (nI j561), .int (nI jc), .ref op]) rfl ?_
    have ej : j561 = j534 := ej561.symm.trans ej534
    subst ej
    have hne : ob ≠ op := fun q => by rw [q, hop] at hob; exact absurd (congrArg (fun z => z.2.1) (Sum.inl.inj (Option.some.inj hob))) (show ¬ (6 : Nat) = 3 by decide)
    refine wl_iast C0 hP hS (hz.2 op _ hop rfl) (vp_in_nI (show jc < 6 by omega) (by omega)) dL_law_564 (fun H locs hP hS => ?_)
    rw [show (nI jc).toNatClampNeg = jc from nI_clamp (by omega)] at hP
    refine lv_goto (tgt := 1213) hx hb dL_law_565 (by decide) ?_
    obtain ⟨⟨AD, hs6, hx5⟩, hk6⟩ := hz
    have e0 : ∀ y, (fU (fU F 13 jc j561) 14 jc (F 14 jc - (F 14 jc - F 11 j561))) 24 y = F 24 y := fun y => by rw [fU_k (by decide), fU_k (by decide)]
    refine K (fU (fU F 13 jc j561) 14 jc (F 14 jc - (F 14 jc - F 11 j561))) (nI (F 14 jc - F 11 j561)) _ H locs ls _ _ ⟨I_mono hJ (by omega) hN, hki.same ⟨e0 3, fun k => by rw [fU_k (by decide), fU_k (by decide)]⟩, ⟨AD, wSys_o hs6 (hk6 op _ hop rfl) rfl, hx5⟩, ⟨fb, (wU_n _ _ hne).trans (hk6 ob _ hob rfl), fun i hi => by rw [fU_k (by decide), fU_k (by decide)]; exact hfb i (by rw [← e0 1]; exact hi)⟩, _, wU_s _ _ _, fun i hi => ?_⟩ (nI_nonneg (by omega)) (Nat.le_of_eq (e0 1).symm) (fun q => absurd q (by omega)) hP hS (by rw [e0, e0, e0]; exact lv_sub hl [1, 2, 3, 4, 5, 6, 7, 8, 13, 0] rfl) (by omega) (by omega)
    rw [fU_k (by decide)]
    rw [e0 2] at hi
    by_cases hij : i = jc
    · subst hij
      rw [fU_s, pk_us]
    · rw [fU_i hij, pk_un hij]
      exact hfp i hi
  · rw [hF] at hz hJ
    refine lv_istore (lv' := [(15, .int (aE [-1001] (s_setPlan F (nI jc) (nI j534)))), (0, .ref (E.2.2 102)), (1, .ref x), (2, .ref ob), (3, .ref op), (4, .int (nI (F 24 0))), (5, .int (nI (F 24 2))), (6, .int (nI (F 24 1))), (7, .int (nI ev)), (8, .int g8), (9, .int (nI jr)), (10, .int (nI jc)), (12, .int (nI pj)), (13, .long was)]) hx hb dL_law_542 hl (by decide) rfl (fun ls hl => ?_)
    refine lv_iload hx hb dL_law_544 (lv_at hl 0 rfl) ?_
    refine lv_if_lt (tgt := 1213) hx hb dL_law_546 (by decide) (fun q9 => ?_) (fun q9 => absurd hv q9)
    exact K F (aE [-1001] (s_setPlan F (nI jc) (nI j534))) w H locs ls _ _ (lwJ_kp hJ (by omega) hN hki hz hob hop hfb hfp kpF.rf) (fun _ => rfl) (Nat.le_refl _) (fun q => absurd q (by omega)) hP hS (lv_sub hl [1, 2, 3, 4, 5, 6, 7, 8, 13, 0] rfl) (by omega) (by omega)
set_option maxHeartbeats 4000000 in
set_option maxRecDepth 100000 in
theorem lc_pass (hst : l.stackTraces = false) (C1 : wCt p s m args meth c RL cL_law 21 wsL_law E A) (hI : wInv F N) (hki : wKi F) (hz : zK E F x w0 w) (hob : w0 ob = some (.inl (E.2.1 0, 3, .inl fb))) (hop : w0 op = some (.inl (E.2.1 0, 6, .inl fp))) (hfb : ∀ i, i < F 24 1 → fb i = nI (F 11 i)) (hfp : ∀ i, i < F 24 2 → fp i = nI (F 13 i)) (hP : wP E.1 A w H) (hS : va_S A s.heap H locs) (hl : lv_has ls 21 [(0, .ref (E.2.2 102)), (1, .ref x), (2, .ref ob), (3, .ref op), (4, .int (nI (F 24 0))), (5, .int (nI (F 24 2))), (6, .int (nI (F 24 1))), (7, .int (nI ev)), (8, .int g8), (9, .int (nI jr)), (10, .int (nI jc)), (12, .int (nI pj)), (13, .long was), (15, .int 0)]) (hc : cells ≤ cB + 1644) (hs : slots ≤ sB + 9864) (hcB : cB + 12000 ≤ 677584) (hsB : sB + 120000 ≤ 7061175) (hN : N + 8 ≤ 512) (hev : ev < 56) (hjr : jr ≤ F 24 0) (hjc : jc ≤ F 24 2) (hpj : pathB (nI pj) = true) (hpn : pj < 100) (K : lwK p l e s m args below meth c Q A E x ob op F N ev cB sB was) (h2e : 2 ≤ ev) : W p l e room_1 s m args below meth c H locs cells slots Q (F0 m 575 ls []) := by
  have C0 := C1.1
  have hx := C0.1
  have hb := C0.2.1
  have hts := C0.2.2.2.2.1
  have hown := C0.2.2.2.1
  have hn9 := hI.n
  refine lv_aload_n hx hb dL_law_575 rfl (lv_at hl 1 rfl) ?_
  refine lv_iload hx hb dL_law_576 (lv_at hl 5 rfl) ?_
  refine wt_goS (As := [.ref x, .int (nI (F 24 2))]) (rest := []) C1 hP hS (k_L_tokens l hst E _ _ F x N _ hI hz (F 24 2) (Nat.le_refl _)) (va_cwS 2 hts gL_law_L_tokens rfl rfl rfl (by decide +kernel) ⟨(Nat.le_of_ble_eq_true rfl), (Nat.le_of_ble_eq_true rfl)⟩) rfl rfl hl.1 (Nat.le_of_ble_eq_true rfl) dL_law_578 (show _ ≤ 677584 by omega) (show _ ≤ 7061175 by omega) (fun v w H locs hq hP hS => ?_)
  obtain ⟨rfl, hz⟩ := hq
  refine W.eq (g2 := F0 m 581 ls [.int (nI (sm (fun i => F 14 i) (F 24 2)))]) rfl ?_
  refine lv_istore (lv' := [(16, .int (nI (sm (fun i => F 14 i) (F 24 2)))), (0, .ref (E.2.2 102)), (1, .ref x), (2, .ref ob), (3, .ref op), (4, .int (nI (F 24 0))), (5, .int (nI (F 24 2))), (6, .int (nI (F 24 1))), (7, .int (nI ev)), (8, .int g8), (9, .int (nI jr)), (10, .int (nI jc)), (12, .int (nI pj)), (13, .long was), (15, .int 0)]) hx hb dL_law_581 hl (by decide) rfl (fun ls hl => ?_)
  refine lv_aload_n hx hb dL_law_583 rfl (lv_at hl 2 rfl) ?_
  refine lv_bipush (v := 20) hx hb dL_law_584 (by decide) ?_
  refine lv_iload hx hb dL_law_586 (lv_at hl 9 rfl) ?_
  refine lv_bipush (v := 12) hx hb dL_law_588 (by decide) ?_
  refine lv_ishr hx hb dL_law_590 ?_
  refine lv_bipush (v := 30) hx hb dL_law_591 (by decide) ?_
  refine wt_low (v1 := g8 >>> (12 &&& 31)) 30 hst C1 hP hS (by decide) (by omega) (by omega) gL_law_L_low ⟨(Nat.le_of_ble_eq_true rfl), (Nat.le_of_ble_eq_true rfl)⟩ hl.1 (Nat.le_of_ble_eq_true rfl) dL_law_593 (show _ ≤ 677584 by omega) (show _ ≤ 7061175 by omega) (fun j593 H locs hj593 ej593 hP hS => ?_)
  refine W.eq (g2 := F0 m 596 ls [.int (nI j593), .int 20, .ref x]) rfl ?_
  refine lv_iconst (v := 0) hx hb dL_law_596 (by decide) ?_
  refine lv_iconst (v := 0) hx hb dL_law_597 (by decide) ?_
  refine lv_iconst (v := 0) hx hb dL_law_598 (by decide) ?_
  refine wt_ask C1 hP hS (k_L_ask_pass l hst E _ _ F x N _ hI hz (nI j593) 0 0 0) gL_law_L_ask ⟨(Nat.le_of_ble_eq_true rfl), (Nat.le_of_ble_eq_true rfl)⟩ hl.1 (Nat.le_of_ble_eq_true rfl) dL_law_599 (show _ ≤ 677584 by omega) (show _ ≤ 7061175 by omega) (fun w H locs hz hP hS => ?_)
  refine W.eq (g2 := F0 m 602 ls [.int (aE [-1002] (s_pass F (nI j593)))]) rfl ?_
  have hJ := J_pass hI (by omega) (nI j593)
  rcases ao_pass (F := F) (a1 := nI j593) with ⟨h0, hv⟩ | ⟨h0, hv, hF⟩
  · obtain ⟨h1, h2⟩ := m_pass h0
    rw [h2] at hz hJ
    generalize tn (nI j593) = tt at h1 h2 hz hJ
    have hgs : sm (g_got F tt) (F 24 2) ≤ F 24 2 * 100 := sm_le (fun i hi => by
      have h3 := got_le (t := tt) hI hi
      have h4 := hI.pl (hI.cl hi).1
      omega)
    have hts9 : sm (fun i => F 14 i) (F 24 2) ≤ F 24 2 * 100 := sm_le (fun i hi => by
      have h3 := (hI.cl hi).2
      have h4 := hI.pl (hI.cl hi).1
      omega)
    refine W.eq (g2 := F0 m 602 ls [.int (nI (sm (g_got F tt) (F 24 2)))]) (by rw [hv, h1]) ?_
    refine lv_istore (lv' := [(15, .int (nI (sm (g_got F tt) (F 24 2)))), (16, .int (nI (sm (fun i => F 14 i) (F 24 2)))), (0, .ref (E.2.2 102)), (1, .ref x), (2, .ref ob), (3, .ref op), (4, .int (nI (F 24 0))), (5, .int (nI (F 24 2))), (6, .int (nI (F 24 1))), (7, .int (nI ev)), (8, .int g8), (9, .int (nI jr)), (10, .int (nI jc)), (12, .int (nI pj)), (13, .long was)]) hx hb dL_law_602 hl (by decide) rfl (fun ls hl => ?_)
    refine lv_iload hx hb dL_law_604 (lv_at hl 0 rfl) ?_
    refine lv_if_lt (tgt := 625) hx hb dL_law_606 (by decide) (fun q9 => nI_nonneg (by omega) q9) (fun q9 => ?_)
    have hkp := (pass_kp (F := F) (t := tt) (k := F 24 2)).1
    refine lv_aload_n hx hb dL_law_609 rfl (lv_at hl 3 rfl) ?_
    refine lv_iload hx hb dL_law_610 (lv_at hl 7 rfl) ?_
    refine wt_goS (As := [.ref x, .int (nI (F 24 2))]) (rest := []) C1 hP hS (k_L_tokens l hst E _ _ (f_pass F tt (F 24 2)) x (N + 1) _ hJ hz (F 24 2) (Nat.le_of_eq hkp.2.2.1.symm)) (va_cwS 2 hts gL_law_L_tokens rfl rfl rfl (by decide +kernel) ⟨(Nat.le_of_ble_eq_true rfl), (Nat.le_of_ble_eq_true rfl)⟩) rfl rfl hl.1 (Nat.le_of_ble_eq_true rfl) dL_law_612 (show _ ≤ 677584 by omega) (show _ ≤ 7061175 by omega) (fun v w H locs hq hP hS => ?_)
    obtain ⟨rfl, hz⟩ := hq
    refine W.eq (g2 := F0 m 615 ls [.int (nI (sm (fun i => (f_pass F tt (F 24 2)) 14 i) (F 24 2)))]) rfl ?_
    refine lv_iload hx hb dL_law_615 (lv_at hl 1 rfl) ?_
    refine lv_iload hx hb dL_law_617 (lv_at hl 0 rfl) ?_
    refine lv_iadd hx hb dL_law_619 ?_
    refine lv_icmp_eq (tgt := 625) hx hb dL_law_620 (by decide) (fun q9 => ?_) (fun q9 => absurd (by rw [pass_sum, nI_add]) q9)
    refine lv_goto (tgt := 1213) hx hb dL_law_625 (by decide) ?_
    exact K (f_pass F tt (F 24 2)) (nI (sm (g_got F tt) (F 24 2))) w H locs ls _ _ (lwJ_kp hJ (by omega) hN (hki.same pass_kp.2) hz hob hop hfb hfp hkp) (nI_nonneg (by omega)) (Nat.le_of_eq hkp.2.1.symm) (fun q => absurd q (by omega)) hP hS (by rw [hkp.1, hkp.2.1, hkp.2.2.1]; exact lv_sub hl [2, 3, 4, 5, 6, 7, 8, 9, 14, 0] rfl) (by omega) (by omega)
  · rw [hF] at hz hJ
    refine lv_istore (lv' := [(15, .int (aE [-1002] (s_pass F (nI j593)))), (16, .int (nI (sm (fun i => F 14 i) (F 24 2)))), (0, .ref (E.2.2 102)), (1, .ref x), (2, .ref ob), (3, .ref op), (4, .int (nI (F 24 0))), (5, .int (nI (F 24 2))), (6, .int (nI (F 24 1))), (7, .int (nI ev)), (8, .int g8), (9, .int (nI jr)), (10, .int (nI jc)), (12, .int (nI pj)), (13, .long was)]) hx hb dL_law_602 hl (by decide) rfl (fun ls hl => ?_)
    refine lv_iload hx hb dL_law_604 (lv_at hl 0 rfl) ?_
    refine lv_if_lt (tgt := 625) hx hb dL_law_606 (by decide) (fun q9 => ?_) (fun q9 => absurd hv q9)
    refine lv_goto (tgt := 1213) hx hb dL_law_625 (by decide) ?_
    exact K F (aE [-1002] (s_pass F (nI j593))) w H locs ls _ _ (lwJ_kp hJ (by omega) hN hki hz hob hop hfb hfp kpF.rf) (fun _ => rfl) (Nat.le_refl _) (fun q => absurd q (by omega)) hP hS (lv_sub hl [2, 3, 4, 5, 6, 7, 8, 9, 14, 0] rfl) (by omega) (by omega)
set_option maxHeartbeats 4000000 in
set_option maxRecDepth 100000 in
theorem lc_addPlan (hst : l.stackTraces = false) (C1 : wCt p s m args meth c RL cL_law 21 wsL_law E A) (hI : wInv F N) (hki : wKi F) (hz : zK E F x w0 w) (hob : w0 ob = some (.inl (E.2.1 0, 3, .inl fb))) (hop : w0 op = some (.inl (E.2.1 0, 6, .inl fp))) (hfb : ∀ i, i < F 24 1 → fb i = nI (F 11 i)) (hfp : ∀ i, i < F 24 2 → fp i = nI (F 13 i)) (hP : wP E.1 A w H) (hS : va_S A s.heap H locs) (hl : lv_has ls 21 [(0, .ref (E.2.2 102)), (1, .ref x), (2, .ref ob), (3, .ref op), (4, .int (nI (F 24 0))), (5, .int (nI (F 24 2))), (6, .int (nI (F 24 1))), (7, .int (nI ev)), (8, .int g8), (9, .int (nI jr)), (10, .int (nI jc)), (12, .int (nI pj)), (13, .long was), (15, .int 0)]) (hc : cells ≤ cB + 1644) (hs : slots ≤ sB + 9864) (hcB : cB + 12000 ≤ 677584) (hsB : sB + 120000 ≤ 7061175) (hN : N + 8 ≤ 512) (hev : ev < 56) (hjr : jr ≤ F 24 0) (hjc : jc ≤ F 24 2) (hpj : pathB (nI pj) = true) (hpn : pj < 100) (K : lwK p l e s m args below meth c Q A E x ob op F N ev cB sB was) (hpe : ev ≤ 2 → F 24 1 = ev) : W p l e room_1 s m args below meth c H locs cells slots Q (F0 m 918 ls []) := by
  have C0 := C1.1
  have hx := C0.1
  have hb := C0.2.1
  have hts := C0.2.2.2.2.1
  have hown := C0.2.2.2.1
  have hn9 := hI.n
  refine lv_iconst (v := 1) hx hb dL_law_918 (by decide) ?_
  refine lv_iload hx hb dL_law_919 (lv_at hl 8 rfl) ?_
  refine lv_bipush (v := 10) hx hb dL_law_921 (by decide) ?_
  refine lv_ishr hx hb dL_law_923 ?_
  refine lv_bipush (v := 100) hx hb dL_law_924 (by decide) ?_
  refine wt_low (v1 := g8 >>> (10 &&& 31)) 100 hst C1 hP hS (by decide) (by omega) (by omega) gL_law_L_low ⟨(Nat.le_of_ble_eq_true rfl), (Nat.le_of_ble_eq_true rfl)⟩ hl.1 (Nat.le_of_ble_eq_true rfl) dL_law_926 (show _ ≤ 677584 by omega) (show _ ≤ 7061175 by omega) (fun j926 H locs hj926 ej926 hP hS => ?_)
  refine W.eq (g2 := F0 m 929 ls [.int (nI j926), .int 1]) rfl ?_
  refine lv_iadd hx hb dL_law_929 ?_
  refine W.eq (g2 := F0 m 930 ls [.int (nI (1 + j926))]) (by rw [← nI_add]; rfl) ?_
  refine lv_istore (lv' := [(16, .int (nI (1 + j926))), (0, .ref (E.2.2 102)), (1, .ref x), (2, .ref ob), (3, .ref op), (4, .int (nI (F 24 0))), (5, .int (nI (F 24 2))), (6, .int (nI (F 24 1))), (7, .int (nI ev)), (8, .int g8), (9, .int (nI jr)), (10, .int (nI jc)), (12, .int (nI pj)), (13, .long was), (15, .int 0)]) hx hb dL_law_930 hl (by decide) rfl (fun ls hl => ?_)
  refine lv_aload_n hx hb dL_law_932 rfl (lv_at hl 2 rfl) ?_
  refine lv_bipush (v := 12) hx hb dL_law_933 (by decide) ?_
  refine lv_iconst (v := 1) hx hb dL_law_935 (by decide) ?_
  refine lv_iload hx hb dL_law_936 (lv_at hl 9 rfl) ?_
  refine lv_iconst (v := 5) hx hb dL_law_938 (by decide) ?_
  refine lv_ishr hx hb dL_law_939 ?_
  refine lv_bipush (v := 20) hx hb dL_law_940 (by decide) ?_
  refine wt_low (v1 := g8 >>> (5 &&& 31)) 20 hst C1 hP hS (by decide) (by omega) (by omega) gL_law_L_low ⟨(Nat.le_of_ble_eq_true rfl), (Nat.le_of_ble_eq_true rfl)⟩ hl.1 (Nat.le_of_ble_eq_true rfl) dL_law_942 (show _ ≤ 677584 by omega) (show _ ≤ 7061175 by omega) (fun j942 H locs hj942 ej942 hP hS => ?_)
  refine W.eq (g2 := F0 m 945 ls [.int (nI j942), .int 1, .int 12, .ref x]) rfl ?_
  refine lv_iadd hx hb dL_law_945 ?_
  refine W.eq (g2 := F0 m 946 ls [.int (nI (1 + j942)), .int 12, .ref x]) (by rw [← nI_add]; rfl) ?_
  refine lv_iload hx hb dL_law_946 (lv_at hl 0 rfl) ?_
  refine lv_iload hx hb dL_law_948 (lv_at hl 9 rfl) ?_
  refine lv_bipush (v := 17) hx hb dL_law_950 (by decide) ?_
  refine lv_ishr hx hb dL_law_952 ?_
  refine lv_bipush (v := 100) hx hb dL_law_953 (by decide) ?_
  refine wt_low (v1 := g8 >>> (17 &&& 31)) 100 hst C1 hP hS (by decide) (by omega) (by omega) gL_law_L_low ⟨(Nat.le_of_ble_eq_true rfl), (Nat.le_of_ble_eq_true rfl)⟩ hl.1 (Nat.le_of_ble_eq_true rfl) dL_law_955 (show _ ≤ 677584 by omega) (show _ ≤ 7061175 by omega) (fun j955 H locs hj955 ej955 hP hS => ?_)
  refine W.eq (g2 := F0 m 958 ls [.int (nI j955), .int (nI (1 + j926)), .int (nI (1 + j942)), .int 12, .ref x]) rfl ?_
  refine lv_iconst (v := 0) hx hb dL_law_958 (by decide) ?_
  refine wt_ask C1 hP hS (k_L_ask_addPlan l hst E _ _ F x N _ hI hz (nI (1 + j942)) (nI (1 + j926)) (nI j955) 0) gL_law_L_ask ⟨(Nat.le_of_ble_eq_true rfl), (Nat.le_of_ble_eq_true rfl)⟩ hl.1 (Nat.le_of_ble_eq_true rfl) dL_law_959 (show _ ≤ 677584 by omega) (show _ ≤ 7061175 by omega) (fun w H locs hz hP hS => ?_)
  refine W.eq (g2 := F0 m 962 ls [.int (aE [-1002, -1003] (s_addPlan F (nI (1 + j942)) (nI (1 + j926)) (nI j955)))]) rfl ?_
  have hJ := J_addPlan hI (by omega) (nI (1 + j942)) (nI (1 + j926)) (nI j955)
  rcases ao_addPlan (F := F) (a1 := nI (1 + j942)) (b1 := nI (1 + j926)) (c1 := nI j955) with ⟨h0, hv⟩ | ⟨h0, hv, hF⟩
  · obtain ⟨hp3, h1, h2⟩ := m_addPlan h0
    rw [tn_nI (show 1 + j942 < 2 ^ 31 by omega), tn_nI (show 1 + j926 < 2 ^ 31 by omega), tn_nI (show j955 < 2 ^ 31 by omega)] at h2
    rw [h2] at hz hJ
    refine W.eq (g2 := F0 m 962 ls [.int (nI (F 24 1))]) (by rw [hv, h1]) ?_
    refine lv_istore (lv' := [(15, .int (nI (F 24 1))), (16, .int (nI (1 + j926))), (0, .ref (E.2.2 102)), (1, .ref x), (2, .ref ob), (3, .ref op), (4, .int (nI (F 24 0))), (5, .int (nI (F 24 2))), (6, .int (nI (F 24 1))), (7, .int (nI ev)), (8, .int g8), (9, .int (nI jr)), (10, .int (nI jc)), (12, .int (nI pj)), (13, .long was)]) hx hb dL_law_962 hl (by decide) rfl (fun ls hl => ?_)
    refine lv_iload hx hb dL_law_964 (lv_at hl 0 rfl) ?_
    refine lv_if_lt (tgt := 978) hx hb dL_law_966 (by decide) (fun q9 => nI_nonneg (by omega) q9) (fun q9 => ?_)
    refine lv_aload_n hx hb dL_law_969 rfl (lv_at hl 4 rfl) ?_
    refine lv_iload hx hb dL_law_970 (lv_at hl 0 rfl) ?_
    refine lv_iload hx hb dL_law_972 (lv_at hl 1 rfl) ?_
    have hne : op ≠ ob := fun q => by rw [q, hob] at hop; exact absurd (congrArg (fun z => z.2.1) (Sum.inl.inj (Option.some.inj hop))) (show ¬ (3 : Nat) = 6 by decide)
    refine wl_iast C0 hP hS (hz.2 ob _ hob rfl) (vp_in_nI (show F 24 1 < 3 by omega) (by omega)) dL_law_974 (fun H locs hP hS => ?_)
    rw [show (nI (F 24 1)).toNatClampNeg = F 24 1 from nI_clamp (by omega)] at hP
    refine lv_iinc (v := nI ((F 24 1) + 1)) (lv' := [(6, .int (nI ((F 24 1) + 1))), (15, .int (nI (F 24 1))), (16, .int (nI (1 + j926))), (0, .ref (E.2.2 102)), (1, .ref x), (2, .ref ob), (3, .ref op), (4, .int (nI (F 24 0))), (5, .int (nI (F 24 2))), (7, .int (nI ev)), (8, .int g8), (9, .int (nI jr)), (10, .int (nI jc)), (12, .int (nI pj)), (13, .long was)]) hx hb dL_law_975 hl (k := 8) rfl (nI_succ _).symm (by decide) rfl (fun ls hl => ?_)
    refine lv_goto (tgt := 1213) hx hb dL_law_978 (by decide) ?_
    obtain ⟨⟨AD, hs6, hx5⟩, hk6⟩ := hz
    have e0 : (f_addPlan F (1 + j942) (1 + j926) j955) 24 0 = F 24 0 := apl_o (by omega)
    have e2 : (f_addPlan F (1 + j942) (1 + j926) j955) 24 2 = F 24 2 := apl_o (by omega)
    have e3 : (f_addPlan F (1 + j942) (1 + j926) j955) 24 3 = F 24 3 := apl_o (by omega)
    refine K (f_addPlan F (1 + j942) (1 + j926) j955) (nI (F 24 1)) _ H locs ls _ _ ⟨I_mono hJ (by omega) hN, hki.same ⟨e3, fun k => apl_o (by omega)⟩, ⟨AD, wSys_o hs6 (hk6 ob _ hob rfl) rfl, hx5⟩, ⟨_, wU_s _ _ _, fun i hi => ?_⟩, fp, (wU_n _ _ hne).trans (hk6 op _ hop rfl), fun i hi => by rw [apl_o (by omega)]; exact hfp i (by rw [← e2]; exact hi)⟩ (nI_nonneg (by omega)) (by rw [apl_1]; omega) (fun _ => apl_1) hP hS (by rw [e0, e2, apl_1]; exact lv_sub hl [3, 4, 5, 6, 7, 8, 0, 9, 14, 1] rfl) (by omega) (by omega)
    rw [apl_1] at hi
    by_cases hij : i = F 24 1
    · subst hij
      rw [apl_11, pk_us]
    · rw [apl_o (by omega), pk_un hij]
      exact hfb i (by omega)
  · rw [hF] at hz hJ
    refine lv_istore (lv' := [(15, .int (aE [-1002, -1003] (s_addPlan F (nI (1 + j942)) (nI (1 + j926)) (nI j955)))), (16, .int (nI (1 + j926))), (0, .ref (E.2.2 102)), (1, .ref x), (2, .ref ob), (3, .ref op), (4, .int (nI (F 24 0))), (5, .int (nI (F 24 2))), (6, .int (nI (F 24 1))), (7, .int (nI ev)), (8, .int g8), (9, .int (nI jr)), (10, .int (nI jc)), (12, .int (nI pj)), (13, .long was)]) hx hb dL_law_962 hl (by decide) rfl (fun ls hl => ?_)
    refine lv_iload hx hb dL_law_964 (lv_at hl 0 rfl) ?_
    refine lv_if_lt (tgt := 978) hx hb dL_law_966 (by decide) (fun q9 => ?_) (fun q9 => absurd hv q9)
    refine lv_goto (tgt := 1213) hx hb dL_law_978 (by decide) ?_
    exact K F (aE [-1002, -1003] (s_addPlan F (nI (1 + j942)) (nI (1 + j926)) (nI j955))) w H locs ls _ _ (lwJ_kp hJ (by omega) hN hki hz hob hop hfb hfp kpF.rf) (fun _ => rfl) (Nat.le_refl _) (fun q => absurd (apl_ok (F := F) (a := 1 + j942) (b := 1 + j926) (c := j955) (by omega) (by omega) (by omega) (by omega)) h0) hP hS (lv_sub hl [2, 3, 4, 5, 6, 7, 8, 9, 14, 0] rfl) (by omega) (by omega)
set_option maxHeartbeats 4000000 in
set_option maxRecDepth 100000 in
theorem lc_addCaller (hst : l.stackTraces = false) (C1 : wCt p s m args meth c RL cL_law 21 wsL_law E A) (hI : wInv F N) (hki : wKi F) (hz : zK E F x w0 w) (hob : w0 ob = some (.inl (E.2.1 0, 3, .inl fb))) (hop : w0 op = some (.inl (E.2.1 0, 6, .inl fp))) (hfb : ∀ i, i < F 24 1 → fb i = nI (F 11 i)) (hfp : ∀ i, i < F 24 2 → fp i = nI (F 13 i)) (hP : wP E.1 A w H) (hS : va_S A s.heap H locs) (hl : lv_has ls 21 [(0, .ref (E.2.2 102)), (1, .ref x), (2, .ref ob), (3, .ref op), (4, .int (nI (F 24 0))), (5, .int (nI (F 24 2))), (6, .int (nI (F 24 1))), (7, .int (nI ev)), (8, .int g8), (9, .int (nI jr)), (10, .int (nI jc)), (12, .int (nI pj)), (13, .long was), (15, .int 0)]) (hc : cells ≤ cB + 1644) (hs : slots ≤ sB + 9864) (hcB : cB + 12000 ≤ 677584) (hsB : sB + 120000 ≤ 7061175) (hN : N + 8 ≤ 512) (hev : ev < 56) (hjr : jr ≤ F 24 0) (hjc : jc ≤ F 24 2) (hpj : pathB (nI pj) = true) (hpn : pj < 100) (K : lwK p l e s m args below meth c Q A E x ob op F N ev cB sB was) (h2e : 2 ≤ ev) (hp1 : 1 ≤ F 24 1) : W p l e room_1 s m args below meth c H locs cells slots Q (F0 m 988 ls []) := by
  have C0 := C1.1
  have hx := C0.1
  have hb := C0.2.1
  have hts := C0.2.2.2.2.1
  have hown := C0.2.2.2.1
  have hn9 := hI.n
  refine lv_iload hx hb dL_law_988 (lv_at hl 8 rfl) ?_
  refine lv_iconst (v := 5) hx hb dL_law_990 (by decide) ?_
  refine lv_ishr hx hb dL_law_991 ?_
  refine lv_iload hx hb dL_law_992 (lv_at hl 6 rfl) ?_
  refine lv_iload hx hb dL_law_994 (lv_at hl 7 rfl) ?_
  refine lv_iconst (v := 4) hx hb dL_law_996 (by decide) ?_
  have go : ∀ d1 : Nat, 1 ≤ F 24 1 + d1 → d1 ≤ 1 → W p l e room_1 s m args below meth c H locs cells slots Q (F0 m 1005 ls [.int (nI d1), .int (nI (F 24 1)), .int (g8 >>> (5 &&& 31))]) := by
    intro d1 hd1 hd2
    refine lv_iadd hx hb dL_law_1005 ?_
    refine W.eq (g2 := F0 m 1006 ls [.int (nI (F 24 1 + d1)), .int (g8 >>> (5 &&& 31))]) (by rw [← nI_add]) ?_
    refine wt_low (v1 := g8 >>> (5 &&& 31)) (F 24 1 + d1) hst C1 hP hS rfl (by omega) (by omega) gL_law_L_low ⟨(Nat.le_of_ble_eq_true rfl), (Nat.le_of_ble_eq_true rfl)⟩ hl.1 (Nat.le_of_ble_eq_true rfl) dL_law_1006 (show _ ≤ 677584 by omega) (show _ ≤ 7061175 by omega) (fun j1006 H locs hj1006 ej1006 hP hS => ?_)
    refine W.eq (g2 := F0 m 1009 ls [.int (nI j1006)]) rfl ?_
    refine lv_istore (lv' := [(16, .int (nI j1006)), (0, .ref (E.2.2 102)), (1, .ref x), (2, .ref ob), (3, .ref op), (4, .int (nI (F 24 0))), (5, .int (nI (F 24 2))), (6, .int (nI (F 24 1))), (7, .int (nI ev)), (8, .int g8), (9, .int (nI jr)), (10, .int (nI jc)), (12, .int (nI pj)), (13, .long was), (15, .int 0)]) hx hb dL_law_1009 hl (by decide) rfl (fun ls hl => ?_)
    refine lv_aload_n hx hb dL_law_1011 rfl (lv_at hl 2 rfl) ?_
    refine lv_bipush (v := 13) hx hb dL_law_1012 (by decide) ?_
    refine lv_iload hx hb dL_law_1014 (lv_at hl 0 rfl) ?_
    refine lv_iconst (v := 0) hx hb dL_law_1016 (by decide) ?_
    refine lv_iconst (v := 0) hx hb dL_law_1017 (by decide) ?_
    refine lv_iconst (v := 0) hx hb dL_law_1018 (by decide) ?_
    refine wt_ask C1 hP hS (k_L_ask_addCaller l hst E _ _ F x N _ hI hz (nI j1006) 0 0 0) gL_law_L_ask ⟨(Nat.le_of_ble_eq_true rfl), (Nat.le_of_ble_eq_true rfl)⟩ hl.1 (Nat.le_of_ble_eq_true rfl) dL_law_1019 (show _ ≤ 677584 by omega) (show _ ≤ 7061175 by omega) (fun w H locs hz hP hS => ?_)
    refine W.eq (g2 := F0 m 1022 ls [.int (aE [-1001, -1003] (s_addCaller F (nI j1006)))]) rfl ?_
    have hJ := J_addCaller hI (by omega) (nI j1006)
    rcases ao_addCaller (F := F) (a1 := nI j1006) with ⟨h0, hv⟩ | ⟨h0, hv, hF⟩
    · obtain ⟨hv1, h6, h1, h2⟩ := m_addCaller h0
      obtain ⟨hj9, etj⟩ := vpb_nI_t hv1 (by omega) (by omega)
      rw [etj] at h2
      rw [h2] at hz hJ
      refine W.eq (g2 := F0 m 1022 ls [.int (nI (F 24 2))]) (by rw [hv, h1]) ?_
      refine lv_istore (lv' := [(15, .int (nI (F 24 2))), (16, .int (nI j1006)), (0, .ref (E.2.2 102)), (1, .ref x), (2, .ref ob), (3, .ref op), (4, .int (nI (F 24 0))), (5, .int (nI (F 24 2))), (6, .int (nI (F 24 1))), (7, .int (nI ev)), (8, .int g8), (9, .int (nI jr)), (10, .int (nI jc)), (12, .int (nI pj)), (13, .long was)]) hx hb dL_law_1022 hl (by decide) rfl (fun ls hl => ?_)
      refine lv_iload hx hb dL_law_1024 (lv_at hl 0 rfl) ?_
      refine lv_if_lt (tgt := 1038) hx hb dL_law_1026 (by decide) (fun q9 => nI_nonneg (by omega) q9) (fun q9 => ?_)
      refine lv_aload_n hx hb dL_law_1029 rfl (lv_at hl 5 rfl) ?_
      refine lv_iload hx hb dL_law_1030 (lv_at hl 0 rfl) ?_
      refine lv_iload hx hb dL_law_1032 (lv_at hl 1 rfl) ?_
      have hne : ob ≠ op := fun q => by rw [q, hop] at hob; exact absurd (congrArg (fun z => z.2.1) (Sum.inl.inj (Option.some.inj hob))) (show ¬ (6 : Nat) = 3 by decide)
      refine wl_iast C0 hP hS (hz.2 op _ hop rfl) (vp_in_nI (show F 24 2 < 6 by omega) (by omega)) dL_law_1034 (fun H locs hP hS => ?_)
      rw [show (nI (F 24 2)).toNatClampNeg = F 24 2 from nI_clamp (by omega)] at hP
      refine lv_iinc (v := nI ((F 24 2) + 1)) (lv' := [(5, .int (nI ((F 24 2) + 1))), (15, .int (nI (F 24 2))), (16, .int (nI j1006)), (0, .ref (E.2.2 102)), (1, .ref x), (2, .ref ob), (3, .ref op), (4, .int (nI (F 24 0))), (6, .int (nI (F 24 1))), (7, .int (nI ev)), (8, .int g8), (9, .int (nI jr)), (10, .int (nI jc)), (12, .int (nI pj)), (13, .long was)]) hx hb dL_law_1035 hl (k := 7) rfl (nI_succ _).symm (by decide) rfl (fun ls hl => ?_)
      refine lv_goto (tgt := 1213) hx hb dL_law_1038 (by decide) ?_
      obtain ⟨⟨AD, hs6, hx5⟩, hk6⟩ := hz
      have e0 : (f_addCaller F j1006) 24 0 = F 24 0 := acl_o (by omega)
      have e1 : (f_addCaller F j1006) 24 1 = F 24 1 := acl_o (by omega)
      have e3 : (f_addCaller F j1006) 24 3 = F 24 3 := acl_o (by omega)
      refine K (f_addCaller F j1006) (nI (F 24 2)) _ H locs ls _ _ ⟨I_mono hJ (by omega) hN, hki.same ⟨e3, fun k => acl_o (by omega)⟩, ⟨AD, wSys_o hs6 (hk6 op _ hop rfl) rfl, hx5⟩, ⟨fb, (wU_n _ _ hne).trans (hk6 ob _ hob rfl), fun i hi => by rw [acl_o (by omega)]; exact hfb i (by rw [← e1]; exact hi)⟩, _, wU_s _ _ _, fun i hi => ?_⟩ (nI_nonneg (by omega)) (by omega) (fun q => absurd q (by omega)) hP hS (by rw [e0, e1, acl_2]; exact lv_sub hl [3, 4, 5, 6, 7, 0, 8, 9, 14, 1] rfl) (by omega) (by omega)
      rw [acl_2] at hi
      by_cases hij : i = F 24 2
      · subst hij
        rw [acl_13, pk_us]
      · rw [acl_o (by omega), pk_un hij]
        exact hfp i (by omega)
    · rw [hF] at hz hJ
      refine lv_istore (lv' := [(15, .int (aE [-1001, -1003] (s_addCaller F (nI j1006)))), (16, .int (nI j1006)), (0, .ref (E.2.2 102)), (1, .ref x), (2, .ref ob), (3, .ref op), (4, .int (nI (F 24 0))), (5, .int (nI (F 24 2))), (6, .int (nI (F 24 1))), (7, .int (nI ev)), (8, .int g8), (9, .int (nI jr)), (10, .int (nI jc)), (12, .int (nI pj)), (13, .long was)]) hx hb dL_law_1022 hl (by decide) rfl (fun ls hl => ?_)
      refine lv_iload hx hb dL_law_1024 (lv_at hl 0 rfl) ?_
      refine lv_if_lt (tgt := 1038) hx hb dL_law_1026 (by decide) (fun q9 => ?_) (fun q9 => absurd hv q9)
      refine lv_goto (tgt := 1213) hx hb dL_law_1038 (by decide) ?_
      exact K F (aE [-1001, -1003] (s_addCaller F (nI j1006))) w H locs ls _ _ (lwJ_kp hJ (by omega) hN hki hz hob hop hfb hfp kpF.rf) (fun _ => rfl) (Nat.le_refl _) (fun q => absurd q (by omega)) hP hS (lv_sub hl [2, 3, 4, 5, 6, 7, 8, 9, 14, 0] rfl) (by omega) (by omega)
  refine lv_icmp_ge (tgt := 1004) hx hb dL_law_997 (by decide) (fun q9 => ?_) (fun q9 => ?_)
  · refine lv_iconst (v := 1) hx hb dL_law_1004 (by decide) ?_
    exact go 1 (by omega) (by omega)
  · refine lv_iconst (v := 0) hx hb dL_law_1000 (by decide) ?_
    refine lv_goto (tgt := 1005) hx hb dL_law_1001 (by decide) ?_
    exact go 0 (by omega) (by omega)
end LAW
