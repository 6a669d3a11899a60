def d_upd (f : Nat → UInt64) (k : Nat) (x : UInt64) : Nat → UInt64 := fun j => if j = k then x else f j
section WD
variable {p : Program} {l : Launch} {e : Env} {R : Room} {s : State} {m : MethodId} {args : Array Value} {below : List Frame} {meth : Method} {c : Code} {H : Heap} {locs : List Loc} {cells slots : Nat} {Q : State → Prop}
variable {cc : ByteArray} {pc nL : Nat} {ls : Array Slot} {rest : List Value} {A : Nat → Prop} {a : Nat} {own : String} {Ts : List Cond} {E : wEn} {w : wW}
theorem wl_dast {n : Nat} {f : Nat → UInt64} {i : Int32} {x : UInt64} (C0 : wC p s m args meth c own cc nL Ts E A) (hP : wP E.1 A w H) (hS : va_S A s.heap H locs) (he : w a = some (.inl (E.2.1 8, n, .inr (.inr (.inr (.inl f)))))) (hin : vp_in i n) (hdg : decode cc pc = .ok (.dastore, 1))
    (kk : ∀ (H1 : Heap) (locs1 : List Loc), wP E.1 A (wU w a (.inl (E.2.1 8, n, .inr (.inr (.inr (.inl (d_upd f i.toNatClampNeg x))))))) H1 → va_S A s.heap H1 locs1 → W p l e R s m args below meth c H1 locs1 cells slots Q (F0 m (pc + 1) ls rest)) : W p l e R s m args below meth c H locs cells slots Q (F0 m pc ls (.double x :: .int i :: .ref a :: rest)) := by
  obtain ⟨ws, hP0, hD0, hw⟩ := hP
  obtain ⟨q0, hq0⟩ := (hw a _).mp he
  exact va_dast (D := E.1) (cl := wCl) C0.1 C0.2.1 C0.2.2.2.2.2.2.1 hP0 hD0 hS q0 8 hq0 rfl hin hdg (fun H1 locs1 g1 g2 g3 => kk H1 locs1 (wP_set hD0 hw hq0 g1 g2) g3)
end WD
set_option maxHeartbeats 4000000 in
set_option maxRecDepth 100000 in
theorem k_L_canaryShare (l : Launch) (hst : l.stackTraces = false) (E : wEn) (w : wW) (sz : Nat) (F : FF) (AD : AT) (N : Nat) (hI : wInv F N) (hs : wSys E F AD w) (oa : Nat) (fo : Nat → UInt64) (ho : w oa = some (.inl (E.2.1 8, 1, .inr (.inr (.inr (.inl fo)))))) : wMn l yL_canaryShare wsL_canaryShare 3 1 6 E w sz [.ref (AD 5 0), .ref oa] (fun v w2 => ((F 24 3 = 0 ∧ v = some (.int 1)) ∨ (F 24 3 ≠ 0 ∧ v = some (.int 0))) ∧ wSys E F AD w2 ∧ wKo oa w w2 ∧ ∃ f2 : Nat → UInt64, w2 oa = some (.inl (E.2.1 8, 1, .inr (.inr (.inr (.inl f2))))) ∧ (F 24 3 ≠ 0 → f2 0 = FP.f2d (v_share F))) := by
  refine wm_startH (own := RL) (cc := cL_canaryShare) (maxL := 3) (ret := (some .int)) (hh := [(0, 8, 11, 103)]) rfl (by decide) rfl (Nat.le_of_ble_eq_true rfl) ?_
  intro p e s m args below meth c ls C0 hr hT hnc hP hS hl
  have hx := C0.1
  have hb := C0.2.1
  have hts := C0.2.2.2.2.1
  have hown := C0.2.2.2.1
  have hl : lv_has ls 3 [(0, .ref (AD 5 0)), (1, .ref oa)] := hl
  refine lv_aload_n hx hb dL_canaryShare_0 rfl (lv_at hl 1 rfl) ?_
  refine lv_iconst (v := 0) hx hb dL_canaryShare_1 (by decide) ?_
  refine lv_aload_n hx hb dL_canaryShare_2 rfl (lv_at hl 0 rfl) ?_
  refine wl_go (wl_runV (As := []) (rest := [.int 0, .ref oa]) C0 hP hS (k_X6_canaryShare l hst E w s.heap.size F AD N hI hs ) (cwV 0 hts gL_canaryShare_X6_canaryShare rfl rfl rfl (by decide +kernel) ⟨(Nat.le_of_ble_eq_true rfl), (Nat.le_of_ble_eq_true rfl)⟩) hs.x rfl rfl rfl hl.1 (Nat.le_of_ble_eq_true rfl) dL_canaryShare_3 ⟨(Nat.le_of_ble_eq_true rfl), (Nat.le_of_ble_eq_true rfl)⟩) hS (wA_in hP hS C0.2.2.2.2.2.2.2.2 rfl) (fun X ce q9 w2 H locs hpx hP _ hS _ _ hce hcv hcl => ?_) (fun v w2 H locs hq hP _ hS _ _ => ?_)
  · obtain ⟨hw9, hx9⟩ := hpx
    rw [hw9] at hP
    obtain ⟨hk9, rfl⟩ := hx9
    refine wl_catch (hh := [(0, 8, 11, 103)]) (pre := []) (x := (0, 8, 11, 103)) (suf := []) C0 hT rfl (fun z hz => absurd hz List.not_mem_nil) rfl (by decide) (hts _ (by decide +kernel)) xc_ARI hce hcv hcl ?_
    refine W.eq (g2 := F0 m 11 ls [.ref q9]) rfl ?_
    refine W.widen (k := 1) (n := 6) (Nat.le_of_ble_eq_true rfl) (Nat.le_of_ble_eq_true rfl) ?_
    refine lv_astore_n (lv' := [(2, .ref q9), (0, .ref (AD 5 0)), (1, .ref oa)]) hx hb dL_canaryShare_11 rfl hl (by decide) rfl (fun ls hl => ?_)
    refine lv_iconst (v := 1) hx hb dL_canaryShare_12 (by decide) ?_
    exact wl_iret C0 hr rfl hP hS dL_canaryShare_13 (Nat.le_of_ble_eq_true rfl) (Nat.le_of_ble_eq_true rfl) (⟨Or.inl ⟨hk9, rfl⟩, hs, fun a e h _ _ => h, fo, ho, fun h => absurd hk9 h⟩)
  · obtain ⟨hz9, rfl, hw9⟩ := hq
    rw [hw9] at hP
    have hn := hI.n
    have hc9 : n_can F ≤ F 24 3 := ct_le _ _
    refine W.eq (g2 := F0 m 6 ls [.float (v_share F), .int 0, .ref oa]) rfl ?_
    refine W.widen (k := 1) (n := 6) (Nat.le_of_ble_eq_true rfl) (Nat.le_of_ble_eq_true rfl) ?_
    refine lv_f2d hx hb dL_canaryShare_6 (fp_f2d (fp_fdiv (by omega) (by omega) hz9)) ?_
    refine wl_dast C0 hP hS ho (show vp_in (nI 0) 1 from vp_in_nI (by omega) (by omega)) dL_canaryShare_7 (fun H locs hP hS => ?_)
    refine lv_goto (tgt := 14) hx hb dL_canaryShare_8 (by decide) ?_
    refine lv_iconst (v := 0) hx hb dL_canaryShare_14 (by decide) ?_
    exact wl_iret C0 hr rfl hP hS dL_canaryShare_15 (Nat.le_of_ble_eq_true rfl) (Nat.le_of_ble_eq_true rfl) (⟨Or.inr ⟨hz9, rfl⟩, wSys_o hs ho rfl, wKo_o wKp.rf, _, wU_s _ _ _, fun _ => by simp [d_upd]⟩)

set_option maxHeartbeats 4000000 in
set_option maxRecDepth 100000 in
theorem k_L_meanCost (l : Launch) (hst : l.stackTraces = false) (E : wEn) (w : wW) (sz : Nat) (F : FF) (AD : AT) (N : Nat) (hI : wInv F N) (hs : wSys E F AD w) (oa : Nat) (fo : Nat → UInt64) (ho : w oa = some (.inl (E.2.1 8, 1, .inr (.inr (.inr (.inl fo)))))) : wMn l yL_meanCost wsL_meanCost 3 1 6 E w sz [.ref (AD 5 0), .ref oa] (fun v w2 => ((n_took F = 0 ∧ v = some (.int 1)) ∨ (n_took F ≠ 0 ∧ v = some (.int 0))) ∧ wSys E F AD w2 ∧ wKo oa w w2 ∧ ∃ f2 : Nat → UInt64, w2 oa = some (.inl (E.2.1 8, 1, .inr (.inr (.inr (.inl f2))))) ∧ (n_took F ≠ 0 → f2 0 = v_mean F)) := by
  refine wm_startH (own := RL) (cc := cL_meanCost) (maxL := 3) (ret := (some .int)) (hh := [(0, 7, 10, 103)]) rfl (by decide) rfl (Nat.le_of_ble_eq_true rfl) ?_
  intro p e s m args below meth c ls C0 hr hT hnc hP hS hl
  have hx := C0.1
  have hb := C0.2.1
  have hts := C0.2.2.2.2.1
  have hown := C0.2.2.2.1
  have hl : lv_has ls 3 [(0, .ref (AD 5 0)), (1, .ref oa)] := hl
  refine lv_aload_n hx hb dL_meanCost_0 rfl (lv_at hl 1 rfl) ?_
  refine lv_iconst (v := 0) hx hb dL_meanCost_1 (by decide) ?_
  refine lv_aload_n hx hb dL_meanCost_2 rfl (lv_at hl 0 rfl) ?_
  refine wl_go (wl_runV (As := []) (rest := [.int 0, .ref oa]) C0 hP hS (k_X6_meanCost l hst E w s.heap.size F AD N hI hs ) (cwV 0 hts gL_meanCost_X6_meanCost rfl rfl rfl (by decide +kernel) ⟨(Nat.le_of_ble_eq_true rfl), (Nat.le_of_ble_eq_true rfl)⟩) hs.x rfl rfl rfl hl.1 (Nat.le_of_ble_eq_true rfl) dL_meanCost_3 ⟨(Nat.le_of_ble_eq_true rfl), (Nat.le_of_ble_eq_true rfl)⟩) hS (wA_in hP hS C0.2.2.2.2.2.2.2.2 rfl) (fun X ce q9 w2 H locs hpx hP _ hS _ _ hce hcv hcl => ?_) (fun v w2 H locs hq hP _ hS _ _ => ?_)
  · obtain ⟨hw9, hx9⟩ := hpx
    rw [hw9] at hP
    obtain ⟨hk9, rfl⟩ := hx9
    refine wl_catch (hh := [(0, 7, 10, 103)]) (pre := []) (x := (0, 7, 10, 103)) (suf := []) C0 hT rfl (fun z hz => absurd hz List.not_mem_nil) rfl (by decide) (hts _ (by decide +kernel)) xc_ARI hce hcv hcl ?_
    refine W.eq (g2 := F0 m 10 ls [.ref q9]) rfl ?_
    refine W.widen (k := 1) (n := 6) (Nat.le_of_ble_eq_true rfl) (Nat.le_of_ble_eq_true rfl) ?_
    refine lv_astore_n (lv' := [(2, .ref q9), (0, .ref (AD 5 0)), (1, .ref oa)]) hx hb dL_meanCost_10 rfl hl (by decide) rfl (fun ls hl => ?_)
    refine lv_iconst (v := 1) hx hb dL_meanCost_11 (by decide) ?_
    exact wl_iret C0 hr rfl hP hS dL_meanCost_12 (Nat.le_of_ble_eq_true rfl) (Nat.le_of_ble_eq_true rfl) (⟨Or.inl ⟨hk9, rfl⟩, hs, fun a e h _ _ => h, fo, ho, fun h => absurd hk9 h⟩)
  · obtain ⟨hz9, rfl, hw9⟩ := hq
    rw [hw9] at hP
    refine W.eq (g2 := F0 m 6 ls [.double (v_mean F), .int 0, .ref oa]) rfl ?_
    refine W.widen (k := 1) (n := 6) (Nat.le_of_ble_eq_true rfl) (Nat.le_of_ble_eq_true rfl) ?_
    refine wl_dast C0 hP hS ho (show vp_in (nI 0) 1 from vp_in_nI (by omega) (by omega)) dL_meanCost_6 (fun H locs hP hS => ?_)
    refine lv_goto (tgt := 13) hx hb dL_meanCost_7 (by decide) ?_
    refine lv_iconst (v := 0) hx hb dL_meanCost_13 (by decide) ?_
    exact wl_iret C0 hr rfl hP hS dL_meanCost_14 (Nat.le_of_ble_eq_true rfl) (Nat.le_of_ble_eq_true rfl) (⟨Or.inr ⟨hz9, rfl⟩, wSys_o hs ho rfl, wKo_o wKp.rf, _, wU_s _ _ _, fun _ => by simp [d_upd]⟩)
