set_option maxHeartbeats 4000000 in
set_option maxRecDepth 100000 in
theorem whole_start {p : Program} {e : Env} {s : State} {m : MethodId} {below : List Frame} {meth : Method} {c : Code} (l : Launch) (hflags : l.flags = flags0) {b L : Nat} {xs : Nat → Int32} (hL : L ≤ 2560) (C0 : lw_At p s m meth c b L xs) : W p l e room_1 s m #[Value.ref b] below meth c s.heap [] 0 0 (lw_Z below #[Value.ref b] s) (entryFrame m ([Value.ref b] : List Value).toArray 9) := by
  obtain ⟨hx, hb, hr, hml, hown, htt, hX, hbl, hlocks, hgv⟩ := id C0
  have hf9 := flat_of_before _ hgv
  have hst : l.stackTraces = false := by
    unfold Launch.stackTraces
    rw [hflags]
    decide
  obtain ⟨D, cy, hK⟩ := lw_K htt
  obtain ⟨sa, hG⟩ := lw_G (A := (fun q : Nat => s.heap.size ≤ q)) htt (hf9 _ (by decide +kernel)) (hf9 _ (by decide +kernel)) (fun a h => Nat.not_le.mpr h)
  have hnc : ∀ q ∈ wNC, va_Nc q.1 q.2 s := by
    intro q hq
    simp only [wNC, List.mem_cons, List.not_mem_nil, or_false] at hq
    rcases hq with rfl | rfl | rfl | rfl | rfl
    · exact va_Nc.of (hf9 _ (by decide +kernel))
    · exact va_Nc.of (hf9 _ (by decide +kernel))
    · exact va_Nc.of (hf9 _ (by decide +kernel))
    · exact va_Nc.of (hf9 _ (by decide +kernel))
    · exact va_Nc.of (hf9 _ (by decide +kernel))
  have C0 : wC p s m #[Value.ref b] meth c RL cL_law 9 wsL_law (D, cy, sa) (fun q : Nat => s.heap.size ≤ q) := ⟨hx, hb, hml, hown, fun w h => htt w (wsL_law_in w h), hlocks, hK, hG, fun _ h => h⟩
  have SA : lwA p s m #[Value.ref b] meth c (fun q : Nat => s.heap.size ≤ q) (D, cy, sa) b L xs := ⟨C0, hnc, hX, hbl, Nat.not_le.mpr hbl⟩
  have hts := C0.2.2.2.2.1
  have hS : va_S (fun q : Nat => s.heap.size ≤ q) s.heap s.heap [] := va_S.rf
  have hP : wP D (fun q : Nat => s.heap.size ≤ q) (fun _ => none) s.heap := wP.nil
  have hl := lv_entry ([.ref b]) (n := 9) (Nat.le_of_ble_eq_true rfl)
  rw [lg_entry_eq]
  generalize (lg_sl ([.ref b]) ++ List.replicate (9 - (lg_sl ([.ref b])).length) Slot.unset).toArray = ls at hl ⊢
  have hl : lv_has ls 9 [(0, .ref b)] := hl
  refine wl_new (T := TX6) (N := 8) (fs := [.null, .null, .null, .null, .int 0, .int 0, .int 0, .int 0]) (ci := 6) C0 hP hS inlX6 tyX6_ok rfl (hts (.classLink RL 8 RX6) (by decide +kernel)) (hts (.instantiable RX6 8) (by decide +kernel)) (hts (.initialized RX6) (by decide +kernel)) (fun j hj => by rcases (show j = 0 ∨ j = 1 ∨ j = 2 ∨ j = 3 ∨ j = 4 ∨ j = 5 ∨ j = 6 ∨ j = 7 by omega) with rfl | rfl | rfl | rfl | rfl | rfl | rfl | rfl <;> rfl) (Nat.le_of_ble_eq_true rfl) (Nat.le_of_ble_eq_true rfl) dL_law_0 (fun x H hx0 hP hS => ?_)
  refine lv_dup hx hb dL_law_3 rfl ?_
  refine wl_go (wl_runI (As := []) (rest := [.ref x]) C0 hP hS (k_X6_init l hst (D, cy, sa) (wU (fun _ => none) x (.inr (6, [.null, .null, .null, .null, .int 0, .int 0, .int 0, .int 0]))) H.size x (wU_s _ _ _)) (cwI 0 hts gL_law_X6_init rfl rfl rfl (hts (.initialized RX6) (by decide +kernel)) (hts (.methodLink RL 109 yX6_init) (by decide +kernel)) (hts (.instanceMethod yX6_init) (by decide +kernel)) rfl (by decide +kernel) ⟨(Nat.le_of_ble_eq_true rfl), (Nat.le_of_ble_eq_true rfl)⟩) rfl rfl hl.1 (Nat.le_of_ble_eq_true rfl) dL_law_4 ⟨(Nat.le_of_ble_eq_true rfl), (Nat.le_of_ble_eq_true rfl)⟩) hS (wA_in hP hS C0.2.2.2.2.2.2.2.2 rfl) (fun X ce q9 w2 H locs hpx => hpx.elim) (fun v w2 H locs hq hP _ hS _ _ => ?_)
  obtain ⟨rfl, AD, hs6, hx5, -⟩ := hq
  refine W.eq (g2 := F0 m 7 ls [.ref x]) rfl ?_
  refine lv_astore_n (lv' := [(1, .ref x), (0, .ref b)]) hx hb dL_law_7 rfl hl (by decide) rfl (fun ls hl => ?_)
  refine wl_new (T := TX7) (N := 27) (fs := [.int 0, .int 0, .null, .null, .null, .null, .null, .null, .null, .null, .null, .null, .int 0, .null, .null, .null, .int 0, .null, .null, .null, .int 0, .null, .null, .null, .null, .null, .null]) (ci := 7) C0 hP hS inlX7 tyX7_ok rfl (hts (.classLink RL 110 RX7) (by decide +kernel)) (hts (.instantiable RX7 27) (by decide +kernel)) (hts (.initialized RX7) (by decide +kernel)) (fun j hj => by rcases (show j = 0 ∨ j = 1 ∨ j = 2 ∨ j = 3 ∨ j = 4 ∨ j = 5 ∨ j = 6 ∨ j = 7 ∨ j = 8 ∨ j = 9 ∨ j = 10 ∨ j = 11 ∨ j = 12 ∨ j = 13 ∨ j = 14 ∨ j = 15 ∨ j = 16 ∨ j = 17 ∨ j = 18 ∨ j = 19 ∨ j = 20 ∨ j = 21 ∨ j = 22 ∨ j = 23 ∨ j = 24 ∨ j = 25 ∨ j = 26 by omega) with rfl | rfl | rfl | rfl | rfl | rfl | rfl | rfl | rfl | rfl | rfl | rfl | rfl | rfl | rfl | rfl | rfl | rfl | rfl | rfl | rfl | rfl | rfl | rfl | rfl | rfl | rfl <;> rfl) (Nat.le_of_ble_eq_true rfl) (Nat.le_of_ble_eq_true rfl) dL_law_8 (fun mo H hmo hP hS => ?_)
  have hs7 : wSys (D, cy, sa) F00 AD (wU w2 mo (.inr (7, [.int 0, .int 0, .null, .null, .null, .null, .null, .null, .null, .null, .null, .null, .int 0, .null, .null, .null, .int 0, .null, .null, .null, .int 0, .null, .null, .null, .null, .null, .null]))) := wSys_fr hs6 (fun a e ha _ => by
    rw [wU_n _ _ (wne_f hmo ha)]
    exact ha)
  refine lv_dup hx hb dL_law_11 rfl ?_
  refine wl_go (wl_runI (As := []) (rest := [.ref mo]) C0 hP hS (k_X7_init l hst (D, cy, sa) (wU w2 mo (.inr (7, [.int 0, .int 0, .null, .null, .null, .null, .null, .null, .null, .null, .null, .null, .int 0, .null, .null, .null, .int 0, .null, .null, .null, .int 0, .null, .null, .null, .null, .null, .null]))) H.size mo (wU_s _ _ _)) (cwI 0 hts gL_law_X7_init rfl rfl rfl (hts (.initialized RX7) (by decide +kernel)) (hts (.methodLink RL 112 yX7_init) (by decide +kernel)) (hts (.instanceMethod yX7_init) (by decide +kernel)) rfl (by decide +kernel) ⟨(Nat.le_of_ble_eq_true rfl), (Nat.le_of_ble_eq_true rfl)⟩) rfl rfl hl.1 (Nat.le_of_ble_eq_true rfl) dL_law_12 ⟨(Nat.le_of_ble_eq_true rfl), (Nat.le_of_ble_eq_true rfl)⟩) hS (wA_in hP hS C0.2.2.2.2.2.2.2.2 rfl) (fun X ce q9 w2 H locs hpx => hpx.elim) (fun v w3 H locs hq hP _ hS _ _ => ?_)
  obtain ⟨rfl, MA, hm, hkp, -⟩ := hq
  have hs8 : wSys (D, cy, sa) F00 AD w3 := wSys_fr hs7 (fun a e ha hk => hkp a e ha (fun q => by
    subst q
    rw [wU_s] at ha
    cases ha
    cases hk))
  refine W.eq (g2 := F0 m 15 ls [.ref mo]) rfl ?_
  refine lv_astore_n (lv' := [(2, .ref mo), (1, .ref x), (0, .ref b)]) hx hb dL_law_15 rfl hl (by decide) rfl (fun ls hl => ?_)
  refine lv_iconst (v := 1) hx hb dL_law_16 (by decide) ?_
  refine wl_newa (atype := .long) (ty := .long) (t0 := 1) (N1 := 1) (a0 := (1, .inr (.inl (fun _ => 0)))) C0 hP hS (hts _ (by decide +kernel)) rfl rfl nzL (by decide +kernel) (by decide +kernel) (by decide +kernel) (Nat.le_of_ble_eq_true rfl) (Nat.le_of_ble_eq_true rfl) dL_law_17 (fun oL H hoL hP hS => ?_)
  have hs9 := wSys_fr hs8 (w2 := wU w3 oL (.inl (cy 1, (1, .inr (.inl (fun _ => 0)))))) (fun a e ha _ => by
    rw [wU_n _ _ (wne_f hoL ha)]
    exact ha)
  have hm9 := wMod_kp hm (w2 := wU w3 oL (.inl (cy 1, (1, .inr (.inl (fun _ => 0)))))) (fun a e ha _ _ => by
    rw [wU_n _ _ (wne_f hoL ha)]
    exact ha)
  refine lv_astore_n (lv' := [(3, .ref oL), (2, .ref mo), (1, .ref x), (0, .ref b)]) hx hb dL_law_19 rfl hl (by decide) rfl (fun ls hl => ?_)
  refine lv_iconst (v := 1) hx hb dL_law_20 (by decide) ?_
  refine wl_newa (atype := .double) (ty := .double) (t0 := 8) (N1 := 1) (a0 := (1, .inr (.inr (.inr (.inl (fun _ => 0)))))) C0 hP hS (hts _ (by decide +kernel)) rfl rfl nzD (by decide +kernel) (by decide +kernel) (by decide +kernel) (Nat.le_of_ble_eq_true rfl) (Nat.le_of_ble_eq_true rfl) dL_law_21 (fun oD H hoD hP hS => ?_)
  have hsA := wSys_fr hs9 (w2 := wU (wU w3 oL (.inl (cy 1, (1, .inr (.inl (fun _ => 0)))))) oD (.inl (cy 8, (1, .inr (.inr (.inr (.inl (fun _ => 0)))))))) (fun a e ha _ => by
    rw [wU_n _ _ (wne_f hoD ha)]
    exact ha)
  have hmA := wMod_kp hm9 (w2 := wU (wU w3 oL (.inl (cy 1, (1, .inr (.inl (fun _ => 0)))))) oD (.inl (cy 8, (1, .inr (.inr (.inr (.inl (fun _ => 0)))))))) (fun a e ha _ _ => by
    rw [wU_n _ _ (wne_f hoD ha)]
    exact ha)
  refine lv_astore (lv' := [(4, .ref oD), (3, .ref oL), (2, .ref mo), (1, .ref x), (0, .ref b)]) hx hb dL_law_23 hl (by decide) rfl (fun ls hl => ?_)
  refine lv_iconst (v := nI (5 * 0)) hx hb dL_law_25 (by decide) ?_
  refine lv_istore (lv' := [(5, .int (nI (5 * 0))), (4, .ref oD), (3, .ref oL), (2, .ref mo), (1, .ref x), (0, .ref b)]) hx hb dL_law_26 hl (by decide) rfl (fun ls hl => ?_)
  have hne : oL ≠ oD := wne_f hoD (wU_s _ _ _)
  refine lw_loop hst SA hL (fun H2 locs2 ls2 c2 s2 hS2 h1 h2 => ?_) 512 0 rfl _ _ _ _ _ _ ⟨F00, AD, _, _, _, I_F00, hsA, hx5, hmA, by rw [wU_n _ _ hne]; exact wU_s _ _ _, wU_s _ _ _⟩ hP hS (lv_sub hl [0, 5, 4, 3, 2, 1] rfl) (Nat.le_of_ble_eq_true rfl) (Nat.le_of_ble_eq_true rfl)
  refine lv_iconst (v := 1) hx hb dL_law_1868 (by decide) ?_
  refine va_forget (fun q hq => hS2.2.2 q hq) ?_
  refine W.widen (k := 603072) (n := 7211114) h1 h2 ?_
  refine W.base ?_
  exact lw_ret (Drawn.sameBut.refl s.drawn lw_cs) hx hb hr hlocks dL_law_1869
