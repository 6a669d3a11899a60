set_option maxHeartbeats 4000000 in
set_option maxRecDepth 100000 in
theorem whole_start {p : Program} {e : Env} {s : State} {m : MethodId} {below : List Frame} {meth : Method} {c : Code} (l : Launch) (hflags : l.flags = flags0) {b L : Nat} {xs : Nat → Int32} (hL : L ≤ 260) (C0 : lw_At p s m meth c b L xs) : W p l e room_1 s m #[Value.ref b] below meth c s.heap [] 0 0 (lw_Z below #[Value.ref b] s) (entryFrame m ([Value.ref b] : List Value).toArray 21) := by
  obtain ⟨hx, hb, hr, hml, hown, htt, hX, hbl, hlocks, hgv⟩ := id C0
  have hf9 := flat_of_before _ hgv
  have hst : l.stackTraces = false := by
    unfold Launch.stackTraces
    rw [hflags]
    decide
  obtain ⟨D, cy, hK⟩ := lw_K htt
  have hA : ∀ a : Nat, a < s.heap.size → ¬ (fun q : Nat => s.heap.size ≤ q) a := fun a h => Nat.not_le.mpr h
  obtain ⟨ka, va, hstr⟩ := lw_S (A := (fun q : Nat => s.heap.size ≤ q)) htt hf9 hA (by omega) hX hbl
  obtain ⟨sa, hG, ea, eb, ec⟩ := lw_G (A := (fun q : Nat => s.heap.size ≤ q)) htt (hf9 _ (by decide +kernel)) (hf9 _ (by decide +kernel)) hA ka va b
  subst ea
  subst eb
  subst ec
  have hnc : ∀ q ∈ wNC, va_Nc q.1 q.2 s := by
    intro q hq
    simp only [wNC, List.mem_cons, List.not_mem_nil, or_false] at hq
    rcases hq with rfl | rfl | rfl | rfl | rfl | rfl | rfl
    · exact va_Nc.of (hf9 _ (by decide +kernel))
    · exact va_Nc.of (hf9 _ (by decide +kernel))
    · exact va_Nc.of (hf9 _ (by decide +kernel))
    · exact va_Nc.of (hf9 _ (by decide +kernel))
    · exact va_Nc.of (hf9 _ (by decide +kernel))
    · exact va_Nc.of (hf9 _ (by decide +kernel))
    · exact va_Nc.of (hf9 _ (by decide +kernel))
  have C0 : wC p s m #[Value.ref (sa 102)] meth c RL cL_law 21 wsL_law (D, cy, sa) (fun q : Nat => s.heap.size ≤ q) := ⟨hx, hb, hml, hown, fun w h => htt w (wsL_law_in w h), hlocks, hK, hG, fun _ h => h⟩
  have C1 : wCt p s m #[Value.ref (sa 102)] meth c RL cL_law 21 wsL_law (D, cy, sa) (fun q : Nat => s.heap.size ≤ q) := ⟨C0, hnc, hstr⟩
  have hts := C0.2.2.2.2.1
  have hS : va_S (fun q : Nat => s.heap.size ≤ q) s.heap s.heap [] := va_S.rf
  have hP : wP D (fun q : Nat => s.heap.size ≤ q) (fun _ => none) s.heap := wP.nil
  have hl := lv_entry ([.ref (sa 102)]) (n := 21) (Nat.le_of_ble_eq_true rfl)
  rw [lg_entry_eq]
  generalize (lg_sl ([.ref (sa 102)]) ++ List.replicate (21 - (lg_sl ([.ref (sa 102)])).length) Slot.unset).toArray = ls at hl ⊢
  have hl : lv_has ls 21 [(0, .ref (sa 102))] := hl
  refine wl_new (T := TX6) (N := 8) (fs := [.null, .null, .null, .null, .int 0, .int 0, .int 0, .int 0]) (ci := 6) C0 hP hS inlX6 tyX6_ok rfl (hts (.classLink RL 10 RX6) (by decide +kernel)) (hts (.instantiable RX6 8) (by decide +kernel)) (hts (.initialized RX6) (by decide +kernel)) (fun j hj => by rcases (show j = 0 ∨ j = 1 ∨ j = 2 ∨ j = 3 ∨ j = 4 ∨ j = 5 ∨ j = 6 ∨ j = 7 by omega) with rfl | rfl | rfl | rfl | rfl | rfl | rfl | rfl <;> rfl) (Nat.le_of_ble_eq_true rfl) (Nat.le_of_ble_eq_true rfl) dL_law_0 (fun x H hx0 hP hS => ?_)
  refine lv_dup hx hb dL_law_3 rfl ?_
  refine wl_go (wl_runI (As := []) (rest := [.ref x]) C0 hP hS (k_X6_init l hst (D, cy, sa) (wU (fun _ => none) x (.inr (6, [.null, .null, .null, .null, .int 0, .int 0, .int 0, .int 0]))) H.size x (wU_s _ _ _)) (cwI 0 hts gL_law_X6_init rfl rfl rfl (hts (.initialized RX6) (by decide +kernel)) (hts (.methodLink RL 123 yX6_init) (by decide +kernel)) (hts (.instanceMethod yX6_init) (by decide +kernel)) rfl (by decide +kernel) ⟨(Nat.le_of_ble_eq_true rfl), (Nat.le_of_ble_eq_true rfl)⟩) rfl rfl hl.1 (Nat.le_of_ble_eq_true rfl) dL_law_4 ⟨(Nat.le_of_ble_eq_true rfl), (Nat.le_of_ble_eq_true rfl)⟩) hS (wA_in hP hS C0.2.2.2.2.2.2.2.2 rfl) (fun X ce q9 w2 H locs hpx => hpx.elim) (fun v w2 H locs hq hP _ hS _ _ => ?_)
  obtain ⟨rfl, AD, hs6, hx5, -⟩ := hq
  refine W.eq (g2 := F0 m 7 ls [.ref x]) rfl ?_
  refine lv_astore_n (lv' := [(1, .ref x), (0, .ref (sa 102))]) hx hb dL_law_7 rfl hl (by decide) rfl (fun ls hl => ?_)
  refine lv_iconst (v := 3) hx hb dL_law_8 (by decide) ?_
  refine wl_newa (atype := .int) (ty := .int) (t0 := 0) (N1 := 3) (a0 := (3, .inl (fun _ => 0))) C0 hP hS (hts _ (by decide +kernel)) rfl rfl nzI (by decide +kernel) (by decide +kernel) (by decide +kernel) (Nat.le_of_ble_eq_true rfl) (Nat.le_of_ble_eq_true rfl) dL_law_9 (fun ob H hob hP hS => ?_)
  have hs7 := wSys_fr hs6 (w2 := wU w2 ob (.inl (cy 0, (3, .inl (fun _ => 0))))) (fun a e ha _ => by
    rw [wU_n _ _ (wne_f hob ha)]
    exact ha)
  refine lv_astore_n (lv' := [(2, .ref ob), (1, .ref x), (0, .ref (sa 102))]) hx hb dL_law_11 rfl hl (by decide) rfl (fun ls hl => ?_)
  refine lv_bipush (v := 6) hx hb dL_law_12 (by decide) ?_
  refine wl_newa (atype := .int) (ty := .int) (t0 := 0) (N1 := 6) (a0 := (6, .inl (fun _ => 0))) C0 hP hS (hts _ (by decide +kernel)) rfl rfl nzI (by decide +kernel) (by decide +kernel) (by decide +kernel) (Nat.le_of_ble_eq_true rfl) (Nat.le_of_ble_eq_true rfl) dL_law_14 (fun op H hop hP hS => ?_)
  have hs8 := wSys_fr hs7 (w2 := wU (wU w2 ob (.inl (cy 0, (3, .inl (fun _ => 0))))) op (.inl (cy 0, (6, .inl (fun _ => 0))))) (fun a e ha _ => by
    rw [wU_n _ _ (wne_f hop ha)]
    exact ha)
  have hne : ob ≠ op := wne_f hop (wU_s _ _ _)
  refine lv_astore_n (lv' := [(3, .ref op), (2, .ref ob), (1, .ref x), (0, .ref (sa 102))]) hx hb dL_law_16 rfl hl (by decide) rfl (fun ls hl => ?_)
  refine lv_iconst (v := nI (F00 24 0)) hx hb dL_law_17 (by decide) ?_
  refine lv_istore (lv' := [(4, .int (nI (F00 24 0))), (3, .ref op), (2, .ref ob), (1, .ref x), (0, .ref (sa 102))]) hx hb dL_law_18 hl (by decide) rfl (fun ls hl => ?_)
  refine lv_iconst (v := nI (F00 24 2)) hx hb dL_law_20 (by decide) ?_
  refine lv_istore (lv' := [(5, .int (nI (F00 24 2))), (4, .int (nI (F00 24 0))), (3, .ref op), (2, .ref ob), (1, .ref x), (0, .ref (sa 102))]) hx hb dL_law_21 hl (by decide) rfl (fun ls hl => ?_)
  refine lv_iconst (v := nI (F00 24 1)) hx hb dL_law_23 (by decide) ?_
  refine lv_istore (lv' := [(6, .int (nI (F00 24 1))), (5, .int (nI (F00 24 2))), (4, .int (nI (F00 24 0))), (3, .ref op), (2, .ref ob), (1, .ref x), (0, .ref (sa 102))]) hx hb dL_law_24 hl (by decide) rfl (fun ls hl => ?_)
  refine lv_iconst (v := nI 0) hx hb dL_law_26 (by decide) ?_
  refine lv_istore (lv' := [(7, .int (nI 0)), (6, .int (nI (F00 24 1))), (5, .int (nI (F00 24 2))), (4, .int (nI (F00 24 0))), (3, .ref op), (2, .ref ob), (1, .ref x), (0, .ref (sa 102))]) hx hb dL_law_27 hl (by decide) rfl (fun ls hl => ?_)
  have hJ : lwJ (D, cy, sa) x ob op F00 (wU (wU w2 ob (.inl (cy 0, (3, .inl (fun _ => 0))))) op (.inl (cy 0, (6, .inl (fun _ => 0))))) (8 * 0) := ⟨I_F00, fun k hk => absurd hk (Nat.not_lt_zero k), ⟨AD, hs8, hx5⟩, ⟨fun _ => 0, (by rw [wU_n _ _ hne]; exact wU_s _ _ _), fun i hi => absurd hi (Nat.not_lt_zero i)⟩, fun _ => 0, wU_s _ _ _, fun i hi => absurd hi (Nat.not_lt_zero i)⟩
  refine lw_loop (E := (D, cy, sa)) (x := x) (ob := ob) (op := op) hst C1 (fun H2 locs2 ls2 c2 s2 hS2 h1 h2 => ?_) 56 0 F00 _ _ _ ls _ _ rfl hJ (fun _ => rfl) (fun h => absurd h (by decide)) hP hS (lv_sub hl [7, 6, 5, 4, 3, 2, 1, 0] rfl) (Nat.le_of_ble_eq_true rfl) (Nat.le_of_ble_eq_true rfl)
  refine va_forget (fun q hq => hS2.2.2 q hq) ?_
  refine W.widen (k := 677584) (n := 7061175) h1 h2 ?_
  exact lw_ret hx hb hr hlocks dL_law_1325
