/-! The law, from its entry: what the Statement gives of the start. -/
theorem lw_tm {w : Cond} (i : Nat) (h : tables_1[i]? = some w) : w ∈ lw_tbl := List.mem_append_right _ (List.mem_of_getElem? h)
theorem lw_ml {L : List Cond} (is : List Nat) (h : is.map (fun i => tables_1[i]?) = L.map some) : ∀ w ∈ L, w ∈ lw_tbl := by
  intro w hw
  have h1 : some w ∈ L.map some := List.mem_map.mpr ⟨w, hw, rfl⟩
  rw [← h] at h1
  obtain ⟨i, -, hi⟩ := List.mem_map.mp h1
  exact lw_tm i hi
set_option maxRecDepth 20000 in
theorem wNW_in : ∀ w ∈ wNW, w ∈ lw_tbl := lw_ml [37, 45, 227, 232, 234, 236, 238, 240, 241, 242, 297, 332, 346, 351, 353, 355, 357, 358, 395, 403, 408, 430, 435, 436, 438, 439, 441, 459, 464, 465, 467, 469, 470, 471, 490, 506, 518, 527, 540, 545, 547, 550, 552, 554, 555, 569, 578, 587, 595, 191, 147, 148, 149, 150, 151, 152, 212, 275, 144, 145, 146, 311, 663] (by decide +kernel)
theorem wNW_ot : ∀ w ∈ wNW, w.onTables = true := fun w h => List.all_eq_true.mp (show wNW.all (fun w => w.onTables) = true by decide +kernel) w h
set_option maxRecDepth 20000 in
theorem wSt_in : ∀ w ∈ wSt.map (fun q => Cond.stringRef q.1 q.2.1 q.2.2), w ∈ lw_tbl := lw_ml [198, 209, 219, 265, 282, 318, 322, 327, 343, 378, 382, 428, 457, 458, 489, 505, 526, 577, 586, 596, 601] (by decide +kernel)
theorem wSt_6 : ∀ q ∈ wSt, q.1 = RX6 := by decide +kernel
theorem wAr_in : ∀ w ∈ wArs.map (fun C => Cond.arrayOver (.object C)), w ∈ lw_tbl := lw_ml [30, 32, 34, 42] (by decide +kernel)
theorem lw_arp {s : State} {args : Array Value} {ty : FieldType} (h : (Cond.arrayClass ty).before args s = true) : ∃ cA : ClassId, ArrOfT s cA ty ∧ s.vm.findClass ("[" ++ ty.toString) = some cA := by
  obtain ⟨c, k, comp, h1, h2, h3⟩ := Cond.arrayClass_spec h
  exact ⟨c, fun n z => ⟨fun k h => (by cases h), k, h2, comp, h3⟩, h1⟩
theorem lw_aro {s : State} {args : Array Value} {C : String} (h : (Cond.arrayOver (.object C)).before args s = true) : ∃ cA : ClassId, ArrOfT s cA (.object C) ∧ va_RA s cA (.object C) := by
  obtain ⟨comp, c, k, h1, -, h2, h3, h4⟩ := Cond.arrayOver_spec h
  exact ⟨c, fun n z => ⟨fun k h => (by cases h), k, h2, comp, h3⟩, k, comp, h2, h3, h1, h4⟩
set_option maxHeartbeats 4000000 in
set_option maxRecDepth 100000 in
theorem lw_K {s : State} {args : Array Value} (hts : ∀ w ∈ lw_tbl, w.before args s = true) : ∃ (D : va_G) (cy : Nat → ClassId), va_K D wCl (wTy cy) s := by
  obtain ⟨c0, i0, k0⟩ := u_known (C := RX0) (T := TX0) (N := 2) (n := 2) hts inX0 (hts (Cond.instantiable RX0 2) (lw_tm 36 (by decide +kernel)))
  obtain ⟨c1, i1, k1⟩ := u_known (C := RX1) (T := TX1) (N := 4) (n := 4) hts inX1 (hts (Cond.instantiable RX1 4) (lw_tm 411 (by decide +kernel)))
  obtain ⟨c2, i2, k2⟩ := u_known (C := RX2) (T := TX2) (N := 5) (n := 5) hts inX2 (hts (Cond.instantiable RX2 5) (lw_tm 345 (by decide +kernel)))
  obtain ⟨c3, i3, k3⟩ := u_known (C := RX3) (T := TX3) (N := 6) (n := 6) hts inX3 (hts (Cond.instantiable RX3 6) (lw_tm 406 (by decide +kernel)))
  obtain ⟨c4, i4, k4⟩ := u_known (C := RX4) (T := TX4) (N := 3) (n := 3) hts inX4 (hts (Cond.instantiable RX4 3) (lw_tm 429 (by decide +kernel)))
  obtain ⟨c5, i5, k5⟩ := u_known (C := RX5) (T := TX5) (N := 7) (n := 7) hts inX5 (hts (Cond.instantiable RX5 7) (lw_tm 226 (by decide +kernel)))
  obtain ⟨c6, i6, k6⟩ := u_known (C := RX6) (T := TX6) (N := 8) (n := 8) hts inX6 (hts (Cond.instantiable RX6 8) (lw_tm 22 (by decide +kernel)))
  obtain ⟨a0, b0, d0⟩ := lw_arp (hts (Cond.arrayClass .int) (lw_tm 661 (by decide +kernel)))
  obtain ⟨a4, b4, d4⟩ := lw_aro (hts (Cond.arrayOver (.object RX5)) (lw_tm 30 (by decide +kernel)))
  obtain ⟨a5, b5, d5⟩ := lw_aro (hts (Cond.arrayOver (.object RX4)) (lw_tm 32 (by decide +kernel)))
  obtain ⟨a6, b6, d6⟩ := lw_aro (hts (Cond.arrayOver (.object RX1)) (lw_tm 34 (by decide +kernel)))
  obtain ⟨a7, b7, d7⟩ := lw_aro (hts (Cond.arrayOver (.object RX3)) (lw_tm 42 (by decide +kernel)))
  refine ⟨(fun k => match k with | 0 => c0 | 1 => c1 | 2 => c2 | 3 => c3 | 4 => c4 | 5 => c5 | _ => c6, fun k => match k with | 0 => i0 | 1 => i1 | 2 => i2 | 3 => i3 | 4 => i4 | 5 => i5 | _ => i6), (fun k => match k with | 0 => a0 | 4 => a4 | 5 => a5 | 6 => a6 | _ => a7), fun k q hk => ?_, fun k q hk => ?_⟩
  · match k, hk with
    | 0, hk => cases hk; exact k0
    | 1, hk => cases hk; exact k1
    | 2, hk => cases hk; exact k2
    | 3, hk => cases hk; exact k3
    | 4, hk => cases hk; exact k4
    | 5, hk => cases hk; exact k5
    | 6, hk => cases hk; exact k6
    | k + 7, hk => exact nomatch hk
  · match k, hk with
    | 0, hk => cases hk; exact ⟨b0, d0⟩
    | 1, hk => cases hk; exact ⟨b0, d0⟩
    | 2, hk => cases hk; exact ⟨b0, d0⟩
    | 3, hk => cases hk; exact ⟨b0, d0⟩
    | 4, hk => cases hk; exact ⟨b4, d4⟩
    | 5, hk => cases hk; exact ⟨b5, d5⟩
    | 6, hk => cases hk; exact ⟨b6, d6⟩
    | 7, hk => cases hk; exact ⟨b7, d7⟩
    | k + 8, hk => exact nomatch hk
set_option maxHeartbeats 4000000 in
set_option maxRecDepth 100000 in
theorem lw_G {s : State} {args : Array Value} {A : Nat → Prop} (hts : ∀ w ∈ lw_tbl, w.before args s = true) (r1 : (Cond.isRef (.static Bundle.tN "UNASSIGNED_STACK" Bundle.steD)).before args s = true) (r2 : (Cond.isRef (.static Bundle.tN "SUPPRESSED_SENTINEL" Bundle.listD)).before args s = true) (hA : ∀ a : Nat, a < s.heap.size → ¬ A a) (ka va b : Nat) : ∃ sa : Nat → Nat, wG sa A s ∧ sa 100 = ka ∧ sa 101 = va ∧ sa 102 = b := by
  obtain ⟨c6, i6, k6⟩ := u_known (C := RX6) (T := TX6) (N := 8) (n := 8) hts inX6 (hts (Cond.instantiable RX6 8) (lw_tm 22 (by decide +kernel)))
  have hini : (Cond.initialized Bundle.tN).before args s = true := hts (Cond.initialized Bundle.tN) (lw_tm 3 (by decide +kernel))
  have hex : ∀ i : Nat, ∃ a : Nat, ∀ q : String × Nat × String, wSt[i]? = some q → vk_R q.1 q.2.1 q.2.2 a s := by
    intro i
    cases hq : wSt[i]? with
    | none => exact ⟨0, fun q h => nomatch h⟩
    | some q =>
      have hm := List.mem_of_getElem? hq
      have h1 : (Cond.stringRef q.1 q.2.1 q.2.2).before args s = true := hts _ (wSt_in _ (List.mem_map.mpr ⟨q, hm, rfl⟩))
      have hc : s.vm.findClass q.1 = some c6 := by
        rw [wSt_6 q hm]
        exact k6.2.1
      obtain ⟨-, -, -, a, -, -, -, -, -, hev⟩ := Cond.stringRef_spec hc h1
      exact ⟨a, fun q2 h2 => by
        cases h2
        exact vk_R.of h1 hev⟩
  obtain ⟨sa, hsa⟩ := Classical.axiomOfChoice hex
  have hlen : wSt.length ≤ 100 := by decide +kernel
  refine ⟨fun i => if i = 100 then ka else if i = 101 then va else if i = 102 then b else sa i, ⟨fun w hw => va_Nw.of (wNW_ot w hw) (hts w (wNW_in w hw)), fun i q hq => ?_, vx_Zqof (hts _ (lw_tm 109 (by decide +kernel))) hini r1 hA, vx_Zqof (hts _ (lw_tm 111 (by decide +kernel))) hini r2 hA, fun C hC => va_AO.of (hts _ (wAr_in _ (List.mem_map.mpr ⟨C, hC, rfl⟩)))⟩, rfl, rfl, rfl⟩
  have hi : i < wSt.length := (List.getElem?_eq_some_iff.mp hq).1
  have e : (if i = 100 then ka else if i = 101 then va else if i = 102 then b else sa i) = sa i := by
    rw [if_neg (by omega), if_neg (by omega), if_neg (by omega)]
  show vk_R q.1 q.2.1 q.2.2 (if i = 100 then ka else if i = 101 then va else if i = 102 then b else sa i) s
  rw [e]
  exact hsa i q hq
set_option maxHeartbeats 4000000 in
set_option maxRecDepth 100000 in
theorem lw_S {s : State} {args : Array Value} {A : Nat → Prop} {b L : Nat} {xs : Nat → Int32} (hts : ∀ w ∈ lw_tbl, w.before args s = true) (hf : ∀ w ∈ flatC (Jvm.Cond.and given_1 narrow_1), w.before args s = true) (hA : ∀ a : Nat, a < s.heap.size → ¬ A a) (hL : L < 2 ^ 31) (hX : va_X b L xs s s.heap) (hb : b < s.heap.size) : ∃ ka va : Nat, wStr ka va b A s := by
  obtain ⟨adK, adV, hS, hev⟩ := vk_Sof (args := args) (s := s) (N := 1) (tm := fun _ => (Term.string RL 116)) (len := [5]) (byt := [[110, 108, 115, 99, 102]]) (A := A)
    (fun i hi => by
      obtain rfl : i = 0 := by omega
      decide)
    (fun i hi => hf (.exactly (Term.string RL 116) "java/lang/String") (by decide +kernel)) (fun i hi => hf (.eq (.field (Term.string RL 116) "java/lang/String" "coder" "B") (.int 0)) (by decide +kernel)) (fun i hi => hf (.arrayOf (Term.field (Term.string RL 116) "java/lang/String" "value" "[B") .byte) (by decide +kernel))
    (fun i hi => by
      obtain rfl : i = 0 := by omega
      exact hf (.eq (.length (Term.field (Term.string RL 116) "java/lang/String" "value" "[B")) (.int 5)) (by decide +kernel))
    (fun i hi j hj => by
      obtain rfl : i = 0 := by omega
      have hj5 : j < 5 := hj
      rcases (show j = 0 ∨ j = 1 ∨ j = 2 ∨ j = 3 ∨ j = 4 by omega) with rfl | rfl | rfl | rfl | rfl
      · exact hf (.eq (.elem (Term.field (Term.string RL 116) "java/lang/String" "value" "[B") (.int 0)) (.int 110)) (by decide +kernel)
      · exact hf (.eq (.elem (Term.field (Term.string RL 116) "java/lang/String" "value" "[B") (.int 1)) (.int 108)) (by decide +kernel)
      · exact hf (.eq (.elem (Term.field (Term.string RL 116) "java/lang/String" "value" "[B") (.int 2)) (.int 115)) (by decide +kernel)
      · exact hf (.eq (.elem (Term.field (Term.string RL 116) "java/lang/String" "value" "[B") (.int 3)) (.int 99)) (by decide +kernel)
      · exact hf (.eq (.elem (Term.field (Term.string RL 116) "java/lang/String" "value" "[B") (.int 4)) (.int 102)) (by decide +kernel))
    (fun i j hi hj hne => by omega) hA
  refine ⟨adK 0, adV 0, vk_R.of (hts (.stringRef RL 116 "nlscf") (lw_tm 610 (by decide +kernel))) (hev 0 (by decide)), ⟨fun i hi => ?_, fun i j hi hj _ => by omega⟩, va_Zof (hts _ (lw_tm 620 (by decide +kernel))) (hts _ (lw_tm 8 (by decide +kernel))) (va_eqt (hf (.eq (.static "java/lang/String" "COMPACT_STRINGS" "Z") (.int 1)) (by decide +kernel))) hA, va_Zqof (hts _ (lw_tm 628 (by decide +kernel))) (hts _ (lw_tm 19 (by decide +kernel))) (hf (.isRef (.static cPre "SIOOBE_FORMATTER" dBiF)) (by decide +kernel)) hA, L, xs, hL, hX, hb, hA b hb⟩
  obtain rfl : i = 0 := by omega
  exact hS.1 0 (by decide)
theorem nzI {N : Nat} (cA : ClassId) : vp_cell cA (N, .inl (fun _ => 0)) = arrV cA N (fun _ => defaultValue .int) := rfl
