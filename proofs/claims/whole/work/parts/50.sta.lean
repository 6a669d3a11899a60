/-! The law, from its entry: what the Statement gives of the start. -/
theorem lw_tm {w : Cond} (i : Nat) (h : tables_1[i]? = some w) : w ∈ lw_tbl := List.mem_append_right _ (List.mem_of_getElem? h)
theorem lw_ml {L : List Cond} (is : List Nat) (h : is.map (fun i => tables_1[i]?) = L.map some) : ∀ w ∈ L, w ∈ lw_tbl := by
  intro w hw
  have h1 : some w ∈ L.map some := List.mem_map.mpr ⟨w, hw, rfl⟩
  rw [← h] at h1
  obtain ⟨i, -, hi⟩ := List.mem_map.mp h1
  exact lw_tm i hi
set_option maxRecDepth 20000 in
theorem wNW_in : ∀ w ∈ wNW, w ∈ lw_tbl := lw_ml [36, 44, 193, 198, 200, 202, 204, 206, 207, 208, 270, 338, 355, 360, 362, 364, 366, 367, 413, 421, 426, 457, 462, 463, 465, 466, 468, 489, 494, 495, 497, 499, 500, 501, 523, 545, 563, 575, 588, 593, 595, 597, 599, 601, 603, 604, 618, 630, 642, 653, 687, 698, 702, 102, 103, 104, 105, 106, 107, 108, 178, 245, 292, 293, 294, 311, 678, 951] (by decide +kernel)
theorem wNW_ot : ∀ w ∈ wNW, w.onTables = true := fun w h => List.all_eq_true.mp (show wNW.all (fun w => w.onTables) = true by decide +kernel) w h
set_option maxRecDepth 20000 in
theorem wSt_in : ∀ w ∈ wSt.map (fun q => Cond.stringRef q.1 q.2.1 q.2.2), w ∈ lw_tbl := lw_ml [144, 175, 185, 235, 252, 318, 322, 330, 352, 390, 394, 455, 487, 488, 522, 544, 574, 629, 641, 654, 662, 685] (by decide +kernel)
theorem wSt_6 : ∀ q ∈ wSt, q.1 = RX6 := by decide +kernel
theorem wAr_in : ∀ w ∈ wArs.map (fun C => Cond.arrayOver (.object C)), w ∈ lw_tbl := lw_ml [29, 31, 33, 41] (by decide +kernel)
theorem lw_arp {s : State} {args : Array Value} {ty : FieldType} (h : (Cond.arrayClass ty).before args s = true) : ∃ cA : ClassId, ArrOfT s cA ty ∧ s.vm.findClass ("[" ++ ty.toString) = some cA := by
  obtain ⟨c, k, comp, h1, h2, h3⟩ := Cond.arrayClass_spec h
  exact ⟨c, fun n z => ⟨fun k h => (by cases h), k, h2, comp, h3⟩, h1⟩
theorem lw_aro {s : State} {args : Array Value} {C : String} (h : (Cond.arrayOver (.object C)).before args s = true) : ∃ cA : ClassId, ArrOfT s cA (.object C) ∧ va_RA s cA (.object C) := by
  obtain ⟨comp, c, k, h1, -, h2, h3, h4⟩ := Cond.arrayOver_spec h
  exact ⟨c, fun n z => ⟨fun k h => (by cases h), k, h2, comp, h3⟩, k, comp, h2, h3, h1, h4⟩
set_option maxHeartbeats 4000000 in
set_option maxRecDepth 100000 in
theorem lw_K {s : State} {args : Array Value} (hts : ∀ w ∈ lw_tbl, w.before args s = true) : ∃ (D : va_G) (cy : Nat → ClassId), va_K D wCl (wTy cy) s := by
  obtain ⟨c0, i0, k0⟩ := u_known (C := RX0) (T := TX0) (N := 2) (n := 2) hts inX0 (hts (Cond.instantiable RX0 2) (lw_tm 35 (by decide +kernel)))
  obtain ⟨c1, i1, k1⟩ := u_known (C := RX1) (T := TX1) (N := 4) (n := 4) hts inX1 (hts (Cond.instantiable RX1 4) (lw_tm 429 (by decide +kernel)))
  obtain ⟨c2, i2, k2⟩ := u_known (C := RX2) (T := TX2) (N := 5) (n := 5) hts inX2 (hts (Cond.instantiable RX2 5) (lw_tm 354 (by decide +kernel)))
  obtain ⟨c3, i3, k3⟩ := u_known (C := RX3) (T := TX3) (N := 6) (n := 6) hts inX3 (hts (Cond.instantiable RX3 6) (lw_tm 424 (by decide +kernel)))
  obtain ⟨c4, i4, k4⟩ := u_known (C := RX4) (T := TX4) (N := 3) (n := 3) hts inX4 (hts (Cond.instantiable RX4 3) (lw_tm 456 (by decide +kernel)))
  obtain ⟨c5, i5, k5⟩ := u_known (C := RX5) (T := TX5) (N := 7) (n := 7) hts inX5 (hts (Cond.instantiable RX5 7) (lw_tm 192 (by decide +kernel)))
  obtain ⟨c6, i6, k6⟩ := u_known (C := RX6) (T := TX6) (N := 8) (n := 8) hts inX6 (hts (Cond.instantiable RX6 8) (lw_tm 21 (by decide +kernel)))
  obtain ⟨c7, i7, k7⟩ := u_known (C := RX7) (T := TX7) (N := 27) (n := 27) hts inX7 (hts (Cond.instantiable RX7 27) (lw_tm 707 (by decide +kernel)))
  obtain ⟨a0, b0, d0⟩ := lw_arp (hts (Cond.arrayClass .int) (lw_tm 794 (by decide +kernel)))
  obtain ⟨a1, b1, d1⟩ := lw_arp (hts (Cond.arrayClass .long) (lw_tm 796 (by decide +kernel)))
  obtain ⟨a2, b2, d2⟩ := lw_arp (hts (Cond.arrayClass .char) (lw_tm 797 (by decide +kernel)))
  obtain ⟨a3, b3, d3⟩ := lw_arp (hts (Cond.arrayClass .boolean) (lw_tm 795 (by decide +kernel)))
  obtain ⟨a8, b8, d8⟩ := lw_arp (hts (Cond.arrayClass .double) (lw_tm 949 (by decide +kernel)))
  obtain ⟨a4, b4, d4⟩ := lw_aro (hts (Cond.arrayOver (.object RX5)) (lw_tm 29 (by decide +kernel)))
  obtain ⟨a5, b5, d5⟩ := lw_aro (hts (Cond.arrayOver (.object RX4)) (lw_tm 31 (by decide +kernel)))
  obtain ⟨a6, b6, d6⟩ := lw_aro (hts (Cond.arrayOver (.object RX1)) (lw_tm 33 (by decide +kernel)))
  obtain ⟨a7, b7, d7⟩ := lw_aro (hts (Cond.arrayOver (.object RX3)) (lw_tm 41 (by decide +kernel)))
  refine ⟨(fun k => match k with | 0 => c0 | 1 => c1 | 2 => c2 | 3 => c3 | 4 => c4 | 5 => c5 | 6 => c6 | _ => c7, fun k => match k with | 0 => i0 | 1 => i1 | 2 => i2 | 3 => i3 | 4 => i4 | 5 => i5 | 6 => i6 | _ => i7), fun k => match k with | 0 => a0 | 1 => a1 | 2 => a2 | 3 => a3 | 4 => a4 | 5 => a5 | 6 => a6 | 7 => a7 | _ => a8, fun k q hk => ?_, fun k q hk => ?_⟩
  · match k, hk with
    | 0, hk => cases hk; exact k0
    | 1, hk => cases hk; exact k1
    | 2, hk => cases hk; exact k2
    | 3, hk => cases hk; exact k3
    | 4, hk => cases hk; exact k4
    | 5, hk => cases hk; exact k5
    | 6, hk => cases hk; exact k6
    | 7, hk => cases hk; exact k7
    | k + 8, hk => exact nomatch hk
  · match k, hk with
    | 0, hk => cases hk; exact ⟨b0, d0⟩
    | 1, hk => cases hk; exact ⟨b1, d1⟩
    | 2, hk => cases hk; exact ⟨b2, d2⟩
    | 3, hk => cases hk; exact ⟨b3, d3⟩
    | 4, hk => cases hk; exact ⟨b4, d4⟩
    | 5, hk => cases hk; exact ⟨b5, d5⟩
    | 6, hk => cases hk; exact ⟨b6, d6⟩
    | 7, hk => cases hk; exact ⟨b7, d7⟩
    | 8, hk => cases hk; exact ⟨b8, d8⟩
    | k + 9, hk => exact nomatch hk
set_option maxHeartbeats 4000000 in
set_option maxRecDepth 100000 in
theorem lw_G {s : State} {args : Array Value} {A : Nat → Prop} (hts : ∀ w ∈ lw_tbl, w.before args s = true) (r1 : (Cond.isRef (.static Bundle.tN "UNASSIGNED_STACK" Bundle.steD)).before args s = true) (r2 : (Cond.isRef (.static Bundle.tN "SUPPRESSED_SENTINEL" Bundle.listD)).before args s = true) (hA : ∀ a : Nat, a < s.heap.size → ¬ A a) : ∃ sa : Nat → Nat, wG sa A s := by
  obtain ⟨c6, i6, k6⟩ := u_known (C := RX6) (T := TX6) (N := 8) (n := 8) hts inX6 (hts (Cond.instantiable RX6 8) (lw_tm 21 (by decide +kernel)))
  have hini : (Cond.initialized Bundle.tN).before args s = true := hts (Cond.initialized Bundle.tN) (lw_tm 4 (by decide +kernel))
  have hex : ∀ i : Nat, ∃ a : Nat, ∀ q : String × Nat × String, wSt[i]? = some q → vk_R q.1 q.2.1 q.2.2 a s := by
    intro i
    cases hq : wSt[i]? with
    | none => exact ⟨0, fun q h => nomatch h⟩
    | some q =>
      have hm := List.mem_of_getElem? hq
      have h1 : (Cond.stringRef q.1 q.2.1 q.2.2).before args s = true := hts _ (wSt_in _ (List.mem_map.mpr ⟨q, hm, rfl⟩))
      have hc : s.vm.findClass q.1 = some c6 := by
        rw [wSt_6 q hm]
        exact k6.2.1
      obtain ⟨-, -, -, a, -, -, -, -, -, hev⟩ := Cond.stringRef_spec hc h1
      exact ⟨a, fun q2 h2 => by
        cases h2
        exact vk_R.of h1 hev⟩
  obtain ⟨sa, hsa⟩ := Classical.axiomOfChoice hex
  refine ⟨sa, fun w hw => va_Nw.of (wNW_ot w hw) (hts w (wNW_in w hw)), hsa, vx_Zqof (hts _ (lw_tm 127 (by decide +kernel))) hini r1 hA, vx_Zqof (hts _ (lw_tm 129 (by decide +kernel))) hini r2 hA, fun C hC => va_AO.of (hts _ (wAr_in _ (List.mem_map.mpr ⟨C, hC, rfl⟩)))⟩
theorem nzD {N : Nat} (cA : ClassId) : vp_cell cA (N, .inr (.inr (.inr (.inl (fun _ => 0))))) = arrV cA N (fun _ => defaultValue .double) := rfl
