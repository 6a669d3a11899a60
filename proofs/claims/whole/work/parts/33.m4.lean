theorem clr_s {F : FF} {r k : Nat} (h : F 21 k = r + 1) : f_clr F r (k + 1) = fU (f_clr F r k) 21 k 0 := by
  have e : f_clr F r k 21 k = r + 1 := by rw [clr_21, if_neg (fun q => Nat.lt_irrefl _ q.1)]; exact h
  exact if_pos e
theorem clr_n {F : FF} {r k : Nat} (h : ¬ F 21 k = r + 1) : f_clr F r (k + 1) = f_clr F r k := by
  have e : ¬ f_clr F r k 21 k = r + 1 := by rw [clr_21, if_neg (fun q => Nat.lt_irrefl _ q.1)]; exact h
  exact if_neg e
theorem und_9 {F : FF} {i k : Nat} : fU (f_und F i k) 9 i (F 9 i) = f_und F i k := by
  have e : f_und F i k 9 i = F 9 i := und_a (by decide) (by decide) (by decide) (by decide) (by decide)
  rw [← e, fU_id]
set_option maxHeartbeats 4000000 in
set_option maxRecDepth 100000 in
theorem k_X7_ends (l : Launch) (hst : l.stackTraces = false) (E : wEn) (w : wW) (sz : Nat) (F : FF) (MA : Nat → Nat) (mo : Nat) (cd : Int32) (N : Nat) (hI : wInv F N) (i v9 : Nat) (hi : i < F 24 0) (hm : wMod E (fU F 9 i v9) MA mo cd w) : wM l yX7_ends wsX7_ends 0 0 0 E w sz [.ref mo, .int (nI i), .int 1] (fun v w2 => v = some (.int (nI (n_und F i (F 24 3)))) ∧ wMod E (fU (f_und F i (F 24 3)) 9 i v9) MA mo cd w2 ∧ wKm mo MA w w2) (fun _ _ => False) := by
  refine wm_start (own := RX7) (cc := cX7_ends) (maxL := 7) (ret := (some .int)) rfl (by decide) rfl (Nat.le_of_ble_eq_true rfl) ?_
  intro p e s m args below meth c ls C0 hr hin ht hP hS hl
  have hx := C0.1
  have hb := C0.2.1
  have hts := C0.2.2.2.2.1
  have hown := C0.2.2.2.1
  have hl : lv_has ls 7 [(0, .ref mo), (1, .int (nI i)), (2, .int 1)] := hl
  have hf_25 : (Cond.fieldLink RX7 25 "CallGatewayModel" "canary" "[Z").before args s = true := hts _ (by decide +kernel)
  have hf_120 : (Cond.fieldLink RX7 120 "CallGatewayModel" "calls" "I").before args s = true := hts _ (by decide +kernel)
  have hf_76 : (Cond.fieldLink RX7 76 "CallGatewayModel" "callOpen" "[I").before args s = true := hts _ (by decide +kernel)
  have hf_60 : (Cond.fieldLink RX7 60 "CallGatewayModel" "callCaller" "[I").before args s = true := hts _ (by decide +kernel)
  have hf_44 : (Cond.fieldLink RX7 44 "CallGatewayModel" "bursts" "[I").before args s = true := hts _ (by decide +kernel)
  have hf_50 : (Cond.fieldLink RX7 50 "CallGatewayModel" "planOf" "[I").before args s = true := hts _ (by decide +kernel)
  have hf_73 : (Cond.fieldLink RX7 73 "CallGatewayModel" "undone" "[Z").before args s = true := hts _ (by decide +kernel)
  have hf_53 : (Cond.fieldLink RX7 53 "CallGatewayModel" "tokens" "[I").before args s = true := hts _ (by decide +kernel)
  have hf_67 : (Cond.fieldLink RX7 67 "CallGatewayModel" "callTook" "[I").before args s = true := hts _ (by decide +kernel)
  have hf_56 : (Cond.fieldLink RX7 56 "CallGatewayModel" "bills" "[J").before args s = true := hts _ (by decide +kernel)
  have hf_70 : (Cond.fieldLink RX7 70 "CallGatewayModel" "callPaid" "[I").before args s = true := hts _ (by decide +kernel)
  have hi_RX7 : ∀ w ∈ u_ws RX7 TX7 27, w ∈ wsX7_ends := fun _ h => List.mem_cons_of_mem _ (List.mem_append_left _ (List.mem_append_right _ h))
  have hn9 := hI.n
  refine lv_iconst (v := 0) hx hb dX7_ends_0 (by decide) ?_
  refine lv_istore_n (lv' := [(3, .int 0), (0, .ref mo), (1, .int (nI i)), (2, .int 1)]) hx hb dX7_ends_1 rfl hl (by decide) rfl (fun ls hl => ?_)
  refine lv_aload_n hx hb dX7_ends_2 rfl (lv_at hl 1 rfl) ?_
  refine wl_get (T := TX7) C0 hP (show w mo = some (.inr (7, [.int cd, .int (nI (F 24 0)), .ref (MA 0), .ref (MA 1), .ref (MA 2), .ref (MA 3), .ref (MA 4), .ref (MA 5), .ref (MA 6), .ref (MA 7), .ref (MA 8), .ref (MA 9), .int (nI (F 24 1)), .ref (MA 10), .ref (MA 11), .ref (MA 12), .int (nI (F 24 2)), .ref (MA 13), .ref (MA 14), .ref (MA 15), .int (nI (F 24 3)), .ref (MA 16), .ref (MA 17), .ref (MA 18), .ref (MA 19), .ref (MA 20), .ref (MA 21)])) from hm.x) hi_RX7 rfl 7 (by decide) hf_25 rfl dX7_ends_3 ?_
  refine lv_iload_n hx hb dX7_ends_6 rfl (lv_at hl 2 rfl) ?_
  refine lv_iconst (v := 0) hx hb dX7_ends_7 (by decide) ?_
  refine wl_zast C0 hP hS (show w (MA 5) = some (.inl (E.2.1 3, 8, .inl (fun i => nI (F 5 i)))) from hm.i 5 (by decide) rfl rfl rfl) (vp_in_nI (by omega) (by omega)) dX7_ends_8 (fun H locs hP hS => ?_)
  obtain ⟨w_8_0, hw9, hm_8_0, hk_8_0⟩ : ∃ wz : wW, wz = wU w (MA 5) (.inl (E.2.1 3, 8, .inl (upd (fun i => nI (F 5 i)) (nI i).toNatClampNeg (vp_nar .boolean 0)))) ∧ wMod E (fU (fU F 9 i v9) 5 i 0) MA mo cd wz ∧ wKm mo MA w wz := ⟨_, rfl, M_s (F := fU F 9 i v9) hm 5 i 0 (by decide) (by rw [show (nI i).toNatClampNeg = i from nI_clamp (by omega), show vp_nar .boolean 0 = nI 0 from rfl, upd_nI]; rfl), wKm.rf.tr (wKm.s (by decide))⟩
  rw [← hw9] at hP
  refine lv_iconst (v := 0) hx hb dX7_ends_9 (by decide) ?_
  refine lv_istore (lv' := [(4, .int 0), (3, .int 0), (0, .ref mo), (1, .int (nI i)), (2, .int 1)]) hx hb dX7_ends_10 hl (by decide) rfl (fun ls hl => ?_)
  have LP : ∀ (nF : Nat) (j k : Nat) (w1 : wW) (H : Heap) (locs : List Loc), wP E.1 (wA w sz) w1 H → va_S (wA w sz) s.heap H locs → F 24 3 - j < nF → (j ≤ F 24 3) → (k = n_und F i j) → (wMod E (fU (f_und F i j) 9 i v9) MA mo cd w1) → (wKm mo MA w w1) → ∀ (ls : Array Slot), lv_has ls 7 [(0, .ref mo), (1, .int (nI i)), (2, .int 1), (3, .int (nI k)), (4, .int (nI j))] → W p l e (wRm 0 0 0) s m args below meth c H locs 0 0 (vx_MQ below (wQ E (wA w sz) (fun v w2 => v = some (.int (nI (n_und F i (F 24 3)))) ∧ wMod E (fU (f_und F i (F 24 3)) 9 i v9) MA mo cd w2 ∧ wKm mo MA w w2)) (wX E (wA w sz) (fun _ _ => False)) args s 0 0 (wA w sz)) (F0 m 12 ls []) := by
    intro nF
    induction nF with
    | zero => intro j k w1 H locs hP hS hn; exact absurd hn (Nat.not_lt_zero _)
    | succ nF ih =>
      intro j k w1 H locs hP hS hn i1 i2 i3 i4 ls hl
      obtain ⟨X, hX⟩ : ∃ X : FF, X = fU (f_und F i j) 9 i v9 := ⟨_, rfl⟩
      rw [← hX] at i3
      have xa : ∀ a b, a ≠ 5 → a ≠ 9 → a ≠ 14 → a ≠ 15 → a ≠ 20 → a ≠ 21 → X a b = F a b := fun a b h5 h9 h14 h15 h20 h21 => by
        rw [hX, fU_k h9]
        exact und_a h5 h14 h15 h20 h21
      have x24 : X 24 3 = F 24 3 := xa _ _ (by decide) (by decide) (by decide) (by decide) (by decide) (by decide)
      have x21 : X 21 j = F 21 j := by rw [hX, fU_k (by decide), und_21, if_neg (fun q => Nat.lt_irrefl _ q.1)]
      refine lv_iload hx hb dX7_ends_12 (lv_at hl 4 rfl) ?_
      refine lv_aload_n hx hb dX7_ends_14 rfl (lv_at hl 0 rfl) ?_
      refine wl_get (T := TX7) C0 hP (show w1 mo = some (.inr (7, [.int cd, .int (nI (X 24 0)), .ref (MA 0), .ref (MA 1), .ref (MA 2), .ref (MA 3), .ref (MA 4), .ref (MA 5), .ref (MA 6), .ref (MA 7), .ref (MA 8), .ref (MA 9), .int (nI (X 24 1)), .ref (MA 10), .ref (MA 11), .ref (MA 12), .int (nI (X 24 2)), .ref (MA 13), .ref (MA 14), .ref (MA 15), .int (nI (X 24 3)), .ref (MA 16), .ref (MA 17), .ref (MA 18), .ref (MA 19), .ref (MA 20), .ref (MA 21)])) from i3.x) hi_RX7 rfl 20 (by decide) hf_120 rfl dX7_ends_15 ?_
      refine lv_icmp_ge (tgt := 149) hx hb dX7_ends_18 (by decide) (fun c_18 => ?_) (fun c_18 => ?_)
      · have q18 : F 24 3 ≤ j := by
          have h := (nI_leI (by omega) (by omega)).mp c_18
          omega
        refine lv_iload_n hx hb dX7_ends_149 rfl (lv_at hl 3 rfl) ?_
        exact wl_iret C0 hr rfl hP hS dX7_ends_150 (Nat.le_of_ble_eq_true rfl) (Nat.le_of_ble_eq_true rfl) (⟨by rw [i2, show j = F 24 3 by omega], by rw [show F 24 3 = j by omega, ← hX]; exact i3, i4⟩)
      · have q18 : j < F 24 3 := Nat.not_le.mp (fun q => c_18 ((nI_leI (by omega) (by omega)).mpr (by omega)))
        have hej := hI.en q18
        refine lv_aload_n hx hb dX7_ends_21 rfl (lv_at hl 0 rfl) ?_
        refine wl_get (T := TX7) C0 hP (show w1 mo = some (.inr (7, [.int cd, .int (nI (X 24 0)), .ref (MA 0), .ref (MA 1), .ref (MA 2), .ref (MA 3), .ref (MA 4), .ref (MA 5), .ref (MA 6), .ref (MA 7), .ref (MA 8), .ref (MA 9), .int (nI (X 24 1)), .ref (MA 10), .ref (MA 11), .ref (MA 12), .int (nI (X 24 2)), .ref (MA 13), .ref (MA 14), .ref (MA 15), .int (nI (X 24 3)), .ref (MA 16), .ref (MA 17), .ref (MA 18), .ref (MA 19), .ref (MA 20), .ref (MA 21)])) from i3.x) hi_RX7 rfl 26 (by decide) hf_76 rfl dX7_ends_22 ?_
        refine lv_iload hx hb dX7_ends_25 (lv_at hl 4 rfl) ?_
        refine wl_iald C0 hP (show w1 (MA 21) = some (.inl (E.2.1 0, 700, .inl (fun i => oI (X 21 i)))) from i3.i 21 (by decide) rfl rfl rfl) (vp_in_nI (by omega) (by omega)) dX7_ends_27 ?_
        refine W.eq (g2 := F0 m 28 ls [.int (oI (X 21 j))]) (by rw [show (nI j).toNatClampNeg = j from nI_clamp (by omega)]) ?_
        refine lv_iload_n hx hb dX7_ends_28 rfl (lv_at hl 1 rfl) ?_
        refine lv_icmp_ne (tgt := 143) hx hb dX7_ends_29 (by decide) (fun c_29 => ?_) (fun c_29 => ?_)
        · have q29 : ¬ F 21 j = i + 1 := fun q => c_29 ((oI_eq (by omega) (by omega)).mpr (by rw [x21]; exact q))
          refine lv_iinc (v := nI (j + 1)) (lv' := [(4, .int (nI (j + 1))), (0, .ref mo), (1, .int (nI i)), (2, .int 1), (3, .int (nI k))]) hx hb dX7_ends_143 hl (k := 4) rfl (nI_1 _) (by decide) rfl (fun ls hl => ?_)
          refine lv_goto (tgt := 12) hx hb dX7_ends_146 (by decide) ?_
          exact ih (j + 1) k w1 _ _ hP hS (by omega) (by omega) (by rw [i2]; exact (ct_n (by simp [q29])).symm) (by rw [und_n q29, ← hX]; exact i3) (i4) ls (lv_sub hl [1, 2, 3, 4, 0] rfl)
        · have q29 : F 21 j = i + 1 := by
            rw [← x21]
            exact (oI_eq (by omega) (by omega)).mp c_29
          have hec := hI.cl hej.1
          have hpl := hI.pl hec.1
          have x16 : X 16 j = F 16 j := xa 16 j (by decide) (by decide) (by decide) (by decide) (by decide) (by decide)
          have x13 : X 13 (F 16 j) = F 13 (F 16 j) := xa 13 _ (by decide) (by decide) (by decide) (by decide) (by decide) (by decide)
          have x11 : X 11 (F 13 (F 16 j)) = F 11 (F 13 (F 16 j)) := xa 11 _ (by decide) (by decide) (by decide) (by decide) (by decide) (by decide)
          have x18 : X 18 j = F 18 j := xa 18 j (by decide) (by decide) (by decide) (by decide) (by decide) (by decide)
          have x19 : X 19 j = F 19 j := xa 19 j (by decide) (by decide) (by decide) (by decide) (by decide) (by decide)
          have x14 : X 14 (F 16 j) ≤ F 11 (F 13 (F 16 j)) := by
            rw [hX, fU_k (by decide)]
            exact und_14 hI hej.1
          have h20 : f_und F i j 20 j = 0 := by
            rw [und_20, if_neg (fun q => Nat.lt_irrefl _ q.1)]
            exact (hI.op q18 (by omega)).2.2
          have x15 : X 15 (F 16 j) = sm (fun x => if F 16 x = F 16 j ∧ f_und F i j 20 x = 0 then F 19 x else 0) (F 24 3) := by
            rw [hX, fU_k (by decide)]
            exact und_15 hI i1 hej.1
          have h19a : F 19 j ≤ X 15 (F 16 j) := by
            have h := sm_ge (f := fun x => if F 16 x = F 16 j ∧ f_und F i j 20 x = 0 then F 19 x else 0) q18
            rw [x15]
            simpa only [h20, and_self, if_true] using h
          refine lv_aload_n hx hb dX7_ends_32 rfl (lv_at hl 0 rfl) ?_
          refine wl_get (T := TX7) C0 hP (show w1 mo = some (.inr (7, [.int cd, .int (nI (X 24 0)), .ref (MA 0), .ref (MA 1), .ref (MA 2), .ref (MA 3), .ref (MA 4), .ref (MA 5), .ref (MA 6), .ref (MA 7), .ref (MA 8), .ref (MA 9), .int (nI (X 24 1)), .ref (MA 10), .ref (MA 11), .ref (MA 12), .int (nI (X 24 2)), .ref (MA 13), .ref (MA 14), .ref (MA 15), .int (nI (X 24 3)), .ref (MA 16), .ref (MA 17), .ref (MA 18), .ref (MA 19), .ref (MA 20), .ref (MA 21)])) from i3.x) hi_RX7 rfl 26 (by decide) hf_76 rfl dX7_ends_33 ?_
          refine lv_iload hx hb dX7_ends_36 (lv_at hl 4 rfl) ?_
          refine lv_iconst (v := -1) hx hb dX7_ends_38 (by decide) ?_
          refine wl_iast C0 hP hS (show w1 (MA 21) = some (.inl (E.2.1 0, 700, .inl (fun i => oI (X 21 i)))) from i3.i 21 (by decide) rfl rfl rfl) (vp_in_nI (by omega) (by omega)) dX7_ends_39 (fun H locs hP hS => ?_)
          obtain ⟨w_39_1, hw9, hm_39_1, hk_39_1⟩ : ∃ wz : wW, wz = wU w1 (MA 21) (.inl (E.2.1 0, 700, .inl (upd (fun i => oI (X 21 i)) (nI j).toNatClampNeg (-1)))) ∧ wMod E (fU X 21 j 0) MA mo cd wz ∧ wKm mo MA w wz := ⟨_, rfl, M_s (F := X) i3 21 j 0 (by decide) (by rw [show (nI j).toNatClampNeg = j from nI_clamp (by omega), show (-1 : Int32) = oI 0 by decide, upd_oI]; rfl), i4.tr (wKm.s (by decide))⟩
          rw [← hw9] at hP
          refine lv_iload_n hx hb dX7_ends_40 rfl (lv_at hl 2 rfl) ?_
          refine lv_if_eq (tgt := 143) hx hb dX7_ends_41 (by decide) (fun c_41 => ?_) (fun c_41 => ?_)
          · exact absurd c_41 (by decide)
          · refine lv_aload_n hx hb dX7_ends_44 rfl (lv_at hl 0 rfl) ?_
            refine wl_get (T := TX7) C0 hP (show w_39_1 mo = some (.inr (7, [.int cd, .int (nI (X 24 0)), .ref (MA 0), .ref (MA 1), .ref (MA 2), .ref (MA 3), .ref (MA 4), .ref (MA 5), .ref (MA 6), .ref (MA 7), .ref (MA 8), .ref (MA 9), .int (nI (X 24 1)), .ref (MA 10), .ref (MA 11), .ref (MA 12), .int (nI (X 24 2)), .ref (MA 13), .ref (MA 14), .ref (MA 15), .int (nI (X 24 3)), .ref (MA 16), .ref (MA 17), .ref (MA 18), .ref (MA 19), .ref (MA 20), .ref (MA 21)])) from hm_39_1.x) hi_RX7 rfl 21 (by decide) hf_60 rfl dX7_ends_45 ?_
            refine lv_iload hx hb dX7_ends_48 (lv_at hl 4 rfl) ?_
            refine wl_iald C0 hP (show w_39_1 (MA 16) = some (.inl (E.2.1 0, 700, .inl (fun i => nI (X 16 i)))) from hm_39_1.i 16 (by decide) rfl rfl rfl) (vp_in_nI (by omega) (by omega)) dX7_ends_50 ?_
            refine W.eq (g2 := F0 m 51 ls [.int (nI (X 16 j))]) (by rw [show (nI j).toNatClampNeg = j from nI_clamp (by omega)]) ?_
            rw [show (nI (X 16 j)) = (nI (F 16 j)) from by rw [x16]]
            refine lv_istore (lv' := [(5, .int (nI (F 16 j))), (0, .ref mo), (1, .int (nI i)), (2, .int 1), (3, .int (nI k)), (4, .int (nI j))]) hx hb dX7_ends_51 hl (by decide) rfl (fun ls hl => ?_)
            refine lv_aload_n hx hb dX7_ends_53 rfl (lv_at hl 1 rfl) ?_
            refine wl_get (T := TX7) C0 hP (show w_39_1 mo = some (.inr (7, [.int cd, .int (nI (X 24 0)), .ref (MA 0), .ref (MA 1), .ref (MA 2), .ref (MA 3), .ref (MA 4), .ref (MA 5), .ref (MA 6), .ref (MA 7), .ref (MA 8), .ref (MA 9), .int (nI (X 24 1)), .ref (MA 10), .ref (MA 11), .ref (MA 12), .int (nI (X 24 2)), .ref (MA 13), .ref (MA 14), .ref (MA 15), .int (nI (X 24 3)), .ref (MA 16), .ref (MA 17), .ref (MA 18), .ref (MA 19), .ref (MA 20), .ref (MA 21)])) from hm_39_1.x) hi_RX7 rfl 14 (by decide) hf_44 rfl dX7_ends_54 ?_
            refine lv_aload_n hx hb dX7_ends_57 rfl (lv_at hl 1 rfl) ?_
            refine wl_get (T := TX7) C0 hP (show w_39_1 mo = some (.inr (7, [.int cd, .int (nI (X 24 0)), .ref (MA 0), .ref (MA 1), .ref (MA 2), .ref (MA 3), .ref (MA 4), .ref (MA 5), .ref (MA 6), .ref (MA 7), .ref (MA 8), .ref (MA 9), .int (nI (X 24 1)), .ref (MA 10), .ref (MA 11), .ref (MA 12), .int (nI (X 24 2)), .ref (MA 13), .ref (MA 14), .ref (MA 15), .int (nI (X 24 3)), .ref (MA 16), .ref (MA 17), .ref (MA 18), .ref (MA 19), .ref (MA 20), .ref (MA 21)])) from hm_39_1.x) hi_RX7 rfl 17 (by decide) hf_50 rfl dX7_ends_58 ?_
            refine lv_iload hx hb dX7_ends_61 (lv_at hl 0 rfl) ?_
            refine wl_iald C0 hP (show w_39_1 (MA 13) = some (.inl (E.2.1 0, 6, .inl (fun i => nI (X 13 i)))) from hm_39_1.i 13 (by decide) rfl rfl rfl) (vp_in_nI (by omega) (by omega)) dX7_ends_63 ?_
            refine W.eq (g2 := F0 m 64 ls [.int (nI (X 13 (F 16 j))), .ref (MA 11)]) (by rw [show (nI (F 16 j)).toNatClampNeg = (F 16 j) from nI_clamp (by omega)]) ?_
            rw [show (nI (X 13 (F 16 j))) = (nI (F 13 (F 16 j))) from by rw [x13]]
            refine wl_iald C0 hP (show w_39_1 (MA 11) = some (.inl (E.2.1 0, 3, .inl (fun i => nI (X 11 i)))) from hm_39_1.i 11 (by decide) rfl rfl rfl) (vp_in_nI (by omega) (by omega)) dX7_ends_64 ?_
            refine W.eq (g2 := F0 m 65 ls [.int (nI (X 11 (F 13 (F 16 j))))]) (by rw [show (nI (F 13 (F 16 j))).toNatClampNeg = (F 13 (F 16 j)) from nI_clamp (by omega)]) ?_
            rw [show (nI (X 11 (F 13 (F 16 j)))) = (nI (F 11 (F 13 (F 16 j)))) from by rw [x11]]
            refine lv_istore (lv' := [(6, .int (nI (F 11 (F 13 (F 16 j))))), (5, .int (nI (F 16 j))), (0, .ref mo), (1, .int (nI i)), (2, .int 1), (3, .int (nI k)), (4, .int (nI j))]) hx hb dX7_ends_65 hl (by decide) rfl (fun ls hl => ?_)
            refine lv_aload_n hx hb dX7_ends_67 rfl (lv_at hl 2 rfl) ?_
            refine wl_get (T := TX7) C0 hP (show w_39_1 mo = some (.inr (7, [.int cd, .int (nI (X 24 0)), .ref (MA 0), .ref (MA 1), .ref (MA 2), .ref (MA 3), .ref (MA 4), .ref (MA 5), .ref (MA 6), .ref (MA 7), .ref (MA 8), .ref (MA 9), .int (nI (X 24 1)), .ref (MA 10), .ref (MA 11), .ref (MA 12), .int (nI (X 24 2)), .ref (MA 13), .ref (MA 14), .ref (MA 15), .int (nI (X 24 3)), .ref (MA 16), .ref (MA 17), .ref (MA 18), .ref (MA 19), .ref (MA 20), .ref (MA 21)])) from hm_39_1.x) hi_RX7 rfl 25 (by decide) hf_73 rfl dX7_ends_68 ?_
            refine lv_iload hx hb dX7_ends_71 (lv_at hl 6 rfl) ?_
            refine lv_iconst (v := 1) hx hb dX7_ends_73 (by decide) ?_
            refine wl_zast C0 hP hS (show w_39_1 (MA 20) = some (.inl (E.2.1 3, 700, .inl (fun i => nI (X 20 i)))) from hm_39_1.i 20 (by decide) rfl rfl rfl) (vp_in_nI (by omega) (by omega)) dX7_ends_74 (fun H locs hP hS => ?_)
            obtain ⟨w_74_2, hw9, hm_74_2, hk_74_2⟩ : ∃ wz : wW, wz = wU w_39_1 (MA 20) (.inl (E.2.1 3, 700, .inl (upd (fun i => nI (X 20 i)) (nI j).toNatClampNeg (vp_nar .boolean 1)))) ∧ wMod E (fU (fU X 21 j 0) 20 j 1) MA mo cd wz ∧ wKm mo MA w wz := ⟨_, rfl, M_s (F := fU X 21 j 0) hm_39_1 20 j 1 (by decide) (by rw [show (nI j).toNatClampNeg = j from nI_clamp (by omega), show vp_nar .boolean 1 = nI 1 from rfl, upd_nI]; rfl), hk_39_1.tr (wKm.s (by decide))⟩
            rw [← hw9] at hP
            refine lv_aload_n hx hb dX7_ends_75 rfl (lv_at hl 2 rfl) ?_
            refine wl_get (T := TX7) C0 hP (show w_74_2 mo = some (.inr (7, [.int cd, .int (nI (X 24 0)), .ref (MA 0), .ref (MA 1), .ref (MA 2), .ref (MA 3), .ref (MA 4), .ref (MA 5), .ref (MA 6), .ref (MA 7), .ref (MA 8), .ref (MA 9), .int (nI (X 24 1)), .ref (MA 10), .ref (MA 11), .ref (MA 12), .int (nI (X 24 2)), .ref (MA 13), .ref (MA 14), .ref (MA 15), .int (nI (X 24 3)), .ref (MA 16), .ref (MA 17), .ref (MA 18), .ref (MA 19), .ref (MA 20), .ref (MA 21)])) from hm_74_2.x) hi_RX7 rfl 18 (by decide) hf_53 rfl dX7_ends_76 ?_
            refine lv_iload hx hb dX7_ends_79 (lv_at hl 1 rfl) ?_
            refine lv_aload_n hx hb dX7_ends_81 rfl (lv_at hl 2 rfl) ?_
            refine wl_get (T := TX7) C0 hP (show w_74_2 mo = some (.inr (7, [.int cd, .int (nI (X 24 0)), .ref (MA 0), .ref (MA 1), .ref (MA 2), .ref (MA 3), .ref (MA 4), .ref (MA 5), .ref (MA 6), .ref (MA 7), .ref (MA 8), .ref (MA 9), .int (nI (X 24 1)), .ref (MA 10), .ref (MA 11), .ref (MA 12), .int (nI (X 24 2)), .ref (MA 13), .ref (MA 14), .ref (MA 15), .int (nI (X 24 3)), .ref (MA 16), .ref (MA 17), .ref (MA 18), .ref (MA 19), .ref (MA 20), .ref (MA 21)])) from hm_74_2.x) hi_RX7 rfl 18 (by decide) hf_53 rfl dX7_ends_82 ?_
            refine lv_iload hx hb dX7_ends_85 (lv_at hl 1 rfl) ?_
            refine wl_iald C0 hP (show w_74_2 (MA 14) = some (.inl (E.2.1 0, 6, .inl (fun i => nI (X 14 i)))) from hm_74_2.i 14 (by decide) rfl rfl rfl) (vp_in_nI (by omega) (by omega)) dX7_ends_87 ?_
            refine W.eq (g2 := F0 m 88 ls [.int (nI (X 14 (F 16 j))), .int (nI (F 16 j)), .ref (MA 14)]) (by rw [show (nI (F 16 j)).toNatClampNeg = (F 16 j) from nI_clamp (by omega)]) ?_
            refine lv_aload_n hx hb dX7_ends_88 rfl (lv_at hl 2 rfl) ?_
            refine wl_get (T := TX7) C0 hP (show w_74_2 mo = some (.inr (7, [.int cd, .int (nI (X 24 0)), .ref (MA 0), .ref (MA 1), .ref (MA 2), .ref (MA 3), .ref (MA 4), .ref (MA 5), .ref (MA 6), .ref (MA 7), .ref (MA 8), .ref (MA 9), .int (nI (X 24 1)), .ref (MA 10), .ref (MA 11), .ref (MA 12), .int (nI (X 24 2)), .ref (MA 13), .ref (MA 14), .ref (MA 15), .int (nI (X 24 3)), .ref (MA 16), .ref (MA 17), .ref (MA 18), .ref (MA 19), .ref (MA 20), .ref (MA 21)])) from hm_74_2.x) hi_RX7 rfl 23 (by decide) hf_67 rfl dX7_ends_89 ?_
            refine lv_iload hx hb dX7_ends_92 (lv_at hl 6 rfl) ?_
            refine wl_iald C0 hP (show w_74_2 (MA 18) = some (.inl (E.2.1 0, 700, .inl (fun i => nI (X 18 i)))) from hm_74_2.i 18 (by decide) rfl rfl rfl) (vp_in_nI (by omega) (by omega)) dX7_ends_94 ?_
            refine W.eq (g2 := F0 m 95 ls [.int (nI (X 18 j)), .int (nI (X 14 (F 16 j))), .int (nI (F 16 j)), .ref (MA 14)]) (by rw [show (nI j).toNatClampNeg = j from nI_clamp (by omega)]) ?_
            rw [show (nI (X 18 j)) = (nI (F 18 j)) from by rw [x18]]
            refine lv_iadd hx hb dX7_ends_95 ?_
            rw [show ((nI (X 14 (F 16 j))) + (nI (F 18 j))) = (nI (X 14 (F 16 j) + F 18 j)) from nI_add _ _]
            refine lv_iload hx hb dX7_ends_96 (lv_at hl 0 rfl) ?_
            refine lv_icmp_ge (tgt := 119) hx hb dX7_ends_98 (by decide) (fun c_98 => ?_) (fun c_98 => ?_)
            · have q98 : F 11 (F 13 (F 16 j)) ≤ X 14 (F 16 j) + F 18 j := (nI_leI (by omega) (by omega)).mp c_98
              refine lv_iload hx hb dX7_ends_119 (lv_at hl 0 rfl) ?_
              refine W.eq (g2 := F0 m 121 ls [.int (nI (Nat.min (X 14 (F 16 j) + F 18 j) (F 11 (F 13 (F 16 j))))), .int (nI (F 16 j)), .ref (MA 14)]) (by rw [show Nat.min (X 14 (F 16 j) + F 18 j) (F 11 (F 13 (F 16 j))) = F 11 (F 13 (F 16 j)) from Nat.min_eq_right q98]) ?_
              refine wl_iast C0 hP hS (show w_74_2 (MA 14) = some (.inl (E.2.1 0, 6, .inl (fun i => nI (X 14 i)))) from hm_74_2.i 14 (by decide) rfl rfl rfl) (vp_in_nI (by omega) (by omega)) dX7_ends_121 (fun H locs hP hS => ?_)
              obtain ⟨w_121_3, hw9, hm_121_3, hk_121_3⟩ : ∃ wz : wW, wz = wU w_74_2 (MA 14) (.inl (E.2.1 0, 6, .inl (upd (fun i => nI (X 14 i)) (nI (F 16 j)).toNatClampNeg (nI (Nat.min (X 14 (F 16 j) + F 18 j) (F 11 (F 13 (F 16 j)))))))) ∧ wMod E (fU (fU (fU X 21 j 0) 20 j 1) 14 (F 16 j) (Nat.min (X 14 (F 16 j) + F 18 j) (F 11 (F 13 (F 16 j))))) MA mo cd wz ∧ wKm mo MA w wz := ⟨_, rfl, M_s (F := fU (fU X 21 j 0) 20 j 1) hm_74_2 14 (F 16 j) (Nat.min (X 14 (F 16 j) + F 18 j) (F 11 (F 13 (F 16 j)))) (by decide) (by rw [show (nI (F 16 j)).toNatClampNeg = (F 16 j) from nI_clamp (by omega), upd_nI]; rfl), hk_74_2.tr (wKm.s (by decide))⟩
              rw [← hw9] at hP
              refine lv_aload_n hx hb dX7_ends_122 rfl (lv_at hl 2 rfl) ?_
              refine wl_get (T := TX7) C0 hP (show w_121_3 mo = some (.inr (7, [.int cd, .int (nI (X 24 0)), .ref (MA 0), .ref (MA 1), .ref (MA 2), .ref (MA 3), .ref (MA 4), .ref (MA 5), .ref (MA 6), .ref (MA 7), .ref (MA 8), .ref (MA 9), .int (nI (X 24 1)), .ref (MA 10), .ref (MA 11), .ref (MA 12), .int (nI (X 24 2)), .ref (MA 13), .ref (MA 14), .ref (MA 15), .int (nI (X 24 3)), .ref (MA 16), .ref (MA 17), .ref (MA 18), .ref (MA 19), .ref (MA 20), .ref (MA 21)])) from hm_121_3.x) hi_RX7 rfl 19 (by decide) hf_56 rfl dX7_ends_123 ?_
              refine lv_iload hx hb dX7_ends_126 (lv_at hl 1 rfl) ?_
              refine lv_dup2_11 hx hb dX7_ends_128 rfl rfl ?_
              refine wl_lald C0 hP (show w_121_3 (MA 15) = some (.inl (E.2.1 1, 6, .inr (.inl (fun i => lN (X 15 i))))) from hm_121_3.l) (vp_in_nI (by omega) (by omega)) dX7_ends_129 ?_
              refine W.eq (g2 := F0 m 130 ls [.long (lN (X 15 (F 16 j))), .int (nI (F 16 j)), .ref (MA 15)]) (by rw [show (nI (F 16 j)).toNatClampNeg = (F 16 j) from nI_clamp (by omega)]) ?_
              refine lv_aload_n hx hb dX7_ends_130 rfl (lv_at hl 2 rfl) ?_
              refine wl_get (T := TX7) C0 hP (show w_121_3 mo = some (.inr (7, [.int cd, .int (nI (X 24 0)), .ref (MA 0), .ref (MA 1), .ref (MA 2), .ref (MA 3), .ref (MA 4), .ref (MA 5), .ref (MA 6), .ref (MA 7), .ref (MA 8), .ref (MA 9), .int (nI (X 24 1)), .ref (MA 10), .ref (MA 11), .ref (MA 12), .int (nI (X 24 2)), .ref (MA 13), .ref (MA 14), .ref (MA 15), .int (nI (X 24 3)), .ref (MA 16), .ref (MA 17), .ref (MA 18), .ref (MA 19), .ref (MA 20), .ref (MA 21)])) from hm_121_3.x) hi_RX7 rfl 24 (by decide) hf_70 rfl dX7_ends_131 ?_
              refine lv_iload hx hb dX7_ends_134 (lv_at hl 6 rfl) ?_
              refine wl_iald C0 hP (show w_121_3 (MA 19) = some (.inl (E.2.1 0, 700, .inl (fun i => nI (X 19 i)))) from hm_121_3.i 19 (by decide) rfl rfl rfl) (vp_in_nI (by omega) (by omega)) dX7_ends_136 ?_
              refine W.eq (g2 := F0 m 137 ls [.int (nI (X 19 j)), .long (lN (X 15 (F 16 j))), .int (nI (F 16 j)), .ref (MA 15)]) (by rw [show (nI j).toNatClampNeg = j from nI_clamp (by omega)]) ?_
              rw [show (nI (X 19 j)) = (nI (F 19 j)) from by rw [x19]]
              refine lv_i2l (v := (nI (F 19 j)).toInt64) hx hb dX7_ends_137 rfl ?_
              rw [show ((nI (F 19 j)).toInt64) = (lN (F 19 j)) from nI_l (by omega)]
              refine lv_lsub hx hb dX7_ends_138 ?_
              rw [show ((lN (X 15 (F 16 j))) - (lN (F 19 j))) = (lN (X 15 (F 16 j) - F 19 j)) from lN_sub h19a]
              refine wl_last C0 hP hS (show w_121_3 (MA 15) = some (.inl (E.2.1 1, 6, .inr (.inl (fun i => lN (X 15 i))))) from hm_121_3.l) (vp_in_nI (by omega) (by omega)) dX7_ends_139 (fun H locs hP hS => ?_)
              obtain ⟨w_139_4, hw9, hm_139_4, hk_139_4⟩ : ∃ wz : wW, wz = wU w_121_3 (MA 15) (.inl (E.2.1 1, 6, .inr (.inl (vp_updL (fun i => lN (X 15 i)) (nI (F 16 j)).toNatClampNeg (lN (X 15 (F 16 j) - F 19 j)))))) ∧ wMod E (fU (fU (fU (fU X 21 j 0) 20 j 1) 14 (F 16 j) (Nat.min (X 14 (F 16 j) + F 18 j) (F 11 (F 13 (F 16 j))))) 15 (F 16 j) (X 15 (F 16 j) - F 19 j)) MA mo cd wz ∧ wKm mo MA w wz := ⟨_, rfl, M_s (F := fU (fU (fU X 21 j 0) 20 j 1) 14 (F 16 j) (Nat.min (X 14 (F 16 j) + F 18 j) (F 11 (F 13 (F 16 j))))) hm_121_3 15 (F 16 j) (X 15 (F 16 j) - F 19 j) (by decide) (by rw [show (nI (F 16 j)).toNatClampNeg = (F 16 j) from nI_clamp (by omega), upd_lN]; rfl), hk_121_3.tr (wKm.s (by decide))⟩
              rw [← hw9] at hP
              refine lv_iinc (v := nI (k + 1)) (lv' := [(3, .int (nI (k + 1))), (6, .int (nI (F 11 (F 13 (F 16 j))))), (5, .int (nI (F 16 j))), (0, .ref mo), (1, .int (nI i)), (2, .int 1), (4, .int (nI j))]) hx hb dX7_ends_140 hl (k := 5) rfl (nI_1 _) (by decide) rfl (fun ls hl => ?_)
              refine lv_iinc (v := nI (j + 1)) (lv' := [(4, .int (nI (j + 1))), (3, .int (nI (k + 1))), (6, .int (nI (F 11 (F 13 (F 16 j))))), (5, .int (nI (F 16 j))), (0, .ref mo), (1, .int (nI i)), (2, .int 1)]) hx hb dX7_ends_143 hl (k := 6) rfl (nI_1 _) (by decide) rfl (fun ls hl => ?_)
              refine lv_goto (tgt := 12) hx hb dX7_ends_146 (by decide) ?_
              exact ih (j + 1) (k + 1) w_139_4 _ _ hP hS (by omega) (by omega) (by rw [i2]; exact (ct_s (by simp [q29])).symm) (M_ext hm_139_4 (fun a b h => by
                    rw [und_s q29, hX]
                    simp only [f_und1, und_a (F := F) (r := i) (k := j) (a := 16) (by decide) (by decide) (by decide) (by decide) (by decide), und_a (F := F) (r := i) (k := j) (a := 18) (by decide) (by decide) (by decide) (by decide) (by decide), und_a (F := F) (r := i) (k := j) (a := 13) (by decide) (by decide) (by decide) (by decide) (by decide), und_a (F := F) (r := i) (k := j) (a := 11) (by decide) (by decide) (by decide) (by decide) (by decide), und_a (F := F) (r := i) (k := j) (a := 19) (by decide) (by decide) (by decide) (by decide) (by decide)]
                    simp only [fU, Nat.reduceEqDiff, false_and, if_false]
                    (repeat' split) <;> first | rfl | omega) (by rw [fU_k (by decide), und_a (by decide) (by decide) (by decide) (by decide) (by decide), fU_k (by decide), fU_k (by decide), fU_k (by decide), fU_k (by decide), xa _ _ (by decide) (by decide) (by decide) (by decide) (by decide) (by decide)]) (by rw [fU_k (by decide), und_a (by decide) (by decide) (by decide) (by decide) (by decide), fU_k (by decide), fU_k (by decide), fU_k (by decide), fU_k (by decide), xa _ _ (by decide) (by decide) (by decide) (by decide) (by decide) (by decide)]) (by rw [fU_k (by decide), und_a (by decide) (by decide) (by decide) (by decide) (by decide), fU_k (by decide), fU_k (by decide), fU_k (by decide), fU_k (by decide), xa _ _ (by decide) (by decide) (by decide) (by decide) (by decide) (by decide)]) (by rw [fU_k (by decide), und_a (by decide) (by decide) (by decide) (by decide) (by decide), fU_k (by decide), fU_k (by decide), fU_k (by decide), fU_k (by decide), xa _ _ (by decide) (by decide) (by decide) (by decide) (by decide) (by decide)])) (hk_139_4) ls (lv_sub hl [4, 5, 6, 1, 0] rfl)
            · have q98 : X 14 (F 16 j) + F 18 j < F 11 (F 13 (F 16 j)) := Nat.not_le.mp (fun q => c_98 ((nI_leI (by omega) (by omega)).mpr q))
              refine lv_aload_n hx hb dX7_ends_101 rfl (lv_at hl 2 rfl) ?_
              refine wl_get (T := TX7) C0 hP (show w_74_2 mo = some (.inr (7, [.int cd, .int (nI (X 24 0)), .ref (MA 0), .ref (MA 1), .ref (MA 2), .ref (MA 3), .ref (MA 4), .ref (MA 5), .ref (MA 6), .ref (MA 7), .ref (MA 8), .ref (MA 9), .int (nI (X 24 1)), .ref (MA 10), .ref (MA 11), .ref (MA 12), .int (nI (X 24 2)), .ref (MA 13), .ref (MA 14), .ref (MA 15), .int (nI (X 24 3)), .ref (MA 16), .ref (MA 17), .ref (MA 18), .ref (MA 19), .ref (MA 20), .ref (MA 21)])) from hm_74_2.x) hi_RX7 rfl 18 (by decide) hf_53 rfl dX7_ends_102 ?_
              refine lv_iload hx hb dX7_ends_105 (lv_at hl 1 rfl) ?_
              refine wl_iald C0 hP (show w_74_2 (MA 14) = some (.inl (E.2.1 0, 6, .inl (fun i => nI (X 14 i)))) from hm_74_2.i 14 (by decide) rfl rfl rfl) (vp_in_nI (by omega) (by omega)) dX7_ends_107 ?_
              refine W.eq (g2 := F0 m 108 ls [.int (nI (X 14 (F 16 j))), .int (nI (F 16 j)), .ref (MA 14)]) (by rw [show (nI (F 16 j)).toNatClampNeg = (F 16 j) from nI_clamp (by omega)]) ?_
              refine lv_aload_n hx hb dX7_ends_108 rfl (lv_at hl 2 rfl) ?_
              refine wl_get (T := TX7) C0 hP (show w_74_2 mo = some (.inr (7, [.int cd, .int (nI (X 24 0)), .ref (MA 0), .ref (MA 1), .ref (MA 2), .ref (MA 3), .ref (MA 4), .ref (MA 5), .ref (MA 6), .ref (MA 7), .ref (MA 8), .ref (MA 9), .int (nI (X 24 1)), .ref (MA 10), .ref (MA 11), .ref (MA 12), .int (nI (X 24 2)), .ref (MA 13), .ref (MA 14), .ref (MA 15), .int (nI (X 24 3)), .ref (MA 16), .ref (MA 17), .ref (MA 18), .ref (MA 19), .ref (MA 20), .ref (MA 21)])) from hm_74_2.x) hi_RX7 rfl 23 (by decide) hf_67 rfl dX7_ends_109 ?_
              refine lv_iload hx hb dX7_ends_112 (lv_at hl 6 rfl) ?_
              refine wl_iald C0 hP (show w_74_2 (MA 18) = some (.inl (E.2.1 0, 700, .inl (fun i => nI (X 18 i)))) from hm_74_2.i 18 (by decide) rfl rfl rfl) (vp_in_nI (by omega) (by omega)) dX7_ends_114 ?_
              refine W.eq (g2 := F0 m 115 ls [.int (nI (X 18 j)), .int (nI (X 14 (F 16 j))), .int (nI (F 16 j)), .ref (MA 14)]) (by rw [show (nI j).toNatClampNeg = j from nI_clamp (by omega)]) ?_
              rw [show (nI (X 18 j)) = (nI (F 18 j)) from by rw [x18]]
              refine lv_iadd hx hb dX7_ends_115 ?_
              rw [show ((nI (X 14 (F 16 j))) + (nI (F 18 j))) = (nI (X 14 (F 16 j) + F 18 j)) from nI_add _ _]
              refine lv_goto (tgt := 121) hx hb dX7_ends_116 (by decide) ?_
              refine W.eq (g2 := F0 m 121 ls [.int (nI (Nat.min (X 14 (F 16 j) + F 18 j) (F 11 (F 13 (F 16 j))))), .int (nI (F 16 j)), .ref (MA 14)]) (by rw [show Nat.min (X 14 (F 16 j) + F 18 j) (F 11 (F 13 (F 16 j))) = X 14 (F 16 j) + F 18 j from Nat.min_eq_left (Nat.le_of_lt q98)]) ?_
              refine wl_iast C0 hP hS (show w_74_2 (MA 14) = some (.inl (E.2.1 0, 6, .inl (fun i => nI (X 14 i)))) from hm_74_2.i 14 (by decide) rfl rfl rfl) (vp_in_nI (by omega) (by omega)) dX7_ends_121 (fun H locs hP hS => ?_)
              obtain ⟨w_121_5, hw9, hm_121_5, hk_121_5⟩ : ∃ wz : wW, wz = wU w_74_2 (MA 14) (.inl (E.2.1 0, 6, .inl (upd (fun i => nI (X 14 i)) (nI (F 16 j)).toNatClampNeg (nI (Nat.min (X 14 (F 16 j) + F 18 j) (F 11 (F 13 (F 16 j)))))))) ∧ wMod E (fU (fU (fU X 21 j 0) 20 j 1) 14 (F 16 j) (Nat.min (X 14 (F 16 j) + F 18 j) (F 11 (F 13 (F 16 j))))) MA mo cd wz ∧ wKm mo MA w wz := ⟨_, rfl, M_s (F := fU (fU X 21 j 0) 20 j 1) hm_74_2 14 (F 16 j) (Nat.min (X 14 (F 16 j) + F 18 j) (F 11 (F 13 (F 16 j)))) (by decide) (by rw [show (nI (F 16 j)).toNatClampNeg = (F 16 j) from nI_clamp (by omega), upd_nI]; rfl), hk_74_2.tr (wKm.s (by decide))⟩
              rw [← hw9] at hP
              refine lv_aload_n hx hb dX7_ends_122 rfl (lv_at hl 2 rfl) ?_
              refine wl_get (T := TX7) C0 hP (show w_121_5 mo = some (.inr (7, [.int cd, .int (nI (X 24 0)), .ref (MA 0), .ref (MA 1), .ref (MA 2), .ref (MA 3), .ref (MA 4), .ref (MA 5), .ref (MA 6), .ref (MA 7), .ref (MA 8), .ref (MA 9), .int (nI (X 24 1)), .ref (MA 10), .ref (MA 11), .ref (MA 12), .int (nI (X 24 2)), .ref (MA 13), .ref (MA 14), .ref (MA 15), .int (nI (X 24 3)), .ref (MA 16), .ref (MA 17), .ref (MA 18), .ref (MA 19), .ref (MA 20), .ref (MA 21)])) from hm_121_5.x) hi_RX7 rfl 19 (by decide) hf_56 rfl dX7_ends_123 ?_
              refine lv_iload hx hb dX7_ends_126 (lv_at hl 1 rfl) ?_
              refine lv_dup2_11 hx hb dX7_ends_128 rfl rfl ?_
              refine wl_lald C0 hP (show w_121_5 (MA 15) = some (.inl (E.2.1 1, 6, .inr (.inl (fun i => lN (X 15 i))))) from hm_121_5.l) (vp_in_nI (by omega) (by omega)) dX7_ends_129 ?_
              refine W.eq (g2 := F0 m 130 ls [.long (lN (X 15 (F 16 j))), .int (nI (F 16 j)), .ref (MA 15)]) (by rw [show (nI (F 16 j)).toNatClampNeg = (F 16 j) from nI_clamp (by omega)]) ?_
              refine lv_aload_n hx hb dX7_ends_130 rfl (lv_at hl 2 rfl) ?_
              refine wl_get (T := TX7) C0 hP (show w_121_5 mo = some (.inr (7, [.int cd, .int (nI (X 24 0)), .ref (MA 0), .ref (MA 1), .ref (MA 2), .ref (MA 3), .ref (MA 4), .ref (MA 5), .ref (MA 6), .ref (MA 7), .ref (MA 8), .ref (MA 9), .int (nI (X 24 1)), .ref (MA 10), .ref (MA 11), .ref (MA 12), .int (nI (X 24 2)), .ref (MA 13), .ref (MA 14), .ref (MA 15), .int (nI (X 24 3)), .ref (MA 16), .ref (MA 17), .ref (MA 18), .ref (MA 19), .ref (MA 20), .ref (MA 21)])) from hm_121_5.x) hi_RX7 rfl 24 (by decide) hf_70 rfl dX7_ends_131 ?_
              refine lv_iload hx hb dX7_ends_134 (lv_at hl 6 rfl) ?_
              refine wl_iald C0 hP (show w_121_5 (MA 19) = some (.inl (E.2.1 0, 700, .inl (fun i => nI (X 19 i)))) from hm_121_5.i 19 (by decide) rfl rfl rfl) (vp_in_nI (by omega) (by omega)) dX7_ends_136 ?_
              refine W.eq (g2 := F0 m 137 ls [.int (nI (X 19 j)), .long (lN (X 15 (F 16 j))), .int (nI (F 16 j)), .ref (MA 15)]) (by rw [show (nI j).toNatClampNeg = j from nI_clamp (by omega)]) ?_
              rw [show (nI (X 19 j)) = (nI (F 19 j)) from by rw [x19]]
              refine lv_i2l (v := (nI (F 19 j)).toInt64) hx hb dX7_ends_137 rfl ?_
              rw [show ((nI (F 19 j)).toInt64) = (lN (F 19 j)) from nI_l (by omega)]
              refine lv_lsub hx hb dX7_ends_138 ?_
              rw [show ((lN (X 15 (F 16 j))) - (lN (F 19 j))) = (lN (X 15 (F 16 j) - F 19 j)) from lN_sub h19a]
              refine wl_last C0 hP hS (show w_121_5 (MA 15) = some (.inl (E.2.1 1, 6, .inr (.inl (fun i => lN (X 15 i))))) from hm_121_5.l) (vp_in_nI (by omega) (by omega)) dX7_ends_139 (fun H locs hP hS => ?_)
              obtain ⟨w_139_6, hw9, hm_139_6, hk_139_6⟩ : ∃ wz : wW, wz = wU w_121_5 (MA 15) (.inl (E.2.1 1, 6, .inr (.inl (vp_updL (fun i => lN (X 15 i)) (nI (F 16 j)).toNatClampNeg (lN (X 15 (F 16 j) - F 19 j)))))) ∧ wMod E (fU (fU (fU (fU X 21 j 0) 20 j 1) 14 (F 16 j) (Nat.min (X 14 (F 16 j) + F 18 j) (F 11 (F 13 (F 16 j))))) 15 (F 16 j) (X 15 (F 16 j) - F 19 j)) MA mo cd wz ∧ wKm mo MA w wz := ⟨_, rfl, M_s (F := fU (fU (fU X 21 j 0) 20 j 1) 14 (F 16 j) (Nat.min (X 14 (F 16 j) + F 18 j) (F 11 (F 13 (F 16 j))))) hm_121_5 15 (F 16 j) (X 15 (F 16 j) - F 19 j) (by decide) (by rw [show (nI (F 16 j)).toNatClampNeg = (F 16 j) from nI_clamp (by omega), upd_lN]; rfl), hk_121_5.tr (wKm.s (by decide))⟩
              rw [← hw9] at hP
              refine lv_iinc (v := nI (k + 1)) (lv' := [(3, .int (nI (k + 1))), (6, .int (nI (F 11 (F 13 (F 16 j))))), (5, .int (nI (F 16 j))), (0, .ref mo), (1, .int (nI i)), (2, .int 1), (4, .int (nI j))]) hx hb dX7_ends_140 hl (k := 5) rfl (nI_1 _) (by decide) rfl (fun ls hl => ?_)
              refine lv_iinc (v := nI (j + 1)) (lv' := [(4, .int (nI (j + 1))), (3, .int (nI (k + 1))), (6, .int (nI (F 11 (F 13 (F 16 j))))), (5, .int (nI (F 16 j))), (0, .ref mo), (1, .int (nI i)), (2, .int 1)]) hx hb dX7_ends_143 hl (k := 6) rfl (nI_1 _) (by decide) rfl (fun ls hl => ?_)
              refine lv_goto (tgt := 12) hx hb dX7_ends_146 (by decide) ?_
              exact ih (j + 1) (k + 1) w_139_6 _ _ hP hS (by omega) (by omega) (by rw [i2]; exact (ct_s (by simp [q29])).symm) (M_ext hm_139_6 (fun a b h => by
                    rw [und_s q29, hX]
                    simp only [f_und1, und_a (F := F) (r := i) (k := j) (a := 16) (by decide) (by decide) (by decide) (by decide) (by decide), und_a (F := F) (r := i) (k := j) (a := 18) (by decide) (by decide) (by decide) (by decide) (by decide), und_a (F := F) (r := i) (k := j) (a := 13) (by decide) (by decide) (by decide) (by decide) (by decide), und_a (F := F) (r := i) (k := j) (a := 11) (by decide) (by decide) (by decide) (by decide) (by decide), und_a (F := F) (r := i) (k := j) (a := 19) (by decide) (by decide) (by decide) (by decide) (by decide)]
                    simp only [fU, Nat.reduceEqDiff, false_and, if_false]
                    (repeat' split) <;> first | rfl | omega) (by rw [fU_k (by decide), und_a (by decide) (by decide) (by decide) (by decide) (by decide), fU_k (by decide), fU_k (by decide), fU_k (by decide), fU_k (by decide), xa _ _ (by decide) (by decide) (by decide) (by decide) (by decide) (by decide)]) (by rw [fU_k (by decide), und_a (by decide) (by decide) (by decide) (by decide) (by decide), fU_k (by decide), fU_k (by decide), fU_k (by decide), fU_k (by decide), xa _ _ (by decide) (by decide) (by decide) (by decide) (by decide) (by decide)]) (by rw [fU_k (by decide), und_a (by decide) (by decide) (by decide) (by decide) (by decide), fU_k (by decide), fU_k (by decide), fU_k (by decide), fU_k (by decide), xa _ _ (by decide) (by decide) (by decide) (by decide) (by decide) (by decide)]) (by rw [fU_k (by decide), und_a (by decide) (by decide) (by decide) (by decide) (by decide), fU_k (by decide), fU_k (by decide), fU_k (by decide), fU_k (by decide), xa _ _ (by decide) (by decide) (by decide) (by decide) (by decide) (by decide)])) (hk_139_6) ls (lv_sub hl [4, 5, 6, 1, 0] rfl)
  exact LP _ 0 0 w_8_0 _ _ hP hS (Nat.lt_succ_self _) (Nat.zero_le _) (rfl) (M_ext hm_8_0 (fun a b h => by simp only [f_und, fU]; (repeat' split) <;> first | rfl | omega) (by simp [f_und, fU]) (by simp [f_und, fU]) (by simp [f_und, fU]) (by simp [f_und, fU])) (hk_8_0) ls (lv_sub hl [2, 3, 4, 1, 0] rfl)

set_option maxHeartbeats 4000000 in
set_option maxRecDepth 100000 in
theorem k_X7_ends_c (l : Launch) (hst : l.stackTraces = false) (E : wEn) (w : wW) (sz : Nat) (F : FF) (MA : Nat → Nat) (mo : Nat) (cd : Int32) (i : Nat) (hi : i < 8) (h3 : F 24 3 ≤ 512) (h21 : ∀ k, k < F 24 3 → F 21 k ≤ 8) (hm : wMod E F MA mo cd w) : wM l yX7_ends wsX7_ends 0 0 0 E w sz [.ref mo, .int (nI i), .int 0] (fun v w2 => v = some (.int 0) ∧ wMod E (f_clr F i (F 24 3)) MA mo cd w2 ∧ wKm mo MA w w2) (fun _ _ => False) := by
  refine wm_start (own := RX7) (cc := cX7_ends) (maxL := 7) (ret := (some .int)) rfl (by decide) rfl (Nat.le_of_ble_eq_true rfl) ?_
  intro p e s m args below meth c ls C0 hr hin ht hP hS hl
  have hx := C0.1
  have hb := C0.2.1
  have hts := C0.2.2.2.2.1
  have hown := C0.2.2.2.1
  have hl : lv_has ls 7 [(0, .ref mo), (1, .int (nI i)), (2, .int 0)] := hl
  have hf_25 : (Cond.fieldLink RX7 25 "CallGatewayModel" "canary" "[Z").before args s = true := hts _ (by decide +kernel)
  have hf_120 : (Cond.fieldLink RX7 120 "CallGatewayModel" "calls" "I").before args s = true := hts _ (by decide +kernel)
  have hf_76 : (Cond.fieldLink RX7 76 "CallGatewayModel" "callOpen" "[I").before args s = true := hts _ (by decide +kernel)
  have hf_60 : (Cond.fieldLink RX7 60 "CallGatewayModel" "callCaller" "[I").before args s = true := hts _ (by decide +kernel)
  have hf_44 : (Cond.fieldLink RX7 44 "CallGatewayModel" "bursts" "[I").before args s = true := hts _ (by decide +kernel)
  have hf_50 : (Cond.fieldLink RX7 50 "CallGatewayModel" "planOf" "[I").before args s = true := hts _ (by decide +kernel)
  have hf_73 : (Cond.fieldLink RX7 73 "CallGatewayModel" "undone" "[Z").before args s = true := hts _ (by decide +kernel)
  have hf_53 : (Cond.fieldLink RX7 53 "CallGatewayModel" "tokens" "[I").before args s = true := hts _ (by decide +kernel)
  have hf_67 : (Cond.fieldLink RX7 67 "CallGatewayModel" "callTook" "[I").before args s = true := hts _ (by decide +kernel)
  have hf_56 : (Cond.fieldLink RX7 56 "CallGatewayModel" "bills" "[J").before args s = true := hts _ (by decide +kernel)
  have hf_70 : (Cond.fieldLink RX7 70 "CallGatewayModel" "callPaid" "[I").before args s = true := hts _ (by decide +kernel)
  have hi_RX7 : ∀ w ∈ u_ws RX7 TX7 27, w ∈ wsX7_ends := fun _ h => List.mem_cons_of_mem _ (List.mem_append_left _ (List.mem_append_right _ h))
  refine lv_iconst (v := 0) hx hb dX7_ends_0 (by decide) ?_
  refine lv_istore_n (lv' := [(3, .int 0), (0, .ref mo), (1, .int (nI i)), (2, .int 0)]) hx hb dX7_ends_1 rfl hl (by decide) rfl (fun ls hl => ?_)
  refine lv_aload_n hx hb dX7_ends_2 rfl (lv_at hl 1 rfl) ?_
  refine wl_get (T := TX7) C0 hP (show w mo = some (.inr (7, [.int cd, .int (nI (F 24 0)), .ref (MA 0), .ref (MA 1), .ref (MA 2), .ref (MA 3), .ref (MA 4), .ref (MA 5), .ref (MA 6), .ref (MA 7), .ref (MA 8), .ref (MA 9), .int (nI (F 24 1)), .ref (MA 10), .ref (MA 11), .ref (MA 12), .int (nI (F 24 2)), .ref (MA 13), .ref (MA 14), .ref (MA 15), .int (nI (F 24 3)), .ref (MA 16), .ref (MA 17), .ref (MA 18), .ref (MA 19), .ref (MA 20), .ref (MA 21)])) from hm.x) hi_RX7 rfl 7 (by decide) hf_25 rfl dX7_ends_3 ?_
  refine lv_iload_n hx hb dX7_ends_6 rfl (lv_at hl 2 rfl) ?_
  refine lv_iconst (v := 0) hx hb dX7_ends_7 (by decide) ?_
  refine wl_zast C0 hP hS (show w (MA 5) = some (.inl (E.2.1 3, 8, .inl (fun i => nI (F 5 i)))) from hm.i 5 (by decide) rfl rfl rfl) (vp_in_nI (by omega) (by omega)) dX7_ends_8 (fun H locs hP hS => ?_)
  obtain ⟨w_8_0, hw9, hm_8_0, hk_8_0⟩ : ∃ wz : wW, wz = wU w (MA 5) (.inl (E.2.1 3, 8, .inl (upd (fun i => nI (F 5 i)) (nI i).toNatClampNeg (vp_nar .boolean 0)))) ∧ wMod E (fU F 5 i 0) MA mo cd wz ∧ wKm mo MA w wz := ⟨_, rfl, M_s (F := F) hm 5 i 0 (by decide) (by rw [show (nI i).toNatClampNeg = i from nI_clamp (by omega), show vp_nar .boolean 0 = nI 0 from rfl, upd_nI]; rfl), wKm.rf.tr (wKm.s (by decide))⟩
  rw [← hw9] at hP
  refine lv_iconst (v := 0) hx hb dX7_ends_9 (by decide) ?_
  refine lv_istore (lv' := [(4, .int 0), (3, .int 0), (0, .ref mo), (1, .int (nI i)), (2, .int 0)]) hx hb dX7_ends_10 hl (by decide) rfl (fun ls hl => ?_)
  have LP : ∀ (nF : Nat) (j : Nat) (w1 : wW) (H : Heap) (locs : List Loc), wP E.1 (wA w sz) w1 H → va_S (wA w sz) s.heap H locs → F 24 3 - j < nF → (j ≤ F 24 3) → (wMod E (f_clr F i j) MA mo cd w1) → (wKm mo MA w w1) → ∀ (ls : Array Slot), lv_has ls 7 [(0, .ref mo), (1, .int (nI i)), (2, .int 0), (3, .int 0), (4, .int (nI j))] → W p l e (wRm 0 0 0) s m args below meth c H locs 0 0 (vx_MQ below (wQ E (wA w sz) (fun v w2 => v = some (.int 0) ∧ wMod E (f_clr F i (F 24 3)) MA mo cd w2 ∧ wKm mo MA w w2)) (wX E (wA w sz) (fun _ _ => False)) args s 0 0 (wA w sz)) (F0 m 12 ls []) := by
    intro nF
    induction nF with
    | zero => intro j w1 H locs hP hS hn; exact absurd hn (Nat.not_lt_zero _)
    | succ nF ih =>
      intro j w1 H locs hP hS hn i1 i3 i4 ls hl
      obtain ⟨X, hX⟩ : ∃ X : FF, X = f_clr F i j := ⟨_, rfl⟩
      rw [← hX] at i3
      have x24 : ∀ b, X 24 b = F 24 b := fun b => by rw [hX]; exact clr_a (by decide) (by decide)
      have x243 := x24 3
      have x21 : X 21 j = F 21 j := by rw [hX, clr_21, if_neg (fun q => Nat.lt_irrefl _ q.1)]
      refine lv_iload hx hb dX7_ends_12 (lv_at hl 4 rfl) ?_
      refine lv_aload_n hx hb dX7_ends_14 rfl (lv_at hl 0 rfl) ?_
      refine wl_get (T := TX7) C0 hP (show w1 mo = some (.inr (7, [.int cd, .int (nI (X 24 0)), .ref (MA 0), .ref (MA 1), .ref (MA 2), .ref (MA 3), .ref (MA 4), .ref (MA 5), .ref (MA 6), .ref (MA 7), .ref (MA 8), .ref (MA 9), .int (nI (X 24 1)), .ref (MA 10), .ref (MA 11), .ref (MA 12), .int (nI (X 24 2)), .ref (MA 13), .ref (MA 14), .ref (MA 15), .int (nI (X 24 3)), .ref (MA 16), .ref (MA 17), .ref (MA 18), .ref (MA 19), .ref (MA 20), .ref (MA 21)])) from i3.x) hi_RX7 rfl 20 (by decide) hf_120 rfl dX7_ends_15 ?_
      refine lv_icmp_ge (tgt := 149) hx hb dX7_ends_18 (by decide) (fun c_18 => ?_) (fun c_18 => ?_)
      · have q18 : F 24 3 ≤ j := by
          have h := (nI_leI (by omega) (by omega)).mp c_18
          omega
        refine lv_iload_n hx hb dX7_ends_149 rfl (lv_at hl 3 rfl) ?_
        exact wl_iret C0 hr rfl hP hS dX7_ends_150 (Nat.le_of_ble_eq_true rfl) (Nat.le_of_ble_eq_true rfl) (⟨rfl, by rw [show F 24 3 = j by omega, ← hX]; exact i3, i4⟩)
      · have q18 : j < F 24 3 := Nat.not_le.mp (fun q => c_18 ((nI_leI (by omega) (by omega)).mpr (by omega)))
        have hej := h21 j q18
        refine lv_aload_n hx hb dX7_ends_21 rfl (lv_at hl 0 rfl) ?_
        refine wl_get (T := TX7) C0 hP (show w1 mo = some (.inr (7, [.int cd, .int (nI (X 24 0)), .ref (MA 0), .ref (MA 1), .ref (MA 2), .ref (MA 3), .ref (MA 4), .ref (MA 5), .ref (MA 6), .ref (MA 7), .ref (MA 8), .ref (MA 9), .int (nI (X 24 1)), .ref (MA 10), .ref (MA 11), .ref (MA 12), .int (nI (X 24 2)), .ref (MA 13), .ref (MA 14), .ref (MA 15), .int (nI (X 24 3)), .ref (MA 16), .ref (MA 17), .ref (MA 18), .ref (MA 19), .ref (MA 20), .ref (MA 21)])) from i3.x) hi_RX7 rfl 26 (by decide) hf_76 rfl dX7_ends_22 ?_
        refine lv_iload hx hb dX7_ends_25 (lv_at hl 4 rfl) ?_
        refine wl_iald C0 hP (show w1 (MA 21) = some (.inl (E.2.1 0, 700, .inl (fun i => oI (X 21 i)))) from i3.i 21 (by decide) rfl rfl rfl) (vp_in_nI (by omega) (by omega)) dX7_ends_27 ?_
        refine W.eq (g2 := F0 m 28 ls [.int (oI (X 21 j))]) (by rw [show (nI j).toNatClampNeg = j from nI_clamp (by omega)]) ?_
        refine lv_iload_n hx hb dX7_ends_28 rfl (lv_at hl 1 rfl) ?_
        refine lv_icmp_ne (tgt := 143) hx hb dX7_ends_29 (by decide) (fun c_29 => ?_) (fun c_29 => ?_)
        · have q29 : ¬ F 21 j = i + 1 := fun q => c_29 ((oI_eq (by omega) (by omega)).mpr (by rw [x21]; exact q))
          refine lv_iinc (v := nI (j + 1)) (lv' := [(4, .int (nI (j + 1))), (0, .ref mo), (1, .int (nI i)), (2, .int 0), (3, .int 0)]) hx hb dX7_ends_143 hl (k := 4) rfl (nI_1 _) (by decide) rfl (fun ls hl => ?_)
          refine lv_goto (tgt := 12) hx hb dX7_ends_146 (by decide) ?_
          exact ih (j + 1) w1 _ _ hP hS (by omega) (by omega) (by rw [clr_n q29, ← hX]; exact i3) (i4) ls (lv_sub hl [1, 2, 3, 4, 0] rfl)
        · have q29 : F 21 j = i + 1 := by
            rw [← x21]
            exact (oI_eq (by omega) (by omega)).mp c_29
          refine lv_aload_n hx hb dX7_ends_32 rfl (lv_at hl 0 rfl) ?_
          refine wl_get (T := TX7) C0 hP (show w1 mo = some (.inr (7, [.int cd, .int (nI (X 24 0)), .ref (MA 0), .ref (MA 1), .ref (MA 2), .ref (MA 3), .ref (MA 4), .ref (MA 5), .ref (MA 6), .ref (MA 7), .ref (MA 8), .ref (MA 9), .int (nI (X 24 1)), .ref (MA 10), .ref (MA 11), .ref (MA 12), .int (nI (X 24 2)), .ref (MA 13), .ref (MA 14), .ref (MA 15), .int (nI (X 24 3)), .ref (MA 16), .ref (MA 17), .ref (MA 18), .ref (MA 19), .ref (MA 20), .ref (MA 21)])) from i3.x) hi_RX7 rfl 26 (by decide) hf_76 rfl dX7_ends_33 ?_
          refine lv_iload hx hb dX7_ends_36 (lv_at hl 4 rfl) ?_
          refine lv_iconst (v := -1) hx hb dX7_ends_38 (by decide) ?_
          refine wl_iast C0 hP hS (show w1 (MA 21) = some (.inl (E.2.1 0, 700, .inl (fun i => oI (X 21 i)))) from i3.i 21 (by decide) rfl rfl rfl) (vp_in_nI (by omega) (by omega)) dX7_ends_39 (fun H locs hP hS => ?_)
          obtain ⟨w_39_1, hw9, hm_39_1, hk_39_1⟩ : ∃ wz : wW, wz = wU w1 (MA 21) (.inl (E.2.1 0, 700, .inl (upd (fun i => oI (X 21 i)) (nI j).toNatClampNeg (-1)))) ∧ wMod E (fU X 21 j 0) MA mo cd wz ∧ wKm mo MA w wz := ⟨_, rfl, M_s (F := X) i3 21 j 0 (by decide) (by rw [show (nI j).toNatClampNeg = j from nI_clamp (by omega), show (-1 : Int32) = oI 0 by decide, upd_oI]; rfl), i4.tr (wKm.s (by decide))⟩
          rw [← hw9] at hP
          refine lv_iload_n hx hb dX7_ends_40 rfl (lv_at hl 2 rfl) ?_
          refine lv_if_eq (tgt := 143) hx hb dX7_ends_41 (by decide) (fun c_41 => ?_) (fun c_41 => ?_)
          · refine lv_iinc (v := nI (j + 1)) (lv' := [(4, .int (nI (j + 1))), (0, .ref mo), (1, .int (nI i)), (2, .int 0), (3, .int 0)]) hx hb dX7_ends_143 hl (k := 4) rfl (nI_1 _) (by decide) rfl (fun ls hl => ?_)
            refine lv_goto (tgt := 12) hx hb dX7_ends_146 (by decide) ?_
            exact ih (j + 1) w_39_1 _ _ hP hS (by omega) (by omega) (by rw [clr_s q29, ← hX]; exact hm_39_1) (hk_39_1) ls (lv_sub hl [1, 2, 3, 4, 0] rfl)
          · exact absurd rfl c_41
  exact LP _ 0 w_8_0 _ _ hP hS (Nat.lt_succ_self _) (Nat.zero_le _) (hm_8_0) (hk_8_0) ls (lv_sub hl [2, 3, 4, 1, 0] rfl)

set_option maxHeartbeats 4000000 in
set_option maxRecDepth 100000 in
theorem k_X7_takeBack (l : Launch) (hst : l.stackTraces = false) (E : wEn) (w : wW) (sz : Nat) (F : FF) (MA : Nat → Nat) (mo : Nat) (cd : Int32) (N : Nat) (hI : wInv F N) (hm : wMod E F MA mo cd w) (r1 : Int32) : wM l yX7_takeBack wsX7_takeBack 2 0 0 E w sz [.ref mo, .int r1] (fun v w2 => v = some (.int (s_takeBack F r1).2.1) ∧ wMod E (s_takeBack F r1).2.2 MA mo (nI (s_takeBack F r1).1) w2 ∧ wKm mo MA w w2) (fun _ _ => False) := by
  refine wm_start (own := RX7) (cc := cX7_takeBack) (maxL := 2) (ret := (some .int)) rfl (by decide) rfl (Nat.le_of_ble_eq_true rfl) ?_
  intro p e s m args below meth c ls C0 hr hin ht hP hS hl
  have hx := C0.1
  have hb := C0.2.1
  have hts := C0.2.2.2.2.1
  have hown := C0.2.2.2.1
  have hl : lv_has ls 2 [(0, .ref mo), (1, .int r1)] := hl
  have hf_79 : (Cond.fieldLink RX7 79 "CallGatewayModel" "code" "I").before args s = true := hts _ (by decide +kernel)
  have hf_25 : (Cond.fieldLink RX7 25 "CallGatewayModel" "canary" "[Z").before args s = true := hts _ (by decide +kernel)
  have hi_RX7 : ∀ w ∈ u_ws RX7 TX7 27, w ∈ wsX7_takeBack := fun _ h => List.mem_cons_of_mem _ (List.mem_append_left _ (List.mem_append_right _ h))
  have hn := hI.n
  have hn9 := hI.n
  refine lv_aload_n hx hb dX7_takeBack_0 rfl (lv_at hl 0 rfl) ?_
  refine lv_iconst (v := 0) hx hb dX7_takeBack_1 (by decide) ?_
  refine wl_put (T := TX7) (ty0 := tyX7) (fs2 := [.int 0, .int (nI (F 24 0)), .ref (MA 0), .ref (MA 1), .ref (MA 2), .ref (MA 3), .ref (MA 4), .ref (MA 5), .ref (MA 6), .ref (MA 7), .ref (MA 8), .ref (MA 9), .int (nI (F 24 1)), .ref (MA 10), .ref (MA 11), .ref (MA 12), .int (nI (F 24 2)), .ref (MA 13), .ref (MA 14), .ref (MA 15), .int (nI (F 24 3)), .ref (MA 16), .ref (MA 17), .ref (MA 18), .ref (MA 19), .ref (MA 20), .ref (MA 21)]) C0 hP hS (show w mo = some (.inr (7, [.int cd, .int (nI (F 24 0)), .ref (MA 0), .ref (MA 1), .ref (MA 2), .ref (MA 3), .ref (MA 4), .ref (MA 5), .ref (MA 6), .ref (MA 7), .ref (MA 8), .ref (MA 9), .int (nI (F 24 1)), .ref (MA 10), .ref (MA 11), .ref (MA 12), .int (nI (F 24 2)), .ref (MA 13), .ref (MA 14), .ref (MA 15), .int (nI (F 24 3)), .ref (MA 16), .ref (MA 17), .ref (MA 18), .ref (MA 19), .ref (MA 20), .ref (MA 21)])) from hm.x) hi_RX7 tyX7_ok nmX7 rfl 0 (by decide) hf_79 rfl rfl rfl rfl (Nat.le_of_ble_eq_true rfl) rfl dX7_takeBack_2 (fun H locs hP hS => ?_)
  obtain ⟨w_2_0, hw9, hm_2_0, hk_2_0⟩ : ∃ wz : wW, wz = wU w mo (.inr (7, [.int 0, .int (nI (F 24 0)), .ref (MA 0), .ref (MA 1), .ref (MA 2), .ref (MA 3), .ref (MA 4), .ref (MA 5), .ref (MA 6), .ref (MA 7), .ref (MA 8), .ref (MA 9), .int (nI (F 24 1)), .ref (MA 10), .ref (MA 11), .ref (MA 12), .int (nI (F 24 2)), .ref (MA 13), .ref (MA 14), .ref (MA 15), .int (nI (F 24 3)), .ref (MA 16), .ref (MA 17), .ref (MA 18), .ref (MA 19), .ref (MA 20), .ref (MA 21)])) ∧ wMod E F MA mo (nI 0) wz ∧ wKm mo MA w wz := ⟨_, rfl, M_o (F := F) (G := F) (cd2 := nI 0) hm (fun a b h => rfl), wKm.rf.tr wKm.o⟩
  rw [← hw9] at hP
  refine lv_aload_n hx hb dX7_takeBack_5 rfl (lv_at hl 0 rfl) ?_
  refine lv_iload_n hx hb dX7_takeBack_6 rfl (lv_at hl 1 rfl) ?_
  refine wl_on C0 ht hP hS (wl_runV (As := [.int r1]) (rest := []) C0 hP hS (k_X7_isRoute l hst E w_2_0 H.size F MA mo (nI 0) N hI hm_2_0 r1) (cwV 1 hts gX7_takeBack_X7_isRoute rfl rfl rfl (by decide +kernel) ⟨(Nat.le_of_ble_eq_true rfl), (Nat.le_of_ble_eq_true rfl)⟩) (show w_2_0 mo = some (.inr (7, [.int (nI 0), .int (nI (F 24 0)), .ref (MA 0), .ref (MA 1), .ref (MA 2), .ref (MA 3), .ref (MA 4), .ref (MA 5), .ref (MA 6), .ref (MA 7), .ref (MA 8), .ref (MA 9), .int (nI (F 24 1)), .ref (MA 10), .ref (MA 11), .ref (MA 12), .int (nI (F 24 2)), .ref (MA 13), .ref (MA 14), .ref (MA 15), .int (nI (F 24 3)), .ref (MA 16), .ref (MA 17), .ref (MA 18), .ref (MA 19), .ref (MA 20), .ref (MA 21)])) from hm_2_0.x) rfl rfl rfl hl.1 (Nat.le_of_ble_eq_true rfl) dX7_takeBack_7 ⟨(Nat.le_of_ble_eq_true rfl), (Nat.le_of_ble_eq_true rfl)⟩) (Nat.le_of_ble_eq_true rfl) (Nat.le_of_ble_eq_true rfl) (fun _ _ h => h.elim) (fun v_7 w_7 H locs hq hP hS => ?_)
  obtain ⟨rfl, hw9⟩ := hq
  rw [hw9] at hP
  refine W.eq (g2 := F0 m 10 ls [.int (bI (vpb r1 (F 24 0)))]) rfl ?_
  refine lv_if_ne (tgt := 19) hx hb dX7_takeBack_10 (by decide) (fun c_10 => ?_) (fun c_10 => ?_)
  · have q10 : vpb r1 (F 24 0) = true := bI_n.mp c_10
    have hr9 := vpb_tn q10
    have hrt := vpb_nt q10
    have h8 := hI.ro hr9
    have hl : lv_has ls 2 [(0, .ref mo), (1, .int (nI (tn r1)))] := by
      rw [hrt]
      exact hl
    refine lv_aload_n hx hb dX7_takeBack_19 rfl (lv_at hl 0 rfl) ?_
    refine wl_get (T := TX7) C0 hP (show w_2_0 mo = some (.inr (7, [.int (nI 0), .int (nI (F 24 0)), .ref (MA 0), .ref (MA 1), .ref (MA 2), .ref (MA 3), .ref (MA 4), .ref (MA 5), .ref (MA 6), .ref (MA 7), .ref (MA 8), .ref (MA 9), .int (nI (F 24 1)), .ref (MA 10), .ref (MA 11), .ref (MA 12), .int (nI (F 24 2)), .ref (MA 13), .ref (MA 14), .ref (MA 15), .int (nI (F 24 3)), .ref (MA 16), .ref (MA 17), .ref (MA 18), .ref (MA 19), .ref (MA 20), .ref (MA 21)])) from hm_2_0.x) hi_RX7 rfl 7 (by decide) hf_25 rfl dX7_takeBack_20 ?_
    refine lv_iload_n hx hb dX7_takeBack_23 rfl (lv_at hl 1 rfl) ?_
    refine wl_zald C0 hP (show w_2_0 (MA 5) = some (.inl (E.2.1 3, 8, .inl (fun i => nI (F 5 i)))) from hm_2_0.i 5 (by decide) rfl rfl rfl) (vp_in_nI (by omega) (by omega)) dX7_takeBack_24 ?_
    refine W.eq (g2 := F0 m 25 ls [.int (nI (F 5 (tn r1)))]) (by rw [show (nI (tn r1)).toNatClampNeg = (tn r1) from nI_clamp (by omega)]) ?_
    refine lv_if_eq (tgt := 37) hx hb dX7_takeBack_25 (by decide) (fun c_25 => ?_) (fun c_25 => ?_)
    · have q25 : F 5 (tn r1) = 0 := (nI_e0 (by omega)).mp c_25
      refine lv_aload_n hx hb dX7_takeBack_37 rfl (lv_at hl 0 rfl) ?_
      refine lv_iconst (v := 2) hx hb dX7_takeBack_38 (by decide) ?_
      refine wl_on C0 ht hP hS (wl_runV (As := [.int 2]) (rest := []) C0 hP hS (k_X7_fails l hst E w_2_0 H.size F MA mo (nI 0) 2 hm_2_0) (cwV 1 hts gX7_takeBack_X7_fails rfl rfl rfl (by decide +kernel) ⟨(Nat.le_of_ble_eq_true rfl), (Nat.le_of_ble_eq_true rfl)⟩) (show w_2_0 mo = some (.inr (7, [.int (nI 0), .int (nI (F 24 0)), .ref (MA 0), .ref (MA 1), .ref (MA 2), .ref (MA 3), .ref (MA 4), .ref (MA 5), .ref (MA 6), .ref (MA 7), .ref (MA 8), .ref (MA 9), .int (nI (F 24 1)), .ref (MA 10), .ref (MA 11), .ref (MA 12), .int (nI (F 24 2)), .ref (MA 13), .ref (MA 14), .ref (MA 15), .int (nI (F 24 3)), .ref (MA 16), .ref (MA 17), .ref (MA 18), .ref (MA 19), .ref (MA 20), .ref (MA 21)])) from hm_2_0.x) rfl rfl rfl hl.1 (Nat.le_of_ble_eq_true rfl) dX7_takeBack_39 ⟨(Nat.le_of_ble_eq_true rfl), (Nat.le_of_ble_eq_true rfl)⟩) (Nat.le_of_ble_eq_true rfl) (Nat.le_of_ble_eq_true rfl) (fun _ _ h => h.elim) (fun v_39 w_39 H locs hq hP hS => ?_)
      obtain ⟨rfl, hm_39_1, hk2_39_1⟩ := hq
      have hk_39_1 := hk_2_0.tr hk2_39_1
      refine W.eq (g2 := F0 m 42 ls [.int 0]) rfl ?_
      have hev : s_takeBack F r1 = (2, 0, F) := by simp [s_takeBack, q10, q25]
      exact wl_iret C0 hr rfl hP hS dX7_takeBack_42 (Nat.le_of_ble_eq_true rfl) (Nat.le_of_ble_eq_true rfl) (⟨by rw [hev], by rw [hev]; exact hm_39_1, hk_39_1⟩)
    · have q25 : ¬ F 5 (tn r1) = 0 := fun q => c_25 ((nI_e0 (by omega)).mpr q)
      refine lv_aload_n hx hb dX7_takeBack_28 rfl (lv_at hl 0 rfl) ?_
      refine lv_iload_n hx hb dX7_takeBack_29 rfl (lv_at hl 1 rfl) ?_
      refine lv_iconst (v := 1) hx hb dX7_takeBack_30 (by decide) ?_
      refine wl_on C0 ht hP hS (wl_runV (As := [.int (nI (tn r1)), .int 1]) (rest := []) C0 hP hS (k_X7_ends l hst E w_2_0 H.size F MA mo (nI 0) N hI (tn r1) (F 9 (tn r1)) hr9 (by rw [fU_id]; exact hm_2_0)) (cwV 2 hts gX7_takeBack_X7_ends rfl rfl rfl (by decide +kernel) ⟨(Nat.le_of_ble_eq_true rfl), (Nat.le_of_ble_eq_true rfl)⟩) (show w_2_0 mo = some (.inr (7, [.int (nI 0), .int (nI (F 24 0)), .ref (MA 0), .ref (MA 1), .ref (MA 2), .ref (MA 3), .ref (MA 4), .ref (MA 5), .ref (MA 6), .ref (MA 7), .ref (MA 8), .ref (MA 9), .int (nI (F 24 1)), .ref (MA 10), .ref (MA 11), .ref (MA 12), .int (nI (F 24 2)), .ref (MA 13), .ref (MA 14), .ref (MA 15), .int (nI (F 24 3)), .ref (MA 16), .ref (MA 17), .ref (MA 18), .ref (MA 19), .ref (MA 20), .ref (MA 21)])) from hm_2_0.x) rfl rfl rfl hl.1 (Nat.le_of_ble_eq_true rfl) dX7_takeBack_31 ⟨(Nat.le_of_ble_eq_true rfl), (Nat.le_of_ble_eq_true rfl)⟩) (Nat.le_of_ble_eq_true rfl) (Nat.le_of_ble_eq_true rfl) (fun _ _ h => h.elim) (fun v_31 w_31 H locs hq hP hS => ?_)
      obtain ⟨rfl, hm5, hk5⟩ := hq
      rw [und_9] at hm5
      have hk6 := hk_2_0.tr hk5
      refine W.eq (g2 := F0 m 34 ls [.int (nI (n_und F (tn r1) (F 24 3)))]) rfl ?_
      refine lv_goto (tgt := 42) hx hb dX7_takeBack_34 (by decide) ?_
      have hev : s_takeBack F r1 = (0, nI (n_und F (tn r1) (F 24 3)), f_und F (tn r1) (F 24 3)) := by simp [s_takeBack, q10, q25]
      exact wl_iret C0 hr rfl hP hS dX7_takeBack_42 (Nat.le_of_ble_eq_true rfl) (Nat.le_of_ble_eq_true rfl) (⟨by rw [hev], by rw [hev]; exact hm5, hk6⟩)
  · have q10 : vpb r1 (F 24 0) = false := bI_0.mp c_10
    refine lv_aload_n hx hb dX7_takeBack_13 rfl (lv_at hl 0 rfl) ?_
    refine lv_iconst (v := 1) hx hb dX7_takeBack_14 (by decide) ?_
    refine wl_on C0 ht hP hS (wl_runV (As := [.int 1]) (rest := []) C0 hP hS (k_X7_fails l hst E w_2_0 H.size F MA mo (nI 0) 1 hm_2_0) (cwV 1 hts gX7_takeBack_X7_fails rfl rfl rfl (by decide +kernel) ⟨(Nat.le_of_ble_eq_true rfl), (Nat.le_of_ble_eq_true rfl)⟩) (show w_2_0 mo = some (.inr (7, [.int (nI 0), .int (nI (F 24 0)), .ref (MA 0), .ref (MA 1), .ref (MA 2), .ref (MA 3), .ref (MA 4), .ref (MA 5), .ref (MA 6), .ref (MA 7), .ref (MA 8), .ref (MA 9), .int (nI (F 24 1)), .ref (MA 10), .ref (MA 11), .ref (MA 12), .int (nI (F 24 2)), .ref (MA 13), .ref (MA 14), .ref (MA 15), .int (nI (F 24 3)), .ref (MA 16), .ref (MA 17), .ref (MA 18), .ref (MA 19), .ref (MA 20), .ref (MA 21)])) from hm_2_0.x) rfl rfl rfl hl.1 (Nat.le_of_ble_eq_true rfl) dX7_takeBack_15 ⟨(Nat.le_of_ble_eq_true rfl), (Nat.le_of_ble_eq_true rfl)⟩) (Nat.le_of_ble_eq_true rfl) (Nat.le_of_ble_eq_true rfl) (fun _ _ h => h.elim) (fun v_15 w_15 H locs hq hP hS => ?_)
    obtain ⟨rfl, hm_15_2, hk2_15_2⟩ := hq
    have hk_15_2 := hk_2_0.tr hk2_15_2
    refine W.eq (g2 := F0 m 18 ls [.int 0]) rfl ?_
    have hev : s_takeBack F r1 = (1, 0, F) := by simp [s_takeBack, q10]
    exact wl_iret C0 hr rfl hP hS dX7_takeBack_18 (Nat.le_of_ble_eq_true rfl) (Nat.le_of_ble_eq_true rfl) (⟨by rw [hev], by rw [hev]; exact hm_15_2, hk_15_2⟩)

set_option maxHeartbeats 4000000 in
set_option maxRecDepth 100000 in
theorem k_X7_promote (l : Launch) (hst : l.stackTraces = false) (E : wEn) (w : wW) (sz : Nat) (F : FF) (MA : Nat → Nat) (mo : Nat) (cd : Int32) (N : Nat) (hI : wInv F N) (hm : wMod E F MA mo cd w) (r1 : Int32) : wM l yX7_promote wsX7_promote 2 0 0 E w sz [.ref mo, .int r1] (fun v w2 => v = some (.int (s_promote F r1).2.1) ∧ wMod E (s_promote F r1).2.2 MA mo (nI (s_promote F r1).1) w2 ∧ wKm mo MA w w2) (fun _ _ => False) := by
  refine wm_start (own := RX7) (cc := cX7_promote) (maxL := 3) (ret := (some .int)) rfl (by decide) rfl (Nat.le_of_ble_eq_true rfl) ?_
  intro p e s m args below meth c ls C0 hr hin ht hP hS hl
  have hx := C0.1
  have hb := C0.2.1
  have hts := C0.2.2.2.2.1
  have hown := C0.2.2.2.1
  have hl : lv_has ls 3 [(0, .ref mo), (1, .int r1)] := hl
  have hf_79 : (Cond.fieldLink RX7 79 "CallGatewayModel" "code" "I").before args s = true := hts _ (by decide +kernel)
  have hf_25 : (Cond.fieldLink RX7 25 "CallGatewayModel" "canary" "[Z").before args s = true := hts _ (by decide +kernel)
  have hf_22 : (Cond.fieldLink RX7 22 "CallGatewayModel" "answers" "[I").before args s = true := hts _ (by decide +kernel)
  have hf_29 : (Cond.fieldLink RX7 29 "CallGatewayModel" "theirs" "[I").before args s = true := hts _ (by decide +kernel)
  have hi_RX7 : ∀ w ∈ u_ws RX7 TX7 27, w ∈ wsX7_promote := fun _ h => List.mem_cons_of_mem _ (List.mem_append_left _ (List.mem_append_right _ h))
  have hn := hI.n
  have hn9 := hI.n
  refine lv_aload_n hx hb dX7_promote_0 rfl (lv_at hl 0 rfl) ?_
  refine lv_iconst (v := 0) hx hb dX7_promote_1 (by decide) ?_
  refine wl_put (T := TX7) (ty0 := tyX7) (fs2 := [.int 0, .int (nI (F 24 0)), .ref (MA 0), .ref (MA 1), .ref (MA 2), .ref (MA 3), .ref (MA 4), .ref (MA 5), .ref (MA 6), .ref (MA 7), .ref (MA 8), .ref (MA 9), .int (nI (F 24 1)), .ref (MA 10), .ref (MA 11), .ref (MA 12), .int (nI (F 24 2)), .ref (MA 13), .ref (MA 14), .ref (MA 15), .int (nI (F 24 3)), .ref (MA 16), .ref (MA 17), .ref (MA 18), .ref (MA 19), .ref (MA 20), .ref (MA 21)]) C0 hP hS (show w mo = some (.inr (7, [.int cd, .int (nI (F 24 0)), .ref (MA 0), .ref (MA 1), .ref (MA 2), .ref (MA 3), .ref (MA 4), .ref (MA 5), .ref (MA 6), .ref (MA 7), .ref (MA 8), .ref (MA 9), .int (nI (F 24 1)), .ref (MA 10), .ref (MA 11), .ref (MA 12), .int (nI (F 24 2)), .ref (MA 13), .ref (MA 14), .ref (MA 15), .int (nI (F 24 3)), .ref (MA 16), .ref (MA 17), .ref (MA 18), .ref (MA 19), .ref (MA 20), .ref (MA 21)])) from hm.x) hi_RX7 tyX7_ok nmX7 rfl 0 (by decide) hf_79 rfl rfl rfl rfl (Nat.le_of_ble_eq_true rfl) rfl dX7_promote_2 (fun H locs hP hS => ?_)
  obtain ⟨w_2_0, hw9, hm_2_0, hk_2_0⟩ : ∃ wz : wW, wz = wU w mo (.inr (7, [.int 0, .int (nI (F 24 0)), .ref (MA 0), .ref (MA 1), .ref (MA 2), .ref (MA 3), .ref (MA 4), .ref (MA 5), .ref (MA 6), .ref (MA 7), .ref (MA 8), .ref (MA 9), .int (nI (F 24 1)), .ref (MA 10), .ref (MA 11), .ref (MA 12), .int (nI (F 24 2)), .ref (MA 13), .ref (MA 14), .ref (MA 15), .int (nI (F 24 3)), .ref (MA 16), .ref (MA 17), .ref (MA 18), .ref (MA 19), .ref (MA 20), .ref (MA 21)])) ∧ wMod E F MA mo (nI 0) wz ∧ wKm mo MA w wz := ⟨_, rfl, M_o (F := F) (G := F) (cd2 := nI 0) hm (fun a b h => rfl), wKm.rf.tr wKm.o⟩
  rw [← hw9] at hP
  refine lv_aload_n hx hb dX7_promote_5 rfl (lv_at hl 0 rfl) ?_
  refine lv_iload_n hx hb dX7_promote_6 rfl (lv_at hl 1 rfl) ?_
  refine wl_on C0 ht hP hS (wl_runV (As := [.int r1]) (rest := []) C0 hP hS (k_X7_isRoute l hst E w_2_0 H.size F MA mo (nI 0) N hI hm_2_0 r1) (cwV 1 hts gX7_promote_X7_isRoute rfl rfl rfl (by decide +kernel) ⟨(Nat.le_of_ble_eq_true rfl), (Nat.le_of_ble_eq_true rfl)⟩) (show w_2_0 mo = some (.inr (7, [.int (nI 0), .int (nI (F 24 0)), .ref (MA 0), .ref (MA 1), .ref (MA 2), .ref (MA 3), .ref (MA 4), .ref (MA 5), .ref (MA 6), .ref (MA 7), .ref (MA 8), .ref (MA 9), .int (nI (F 24 1)), .ref (MA 10), .ref (MA 11), .ref (MA 12), .int (nI (F 24 2)), .ref (MA 13), .ref (MA 14), .ref (MA 15), .int (nI (F 24 3)), .ref (MA 16), .ref (MA 17), .ref (MA 18), .ref (MA 19), .ref (MA 20), .ref (MA 21)])) from hm_2_0.x) rfl rfl rfl hl.1 (Nat.le_of_ble_eq_true rfl) dX7_promote_7 ⟨(Nat.le_of_ble_eq_true rfl), (Nat.le_of_ble_eq_true rfl)⟩) (Nat.le_of_ble_eq_true rfl) (Nat.le_of_ble_eq_true rfl) (fun _ _ h => h.elim) (fun v_7 w_7 H locs hq hP hS => ?_)
  obtain ⟨rfl, hw9⟩ := hq
  rw [hw9] at hP
  refine W.eq (g2 := F0 m 10 ls [.int (bI (vpb r1 (F 24 0)))]) rfl ?_
  refine lv_if_ne (tgt := 19) hx hb dX7_promote_10 (by decide) (fun c_10 => ?_) (fun c_10 => ?_)
  · have q10 : vpb r1 (F 24 0) = true := bI_n.mp c_10
    have hr9 := vpb_tn q10
    have hrt := vpb_nt q10
    have h8 := hI.ro hr9
    have hl : lv_has ls 3 [(0, .ref mo), (1, .int (nI (tn r1)))] := by
      rw [hrt]
      exact hl
    refine lv_aload_n hx hb dX7_promote_19 rfl (lv_at hl 0 rfl) ?_
    refine wl_get (T := TX7) C0 hP (show w_2_0 mo = some (.inr (7, [.int (nI 0), .int (nI (F 24 0)), .ref (MA 0), .ref (MA 1), .ref (MA 2), .ref (MA 3), .ref (MA 4), .ref (MA 5), .ref (MA 6), .ref (MA 7), .ref (MA 8), .ref (MA 9), .int (nI (F 24 1)), .ref (MA 10), .ref (MA 11), .ref (MA 12), .int (nI (F 24 2)), .ref (MA 13), .ref (MA 14), .ref (MA 15), .int (nI (F 24 3)), .ref (MA 16), .ref (MA 17), .ref (MA 18), .ref (MA 19), .ref (MA 20), .ref (MA 21)])) from hm_2_0.x) hi_RX7 rfl 7 (by decide) hf_25 rfl dX7_promote_20 ?_
    refine lv_iload_n hx hb dX7_promote_23 rfl (lv_at hl 1 rfl) ?_
    refine wl_zald C0 hP (show w_2_0 (MA 5) = some (.inl (E.2.1 3, 8, .inl (fun i => nI (F 5 i)))) from hm_2_0.i 5 (by decide) rfl rfl rfl) (vp_in_nI (by omega) (by omega)) dX7_promote_24 ?_
    refine W.eq (g2 := F0 m 25 ls [.int (nI (F 5 (tn r1)))]) (by rw [show (nI (tn r1)).toNatClampNeg = (tn r1) from nI_clamp (by omega)]) ?_
    refine lv_if_ne (tgt := 34) hx hb dX7_promote_25 (by decide) (fun c_25 => ?_) (fun c_25 => ?_)
    · have q25 : ¬ F 5 (tn r1) = 0 := fun q => c_25 ((nI_e0 (by omega)).mpr q)
      refine lv_aload_n hx hb dX7_promote_34 rfl (lv_at hl 0 rfl) ?_
      refine wl_get (T := TX7) C0 hP (show w_2_0 mo = some (.inr (7, [.int (nI 0), .int (nI (F 24 0)), .ref (MA 0), .ref (MA 1), .ref (MA 2), .ref (MA 3), .ref (MA 4), .ref (MA 5), .ref (MA 6), .ref (MA 7), .ref (MA 8), .ref (MA 9), .int (nI (F 24 1)), .ref (MA 10), .ref (MA 11), .ref (MA 12), .int (nI (F 24 2)), .ref (MA 13), .ref (MA 14), .ref (MA 15), .int (nI (F 24 3)), .ref (MA 16), .ref (MA 17), .ref (MA 18), .ref (MA 19), .ref (MA 20), .ref (MA 21)])) from hm_2_0.x) hi_RX7 rfl 6 (by decide) hf_22 rfl dX7_promote_35 ?_
      refine lv_iload_n hx hb dX7_promote_38 rfl (lv_at hl 1 rfl) ?_
      refine lv_aload_n hx hb dX7_promote_39 rfl (lv_at hl 0 rfl) ?_
      refine wl_get (T := TX7) C0 hP (show w_2_0 mo = some (.inr (7, [.int (nI 0), .int (nI (F 24 0)), .ref (MA 0), .ref (MA 1), .ref (MA 2), .ref (MA 3), .ref (MA 4), .ref (MA 5), .ref (MA 6), .ref (MA 7), .ref (MA 8), .ref (MA 9), .int (nI (F 24 1)), .ref (MA 10), .ref (MA 11), .ref (MA 12), .int (nI (F 24 2)), .ref (MA 13), .ref (MA 14), .ref (MA 15), .int (nI (F 24 3)), .ref (MA 16), .ref (MA 17), .ref (MA 18), .ref (MA 19), .ref (MA 20), .ref (MA 21)])) from hm_2_0.x) hi_RX7 rfl 8 (by decide) hf_29 rfl dX7_promote_40 ?_
      refine lv_iload_n hx hb dX7_promote_43 rfl (lv_at hl 1 rfl) ?_
      refine wl_iald C0 hP (show w_2_0 (MA 6) = some (.inl (E.2.1 0, 8, .inl (fun i => nI (F 6 i)))) from hm_2_0.i 6 (by decide) rfl rfl rfl) (vp_in_nI (by omega) (by omega)) dX7_promote_44 ?_
      refine W.eq (g2 := F0 m 45 ls [.int (nI (F 6 (tn r1))), .int (nI (tn r1)), .ref (MA 4)]) (by rw [show (nI (tn r1)).toNatClampNeg = (tn r1) from nI_clamp (by omega)]) ?_
      refine wl_iast C0 hP hS (show w_2_0 (MA 4) = some (.inl (E.2.1 0, 8, .inl (fun i => nI (F 4 i)))) from hm_2_0.i 4 (by decide) rfl rfl rfl) (vp_in_nI (by omega) (by omega)) dX7_promote_45 (fun H locs hP hS => ?_)
      obtain ⟨w_45_1, hw9, hm_45_1, hk_45_1⟩ : ∃ wz : wW, wz = wU w_2_0 (MA 4) (.inl (E.2.1 0, 8, .inl (upd (fun i => nI (F 4 i)) (nI (tn r1)).toNatClampNeg (nI (F 6 (tn r1)))))) ∧ wMod E (fU F 4 (tn r1) (F 6 (tn r1))) MA mo (nI 0) wz ∧ wKm mo MA w wz := ⟨_, rfl, M_s (F := F) hm_2_0 4 (tn r1) (F 6 (tn r1)) (by decide) (by rw [show (nI (tn r1)).toNatClampNeg = (tn r1) from nI_clamp (by omega), upd_nI]; rfl), hk_2_0.tr (wKm.s (by decide))⟩
      rw [← hw9] at hP
      refine lv_aload_n hx hb dX7_promote_46 rfl (lv_at hl 0 rfl) ?_
      refine lv_iload_n hx hb dX7_promote_47 rfl (lv_at hl 1 rfl) ?_
      refine lv_iconst (v := 0) hx hb dX7_promote_48 (by decide) ?_
      refine wl_on C0 ht hP hS (wl_runV (As := [.int (nI (tn r1)), .int 0]) (rest := []) C0 hP hS (k_X7_ends_c l hst E w_45_1 H.size (fU F 4 (tn r1) (F 6 (tn r1))) MA mo (nI 0) (tn r1) (by omega) (by rw [fU_k (by decide)]; omega) (fun k hk => by rw [fU_k (by decide)]; rw [fU_k (by decide)] at hk; have h := (hI.en hk).2.2.2.2.2.1; omega) hm_45_1) (cwV 2 hts gX7_promote_X7_ends rfl rfl rfl (by decide +kernel) ⟨(Nat.le_of_ble_eq_true rfl), (Nat.le_of_ble_eq_true rfl)⟩) (show w_45_1 mo = some (.inr (7, [.int (nI 0), .int (nI (F 24 0)), .ref (MA 0), .ref (MA 1), .ref (MA 2), .ref (MA 3), .ref (MA 4), .ref (MA 5), .ref (MA 6), .ref (MA 7), .ref (MA 8), .ref (MA 9), .int (nI (F 24 1)), .ref (MA 10), .ref (MA 11), .ref (MA 12), .int (nI (F 24 2)), .ref (MA 13), .ref (MA 14), .ref (MA 15), .int (nI (F 24 3)), .ref (MA 16), .ref (MA 17), .ref (MA 18), .ref (MA 19), .ref (MA 20), .ref (MA 21)])) from hm_45_1.x) rfl rfl rfl hl.1 (Nat.le_of_ble_eq_true rfl) dX7_promote_49 ⟨(Nat.le_of_ble_eq_true rfl), (Nat.le_of_ble_eq_true rfl)⟩) (Nat.le_of_ble_eq_true rfl) (Nat.le_of_ble_eq_true rfl) (fun _ _ h => h.elim) (fun v_49 w_49 H locs hq hP hS => ?_)
      obtain ⟨rfl, hm5, hk5⟩ := hq
      have hm6 : wMod E (f_promote F (tn r1)) MA mo (nI 0) w_49 := hm5
      have hk6 := hk_45_1.tr hk5
      refine W.eq (g2 := F0 m 52 ls [.int 0]) rfl ?_
      refine lv_istore_n (lv' := [(2, .int 0), (0, .ref mo), (1, .int (nI (tn r1)))]) hx hb dX7_promote_52 rfl hl (by decide) rfl (fun ls hl => ?_)
      refine lv_aload_n hx hb dX7_promote_53 rfl (lv_at hl 1 rfl) ?_
      refine wl_get (T := TX7) C0 hP (show w_49 mo = some (.inr (7, [.int (nI 0), .int (nI ((f_promote F (tn r1)) 24 0)), .ref (MA 0), .ref (MA 1), .ref (MA 2), .ref (MA 3), .ref (MA 4), .ref (MA 5), .ref (MA 6), .ref (MA 7), .ref (MA 8), .ref (MA 9), .int (nI ((f_promote F (tn r1)) 24 1)), .ref (MA 10), .ref (MA 11), .ref (MA 12), .int (nI ((f_promote F (tn r1)) 24 2)), .ref (MA 13), .ref (MA 14), .ref (MA 15), .int (nI ((f_promote F (tn r1)) 24 3)), .ref (MA 16), .ref (MA 17), .ref (MA 18), .ref (MA 19), .ref (MA 20), .ref (MA 21)])) from hm6.x) hi_RX7 rfl 6 (by decide) hf_22 rfl dX7_promote_54 ?_
      refine lv_iload_n hx hb dX7_promote_57 rfl (lv_at hl 2 rfl) ?_
      refine wl_iald C0 hP (show w_49 (MA 4) = some (.inl (E.2.1 0, 8, .inl (fun i => nI ((f_promote F (tn r1)) 4 i)))) from hm6.i 4 (by decide) rfl rfl rfl) (vp_in_nI (by omega) (by omega)) dX7_promote_58 ?_
      refine W.eq (g2 := F0 m 59 ls [.int (nI ((f_promote F (tn r1)) 4 (tn r1)))]) (by rw [show (nI (tn r1)).toNatClampNeg = (tn r1) from nI_clamp (by omega)]) ?_
      rw [show (nI ((f_promote F (tn r1)) 4 (tn r1))) = (nI (F 6 (tn r1))) from by rw [show f_promote F (tn r1) 4 (tn r1) = F 6 (tn r1) from by unfold f_promote; rw [clr_a (by decide) (by decide), fU_s]]]
      refine lv_iload_n hx hb dX7_promote_59 rfl (lv_at hl 0 rfl) ?_
      refine lv_iadd hx hb dX7_promote_60 ?_
      rw [show ((nI (F 6 (tn r1))) + 0) = (nI (F 6 (tn r1))) from Int32.add_zero _]
      have hev : s_promote F r1 = (0, nI (F 6 (tn r1)), f_promote F (tn r1)) := by simp [s_promote, q10, q25]
      exact wl_iret C0 hr rfl hP hS dX7_promote_61 (Nat.le_of_ble_eq_true rfl) (Nat.le_of_ble_eq_true rfl) (⟨by rw [hev], by rw [hev]; exact hm6, hk6⟩)
    · have q25 : F 5 (tn r1) = 0 := (nI_e0 (by omega)).mp c_25
      refine lv_aload_n hx hb dX7_promote_28 rfl (lv_at hl 0 rfl) ?_
      refine lv_iconst (v := 2) hx hb dX7_promote_29 (by decide) ?_
      refine wl_on C0 ht hP hS (wl_runV (As := [.int 2]) (rest := []) C0 hP hS (k_X7_fails l hst E w_2_0 H.size F MA mo (nI 0) 2 hm_2_0) (cwV 1 hts gX7_promote_X7_fails rfl rfl rfl (by decide +kernel) ⟨(Nat.le_of_ble_eq_true rfl), (Nat.le_of_ble_eq_true rfl)⟩) (show w_2_0 mo = some (.inr (7, [.int (nI 0), .int (nI (F 24 0)), .ref (MA 0), .ref (MA 1), .ref (MA 2), .ref (MA 3), .ref (MA 4), .ref (MA 5), .ref (MA 6), .ref (MA 7), .ref (MA 8), .ref (MA 9), .int (nI (F 24 1)), .ref (MA 10), .ref (MA 11), .ref (MA 12), .int (nI (F 24 2)), .ref (MA 13), .ref (MA 14), .ref (MA 15), .int (nI (F 24 3)), .ref (MA 16), .ref (MA 17), .ref (MA 18), .ref (MA 19), .ref (MA 20), .ref (MA 21)])) from hm_2_0.x) rfl rfl rfl hl.1 (Nat.le_of_ble_eq_true rfl) dX7_promote_30 ⟨(Nat.le_of_ble_eq_true rfl), (Nat.le_of_ble_eq_true rfl)⟩) (Nat.le_of_ble_eq_true rfl) (Nat.le_of_ble_eq_true rfl) (fun _ _ h => h.elim) (fun v_30 w_30 H locs hq hP hS => ?_)
      obtain ⟨rfl, hm_30_2, hk2_30_2⟩ := hq
      have hk_30_2 := hk_2_0.tr hk2_30_2
      refine W.eq (g2 := F0 m 33 ls [.int 0]) rfl ?_
      have hev : s_promote F r1 = (2, 0, F) := by simp [s_promote, q10, q25]
      exact wl_iret C0 hr rfl hP hS dX7_promote_33 (Nat.le_of_ble_eq_true rfl) (Nat.le_of_ble_eq_true rfl) (⟨by rw [hev], by rw [hev]; exact hm_30_2, hk_30_2⟩)
  · have q10 : vpb r1 (F 24 0) = false := bI_0.mp c_10
    refine lv_aload_n hx hb dX7_promote_13 rfl (lv_at hl 0 rfl) ?_
    refine lv_iconst (v := 1) hx hb dX7_promote_14 (by decide) ?_
    refine wl_on C0 ht hP hS (wl_runV (As := [.int 1]) (rest := []) C0 hP hS (k_X7_fails l hst E w_2_0 H.size F MA mo (nI 0) 1 hm_2_0) (cwV 1 hts gX7_promote_X7_fails rfl rfl rfl (by decide +kernel) ⟨(Nat.le_of_ble_eq_true rfl), (Nat.le_of_ble_eq_true rfl)⟩) (show w_2_0 mo = some (.inr (7, [.int (nI 0), .int (nI (F 24 0)), .ref (MA 0), .ref (MA 1), .ref (MA 2), .ref (MA 3), .ref (MA 4), .ref (MA 5), .ref (MA 6), .ref (MA 7), .ref (MA 8), .ref (MA 9), .int (nI (F 24 1)), .ref (MA 10), .ref (MA 11), .ref (MA 12), .int (nI (F 24 2)), .ref (MA 13), .ref (MA 14), .ref (MA 15), .int (nI (F 24 3)), .ref (MA 16), .ref (MA 17), .ref (MA 18), .ref (MA 19), .ref (MA 20), .ref (MA 21)])) from hm_2_0.x) rfl rfl rfl hl.1 (Nat.le_of_ble_eq_true rfl) dX7_promote_15 ⟨(Nat.le_of_ble_eq_true rfl), (Nat.le_of_ble_eq_true rfl)⟩) (Nat.le_of_ble_eq_true rfl) (Nat.le_of_ble_eq_true rfl) (fun _ _ h => h.elim) (fun v_15 w_15 H locs hq hP hS => ?_)
    obtain ⟨rfl, hm_15_3, hk2_15_3⟩ := hq
    have hk_15_3 := hk_2_0.tr hk2_15_3
    refine W.eq (g2 := F0 m 18 ls [.int 0]) rfl ?_
    have hev : s_promote F r1 = (1, 0, F) := by simp [s_promote, q10]
    exact wl_iret C0 hr rfl hP hS dX7_promote_18 (Nat.le_of_ble_eq_true rfl) (Nat.le_of_ble_eq_true rfl) (⟨by rw [hev], by rw [hev]; exact hm_15_3, hk_15_3⟩)

set_option maxHeartbeats 4000000 in
set_option maxRecDepth 100000 in
theorem k_X7_pass (l : Launch) (hst : l.stackTraces = false) (E : wEn) (w : wW) (sz : Nat) (F : FF) (MA : Nat → Nat) (mo : Nat) (cd : Int32) (N : Nat) (hI : wInv F N) (hm : wMod E F MA mo cd w) (t1 : Int32) : wM l yX7_pass wsX7_pass 1 0 0 E w sz [.ref mo, .int t1] (fun v w2 => v = some (.int (s_pass F t1).2.1) ∧ wMod E (s_pass F t1).2.2 MA mo (nI (s_pass F t1).1) w2 ∧ wKm mo MA w w2) (fun _ _ => False) := by
  refine wm_start (own := RX7) (cc := cX7_pass) (maxL := 6) (ret := (some .int)) rfl (by decide) rfl (Nat.le_of_ble_eq_true rfl) ?_
  intro p e s m args below meth c ls C0 hr hin ht hP hS hl
  have hx := C0.1
  have hb := C0.2.1
  have hts := C0.2.2.2.2.1
  have hown := C0.2.2.2.1
  have hl : lv_has ls 6 [(0, .ref mo), (1, .int t1)] := hl
  have hf_79 : (Cond.fieldLink RX7 79 "CallGatewayModel" "code" "I").before args s = true := hts _ (by decide +kernel)
  have hf_90 : (Cond.fieldLink RX7 90 "CallGatewayModel" "callers" "I").before args s = true := hts _ (by decide +kernel)
  have hf_44 : (Cond.fieldLink RX7 44 "CallGatewayModel" "bursts" "[I").before args s = true := hts _ (by decide +kernel)
  have hf_50 : (Cond.fieldLink RX7 50 "CallGatewayModel" "planOf" "[I").before args s = true := hts _ (by decide +kernel)
  have hf_53 : (Cond.fieldLink RX7 53 "CallGatewayModel" "tokens" "[I").before args s = true := hts _ (by decide +kernel)
  have hf_41 : (Cond.fieldLink RX7 41 "CallGatewayModel" "rates" "[I").before args s = true := hts _ (by decide +kernel)
  have hi_RX7 : ∀ w ∈ u_ws RX7 TX7 27, w ∈ wsX7_pass := fun _ h => List.mem_cons_of_mem _ (List.mem_append_left _ (List.mem_append_right _ h))
  have hn := hI.n
  have hn9 := hI.n
  refine lv_aload_n hx hb dX7_pass_0 rfl (lv_at hl 0 rfl) ?_
  refine lv_iconst (v := 0) hx hb dX7_pass_1 (by decide) ?_
  refine wl_put (T := TX7) (ty0 := tyX7) (fs2 := [.int 0, .int (nI (F 24 0)), .ref (MA 0), .ref (MA 1), .ref (MA 2), .ref (MA 3), .ref (MA 4), .ref (MA 5), .ref (MA 6), .ref (MA 7), .ref (MA 8), .ref (MA 9), .int (nI (F 24 1)), .ref (MA 10), .ref (MA 11), .ref (MA 12), .int (nI (F 24 2)), .ref (MA 13), .ref (MA 14), .ref (MA 15), .int (nI (F 24 3)), .ref (MA 16), .ref (MA 17), .ref (MA 18), .ref (MA 19), .ref (MA 20), .ref (MA 21)]) C0 hP hS (show w mo = some (.inr (7, [.int cd, .int (nI (F 24 0)), .ref (MA 0), .ref (MA 1), .ref (MA 2), .ref (MA 3), .ref (MA 4), .ref (MA 5), .ref (MA 6), .ref (MA 7), .ref (MA 8), .ref (MA 9), .int (nI (F 24 1)), .ref (MA 10), .ref (MA 11), .ref (MA 12), .int (nI (F 24 2)), .ref (MA 13), .ref (MA 14), .ref (MA 15), .int (nI (F 24 3)), .ref (MA 16), .ref (MA 17), .ref (MA 18), .ref (MA 19), .ref (MA 20), .ref (MA 21)])) from hm.x) hi_RX7 tyX7_ok nmX7 rfl 0 (by decide) hf_79 rfl rfl rfl rfl (Nat.le_of_ble_eq_true rfl) rfl dX7_pass_2 (fun H locs hP hS => ?_)
  obtain ⟨w_2_0, hw9, hm_2_0, hk_2_0⟩ : ∃ wz : wW, wz = wU w mo (.inr (7, [.int 0, .int (nI (F 24 0)), .ref (MA 0), .ref (MA 1), .ref (MA 2), .ref (MA 3), .ref (MA 4), .ref (MA 5), .ref (MA 6), .ref (MA 7), .ref (MA 8), .ref (MA 9), .int (nI (F 24 1)), .ref (MA 10), .ref (MA 11), .ref (MA 12), .int (nI (F 24 2)), .ref (MA 13), .ref (MA 14), .ref (MA 15), .int (nI (F 24 3)), .ref (MA 16), .ref (MA 17), .ref (MA 18), .ref (MA 19), .ref (MA 20), .ref (MA 21)])) ∧ wMod E F MA mo (nI 0) wz ∧ wKm mo MA w wz := ⟨_, rfl, M_o (F := F) (G := F) (cd2 := nI 0) hm (fun a b h => rfl), wKm.rf.tr wKm.o⟩
  rw [← hw9] at hP
  refine lv_iload_n hx hb dX7_pass_5 rfl (lv_at hl 1 rfl) ?_
  refine lv_iconst (v := 1) hx hb dX7_pass_6 (by decide) ?_
  refine lv_bipush (v := 100) hx hb dX7_pass_7 (by decide) ?_
  refine wl_on C0 ht hP hS (wl_runS (As := [.int t1, .int 1, .int 100]) (rest := []) C0 hP hS (k_X7_in l hst E w_2_0 H.size t1 1 100) (va_cwS 3 hts gX7_pass_X7_in rfl rfl rfl (by decide +kernel) ⟨(Nat.le_of_ble_eq_true rfl), (Nat.le_of_ble_eq_true rfl)⟩) rfl rfl hl.1 (Nat.le_of_ble_eq_true rfl) dX7_pass_9 ⟨(Nat.le_of_ble_eq_true rfl), (Nat.le_of_ble_eq_true rfl)⟩) (Nat.le_of_ble_eq_true rfl) (Nat.le_of_ble_eq_true rfl) (fun _ _ h => h.elim) (fun v_9 w_9 H locs hq hP hS => ?_)
  obtain ⟨rfl, hw9⟩ := hq
  rw [hw9] at hP
  refine W.eq (g2 := F0 m 12 ls [.int (bI (wi t1 1 100))]) rfl ?_
  refine lv_if_ne (tgt := 21) hx hb dX7_pass_12 (by decide) (fun c_12 => ?_) (fun c_12 => ?_)
  · have q12 : wi t1 1 100 = true := bI_n.mp c_12
    have htt := wi_tn (lo := 1) (hi := 100) q12 (by omega) (by omega)
    have hl : lv_has ls 6 [(0, .ref mo), (1, .int (nI (tn t1)))] := by
      rw [htt.1]
      exact hl
    refine lv_iconst (v := 0) hx hb dX7_pass_21 (by decide) ?_
    refine lv_istore_n (lv' := [(2, .int 0), (0, .ref mo), (1, .int (nI (tn t1)))]) hx hb dX7_pass_22 rfl hl (by decide) rfl (fun ls hl => ?_)
    refine lv_iconst (v := 0) hx hb dX7_pass_23 (by decide) ?_
    refine lv_istore_n (lv' := [(3, .int 0), (2, .int 0), (0, .ref mo), (1, .int (nI (tn t1)))]) hx hb dX7_pass_24 rfl hl (by decide) rfl (fun ls hl => ?_)
    have LP : ∀ (nF : Nat) (j k : Nat) (w1 : wW) (H : Heap) (locs : List Loc), wP E.1 (wA w sz) w1 H → va_S (wA w sz) s.heap H locs → F 24 2 - j < nF → (j ≤ F 24 2) → (k = sm (g_got F (tn t1)) j) → (wMod E (f_pass F (tn t1) j) MA mo (nI 0) w1) → (wKm mo MA w w1) → ∀ (ls : Array Slot), lv_has ls 6 [(0, .ref mo), (1, .int (nI (tn t1))), (2, .int (nI k)), (3, .int (nI j))] → W p l e (wRm 1 0 0) s m args below meth c H locs 0 0 (vx_MQ below (wQ E (wA w sz) (fun v w2 => v = some (.int (s_pass F t1).2.1) ∧ wMod E (s_pass F t1).2.2 MA mo (nI (s_pass F t1).1) w2 ∧ wKm mo MA w w2)) (wX E (wA w sz) (fun _ _ => False)) args s 0 0 (wA w sz)) (F0 m 25 ls []) := by
      intro nF
      induction nF with
      | zero => intro j k w1 H locs hP hS hn; exact absurd hn (Nat.not_lt_zero _)
      | succ nF ih =>
        intro j k w1 H locs hP hS hn i1 i2 i3 i4 ls hl
        have e24 : (f_pass F (tn t1) j) 24 2 = F 24 2 := pass_a (by decide)
        refine lv_iload_n hx hb dX7_pass_25 rfl (lv_at hl 3 rfl) ?_
        refine lv_aload_n hx hb dX7_pass_26 rfl (lv_at hl 0 rfl) ?_
        refine wl_get (T := TX7) C0 hP (show w1 mo = some (.inr (7, [.int (nI 0), .int (nI ((f_pass F (tn t1) j) 24 0)), .ref (MA 0), .ref (MA 1), .ref (MA 2), .ref (MA 3), .ref (MA 4), .ref (MA 5), .ref (MA 6), .ref (MA 7), .ref (MA 8), .ref (MA 9), .int (nI ((f_pass F (tn t1) j) 24 1)), .ref (MA 10), .ref (MA 11), .ref (MA 12), .int (nI ((f_pass F (tn t1) j) 24 2)), .ref (MA 13), .ref (MA 14), .ref (MA 15), .int (nI ((f_pass F (tn t1) j) 24 3)), .ref (MA 16), .ref (MA 17), .ref (MA 18), .ref (MA 19), .ref (MA 20), .ref (MA 21)])) from i3.x) hi_RX7 rfl 16 (by decide) hf_90 rfl dX7_pass_27 ?_
        refine lv_icmp_ge (tgt := 106) hx hb dX7_pass_30 (by decide) (fun c_30 => ?_) (fun c_30 => ?_)
        · have q30 : F 24 2 ≤ j := by
            have h := (nI_leI (by omega) (by omega)).mp c_30
            omega
          refine lv_iload_n hx hb dX7_pass_106 rfl (lv_at hl 2 rfl) ?_
          have hje : j = F 24 2 := by omega
          have hev : s_pass F t1 = (0, nI k, f_pass F (tn t1) (F 24 2)) := by simp [s_pass, q12, i2, hje]
          exact wl_iret C0 hr rfl hP hS dX7_pass_107 (Nat.le_of_ble_eq_true rfl) (Nat.le_of_ble_eq_true rfl) (⟨by rw [hev], by rw [hev, ← hje]; exact i3, i4⟩)
        · have q30 : j < F 24 2 := Nat.not_le.mp (fun q => c_30 ((nI_leI (by omega) (by omega)).mpr (by omega)))
          have hcl := hI.cl q30
          have hpl := hI.pl hcl.1
          have hmul : F 10 (F 13 j) * tn t1 ≤ 2000 := Nat.mul_le_mul hpl.2.1 htt.2.2
          refine lv_aload_n hx hb dX7_pass_33 rfl (lv_at hl 0 rfl) ?_
          refine wl_get (T := TX7) C0 hP (show w1 mo = some (.inr (7, [.int (nI 0), .int (nI ((f_pass F (tn t1) j) 24 0)), .ref (MA 0), .ref (MA 1), .ref (MA 2), .ref (MA 3), .ref (MA 4), .ref (MA 5), .ref (MA 6), .ref (MA 7), .ref (MA 8), .ref (MA 9), .int (nI ((f_pass F (tn t1) j) 24 1)), .ref (MA 10), .ref (MA 11), .ref (MA 12), .int (nI ((f_pass F (tn t1) j) 24 2)), .ref (MA 13), .ref (MA 14), .ref (MA 15), .int (nI ((f_pass F (tn t1) j) 24 3)), .ref (MA 16), .ref (MA 17), .ref (MA 18), .ref (MA 19), .ref (MA 20), .ref (MA 21)])) from i3.x) hi_RX7 rfl 14 (by decide) hf_44 rfl dX7_pass_34 ?_
          refine lv_aload_n hx hb dX7_pass_37 rfl (lv_at hl 0 rfl) ?_
          refine wl_get (T := TX7) C0 hP (show w1 mo = some (.inr (7, [.int (nI 0), .int (nI ((f_pass F (tn t1) j) 24 0)), .ref (MA 0), .ref (MA 1), .ref (MA 2), .ref (MA 3), .ref (MA 4), .ref (MA 5), .ref (MA 6), .ref (MA 7), .ref (MA 8), .ref (MA 9), .int (nI ((f_pass F (tn t1) j) 24 1)), .ref (MA 10), .ref (MA 11), .ref (MA 12), .int (nI ((f_pass F (tn t1) j) 24 2)), .ref (MA 13), .ref (MA 14), .ref (MA 15), .int (nI ((f_pass F (tn t1) j) 24 3)), .ref (MA 16), .ref (MA 17), .ref (MA 18), .ref (MA 19), .ref (MA 20), .ref (MA 21)])) from i3.x) hi_RX7 rfl 17 (by decide) hf_50 rfl dX7_pass_38 ?_
          refine lv_iload_n hx hb dX7_pass_41 rfl (lv_at hl 3 rfl) ?_
          refine wl_iald C0 hP (show w1 (MA 13) = some (.inl (E.2.1 0, 6, .inl (fun i => nI ((f_pass F (tn t1) j) 13 i)))) from i3.i 13 (by decide) rfl rfl rfl) (vp_in_nI (by omega) (by omega)) dX7_pass_42 ?_
          refine W.eq (g2 := F0 m 43 ls [.int (nI ((f_pass F (tn t1) j) 13 j)), .ref (MA 11)]) (by rw [show (nI j).toNatClampNeg = j from nI_clamp (by omega)]) ?_
          rw [show (nI ((f_pass F (tn t1) j) 13 j)) = (nI (F 13 j)) from by rw [pass_a (by decide)]]
          refine wl_iald C0 hP (show w1 (MA 11) = some (.inl (E.2.1 0, 3, .inl (fun i => nI ((f_pass F (tn t1) j) 11 i)))) from i3.i 11 (by decide) rfl rfl rfl) (vp_in_nI (by omega) (by omega)) dX7_pass_43 ?_
          refine W.eq (g2 := F0 m 44 ls [.int (nI ((f_pass F (tn t1) j) 11 (F 13 j)))]) (by rw [show (nI (F 13 j)).toNatClampNeg = (F 13 j) from nI_clamp (by omega)]) ?_
          rw [show (nI ((f_pass F (tn t1) j) 11 (F 13 j))) = (nI (F 11 (F 13 j))) from by rw [pass_a (by decide)]]
          refine lv_aload_n hx hb dX7_pass_44 rfl (lv_at hl 0 rfl) ?_
          refine wl_get (T := TX7) C0 hP (show w1 mo = some (.inr (7, [.int (nI 0), .int (nI ((f_pass F (tn t1) j) 24 0)), .ref (MA 0), .ref (MA 1), .ref (MA 2), .ref (MA 3), .ref (MA 4), .ref (MA 5), .ref (MA 6), .ref (MA 7), .ref (MA 8), .ref (MA 9), .int (nI ((f_pass F (tn t1) j) 24 1)), .ref (MA 10), .ref (MA 11), .ref (MA 12), .int (nI ((f_pass F (tn t1) j) 24 2)), .ref (MA 13), .ref (MA 14), .ref (MA 15), .int (nI ((f_pass F (tn t1) j) 24 3)), .ref (MA 16), .ref (MA 17), .ref (MA 18), .ref (MA 19), .ref (MA 20), .ref (MA 21)])) from i3.x) hi_RX7 rfl 18 (by decide) hf_53 rfl dX7_pass_45 ?_
          refine lv_iload_n hx hb dX7_pass_48 rfl (lv_at hl 3 rfl) ?_
          refine wl_iald C0 hP (show w1 (MA 14) = some (.inl (E.2.1 0, 6, .inl (fun i => nI ((f_pass F (tn t1) j) 14 i)))) from i3.i 14 (by decide) rfl rfl rfl) (vp_in_nI (by omega) (by omega)) dX7_pass_49 ?_
          refine W.eq (g2 := F0 m 50 ls [.int (nI ((f_pass F (tn t1) j) 14 j)), .int (nI (F 11 (F 13 j)))]) (by rw [show (nI j).toNatClampNeg = j from nI_clamp (by omega)]) ?_
          rw [show (nI ((f_pass F (tn t1) j) 14 j)) = (nI (F 14 j)) from by rw [pass_14 (Nat.le_refl _)]]
          refine lv_isub hx hb dX7_pass_50 ?_
          rw [show ((nI (F 11 (F 13 j))) - (nI (F 14 j))) = (nI (F 11 (F 13 j) - F 14 j)) from pk_sub hcl.2]
          refine lv_istore (lv' := [(4, .int (nI (F 11 (F 13 j) - F 14 j))), (0, .ref mo), (1, .int (nI (tn t1))), (2, .int (nI k)), (3, .int (nI j))]) hx hb dX7_pass_51 hl (by decide) rfl (fun ls hl => ?_)
          refine lv_aload_n hx hb dX7_pass_53 rfl (lv_at hl 1 rfl) ?_
          refine wl_get (T := TX7) C0 hP (show w1 mo = some (.inr (7, [.int (nI 0), .int (nI ((f_pass F (tn t1) j) 24 0)), .ref (MA 0), .ref (MA 1), .ref (MA 2), .ref (MA 3), .ref (MA 4), .ref (MA 5), .ref (MA 6), .ref (MA 7), .ref (MA 8), .ref (MA 9), .int (nI ((f_pass F (tn t1) j) 24 1)), .ref (MA 10), .ref (MA 11), .ref (MA 12), .int (nI ((f_pass F (tn t1) j) 24 2)), .ref (MA 13), .ref (MA 14), .ref (MA 15), .int (nI ((f_pass F (tn t1) j) 24 3)), .ref (MA 16), .ref (MA 17), .ref (MA 18), .ref (MA 19), .ref (MA 20), .ref (MA 21)])) from i3.x) hi_RX7 rfl 13 (by decide) hf_41 rfl dX7_pass_54 ?_
          refine lv_aload_n hx hb dX7_pass_57 rfl (lv_at hl 1 rfl) ?_
          refine wl_get (T := TX7) C0 hP (show w1 mo = some (.inr (7, [.int (nI 0), .int (nI ((f_pass F (tn t1) j) 24 0)), .ref (MA 0), .ref (MA 1), .ref (MA 2), .ref (MA 3), .ref (MA 4), .ref (MA 5), .ref (MA 6), .ref (MA 7), .ref (MA 8), .ref (MA 9), .int (nI ((f_pass F (tn t1) j) 24 1)), .ref (MA 10), .ref (MA 11), .ref (MA 12), .int (nI ((f_pass F (tn t1) j) 24 2)), .ref (MA 13), .ref (MA 14), .ref (MA 15), .int (nI ((f_pass F (tn t1) j) 24 3)), .ref (MA 16), .ref (MA 17), .ref (MA 18), .ref (MA 19), .ref (MA 20), .ref (MA 21)])) from i3.x) hi_RX7 rfl 17 (by decide) hf_50 rfl dX7_pass_58 ?_
          refine lv_iload_n hx hb dX7_pass_61 rfl (lv_at hl 4 rfl) ?_
          refine wl_iald C0 hP (show w1 (MA 13) = some (.inl (E.2.1 0, 6, .inl (fun i => nI ((f_pass F (tn t1) j) 13 i)))) from i3.i 13 (by decide) rfl rfl rfl) (vp_in_nI (by omega) (by omega)) dX7_pass_62 ?_
          refine W.eq (g2 := F0 m 63 ls [.int (nI ((f_pass F (tn t1) j) 13 j)), .ref (MA 10)]) (by rw [show (nI j).toNatClampNeg = j from nI_clamp (by omega)]) ?_
          rw [show (nI ((f_pass F (tn t1) j) 13 j)) = (nI (F 13 j)) from by rw [pass_a (by decide)]]
          refine wl_iald C0 hP (show w1 (MA 10) = some (.inl (E.2.1 0, 3, .inl (fun i => nI ((f_pass F (tn t1) j) 10 i)))) from i3.i 10 (by decide) rfl rfl rfl) (vp_in_nI (by omega) (by omega)) dX7_pass_63 ?_
          refine W.eq (g2 := F0 m 64 ls [.int (nI ((f_pass F (tn t1) j) 10 (F 13 j)))]) (by rw [show (nI (F 13 j)).toNatClampNeg = (F 13 j) from nI_clamp (by omega)]) ?_
          rw [show (nI ((f_pass F (tn t1) j) 10 (F 13 j))) = (nI (F 10 (F 13 j))) from by rw [pass_a (by decide)]]
          refine lv_iload_n hx hb dX7_pass_64 rfl (lv_at hl 2 rfl) ?_
          refine lv_imul hx hb dX7_pass_65 ?_
          rw [show ((nI (F 10 (F 13 j))) * (nI (tn t1))) = (nI (F 10 (F 13 j) * tn t1)) from pk_mul _ _]
          refine lv_istore (lv' := [(5, .int (nI (F 10 (F 13 j) * tn t1))), (4, .int (nI (F 11 (F 13 j) - F 14 j))), (0, .ref mo), (1, .int (nI (tn t1))), (2, .int (nI k)), (3, .int (nI j))]) hx hb dX7_pass_66 hl (by decide) rfl (fun ls hl => ?_)
          refine lv_iload hx hb dX7_pass_68 (lv_at hl 0 rfl) ?_
          refine lv_iload hx hb dX7_pass_70 (lv_at hl 1 rfl) ?_
          refine lv_icmp_ge (tgt := 80) hx hb dX7_pass_72 (by decide) (fun c_72 => ?_) (fun c_72 => ?_)
          · have q72 : F 11 (F 13 j) - F 14 j ≤ F 10 (F 13 j) * tn t1 := (nI_leI (by omega) (by omega)).mp c_72
            refine lv_iload hx hb dX7_pass_80 (lv_at hl 1 rfl) ?_
            refine W.eq (g2 := F0 m 82 ls [.int (nI (g_got F (tn t1) j))]) (by rw [show g_got F (tn t1) j = F 11 (F 13 j) - F 14 j from Nat.min_eq_right q72]) ?_
            refine lv_istore (lv' := [(5, .int (nI (g_got F (tn t1) j))), (4, .int (nI (F 11 (F 13 j) - F 14 j))), (0, .ref mo), (1, .int (nI (tn t1))), (2, .int (nI k)), (3, .int (nI j))]) hx hb dX7_pass_82 hl (by decide) rfl (fun ls hl => ?_)
            refine lv_aload_n hx hb dX7_pass_84 rfl (lv_at hl 2 rfl) ?_
            refine wl_get (T := TX7) C0 hP (show w1 mo = some (.inr (7, [.int (nI 0), .int (nI ((f_pass F (tn t1) j) 24 0)), .ref (MA 0), .ref (MA 1), .ref (MA 2), .ref (MA 3), .ref (MA 4), .ref (MA 5), .ref (MA 6), .ref (MA 7), .ref (MA 8), .ref (MA 9), .int (nI ((f_pass F (tn t1) j) 24 1)), .ref (MA 10), .ref (MA 11), .ref (MA 12), .int (nI ((f_pass F (tn t1) j) 24 2)), .ref (MA 13), .ref (MA 14), .ref (MA 15), .int (nI ((f_pass F (tn t1) j) 24 3)), .ref (MA 16), .ref (MA 17), .ref (MA 18), .ref (MA 19), .ref (MA 20), .ref (MA 21)])) from i3.x) hi_RX7 rfl 18 (by decide) hf_53 rfl dX7_pass_85 ?_
            refine lv_iload_n hx hb dX7_pass_88 rfl (lv_at hl 5 rfl) ?_
            refine lv_dup2_11 hx hb dX7_pass_89 rfl rfl ?_
            refine wl_iald C0 hP (show w1 (MA 14) = some (.inl (E.2.1 0, 6, .inl (fun i => nI ((f_pass F (tn t1) j) 14 i)))) from i3.i 14 (by decide) rfl rfl rfl) (vp_in_nI (by omega) (by omega)) dX7_pass_90 ?_
            refine W.eq (g2 := F0 m 91 ls [.int (nI ((f_pass F (tn t1) j) 14 j)), .int (nI j), .ref (MA 14)]) (by rw [show (nI j).toNatClampNeg = j from nI_clamp (by omega)]) ?_
            rw [show (nI ((f_pass F (tn t1) j) 14 j)) = (nI (F 14 j)) from by rw [pass_14 (Nat.le_refl _)]]
            refine lv_iload hx hb dX7_pass_91 (lv_at hl 0 rfl) ?_
            refine lv_iadd hx hb dX7_pass_93 ?_
            rw [show ((nI (F 14 j)) + (nI (g_got F (tn t1) j))) = (nI (F 14 j + g_got F (tn t1) j)) from nI_add _ _]
            refine wl_iast C0 hP hS (show w1 (MA 14) = some (.inl (E.2.1 0, 6, .inl (fun i => nI ((f_pass F (tn t1) j) 14 i)))) from i3.i 14 (by decide) rfl rfl rfl) (vp_in_nI (by omega) (by omega)) dX7_pass_94 (fun H locs hP hS => ?_)
            obtain ⟨w_94_1, hw9, hm_94_1, hk_94_1⟩ : ∃ wz : wW, wz = wU w1 (MA 14) (.inl (E.2.1 0, 6, .inl (upd (fun i => nI ((f_pass F (tn t1) j) 14 i)) (nI j).toNatClampNeg (nI (F 14 j + g_got F (tn t1) j))))) ∧ wMod E (fU (f_pass F (tn t1) j) 14 j (F 14 j + g_got F (tn t1) j)) MA mo (nI 0) wz ∧ wKm mo MA w wz := ⟨_, rfl, M_s (F := (f_pass F (tn t1) j)) i3 14 j (F 14 j + g_got F (tn t1) j) (by decide) (by rw [show (nI j).toNatClampNeg = j from nI_clamp (by omega), upd_nI]; rfl), i4.tr (wKm.s (by decide))⟩
            rw [← hw9] at hP
            refine lv_iload_n hx hb dX7_pass_95 rfl (lv_at hl 4 rfl) ?_
            refine lv_iload hx hb dX7_pass_96 (lv_at hl 0 rfl) ?_
            refine lv_iadd hx hb dX7_pass_98 ?_
            rw [show ((nI k) + (nI (g_got F (tn t1) j))) = (nI (k + g_got F (tn t1) j)) from nI_add _ _]
            refine lv_istore_n (lv' := [(2, .int (nI (k + g_got F (tn t1) j))), (5, .int (nI (g_got F (tn t1) j))), (4, .int (nI (F 11 (F 13 j) - F 14 j))), (0, .ref mo), (1, .int (nI (tn t1))), (3, .int (nI j))]) hx hb dX7_pass_99 rfl hl (by decide) rfl (fun ls hl => ?_)
            refine lv_iinc (v := nI (j + 1)) (lv' := [(3, .int (nI (j + 1))), (2, .int (nI (k + g_got F (tn t1) j))), (5, .int (nI (g_got F (tn t1) j))), (4, .int (nI (F 11 (F 13 j) - F 14 j))), (0, .ref mo), (1, .int (nI (tn t1)))]) hx hb dX7_pass_100 hl (k := 5) rfl (nI_1 _) (by decide) rfl (fun ls hl => ?_)
            refine lv_goto (tgt := 25) hx hb dX7_pass_103 (by decide) ?_
            exact ih (j + 1) (k + g_got F (tn t1) j) w_94_1 _ _ hP hS (by omega) (by omega) (by rw [i2]; rfl) (hm_94_1) (hk_94_1) ls (lv_sub hl [4, 5, 1, 0] rfl)
          · have q72 : F 10 (F 13 j) * tn t1 < F 11 (F 13 j) - F 14 j := Nat.not_le.mp (fun q => c_72 ((nI_leI (by omega) (by omega)).mpr q))
            refine lv_iload hx hb dX7_pass_75 (lv_at hl 0 rfl) ?_
            refine lv_goto (tgt := 82) hx hb dX7_pass_77 (by decide) ?_
            refine W.eq (g2 := F0 m 82 ls [.int (nI (g_got F (tn t1) j))]) (by rw [show g_got F (tn t1) j = F 10 (F 13 j) * tn t1 from Nat.min_eq_left (Nat.le_of_lt q72)]) ?_
            refine lv_istore (lv' := [(5, .int (nI (g_got F (tn t1) j))), (4, .int (nI (F 11 (F 13 j) - F 14 j))), (0, .ref mo), (1, .int (nI (tn t1))), (2, .int (nI k)), (3, .int (nI j))]) hx hb dX7_pass_82 hl (by decide) rfl (fun ls hl => ?_)
            refine lv_aload_n hx hb dX7_pass_84 rfl (lv_at hl 2 rfl) ?_
            refine wl_get (T := TX7) C0 hP (show w1 mo = some (.inr (7, [.int (nI 0), .int (nI ((f_pass F (tn t1) j) 24 0)), .ref (MA 0), .ref (MA 1), .ref (MA 2), .ref (MA 3), .ref (MA 4), .ref (MA 5), .ref (MA 6), .ref (MA 7), .ref (MA 8), .ref (MA 9), .int (nI ((f_pass F (tn t1) j) 24 1)), .ref (MA 10), .ref (MA 11), .ref (MA 12), .int (nI ((f_pass F (tn t1) j) 24 2)), .ref (MA 13), .ref (MA 14), .ref (MA 15), .int (nI ((f_pass F (tn t1) j) 24 3)), .ref (MA 16), .ref (MA 17), .ref (MA 18), .ref (MA 19), .ref (MA 20), .ref (MA 21)])) from i3.x) hi_RX7 rfl 18 (by decide) hf_53 rfl dX7_pass_85 ?_
            refine lv_iload_n hx hb dX7_pass_88 rfl (lv_at hl 5 rfl) ?_
            refine lv_dup2_11 hx hb dX7_pass_89 rfl rfl ?_
            refine wl_iald C0 hP (show w1 (MA 14) = some (.inl (E.2.1 0, 6, .inl (fun i => nI ((f_pass F (tn t1) j) 14 i)))) from i3.i 14 (by decide) rfl rfl rfl) (vp_in_nI (by omega) (by omega)) dX7_pass_90 ?_
            refine W.eq (g2 := F0 m 91 ls [.int (nI ((f_pass F (tn t1) j) 14 j)), .int (nI j), .ref (MA 14)]) (by rw [show (nI j).toNatClampNeg = j from nI_clamp (by omega)]) ?_
            rw [show (nI ((f_pass F (tn t1) j) 14 j)) = (nI (F 14 j)) from by rw [pass_14 (Nat.le_refl _)]]
            refine lv_iload hx hb dX7_pass_91 (lv_at hl 0 rfl) ?_
            refine lv_iadd hx hb dX7_pass_93 ?_
            rw [show ((nI (F 14 j)) + (nI (g_got F (tn t1) j))) = (nI (F 14 j + g_got F (tn t1) j)) from nI_add _ _]
            refine wl_iast C0 hP hS (show w1 (MA 14) = some (.inl (E.2.1 0, 6, .inl (fun i => nI ((f_pass F (tn t1) j) 14 i)))) from i3.i 14 (by decide) rfl rfl rfl) (vp_in_nI (by omega) (by omega)) dX7_pass_94 (fun H locs hP hS => ?_)
            obtain ⟨w_94_2, hw9, hm_94_2, hk_94_2⟩ : ∃ wz : wW, wz = wU w1 (MA 14) (.inl (E.2.1 0, 6, .inl (upd (fun i => nI ((f_pass F (tn t1) j) 14 i)) (nI j).toNatClampNeg (nI (F 14 j + g_got F (tn t1) j))))) ∧ wMod E (fU (f_pass F (tn t1) j) 14 j (F 14 j + g_got F (tn t1) j)) MA mo (nI 0) wz ∧ wKm mo MA w wz := ⟨_, rfl, M_s (F := (f_pass F (tn t1) j)) i3 14 j (F 14 j + g_got F (tn t1) j) (by decide) (by rw [show (nI j).toNatClampNeg = j from nI_clamp (by omega), upd_nI]; rfl), i4.tr (wKm.s (by decide))⟩
            rw [← hw9] at hP
            refine lv_iload_n hx hb dX7_pass_95 rfl (lv_at hl 4 rfl) ?_
            refine lv_iload hx hb dX7_pass_96 (lv_at hl 0 rfl) ?_
            refine lv_iadd hx hb dX7_pass_98 ?_
            rw [show ((nI k) + (nI (g_got F (tn t1) j))) = (nI (k + g_got F (tn t1) j)) from nI_add _ _]
            refine lv_istore_n (lv' := [(2, .int (nI (k + g_got F (tn t1) j))), (5, .int (nI (g_got F (tn t1) j))), (4, .int (nI (F 11 (F 13 j) - F 14 j))), (0, .ref mo), (1, .int (nI (tn t1))), (3, .int (nI j))]) hx hb dX7_pass_99 rfl hl (by decide) rfl (fun ls hl => ?_)
            refine lv_iinc (v := nI (j + 1)) (lv' := [(3, .int (nI (j + 1))), (2, .int (nI (k + g_got F (tn t1) j))), (5, .int (nI (g_got F (tn t1) j))), (4, .int (nI (F 11 (F 13 j) - F 14 j))), (0, .ref mo), (1, .int (nI (tn t1)))]) hx hb dX7_pass_100 hl (k := 5) rfl (nI_1 _) (by decide) rfl (fun ls hl => ?_)
            refine lv_goto (tgt := 25) hx hb dX7_pass_103 (by decide) ?_
            exact ih (j + 1) (k + g_got F (tn t1) j) w_94_2 _ _ hP hS (by omega) (by omega) (by rw [i2]; rfl) (hm_94_2) (hk_94_2) ls (lv_sub hl [4, 5, 1, 0] rfl)
    exact LP _ 0 0 w_2_0 _ _ hP hS (Nat.lt_succ_self _) (Nat.zero_le _) (rfl) (hm_2_0) (hk_2_0) ls (lv_sub hl [2, 3, 1, 0] rfl)
  · have q12 : wi t1 1 100 = false := bI_0.mp c_12
    refine lv_aload_n hx hb dX7_pass_15 rfl (lv_at hl 0 rfl) ?_
    refine lv_iconst (v := 1) hx hb dX7_pass_16 (by decide) ?_
    refine wl_on C0 ht hP hS (wl_runV (As := [.int 1]) (rest := []) C0 hP hS (k_X7_fails l hst E w_2_0 H.size F MA mo (nI 0) 1 hm_2_0) (cwV 1 hts gX7_pass_X7_fails rfl rfl rfl (by decide +kernel) ⟨(Nat.le_of_ble_eq_true rfl), (Nat.le_of_ble_eq_true rfl)⟩) (show w_2_0 mo = some (.inr (7, [.int (nI 0), .int (nI (F 24 0)), .ref (MA 0), .ref (MA 1), .ref (MA 2), .ref (MA 3), .ref (MA 4), .ref (MA 5), .ref (MA 6), .ref (MA 7), .ref (MA 8), .ref (MA 9), .int (nI (F 24 1)), .ref (MA 10), .ref (MA 11), .ref (MA 12), .int (nI (F 24 2)), .ref (MA 13), .ref (MA 14), .ref (MA 15), .int (nI (F 24 3)), .ref (MA 16), .ref (MA 17), .ref (MA 18), .ref (MA 19), .ref (MA 20), .ref (MA 21)])) from hm_2_0.x) rfl rfl rfl hl.1 (Nat.le_of_ble_eq_true rfl) dX7_pass_17 ⟨(Nat.le_of_ble_eq_true rfl), (Nat.le_of_ble_eq_true rfl)⟩) (Nat.le_of_ble_eq_true rfl) (Nat.le_of_ble_eq_true rfl) (fun _ _ h => h.elim) (fun v_17 w_17 H locs hq hP hS => ?_)
    obtain ⟨rfl, hm_17_3, hk2_17_3⟩ := hq
    have hk_17_3 := hk_2_0.tr hk2_17_3
    refine W.eq (g2 := F0 m 20 ls [.int 0]) rfl ?_
    have hev : s_pass F t1 = (1, 0, F) := by simp [s_pass, q12]
    exact wl_iret C0 hr rfl hP hS dX7_pass_20 (Nat.le_of_ble_eq_true rfl) (Nat.le_of_ble_eq_true rfl) (⟨by rw [hev], by rw [hev]; exact hm_17_3, hk_17_3⟩)
