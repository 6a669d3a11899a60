theorem best_lt {F : FF} {n : Nat} (h : 0 < n) : g_best F n < n := by
  induction n with
  | zero => omega
  | succ n ih =>
    unfold g_best
    split
    · omega
    · by_cases h0 : n = 0
      · subst h0
        exact Nat.zero_lt_one
      · have := ih (by omega)
        omega
theorem lcmp_no {a b : Nat} (ha : a < 2 ^ 31) (hb : b < 2 ^ 31) (h : b < a) (hc : lg_cmp (lN a) (lN b) ≤ 0) : False := by
  have h1 : lN b < lN a := (lN_lt hb ha).mpr h
  simp [lg_cmp, h1] at hc
theorem lcmp_yes {a b : Nat} (ha : a < 2 ^ 31) (hb : b < 2 ^ 31) (hc : ¬ lg_cmp (lN a) (lN b) ≤ 0) : b < a := by
  rcases Nat.lt_or_ge b a with h | h
  · exact h
  · refine absurd ?_ hc
    have h1 : ¬ lN b < lN a := fun q => absurd ((lN_lt hb ha).mp q) (by omega)
    unfold lg_cmp
    rw [if_neg h1]
    split <;> decide
set_option maxHeartbeats 4000000 in
set_option maxRecDepth 100000 in
theorem k_X6_pass (l : Launch) (hst : l.stackTraces = false) (E : wEn) (w : wW) (sz : Nat) (F : FF) (AD : AT) (N : Nat) (hI : wInv F N) (hs : wSys E F AD w) (t1 : Int32) : wM l yX6_pass wsX6_pass 1 1 6 E w sz [.ref (AD 5 0), .int t1] (fun v w2 => ∃ AD2 : AT, (s_pass F t1).1 = 0 ∧ v = some (.int (s_pass F t1).2.1) ∧ wSys E (s_pass F t1).2.2 AD2 w2 ∧ AD2 5 0 = AD 5 0 ∧ wKp w w2) (fun X w2 => w2 = w ∧ ((s_pass F t1).1 = 1 ∧ X = xIAE)) := by
  refine wm_start (own := RX6) (cc := cX6_pass) (maxL := 7) (ret := (some .int)) rfl (by decide) rfl (Nat.le_of_ble_eq_true rfl) ?_
  intro p e s m args below meth c ls C0 hr hin ht hP hS hl
  have hx := C0.1
  have hb := C0.2.1
  have hts := C0.2.2.2.2.1
  have hown := C0.2.2.2.1
  have hl : lv_has ls 7 [(0, .ref (AD 5 0)), (1, .int t1)] := hl
  have hf_23 : (Cond.fieldLink RX6 23 "CallGateway" "callers" "[LCallGateway$Caller;").before args s = true := hts _ (by decide +kernel)
  have hf_186 : va_Nw (.fieldLinkNest RX6 186 "CallGateway$Caller" "plan" "LCallGateway$Plan;" "CallGateway") s := C0.2.2.2.2.2.2.2.1.1 _ (by decide +kernel)
  have hf_222 : va_Nw (.fieldLinkNest RX6 222 "CallGateway$Plan" "rate" "I" "CallGateway") s := C0.2.2.2.2.2.2.2.1.1 _ (by decide +kernel)
  have hi_RX1 : ∀ w ∈ u_ws RX1 TX1 4, w ∈ wsX6_pass := fun _ h => List.mem_cons_of_mem _ (List.mem_append_left _ (List.mem_append_left _ (List.mem_append_right _ h)))
  have hi_RX4 : ∀ w ∈ u_ws RX4 TX4 3, w ∈ wsX6_pass := fun _ h => List.mem_cons_of_mem _ (List.mem_append_left _ (List.mem_append_right _ h))
  have hi_RX6 : ∀ w ∈ u_ws RX6 TX6 8, w ∈ wsX6_pass := fun _ h => List.mem_cons_of_mem _ (List.mem_append_left _ (List.mem_append_left _ (List.mem_append_left _ (List.mem_append_right _ h))))
  have hn := hI.n
  have hn9 := hI.n
  refine lv_iload_n hx hb dX6_pass_0 rfl (lv_at hl 1 rfl) ?_
  refine lv_iconst (v := 1) hx hb dX6_pass_1 (by decide) ?_
  refine lv_bipush (v := 100) hx hb dX6_pass_2 (by decide) ?_
  refine wl_on C0 ht hP hS (wl_runS (As := [.int t1, .int 1, .int 100]) (rest := []) C0 hP hS (k_X6_isWithin l hst E w s.heap.size t1 1 100) (va_cwS 3 hts gX6_pass_X6_isWithin rfl rfl rfl (by decide +kernel) ⟨(Nat.le_of_ble_eq_true rfl), (Nat.le_of_ble_eq_true rfl)⟩) rfl rfl hl.1 (Nat.le_of_ble_eq_true rfl) dX6_pass_4 ⟨(Nat.le_of_ble_eq_true rfl), (Nat.le_of_ble_eq_true rfl)⟩) (Nat.le_of_ble_eq_true rfl) (Nat.le_of_ble_eq_true rfl) (fun _ _ h => h.elim) (fun v_4 w_4 H locs hq hP hS => ?_)
  obtain ⟨rfl, hw9⟩ := hq
  rw [hw9] at hP
  refine W.eq (g2 := F0 m 7 ls [.int (bI (wi t1 1 100))]) rfl ?_
  refine lv_if_ne (tgt := 20) hx hb dX6_pass_7 (by decide) (fun c_7 => ?_) (fun c_7 => ?_)
  · have q7 : wi t1 1 100 = true := bI_n.mp c_7
    have htt := wi_tn (lo := 1) (hi := 100) q7 (by omega) (by omega)
    have hl : lv_has ls 7 [(0, .ref (AD 5 0)), (1, .int (nI (tn t1)))] := by
      rw [htt.1]
      exact hl
    refine lv_iconst (v := 0) hx hb dX6_pass_20 (by decide) ?_
    refine lv_istore_n (lv' := [(2, .int 0), (0, .ref (AD 5 0)), (1, .int (nI (tn t1)))]) hx hb dX6_pass_21 rfl hl (by decide) rfl (fun ls hl => ?_)
    refine lv_aload_n hx hb dX6_pass_22 rfl (lv_at hl 1 rfl) ?_
    refine wl_get (T := TX6) C0 hP hs.x hi_RX6 rfl 2 (by decide) hf_23 rfl dX6_pass_23 ?_
    refine lv_astore_n (lv' := [(3, .ref (AD 5 3)), (2, .int 0), (0, .ref (AD 5 0)), (1, .int (nI (tn t1)))]) hx hb dX6_pass_26 rfl hl (by decide) rfl (fun ls hl => ?_)
    refine lv_aload_n hx hb dX6_pass_27 rfl (lv_at hl 0 rfl) ?_
    refine wl_alen (v := 6) C0 hP hs.aC 6 rfl rfl dX6_pass_28 ?_
    refine lv_istore (lv' := [(4, .int 6), (3, .ref (AD 5 3)), (2, .int 0), (0, .ref (AD 5 0)), (1, .int (nI (tn t1)))]) hx hb dX6_pass_29 hl (by decide) rfl (fun ls hl => ?_)
    refine lv_iconst (v := 0) hx hb dX6_pass_31 (by decide) ?_
    refine lv_istore (lv' := [(5, .int 0), (4, .int 6), (3, .ref (AD 5 3)), (2, .int 0), (0, .ref (AD 5 0)), (1, .int (nI (tn t1)))]) hx hb dX6_pass_32 hl (by decide) rfl (fun ls hl => ?_)
    have LP : ∀ (nF : Nat) (j k : Nat) (w1 : wW) (H : Heap) (locs : List Loc), wP E.1 (wA w sz) w1 H → va_S (wA w sz) s.heap H locs → 6 - j < nF → (j ≤ 6) → (k = sm (g_got F (tn t1)) (Nat.min j (F 24 2))) → (wSys E (f_pass F (tn t1) (Nat.min j (F 24 2))) AD w1) → (wKp w w1) → ∀ (ls : Array Slot), lv_has ls 7 [(0, .ref (AD 5 0)), (1, .int (nI (tn t1))), (2, .int (nI k)), (3, .ref (AD 5 3)), (4, .int 6), (5, .int (nI j))] → W p l e (wRm 1 1 6) s m args below meth c H locs 0 0 (vx_MQ below (wQ E (wA w sz) (fun v w2 => ∃ AD2 : AT, (s_pass F t1).1 = 0 ∧ v = some (.int (s_pass F t1).2.1) ∧ wSys E (s_pass F t1).2.2 AD2 w2 ∧ AD2 5 0 = AD 5 0 ∧ wKp w w2)) (wX E (wA w sz) (fun X w2 => w2 = w ∧ ((s_pass F t1).1 = 1 ∧ X = xIAE))) args s 1 6 (wA w sz)) (F0 m 34 ls []) := by
      intro nF
      induction nF with
      | zero => intro j k w1 H locs hP hS hn; exact absurd hn (Nat.not_lt_zero _)
      | succ nF ih =>
        intro j k w1 H locs hP hS hn i1 i2 i3 i4 ls hl
        have ha5 : w1 (AD 5 3) = some (.inl (E.2.1 6, 6, .inr (.inr (.inr (.inr (rfU (AD 2) (F 24 2))))))) := by
          have h := i3.aC
          rw [pass_a (a := 24) (by decide)] at h
          exact h
        refine lv_iload hx hb dX6_pass_34 (lv_at hl 5 rfl) ?_
        refine lv_iload hx hb dX6_pass_36 (lv_at hl 4 rfl) ?_
        refine lv_icmp_ge (tgt := 76) hx hb dX6_pass_38 (by decide) (fun c_38 => ?_) (fun c_38 => ?_)
        · have q38 : 6 ≤ j := (nI_leI (a := 6) (b := j) (by omega) (by omega)).mp c_38
          refine lv_iload_n hx hb dX6_pass_76 rfl (lv_at hl 2 rfl) ?_
          have hev : s_pass F t1 = (0, nI k, f_pass F (tn t1) (F 24 2)) := by simp [s_pass, q7, i2, min_ge (show F 24 2 ≤ j by omega)]
          exact wl_iret C0 hr rfl hP hS dX6_pass_77 (Nat.le_of_ble_eq_true rfl) (Nat.le_of_ble_eq_true rfl) (⟨AD, by rw [hev], by rw [hev], by rw [hev]; rw [min_ge (show F 24 2 ≤ j by omega)] at i3; exact i3, rfl, i4⟩)
        · have q38 : j < 6 := Nat.not_le.mp (fun q => c_38 ((nI_leI (a := 6) (b := j) (by omega) (by omega)).mpr q))
          refine lv_aload_n hx hb dX6_pass_41 rfl (lv_at hl 3 rfl) ?_
          refine lv_iload hx hb dX6_pass_42 (lv_at hl 5 rfl) ?_
          refine wl_aldq (t0 := 6) C0 hP rfl ha5 (vp_in_nI q38 (by omega)) dX6_pass_44 ?_
          rw [show (nI j).toNatClampNeg = j from nI_clamp (by omega)]
          refine wl_rfU (fun h_45 => ?_) (fun h_45 => ?_)
          · rw [min_lt h_45] at i2 i3
            have e24 : ∀ b, (f_pass F (tn t1) j) 24 b = F 24 b := fun b => pass_a (by decide)
            have hca : w1 (AD 2 j) = some (.inr (1, [.int (nI j), .ref (AD 1 (F 13 j)), .int (nI (F 14 j)), .long (lN (F 15 j))])) := by
              have h := i3.cl (i := j) (by rw [e24]; exact h_45)
              simpa only [e_caller, pass_a (F := F) (t := tn t1) (k := j) (a := 13) (by decide), pass_a (F := F) (t := tn t1) (k := j) (a := 15) (by decide), pass_14 (F := F) (t := tn t1) (Nat.le_refl j)] using h
            have hcl := hI.cl h_45
            have hpl9 := hI.pl hcl.1
            have hpl : w1 (AD 1 (F 13 j)) = some (.inr (4, [.int (nI (F 10 (F 13 j))), .int (nI (F 11 (F 13 j))), .int (nI (F 12 (F 13 j)))])) := by
              have h := i3.pl (i := F 13 j) (by rw [e24]; exact hcl.1)
              simpa only [e_plan, pass_a (F := F) (t := tn t1) (k := j) (a := 10) (by decide), pass_a (F := F) (t := tn t1) (k := j) (a := 11) (by decide), pass_a (F := F) (t := tn t1) (k := j) (a := 12) (by decide)] using h
            refine lv_astore (lv' := [(6, .ref (AD 2 j)), (0, .ref (AD 5 0)), (1, .int (nI (tn t1))), (2, .int (nI k)), (3, .ref (AD 5 3)), (4, .int 6), (5, .int (nI j))]) hx hb dX6_pass_45 hl (by decide) rfl (fun ls hl => ?_)
            refine lv_aload hx hb dX6_pass_47 (lv_at hl 0 rfl) ?_
            refine lv_ifnull hx hb dX6_pass_49 ?_
            refine lv_iload_n hx hb dX6_pass_52 rfl (lv_at hl 3 rfl) ?_
            refine lv_aload hx hb dX6_pass_53 (lv_at hl 0 rfl) ?_
            refine lv_aload hx hb dX6_pass_55 (lv_at hl 0 rfl) ?_
            refine wl_getN (T := TX1) C0 hP hca hi_RX1 rfl 1 (by decide) hf_186 rfl dX6_pass_57 ?_
            refine wl_getN (T := TX4) C0 hP hpl hi_RX4 rfl 0 (by decide) hf_222 rfl dX6_pass_60 ?_
            refine lv_iload_n hx hb dX6_pass_63 rfl (lv_at hl 2 rfl) ?_
            refine lv_imul hx hb dX6_pass_64 ?_
            rw [show ((nI (F 10 (F 13 j))) * (nI (tn t1))) = (nI (F 10 (F 13 j) * tn t1)) from pk_mul _ _]
            have hmul : F 10 (F 13 j) * tn t1 ≤ 2000 := Nat.mul_le_mul hpl9.2.1 htt.2.2
            refine wl_on C0 ht hP hS (wl_runVN (host := "CallGateway") (As := [.int (nI (F 10 (F 13 j) * tn t1))]) (rest := [.int (nI k)]) C0 hP hS (k_X1_gain l hst E w1 H.size (f_pass F (tn t1) j) AD i3 j (by rw [e24]; exact h_45) (by rw [e24]; exact hn9.2.2.1) (by rw [pass_a (F := F) (t := tn t1) (k := j) (a := 13) (by decide), e24]; exact hcl.1) (by rw [pass_a (F := F) (t := tn t1) (k := j) (a := 13) (by decide), pass_14 (Nat.le_refl j), pass_a (a := 11) (by decide)]; exact hcl.2) (by rw [pass_a (F := F) (t := tn t1) (k := j) (a := 13) (by decide), pass_a (a := 11) (by decide)]; exact hpl9.2.2.2.1) (F 10 (F 13 j) * tn t1) hmul) ⟨va_cnB 1 hts gX6_pass_X1_gain_n225 rfl rfl rfl (C0.2.2.2.2.2.2.2.1.1 _ (by decide +kernel)) (hts _ (by decide +kernel)) (by decide +kernel) ⟨(Nat.le_of_ble_eq_true rfl), (Nat.le_of_ble_eq_true rfl)⟩, hts _ (by decide +kernel), hts _ (by decide +kernel)⟩ hca rfl rfl rfl hl.1 (Nat.le_of_ble_eq_true rfl) dX6_pass_65 ⟨(Nat.le_of_ble_eq_true rfl), (Nat.le_of_ble_eq_true rfl)⟩) (Nat.le_of_ble_eq_true rfl) (Nat.le_of_ble_eq_true rfl) (fun _ _ h => h.elim) (fun v_65 w_65 H locs hq hP hS => ?_)
            obtain ⟨rfl, hs2, hk2⟩ := hq
            have hs3 : wSys E (f_pass F (tn t1) (j + 1)) AD w_65 := by
              have e : (f_pass F (tn t1) (j + 1)) = fU (f_pass F (tn t1) j) 14 j ((f_pass F (tn t1) j) 14 j + Nat.min (F 10 (F 13 j) * tn t1) ((f_pass F (tn t1) j) 11 ((f_pass F (tn t1) j) 13 j) - (f_pass F (tn t1) j) 14 j)) := by
                rw [pass_14 (Nat.le_refl j), pass_a (a := 13) (by decide), pass_a (a := 11) (by decide)]
                rfl
              rw [e]
              exact hs2
            rw [show Nat.min (F 10 (F 13 j) * tn t1) ((f_pass F (tn t1) j) 11 ((f_pass F (tn t1) j) 13 j) - (f_pass F (tn t1) j) 14 j) = g_got F (tn t1) j from by rw [pass_14 (Nat.le_refl j), pass_a (a := 13) (by decide), pass_a (a := 11) (by decide)]; rfl]
            refine W.eq (g2 := F0 m 68 ls [.int (nI (g_got F (tn t1) j)), .int (nI k)]) rfl ?_
            refine lv_iadd hx hb dX6_pass_68 ?_
            rw [show ((nI k) + (nI (g_got F (tn t1) j))) = (nI (k + g_got F (tn t1) j)) from nI_add _ _]
            refine lv_istore_n (lv' := [(2, .int (nI (k + g_got F (tn t1) j))), (6, .ref (AD 2 j)), (0, .ref (AD 5 0)), (1, .int (nI (tn t1))), (3, .ref (AD 5 3)), (4, .int 6), (5, .int (nI j))]) hx hb dX6_pass_69 rfl hl (by decide) rfl (fun ls hl => ?_)
            refine lv_iinc (v := nI (j + 1)) (lv' := [(5, .int (nI (j + 1))), (2, .int (nI (k + g_got F (tn t1) j))), (6, .ref (AD 2 j)), (0, .ref (AD 5 0)), (1, .int (nI (tn t1))), (3, .ref (AD 5 3)), (4, .int 6)]) hx hb dX6_pass_70 hl (k := 6) rfl (nI_1 _) (by decide) rfl (fun ls hl => ?_)
            refine lv_goto (tgt := 34) hx hb dX6_pass_73 (by decide) ?_
            exact ih (j + 1) (k + g_got F (tn t1) j) w_65 _ _ hP hS (by omega) (by omega) (by rw [i2, min_in h_45, min_lt h_45]; rfl) (by rw [min_in h_45, min_lt h_45]; exact hs3) (i4.tr hk2) ls (lv_sub hl [3, 4, 1, 5, 6, 0] rfl)
          · refine lv_astoreN (lv' := [(6, .null), (0, .ref (AD 5 0)), (1, .int (nI (tn t1))), (2, .int (nI k)), (3, .ref (AD 5 3)), (4, .int 6), (5, .int (nI j))]) hx hb dX6_pass_45 hl (by decide) rfl (fun ls hl => ?_)
            refine lv_aloadN hx hb dX6_pass_47 (lv_at hl 0 rfl) ?_
            refine lv_ifnullN (tgt := 70) hx hb dX6_pass_49 (by decide) ?_
            refine lv_iinc (v := nI (j + 1)) (lv' := [(5, .int (nI (j + 1))), (6, .null), (0, .ref (AD 5 0)), (1, .int (nI (tn t1))), (2, .int (nI k)), (3, .ref (AD 5 3)), (4, .int 6)]) hx hb dX6_pass_70 hl (k := 6) rfl (nI_1 _) (by decide) rfl (fun ls hl => ?_)
            refine lv_goto (tgt := 34) hx hb dX6_pass_73 (by decide) ?_
            exact ih (j + 1) k w1 _ _ hP hS (by omega) (by omega) (by rw [i2, min_up h_45]) (by rw [min_up h_45]; exact i3) (i4) ls (lv_sub hl [2, 3, 4, 5, 6, 0] rfl)
    exact LP _ 0 0 w _ _ hP hS (Nat.lt_succ_self _) (by omega) (by rw [show Nat.min 0 (F 24 2) = 0 from Nat.min_eq_left (Nat.zero_le _)]; rfl) (by rw [show Nat.min 0 (F 24 2) = 0 from Nat.min_eq_left (Nat.zero_le _)]; exact hs) (wKp.rf) ls (lv_sub hl [4, 5, 3, 2, 1, 0] rfl)
  · have q7 : wi t1 1 100 = false := bI_0.mp c_7
    exact wl_throwS (ik := 46) (is := 220) (ic := 50) (i := 17) C0 hst ht (by decide +kernel) (hts _ (by decide +kernel)) (hts _ (by decide +kernel)) rfl (fun _ h => List.mem_cons_of_mem _ (List.mem_append_right _ h)) xc_IAE xn_IAE xg_IAE hP hS hl.1 dX6_pass_10 dX6_pass_13 dX6_pass_14 dX6_pass_16 dX6_pass_19 (Nat.le_of_ble_eq_true rfl) (Nat.le_of_ble_eq_true rfl) (Nat.le_of_ble_eq_true rfl) (Nat.le_of_ble_eq_true rfl) (Nat.le_of_ble_eq_true rfl) (Nat.le_of_ble_eq_true rfl) (⟨rfl, ⟨by simp [s_pass, q7], rfl⟩⟩)

set_option maxHeartbeats 4000000 in
set_option maxRecDepth 100000 in
theorem k_X6_calls (l : Launch) (hst : l.stackTraces = false) (E : wEn) (w : wW) (sz : Nat) (F : FF) (AD : AT) (N : Nat) (hI : wInv F N) (hs : wSys E F AD w) : wM l yX6_calls wsX6_calls 0 0 0 E w sz [.ref (AD 5 0)] (fun v w2 => v = some (.int (nI (F 24 3))) ∧ w2 = w) (fun _ _ => False) := by
  refine wm_start (own := RX6) (cc := cX6_calls) (maxL := 1) (ret := (some .int)) rfl (by decide) rfl (Nat.le_of_ble_eq_true rfl) ?_
  intro p e s m args below meth c ls C0 hr hin ht hP hS hl
  have hx := C0.1
  have hb := C0.2.1
  have hts := C0.2.2.2.2.1
  have hown := C0.2.2.2.1
  have hl : lv_has ls 1 [(0, .ref (AD 5 0))] := hl
  have hf_30 : (Cond.fieldLink RX6 30 "CallGateway" "log" "LCallGateway$CallLog;").before args s = true := hts _ (by decide +kernel)
  have hf_228 : va_Nw (.fieldLinkNest RX6 228 "CallGateway$CallLog" "size" "I" "CallGateway") s := C0.2.2.2.2.2.2.2.1.1 _ (by decide +kernel)
  have hi_RX0 : ∀ w ∈ u_ws RX0 TX0 2, w ∈ wsX6_calls := fun _ h => List.mem_cons_of_mem _ (List.mem_append_right _ h)
  have hi_RX6 : ∀ w ∈ u_ws RX6 TX6 8, w ∈ wsX6_calls := fun _ h => List.mem_cons_of_mem _ (List.mem_append_left _ (List.mem_append_right _ h))
  refine lv_aload_n hx hb dX6_calls_0 rfl (lv_at hl 0 rfl) ?_
  refine wl_get (T := TX6) C0 hP hs.x hi_RX6 rfl 3 (by decide) hf_30 rfl dX6_calls_1 ?_
  refine wl_getN (T := TX0) C0 hP hs.log hi_RX0 rfl 1 (by decide) hf_228 rfl dX6_calls_4 ?_
  exact wl_iret C0 hr rfl hP hS dX6_calls_7 (Nat.le_of_ble_eq_true rfl) (Nat.le_of_ble_eq_true rfl) (⟨rfl, rfl⟩)

set_option maxHeartbeats 4000000 in
set_option maxRecDepth 100000 in
theorem k_X6_count (l : Launch) (hst : l.stackTraces = false) (E : wEn) (w : wW) (sz : Nat) (F : FF) (AD : AT) (N : Nat) (hI : wInv F N) (hs : wSys E F AD w) (c1 k1 : Int32) : wM l yX6_count wsX6_count 2 2 12 E w sz [.ref (AD 5 0), .int c1, .int k1] (fun v w2 => ∃ AD2 : AT, (s_count F c1 k1).1 = 0 ∧ v = some (.int (s_count F c1 k1).2.1) ∧ wSys E (s_count F c1 k1).2.2 AD2 w2 ∧ AD2 5 0 = AD 5 0 ∧ wKp w w2) (fun X w2 => w2 = w ∧ ((s_count F c1 k1).1 = 1 ∧ X = xIOB ∨ (s_count F c1 k1).1 = 2 ∧ X = xIAE)) := by
  refine wm_start (own := RX6) (cc := cX6_count) (maxL := 4) (ret := (some .int)) rfl (by decide) rfl (Nat.le_of_ble_eq_true rfl) ?_
  intro p e s m args below meth c ls C0 hr hin ht hP hS hl
  have hx := C0.1
  have hb := C0.2.1
  have hts := C0.2.2.2.2.1
  have hown := C0.2.2.2.1
  have hl : lv_has ls 4 [(0, .ref (AD 5 0)), (1, .int c1), (2, .int k1)] := hl
  have hf_30 : (Cond.fieldLink RX6 30 "CallGateway" "log" "LCallGateway$CallLog;").before args s = true := hts _ (by decide +kernel)
  have hf_203 : va_Nw (.fieldLinkNest RX6 203 "CallGateway$Caller" "number" "I" "CallGateway") s := C0.2.2.2.2.2.2.2.1.1 _ (by decide +kernel)
  have hi_RX1 : ∀ w ∈ u_ws RX1 TX1 4, w ∈ wsX6_count := fun _ h => List.mem_cons_of_mem _ (List.mem_append_left _ (List.mem_append_left _ (List.mem_append_left _ (List.mem_append_left _ (List.mem_append_right _ h)))))
  have hi_RX6 : ∀ w ∈ u_ws RX6 TX6 8, w ∈ wsX6_count := fun _ h => List.mem_cons_of_mem _ (List.mem_append_left _ (List.mem_append_left _ (List.mem_append_left _ (List.mem_append_left _ (List.mem_append_left _ (List.mem_append_right _ h))))))
  have hn := hI.n
  refine lv_aload_n hx hb dX6_count_0 rfl (lv_at hl 0 rfl) ?_
  refine lv_iload_n hx hb dX6_count_1 rfl (lv_at hl 1 rfl) ?_
  refine wl_on C0 ht hP hS (wl_runV (As := [.int c1]) (rest := []) C0 hP hS (k_X6_existingCaller l hst E w s.heap.size F AD N hI hs c1) (cwV 1 hts gX6_count_X6_existingCaller rfl rfl rfl (by decide +kernel) ⟨(Nat.le_of_ble_eq_true rfl), (Nat.le_of_ble_eq_true rfl)⟩) hs.x rfl rfl rfl hl.1 (Nat.le_of_ble_eq_true rfl) dX6_count_2 ⟨(Nat.le_of_ble_eq_true rfl), (Nat.le_of_ble_eq_true rfl)⟩) (Nat.le_of_ble_eq_true rfl) (Nat.le_of_ble_eq_true rfl) (fun X w2 h => ⟨h.2.1, Or.inl (⟨by simp [s_count, h.2.2], h.1⟩)⟩) (fun v_2 w_2 H locs hq hP hS => ?_)
  obtain ⟨rfl, hw9, hv_2⟩ := hq
  rw [hw9] at hP
  have hi_2 : tn c1 < F 24 2 := (vpb_tn hv_2)
  refine W.eq (g2 := F0 m 5 ls [.ref (AD 2 (tn c1))]) rfl ?_
  refine W.widen (k := 1) (n := 6) (Nat.le_of_ble_eq_true rfl) (Nat.le_of_ble_eq_true rfl) ?_
  refine lv_astore_n (lv' := [(3, .ref (AD 2 (tn c1))), (0, .ref (AD 5 0)), (1, .int c1), (2, .int k1)]) hx hb dX6_count_5 rfl hl (by decide) rfl (fun ls hl => ?_)
  refine lv_iload_n hx hb dX6_count_6 rfl (lv_at hl 3 rfl) ?_
  refine wl_on C0 ht hP hS (wl_runS (As := [.int k1]) (rest := []) C0 hP hS (k_X6_isKind l hst E w H.size k1) (va_cwS 1 hts gX6_count_X6_isKind rfl rfl rfl (by decide +kernel) ⟨(Nat.le_of_ble_eq_true rfl), (Nat.le_of_ble_eq_true rfl)⟩) rfl rfl hl.1 (Nat.le_of_ble_eq_true rfl) dX6_count_7 ⟨(Nat.le_of_ble_eq_true rfl), (Nat.le_of_ble_eq_true rfl)⟩) (Nat.le_of_ble_eq_true rfl) (Nat.le_of_ble_eq_true rfl) (fun _ _ h => h.elim) (fun v_7 w_7 H locs hq hP hS => ?_)
  obtain ⟨rfl, hw9⟩ := hq
  rw [hw9] at hP
  refine W.eq (g2 := F0 m 10 ls [.int (bI (isK k1))]) rfl ?_
  refine lv_if_ne (tgt := 23) hx hb dX6_count_10 (by decide) (fun c_10 => ?_) (fun c_10 => ?_)
  · have q10 : isK k1 = true := bI_n.mp c_10
    refine lv_aload_n hx hb dX6_count_23 rfl (lv_at hl 1 rfl) ?_
    refine wl_get (T := TX6) C0 hP hs.x hi_RX6 rfl 3 (by decide) hf_30 rfl dX6_count_24 ?_
    refine lv_aload_n hx hb dX6_count_27 rfl (lv_at hl 0 rfl) ?_
    refine wl_getN (T := TX1) C0 hP (wSys.cl hs hi_2) hi_RX1 rfl 0 (by decide) hf_203 rfl dX6_count_28 ?_
    refine lv_iload_n hx hb dX6_count_31 rfl (lv_at hl 3 rfl) ?_
    refine wl_on C0 ht hP hS (wl_runVN (host := "CallGateway") (As := [.int (nI (tn c1)), .int k1]) (rest := []) C0 hP hS (k_X0_numberOf l hst E w H.size F AD N hI hs (tn c1) hi_2 k1) ⟨va_cnB 2 hts gX6_count_X0_numberOf_n237 rfl rfl rfl (C0.2.2.2.2.2.2.2.1.1 _ (by decide +kernel)) (hts _ (by decide +kernel)) (by decide +kernel) ⟨(Nat.le_of_ble_eq_true rfl), (Nat.le_of_ble_eq_true rfl)⟩, hts _ (by decide +kernel), hts _ (by decide +kernel)⟩ hs.log rfl rfl rfl hl.1 (Nat.le_of_ble_eq_true rfl) dX6_count_32 ⟨(Nat.le_of_ble_eq_true rfl), (Nat.le_of_ble_eq_true rfl)⟩) (Nat.le_of_ble_eq_true rfl) (Nat.le_of_ble_eq_true rfl) (fun _ _ h => h.elim) (fun v_32 w_32 H locs hq hP hS => ?_)
    obtain ⟨rfl, hw9⟩ := hq
    rw [hw9] at hP
    refine W.eq (g2 := F0 m 35 ls [.int (nI (ct (fun i => decide (F 16 i = tn c1) && decide (nI (F 17 i) = k1)) (F 24 3)))]) rfl ?_
    have hev : s_count F c1 k1 = (0, nI (ct (fun i => decide (F 16 i = tn c1) && decide (nI (F 17 i) = k1)) (F 24 3)), F) := by simp [s_count, hv_2, q10]
    exact wl_iret C0 hr rfl hP hS dX6_count_35 (Nat.le_of_ble_eq_true rfl) (Nat.le_of_ble_eq_true rfl) (⟨AD, by rw [hev], by rw [hev], by rw [hev]; exact hs, rfl, wKp.rf⟩)
  · have q10 : isK k1 = false := bI_0.mp c_10
    exact wl_throwS (ik := 46) (is := 235) (ic := 50) (i := 18) C0 hst ht (by decide +kernel) (hts _ (by decide +kernel)) (hts _ (by decide +kernel)) rfl (fun _ h => List.mem_cons_of_mem _ (List.mem_append_left _ (List.mem_append_right _ h))) xc_IAE xn_IAE xg_IAE hP hS hl.1 dX6_count_13 dX6_count_16 dX6_count_17 dX6_count_19 dX6_count_22 (Nat.le_of_ble_eq_true rfl) (Nat.le_of_ble_eq_true rfl) (Nat.le_of_ble_eq_true rfl) (Nat.le_of_ble_eq_true rfl) (Nat.le_of_ble_eq_true rfl) (Nat.le_of_ble_eq_true rfl) (⟨rfl, Or.inr (⟨by simp [s_count, hv_2, q10], rfl⟩)⟩)

set_option maxHeartbeats 4000000 in
set_option maxRecDepth 100000 in
theorem k_X6_isUndone (l : Launch) (hst : l.stackTraces = false) (E : wEn) (w : wW) (sz : Nat) (F : FF) (AD : AT) (N : Nat) (hI : wInv F N) (hs : wSys E F AD w) (k1 : Int32) : wM l yX6_isUndone wsX6_isUndone 1 1 6 E w sz [.ref (AD 5 0), .int k1] (fun v w2 => ∃ AD2 : AT, (s_isUndone F k1).1 = 0 ∧ v = some (.int (s_isUndone F k1).2.1) ∧ wSys E (s_isUndone F k1).2.2 AD2 w2 ∧ AD2 5 0 = AD 5 0 ∧ wKp w w2) (fun X w2 => w2 = w ∧ ((s_isUndone F k1).1 = 1 ∧ X = xIOB)) := by
  refine wm_start (own := RX6) (cc := cX6_isUndone) (maxL := 3) (ret := (some .boolean)) rfl (by decide) rfl (Nat.le_of_ble_eq_true rfl) ?_
  intro p e s m args below meth c ls C0 hr hin ht hP hS hl
  have hx := C0.1
  have hb := C0.2.1
  have hts := C0.2.2.2.2.1
  have hown := C0.2.2.2.1
  have hl : lv_has ls 3 [(0, .ref (AD 5 0)), (1, .int k1)] := hl
  have hf_30 : (Cond.fieldLink RX6 30 "CallGateway" "log" "LCallGateway$CallLog;").before args s = true := hts _ (by decide +kernel)
  have hf_250 : va_Nw (.fieldLinkNest RX6 250 "CallGateway$Entry" "undone" "Z" "CallGateway") s := C0.2.2.2.2.2.2.2.1.1 _ (by decide +kernel)
  have hi_RX3 : ∀ w ∈ u_ws RX3 TX3 6, w ∈ wsX6_isUndone := fun _ h => List.mem_cons_of_mem _ (List.mem_append_left _ (List.mem_append_left _ (List.mem_append_right _ h)))
  have hi_RX6 : ∀ w ∈ u_ws RX6 TX6 8, w ∈ wsX6_isUndone := fun _ h => List.mem_cons_of_mem _ (List.mem_append_left _ (List.mem_append_left _ (List.mem_append_left _ (List.mem_append_right _ h))))
  have hn := hI.n
  refine lv_aload_n hx hb dX6_isUndone_0 rfl (lv_at hl 0 rfl) ?_
  refine wl_get (T := TX6) C0 hP hs.x hi_RX6 rfl 3 (by decide) hf_30 rfl dX6_isUndone_1 ?_
  refine lv_iload_n hx hb dX6_isUndone_4 rfl (lv_at hl 1 rfl) ?_
  refine wl_on C0 ht hP hS (wl_runVN (host := "CallGateway") (As := [.int k1]) (rest := []) C0 hP hS (k_X0_entryAt l hst E w s.heap.size F AD hs hn.2.2.2.1 k1) ⟨va_cnB 1 hts gX6_isUndone_X0_entryAt_n241 rfl rfl rfl (C0.2.2.2.2.2.2.2.1.1 _ (by decide +kernel)) (hts _ (by decide +kernel)) (by decide +kernel) ⟨(Nat.le_of_ble_eq_true rfl), (Nat.le_of_ble_eq_true rfl)⟩, hts _ (by decide +kernel), hts _ (by decide +kernel)⟩ hs.log rfl rfl rfl hl.1 (Nat.le_of_ble_eq_true rfl) dX6_isUndone_5 ⟨(Nat.le_of_ble_eq_true rfl), (Nat.le_of_ble_eq_true rfl)⟩) (Nat.le_of_ble_eq_true rfl) (Nat.le_of_ble_eq_true rfl) (fun _ _ h => h.elim) (fun v_5 w_5 H locs hq hP hS => ?_)
  obtain ⟨rfl, hw9⟩ := hq
  rw [hw9] at hP
  refine W.eq (g2 := F0 m 8 ls [va_rf (rfX (AD 3) (F 24 3) k1)]) rfl ?_
  by_cases h_8 : vpb k1 (F 24 3) = true
  · rw [rfX_ok h_8]
    refine lv_astore_n (lv' := [(2, .ref (AD 3 (tn k1))), (0, .ref (AD 5 0)), (1, .int k1)]) hx hb dX6_isUndone_8 rfl hl (by decide) rfl (fun ls hl => ?_)
    refine lv_aload_n hx hb dX6_isUndone_9 rfl (lv_at hl 0 rfl) ?_
    refine lv_ifnonnull (tgt := 23) hx hb dX6_isUndone_10 (by decide) ?_
    refine lv_aload_n hx hb dX6_isUndone_23 rfl (lv_at hl 0 rfl) ?_
    refine wl_getN (T := TX3) C0 hP (wSys.en hs (vpb_tn h_8)) hi_RX3 rfl 5 (by decide) hf_250 rfl dX6_isUndone_24 ?_
    rw [show (nI (F 20 (tn k1))) = (bI (decide (F 20 (tn k1) ≠ 0))) from nI_bI (hI.en (vpb_tn h_8)).2.2.2.2.1]
    have hev : s_isUndone F k1 = (0, bI (decide (F 20 (tn k1) ≠ 0)), F) := by simp [s_isUndone, h_8]
    exact wl_iret C0 hr (w_nz _) hP hS dX6_isUndone_27 (Nat.le_of_ble_eq_true rfl) (Nat.le_of_ble_eq_true rfl) (⟨AD, by rw [hev], by rw [hev], by rw [hev]; exact hs, rfl, wKp.rf⟩)
  · have h_8 : vpb k1 (F 24 3) = false := by simpa using h_8
    rw [rfX_no h_8]
    refine lv_astore_nN (lv' := [(2, .null), (0, .ref (AD 5 0)), (1, .int k1)]) hx hb dX6_isUndone_8 rfl hl (by decide) rfl (fun ls hl => ?_)
    refine lv_aload_nN hx hb dX6_isUndone_9 rfl (lv_at hl 0 rfl) ?_
    refine lv_ifnonnullN hx hb dX6_isUndone_10 ?_
    exact wl_throwS (ik := 245) (is := 247) (ic := 249) (i := 19) C0 hst ht (by decide +kernel) (hts _ (by decide +kernel)) (hts _ (by decide +kernel)) rfl (fun _ h => List.mem_cons_of_mem _ (List.mem_append_right _ h)) xc_IOB xn_IOB xg_IOB hP hS hl.1 dX6_isUndone_13 dX6_isUndone_16 dX6_isUndone_17 dX6_isUndone_19 dX6_isUndone_22 (Nat.le_of_ble_eq_true rfl) (Nat.le_of_ble_eq_true rfl) (Nat.le_of_ble_eq_true rfl) (Nat.le_of_ble_eq_true rfl) (Nat.le_of_ble_eq_true rfl) (Nat.le_of_ble_eq_true rfl) (⟨rfl, ⟨by simp [s_isUndone, h_8], rfl⟩⟩)

set_option maxHeartbeats 4000000 in
set_option maxRecDepth 100000 in
theorem k_X6_greatest (l : Launch) (hst : l.stackTraces = false) (E : wEn) (w : wW) (sz : Nat) (F : FF) (AD : AT) (N : Nat) (hI : wInv F N) (hs : wSys E F AD w) : wM l yX6_greatest wsX6_greatest 0 1 6 E w sz [.ref (AD 5 0)] (fun v w2 => ∃ AD2 : AT, (s_greatest F).1 = 0 ∧ v = some (.int (s_greatest F).2.1) ∧ wSys E (s_greatest F).2.2 AD2 w2 ∧ AD2 5 0 = AD 5 0 ∧ wKp w w2) (fun X w2 => w2 = w ∧ ((s_greatest F).1 = 1 ∧ X = xNSE)) := by
  refine wm_start (own := RX6) (cc := cX6_greatest) (maxL := 6) (ret := (some .int)) rfl (by decide) rfl (Nat.le_of_ble_eq_true rfl) ?_
  intro p e s m args below meth c ls C0 hr hin ht hP hS hl
  have hx := C0.1
  have hb := C0.2.1
  have hts := C0.2.2.2.2.1
  have hown := C0.2.2.2.1
  have hl : lv_has ls 6 [(0, .ref (AD 5 0))] := hl
  have hf_23 : (Cond.fieldLink RX6 23 "CallGateway" "callers" "[LCallGateway$Caller;").before args s = true := hts _ (by decide +kernel)
  have hf_199 : va_Nw (.fieldLinkNest RX6 199 "CallGateway$Caller" "bill" "J" "CallGateway") s := C0.2.2.2.2.2.2.2.1.1 _ (by decide +kernel)
  have hf_203 : va_Nw (.fieldLinkNest RX6 203 "CallGateway$Caller" "number" "I" "CallGateway") s := C0.2.2.2.2.2.2.2.1.1 _ (by decide +kernel)
  have hi_RX1 : ∀ w ∈ u_ws RX1 TX1 4, w ∈ wsX6_greatest := fun _ h => List.mem_cons_of_mem _ (List.mem_append_left _ (List.mem_append_right _ h))
  have hi_RX6 : ∀ w ∈ u_ws RX6 TX6 8, w ∈ wsX6_greatest := fun _ h => List.mem_cons_of_mem _ (List.mem_append_left _ (List.mem_append_left _ (List.mem_append_right _ h)))
  have hn := hI.n
  refine lv_null hx hb dX6_greatest_0 ?_
  refine lv_astore_nN (lv' := [(1, .null), (0, .ref (AD 5 0))]) hx hb dX6_greatest_1 rfl hl (by decide) rfl (fun ls hl => ?_)
  refine lv_aload_n hx hb dX6_greatest_2 rfl (lv_at hl 1 rfl) ?_
  refine wl_get (T := TX6) C0 hP hs.x hi_RX6 rfl 2 (by decide) hf_23 rfl dX6_greatest_3 ?_
  refine lv_astore_n (lv' := [(2, .ref (AD 5 3)), (1, .null), (0, .ref (AD 5 0))]) hx hb dX6_greatest_6 rfl hl (by decide) rfl (fun ls hl => ?_)
  refine lv_aload_n hx hb dX6_greatest_7 rfl (lv_at hl 0 rfl) ?_
  refine wl_alen (v := 6) C0 hP hs.aC 6 rfl rfl dX6_greatest_8 ?_
  refine lv_istore_n (lv' := [(3, .int 6), (2, .ref (AD 5 3)), (1, .null), (0, .ref (AD 5 0))]) hx hb dX6_greatest_9 rfl hl (by decide) rfl (fun ls hl => ?_)
  refine lv_iconst (v := 0) hx hb dX6_greatest_10 (by decide) ?_
  refine lv_istore (lv' := [(4, .int 0), (3, .int 6), (2, .ref (AD 5 3)), (1, .null), (0, .ref (AD 5 0))]) hx hb dX6_greatest_11 hl (by decide) rfl (fun ls hl => ?_)
  have LP : ∀ (nF : Nat) (j : Nat), 6 - j < nF → (j ≤ 6) → ∀ (ls : Array Slot), lv_has ls 6 [(0, .ref (AD 5 0)), (1, va_rf (rfC (Nat.min j (F 24 2)) (AD 2 (g_best F (Nat.min j (F 24 2)))))), (2, .ref (AD 5 3)), (3, .int 6), (4, .int (nI j))] → W p l e (wRm 0 1 6) s m args below meth c s.heap [] 0 0 (vx_MQ below (wQ E (wA w sz) (fun v w2 => ∃ AD2 : AT, (s_greatest F).1 = 0 ∧ v = some (.int (s_greatest F).2.1) ∧ wSys E (s_greatest F).2.2 AD2 w2 ∧ AD2 5 0 = AD 5 0 ∧ wKp w w2)) (wX E (wA w sz) (fun X w2 => w2 = w ∧ ((s_greatest F).1 = 1 ∧ X = xNSE))) args s 1 6 (wA w sz)) (F0 m 13 ls []) := by
    intro nF
    induction nF with
    | zero => intro j hn; exact absurd hn (Nat.not_lt_zero _)
    | succ nF ih =>
      intro j hn i1 ls hl
      refine lv_iload hx hb dX6_greatest_13 (lv_at hl 4 rfl) ?_
      refine lv_iload_n hx hb dX6_greatest_15 rfl (lv_at hl 3 rfl) ?_
      refine lv_icmp_ge (tgt := 56) hx hb dX6_greatest_16 (by decide) (fun c_16 => ?_) (fun c_16 => ?_)
      · have q16 : 6 ≤ j := (nI_leI (a := 6) (b := j) (by omega) (by omega)).mp c_16
        rw [min_ge (show F 24 2 ≤ j by omega)] at hl
        by_cases h_56 : F 24 2 = 0
        · rw [rfC_0 h_56] at hl
          have hl : lv_has ls 6 [(0, .ref (AD 5 0)), (1, .null), (2, .ref (AD 5 3)), (3, .int 6), (4, .int (nI j))] := hl
          refine lv_aload_nN hx hb dX6_greatest_56 rfl (lv_at hl 1 rfl) ?_
          refine lv_ifnonnullN hx hb dX6_greatest_57 ?_
          exact wl_throwXW (ik := 144) (is := 256) (ic := 148) (i := 20) C0 hst ht (by decide +kernel) (hts _ (by decide +kernel)) (hts _ (by decide +kernel)) rfl (fun _ h => List.mem_cons_of_mem _ (List.mem_append_right _ h)) xc_NSE xn_NSE xg_NSE hP hS hl.1 dX6_greatest_60 dX6_greatest_63 dX6_greatest_64 dX6_greatest_67 dX6_greatest_70 (Nat.le_of_ble_eq_true rfl) (Nat.le_of_ble_eq_true rfl) (Nat.le_of_ble_eq_true rfl) (Nat.le_of_ble_eq_true rfl) (Nat.le_of_ble_eq_true rfl) (Nat.le_of_ble_eq_true rfl) (⟨rfl, ⟨by simp [s_greatest, h_56], rfl⟩⟩)
        · rw [rfC_n h_56] at hl
          have hl : lv_has ls 6 [(0, .ref (AD 5 0)), (1, .ref (AD 2 (g_best F (F 24 2)))), (2, .ref (AD 5 3)), (3, .int 6), (4, .int (nI j))] := hl
          refine lv_aload_n hx hb dX6_greatest_56 rfl (lv_at hl 1 rfl) ?_
          refine lv_ifnonnull (tgt := 71) hx hb dX6_greatest_57 (by decide) ?_
          refine lv_aload_n hx hb dX6_greatest_71 rfl (lv_at hl 1 rfl) ?_
          refine wl_getN (T := TX1) C0 hP (wSys.cl hs (best_lt (by omega))) hi_RX1 rfl 0 (by decide) hf_203 rfl dX6_greatest_72 ?_
          have hev : s_greatest F = (0, nI (g_best F (F 24 2)), F) := by simp [s_greatest, h_56]
          exact wl_iret C0 hr rfl hP hS dX6_greatest_75 (Nat.le_of_ble_eq_true rfl) (Nat.le_of_ble_eq_true rfl) (⟨AD, by rw [hev], by rw [hev], by rw [hev]; exact hs, rfl, wKp.rf⟩)
      · have q16 : j < 6 := Nat.not_le.mp (fun q => c_16 ((nI_leI (a := 6) (b := j) (by omega) (by omega)).mpr q))
        refine lv_aload_n hx hb dX6_greatest_19 rfl (lv_at hl 2 rfl) ?_
        refine lv_iload hx hb dX6_greatest_20 (lv_at hl 4 rfl) ?_
        refine wl_aldq (t0 := 6) C0 hP rfl hs.aC (vp_in_nI q16 (by omega)) dX6_greatest_22 ?_
        rw [show (nI j).toNatClampNeg = j from nI_clamp (by omega)]
        refine wl_rfU (fun h_23 => ?_) (fun h_23 => ?_)
        · refine lv_astore (lv' := [(5, .ref (AD 2 j)), (0, .ref (AD 5 0)), (1, va_rf (rfC (Nat.min j (F 24 2)) (AD 2 (g_best F (Nat.min j (F 24 2)))))), (2, .ref (AD 5 3)), (3, .int 6), (4, .int (nI j))]) hx hb dX6_greatest_23 hl (by decide) rfl (fun ls hl => ?_)
          refine lv_aload hx hb dX6_greatest_25 (lv_at hl 0 rfl) ?_
          refine lv_ifnull hx hb dX6_greatest_27 ?_
          rw [min_lt h_23] at hl
          by_cases h_30 : j = 0
          · rw [rfC_0 h_30] at hl
            have hl : lv_has ls 6 [(5, .ref (AD 2 j)), (0, .ref (AD 5 0)), (1, .null), (2, .ref (AD 5 3)), (3, .int 6), (4, .int (nI j))] := hl
            refine lv_aload_nN hx hb dX6_greatest_30 rfl (lv_at hl 2 rfl) ?_
            refine lv_ifnullN (tgt := 47) hx hb dX6_greatest_31 (by decide) ?_
            refine lv_aload hx hb dX6_greatest_47 (lv_at hl 0 rfl) ?_
            refine lv_astore_n (lv' := [(1, .ref (AD 2 j)), (5, .ref (AD 2 j)), (0, .ref (AD 5 0)), (2, .ref (AD 5 3)), (3, .int 6), (4, .int (nI j))]) hx hb dX6_greatest_49 rfl hl (by decide) rfl (fun ls hl => ?_)
            refine lv_iinc (v := nI (j + 1)) (lv' := [(4, .int (nI (j + 1))), (1, .ref (AD 2 j)), (5, .ref (AD 2 j)), (0, .ref (AD 5 0)), (2, .ref (AD 5 3)), (3, .int 6)]) hx hb dX6_greatest_50 hl (k := 5) rfl (nI_1 _) (by decide) rfl (fun ls hl => ?_)
            refine lv_goto (tgt := 13) hx hb dX6_greatest_53 (by decide) ?_
            exact ih (j + 1) (by omega) (by omega) ls (by rw [min_in h_23, min_lt h_23, rfC_n (Nat.succ_ne_zero _), show g_best F (j + 1) = j by rw [h_30]; simp [g_best]]; exact lv_sub hl [3, 1, 4, 5, 0] rfl)
          · rw [rfC_n h_30] at hl
            have hl : lv_has ls 6 [(5, .ref (AD 2 j)), (0, .ref (AD 5 0)), (1, .ref (AD 2 (g_best F j))), (2, .ref (AD 5 3)), (3, .int 6), (4, .int (nI j))] := hl
            have hbj : g_best F j < F 24 2 := Nat.lt_of_lt_of_le (best_lt (by omega)) (Nat.le_of_lt h_23)
            refine lv_aload_n hx hb dX6_greatest_30 rfl (lv_at hl 2 rfl) ?_
            refine lv_ifnull hx hb dX6_greatest_31 ?_
            refine lv_aload hx hb dX6_greatest_34 (lv_at hl 0 rfl) ?_
            refine wl_getN (T := TX1) C0 hP (wSys.cl hs h_23) hi_RX1 rfl 3 (by decide) hf_199 rfl dX6_greatest_36 ?_
            refine lv_aload_n hx hb dX6_greatest_39 rfl (lv_at hl 2 rfl) ?_
            refine wl_getN (T := TX1) C0 hP (wSys.cl hs hbj) hi_RX1 rfl 3 (by decide) hf_199 rfl dX6_greatest_40 ?_
            refine W.lcmp hx hb dX6_greatest_43 ?_
            refine lv_if_le (tgt := 50) hx hb dX6_greatest_44 (by decide) (fun c_44 => ?_) (fun c_44 => ?_)
            · have q44 : ¬ F 15 (g_best F j) < F 15 j := fun q => lcmp_no (by have := hI.bl h_23; omega) (by have := hI.bl hbj; omega) q c_44
              refine lv_iinc (v := nI (j + 1)) (lv' := [(4, .int (nI (j + 1))), (5, .ref (AD 2 j)), (0, .ref (AD 5 0)), (1, .ref (AD 2 (g_best F j))), (2, .ref (AD 5 3)), (3, .int 6)]) hx hb dX6_greatest_50 hl (k := 5) rfl (nI_1 _) (by decide) rfl (fun ls hl => ?_)
              refine lv_goto (tgt := 13) hx hb dX6_greatest_53 (by decide) ?_
              exact ih (j + 1) (by omega) (by omega) ls (by rw [min_in h_23, min_lt h_23, rfC_n (Nat.succ_ne_zero _), show g_best F (j + 1) = g_best F j from if_neg q44]; exact lv_sub hl [2, 3, 4, 5, 0] rfl)
            · have q44 : F 15 (g_best F j) < F 15 j := lcmp_yes (by have := hI.bl h_23; omega) (by have := hI.bl hbj; omega) c_44
              refine lv_aload hx hb dX6_greatest_47 (lv_at hl 0 rfl) ?_
              refine lv_astore_n (lv' := [(1, .ref (AD 2 j)), (5, .ref (AD 2 j)), (0, .ref (AD 5 0)), (2, .ref (AD 5 3)), (3, .int 6), (4, .int (nI j))]) hx hb dX6_greatest_49 rfl hl (by decide) rfl (fun ls hl => ?_)
              refine lv_iinc (v := nI (j + 1)) (lv' := [(4, .int (nI (j + 1))), (1, .ref (AD 2 j)), (5, .ref (AD 2 j)), (0, .ref (AD 5 0)), (2, .ref (AD 5 3)), (3, .int 6)]) hx hb dX6_greatest_50 hl (k := 5) rfl (nI_1 _) (by decide) rfl (fun ls hl => ?_)
              refine lv_goto (tgt := 13) hx hb dX6_greatest_53 (by decide) ?_
              exact ih (j + 1) (by omega) (by omega) ls (by rw [min_in h_23, min_lt h_23, rfC_n (Nat.succ_ne_zero _), show g_best F (j + 1) = j from if_pos q44]; exact lv_sub hl [3, 1, 4, 5, 0] rfl)
        · refine lv_astoreN (lv' := [(5, .null), (0, .ref (AD 5 0)), (1, va_rf (rfC (Nat.min j (F 24 2)) (AD 2 (g_best F (Nat.min j (F 24 2)))))), (2, .ref (AD 5 3)), (3, .int 6), (4, .int (nI j))]) hx hb dX6_greatest_23 hl (by decide) rfl (fun ls hl => ?_)
          refine lv_aloadN hx hb dX6_greatest_25 (lv_at hl 0 rfl) ?_
          refine lv_ifnullN (tgt := 50) hx hb dX6_greatest_27 (by decide) ?_
          refine lv_iinc (v := nI (j + 1)) (lv' := [(4, .int (nI (j + 1))), (5, .null), (0, .ref (AD 5 0)), (1, va_rf (rfC (Nat.min j (F 24 2)) (AD 2 (g_best F (Nat.min j (F 24 2)))))), (2, .ref (AD 5 3)), (3, .int 6)]) hx hb dX6_greatest_50 hl (k := 5) rfl (nI_1 _) (by decide) rfl (fun ls hl => ?_)
          refine lv_goto (tgt := 13) hx hb dX6_greatest_53 (by decide) ?_
          exact ih (j + 1) (by omega) (by omega) ls (by rw [min_up h_23]; exact lv_sub hl [2, 3, 4, 5, 0] rfl)
  exact LP _ 0 (Nat.lt_succ_self _) (by omega) ls (by rw [show Nat.min 0 (F 24 2) = 0 from Nat.min_eq_left (Nat.zero_le _), rfC_0 rfl]; exact lv_sub hl [4, 3, 2, 1, 0] rfl)
