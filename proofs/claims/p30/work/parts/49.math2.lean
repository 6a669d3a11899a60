/-! A canary that is begun, called and taken back at once. -/
def bK (F1 G : FF) (r rr j : Nat) : Prop :=
  kpF F1 G ∧ wKi G ∧ (∀ i, G 0 i = F1 0 i) ∧ G 24 3 = F1 24 3 + j ∧ G 5 r = 1 ∧
  (rr = r → G 6 r = 0 ∧ G 7 r = 100 ∧ G 8 r = 9 ∧ G 9 r ≤ j ∧ (∀ k, k < F1 24 3 → G 16 k = F1 16 k ∧ G 19 k = F1 19 k ∧ G 20 k = F1 20 k ∧ G 21 k ≠ r + 1) ∧ (∀ k, F1 24 3 ≤ k → k < F1 24 3 + j → G 19 k = 0 ∨ G 21 k = r + 1)) ∧
  (rr ≠ r → ∀ k, k < F1 24 3 + j → G 21 k ≠ r + 1)
theorem bK_0 {F : FF} {N r rr : Nat} (hI : wInv F N) (hki : wKi F) (h5 : F 5 r = 0) : bK (f_begin F r 0 100 9) (f_begin F r 0 100 9) r rr 0 := by
  have h21 : ∀ k, k < f_begin F r 0 100 9 24 3 → f_begin F r 0 100 9 21 k ≠ r + 1 := fun k hk q => by
    rw [beg_o (by omega)] at hk q
    have h1 := (hI.op hk (by omega)).1
    rw [q] at h1
    exact h1 h5
  refine ⟨kpF.rf, hki.same beg_kp.2, fun _ => rfl, rfl, beg_5, fun _ => ⟨?_, ?_, ?_, ?_, fun k hk => ⟨rfl, rfl, rfl, h21 k hk⟩, fun k h1 h2 => by omega⟩, fun _ k hk => h21 k hk⟩
  · simp [f_begin, fU]
  · simp [f_begin, fU]
  · simp [f_begin, fU]
  · rw [beg_9]
    exact Nat.le_refl _
theorem bK_ent {F1 G G' : FF} {r rr j c kd co ca op : Nat} (h : bK F1 G r rr j) (hk1 : kpF F1 (f_enter G' c kd co ca op)) (hki1 : wKi (f_enter G' c kd co ca op)) (h0 : ∀ i, G' 0 i = G 0 i) (h3 : G' 24 3 = G 24 3) (h5 : G' 5 r = 1)
    (hx : rr = r → G' 6 r = 0 ∧ G' 7 r = 100 ∧ G' 8 r = 9 ∧ G' 9 r ≤ j + 1 ∧ (∀ k, G' 16 k = G 16 k ∧ G' 19 k = G 19 k ∧ G' 20 k = G 20 k ∧ G' 21 k = G 21 k) ∧ (co = 0 ∨ op = r + 1))
    (hy : rr ≠ r → (∀ k, k < F1 24 3 + j → G' 21 k ≠ r + 1) ∧ op ≠ r + 1) : bK F1 (f_enter G' c kd co ca op) r rr (j + 1) := by
  have h33 : G' 24 3 = F1 24 3 + j := h3.trans h.2.2.2.1
  refine ⟨hk1, hki1, fun i => ?_, ?_, ?_, fun e => ?_, fun e k hk => ?_⟩
  · rw [ent_o (by omega), h0]
    exact h.2.2.1 i
  · rw [ent_3, h33]
    omega
  · rw [ent_o (by omega)]
    exact h5
  · obtain ⟨a6, a7, a8, a9, aE, aC⟩ := hx e
    obtain ⟨-, -, -, -, bO, bN⟩ := h.2.2.2.2.2.1 e
    refine ⟨?_, ?_, ?_, ?_, fun k hk => ?_, fun k hk1 hk2 => ?_⟩
    · rw [ent_o (by omega)]
      exact a6
    · rw [ent_o (by omega)]
      exact a7
    · rw [ent_o (by omega)]
      exact a8
    · rw [ent_o (by omega)]
      exact a9
    · have hne : k ≠ G' 24 3 := by omega
      obtain ⟨e1, e2, e3, e4⟩ := aE k
      rw [ent_y hne (by omega) (by omega) (by omega), ent_y hne (by omega) (by omega) (by omega), ent_y hne (by omega) (by omega) (by omega), ent_y hne (by omega) (by omega) (by omega), e1, e2, e3, e4]
      exact bO k hk
    · by_cases hkk : k = G' 24 3
      · rw [hkk, ent_19, ent_21]
        rcases aC with rfl | rfl
        · exact Or.inl (Nat.zero_mul _)
        · exact Or.inr rfl
      · obtain ⟨e1, e2, e3, e4⟩ := aE k
        rw [ent_y hkk (by omega) (by omega) (by omega), ent_y hkk (by omega) (by omega) (by omega), e2, e4]
        exact bN k hk1 (by omega)
  · obtain ⟨c1, c2⟩ := hy e
    by_cases hkk : k = G' 24 3
    · rw [hkk, ent_21]
      exact c2
    · rw [ent_y hkk (by omega) (by omega) (by omega)]
      exact c1 k (by omega)
theorem kind_s {F : FF} {c r key : Nat} (h : c_kind F c r key = 115) : F 5 r = 0 ∨ F 7 r ≤ key := by
  unfold c_kind at h
  by_cases h1 : r < F 24 0
  · rw [if_pos h1] at h
    by_cases h2 : F 14 c < F 1 r
    · rw [if_pos h2] at h
      exact absurd h (by decide)
    · rw [if_neg h2] at h
      by_cases h3 : F 5 r = 0 ∨ F 7 r ≤ key
      · exact h3
      · rw [if_neg h3] at h
        by_cases h4 : brk F r (F 6 r) = true
        · rw [if_pos h4] at h
          exact absurd h (by decide)
        · rw [if_neg h4] at h
          exact absurd h (by decide)
  · rw [if_neg h1] at h
    exact absurd h (by decide)
theorem flt_5 {F : FF} {r b : Nat} (h : b ≠ r) : f_fault F r 5 b = F 5 b := by
  unfold f_fault
  split
  · rw [fU_k (by decide), und_5, if_neg h]
  · exact fU_k (by decide)
theorem flt_21 {F : FF} {r k : Nat} : f_fault F r 21 k = F 21 k ∨ f_fault F r 21 k = 0 := by
  unfold f_fault
  split
  · rw [fU_k (by decide), und_21]
    split
    · exact Or.inr rfl
    · exact Or.inl rfl
  · exact Or.inl (fU_k (by decide))
theorem bK_s {F1 G : FF} {r rr j : Nat} (h : bK F1 G r rr j) (hr : r < G 24 0) (hj : j < 6) : bK F1 (f_call G j rr 7) r rr (j + 1) := by
  have hk1 := h.1.tr (call_kp (F := G) (c := j) (r := rr) (key := 7))
  have hki1 := call_ki (c := j) (r := rr) (key := 7) h.2.1
  have h5 := h.2.2.2.2.1
  have hx0 : rr = r → G 6 r = 0 ∧ G 7 r = 100 ∧ G 8 r = 9 ∧ G 9 r ≤ j := fun e => ⟨(h.2.2.2.2.2.1 e).1, (h.2.2.2.2.2.1 e).2.1, (h.2.2.2.2.2.1 e).2.2.1, (h.2.2.2.2.2.1 e).2.2.2.1⟩
  have hy0 := h.2.2.2.2.2.2
  rcases kind_5 (F := G) (c := j) (r := rr) (key := 7) with hk | hk | hk | hk | hk
  · rw [call_nl (Or.inl hk)] at hk1 hki1 ⊢
    have hn := kind_n.mp hk
    exact bK_ent h hk1 hki1 (fun _ => rfl) rfl h5 (fun e => absurd hr (by rw [← e]; exact hn)) (fun e => ⟨hy0 e, by omega⟩)
  · rw [call_nl (Or.inr hk)] at hk1 hki1 ⊢
    exact bK_ent h hk1 hki1 (fun _ => rfl) rfl h5 (fun e => ⟨(hx0 e).1, (hx0 e).2.1, (hx0 e).2.2.1, Nat.le_succ_of_le (hx0 e).2.2.2, fun _ => ⟨rfl, rfl, rfl, rfl⟩, Or.inl rfl⟩) (fun e => ⟨hy0 e, by omega⟩)
  · rw [call_s hk] at hk1 hki1 ⊢
    exact bK_ent h hk1 hki1 (fun _ => rfl) rfl h5 (fun e => by
      have h1 := kind_s hk
      have h2 := hx0 e
      rw [e] at h1
      omega) (fun e => ⟨hy0 e, by omega⟩)
  · rw [call_c hk] at hk1 hki1 ⊢
    exact bK_ent h hk1 hki1 (fun _ => rfl) rfl h5 (fun e => ⟨(hx0 e).1, (hx0 e).2.1, (hx0 e).2.2.1, Nat.le_succ_of_le (hx0 e).2.2.2, fun _ => ⟨rfl, rfl, rfl, rfl⟩, Or.inr (by rw [e])⟩) (fun e => ⟨hy0 e, by omega⟩)
  · rw [call_f hk] at hk1 hki1 ⊢
    refine bK_ent h hk1 hki1 (fun i => fault_a (by decide) (by decide) (by decide) (by decide) (by decide) (by decide)) flt_kp.2.1 ?_ (fun e => ?_) (fun e => ⟨fun k hk2 => ?_, by omega⟩)
    · by_cases e : rr = r
      · obtain ⟨h6, h7, h8, h9⟩ := hx0 e
        subst e
        unfold f_fault
        rw [if_neg (by omega), fU_k (by decide)]
        exact h5
      · rw [flt_5 (fun q => e q.symm)]
        exact h5
    · obtain ⟨h6, h7, h8, h9⟩ := hx0 e
      subst e
      have hf : f_fault G rr = fU G 9 rr (G 9 rr + 1) := by
        unfold f_fault
        rw [if_neg (by omega)]
      rw [hf]
      exact ⟨(fU_k (by decide)).trans h6, (fU_k (by decide)).trans h7, (fU_k (by decide)).trans h8, by rw [fU_s]; omega, fun _ => ⟨fU_k (by decide), fU_k (by decide), fU_k (by decide), fU_k (by decide)⟩, Or.inl rfl⟩
    · rcases flt_21 (F := G) (r := rr) (k := k) with q | q
      · rw [q]
        exact hy0 e k hk2
      · rw [q]
        omega
theorem sm_ext {f : Nat → Nat} {n j : Nat} (h : ∀ k, n ≤ k → k < n + j → f k = 0) : sm f (n + j) = sm f n := by
  induction j with
  | zero => rfl
  | succ j ih =>
    show sm f (n + j) + f (n + j) = sm f n
    rw [ih (fun k h1 h2 => h k h1 (by omega)), h (n + j) (by omega) (by omega)]
    rfl
/-- all bills are as they were -/
theorem bK_bill {F1 G : FF} {r j N1 N2 c : Nat} (hI1 : wInv F1 N1) (hI2 : wInv (f_und G r (G 24 3)) N2) (h : bK F1 G r r j) (hc : c < F1 24 2) : f_und G r (G 24 3) 15 c = F1 15 c := by
  have h2 := h.1.2.2.1
  have h3 := h.2.2.2.1
  obtain ⟨-, -, -, -, bO, bN⟩ := h.2.2.2.2.2.1 rfl
  have hu := und_kp (F := G) (i := r) (k := G 24 3)
  rw [hI2.bi (by rw [hu.1.2.2.1, h2]; exact hc), hI1.bi hc, hu.2.1, h3]
  refine (sm_ext (fun k h1 h4 => ?_)).trans (sm_congr (fun k hk => ?_))
  · rw [und_20, und_a (a := 19) (by decide) (by decide) (by decide) (by decide) (by decide)]
    rcases bN k h1 h4 with q | q
    · rw [q]
      exact ite_self _
    · have e20 : (if k < F1 24 3 + j ∧ G 21 k = r + 1 then 1 else G 20 k) = 1 := if_pos ⟨h4, q⟩
      rw [e20, if_neg (fun z => absurd z.2 Nat.one_ne_zero)]
  · obtain ⟨e1, e2, e3, e4⟩ := bO k hk
    have e20 : (if k < F1 24 3 + j ∧ G 21 k = r + 1 then 1 else G 20 k) = G 20 k := if_neg (fun z => e4 z.2)
    rw [und_20, und_a (a := 19) (by decide) (by decide) (by decide) (by decide) (by decide), und_a (a := 16) (by decide) (by decide) (by decide) (by decide) (by decide), e20, e1, e2, e3]
theorem hb_congr {F G : FF} {n : Nat} (h : ∀ c, c < n → G 15 c = F 15 c) : h_b G n = h_b F n := by
  induction n with
  | zero => rfl
  | succ n ih =>
    unfold h_b
    rw [ih (fun c hc => h c (by omega)), h n (by omega)]
theorem ct_z {P : Nat → Bool} {n : Nat} (h : ∀ i, i < n → P i = false) : ct P n = 0 := by
  induction n with
  | zero => rfl
  | succ n ih =>
    unfold ct
    rw [ih (fun i hi => h i (by omega)), h n (by omega)]
    rfl
theorem gN_congr {F G : FF} (h0 : ∀ i, G 0 i = F 0 i) (h24 : G 24 0 = F 24 0) (k p : Nat) : gN G k p = gN F k p := by
  have hw : ∀ q, wpt G q = wpt F q := fun q => by
    unfold wpt
    rw [h24]
    congr 1
    funext i
    rw [h0]
  induction k generalizing p with
  | zero => exact hw p
  | succ k ih =>
    unfold gN
    rw [hw, h24, ih]
theorem v_call7 {F : FF} {k : Nat} {p : Int32} (hk : k < F 24 2) (hn : F 24 2 ≤ 6) (hp : pathB p = true) : s_call F (nI k) p 7 = (0, nI (c_kind F k (gN F 4 (tn p)) 7), f_call F k (gN F 4 (tn p)) 7) := by
  unfold s_call
  rw [if_pos (vpb_nI hk (by omega)), hp, if_pos (by decide), tn_nI (show k < 2 ^ 31 by omega)]
  rfl
theorem v_tb {F : FF} {r : Nat} (hr : r < F 24 0) (hn : F 24 0 ≤ 8) (h5 : F 5 r ≠ 0) : s_takeBack F (nI r) = (0, nI (n_und F r (F 24 3)), f_und F r (F 24 3)) := by
  unfold s_takeBack
  rw [if_pos (vpb_nI hr (by omega)), tn_nI (show r < 2 ^ 31 by omega), if_neg h5]
theorem kind_le (F : FF) (c r key : Nat) : c_kind F c r key ≤ 115 := by
  rcases kind_5 (F := F) (c := c) (r := r) (key := key) with h | h | h | h | h <;> omega
