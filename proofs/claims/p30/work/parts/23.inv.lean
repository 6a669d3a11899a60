theorem I_ro {F G : FF} {N : Nat} (hI : wInv F N) {i : Nat} (hi : i < F 24 0) (hG : ∀ a b, ¬ (b = i ∧ 2 ≤ a ∧ a ≤ 4) → G a b = F a b) (h2 : G 2 i ≤ 999) (h3 : G 3 i ≤ 999) (h4 : G 4 i ≤ 999) : wInv G N := by
  have e0 := hG 24 0 (by omega)
  have e1 := hG 24 1 (by omega)
  have e2 := hG 24 2 (by omega)
  have e3 := hG 24 3 (by omega)
  have e4 := hG 24 4 (by omega)
  refine ⟨?_, ?_, ?_, ?_, ?_, ?_, ?_, ?_, ?_, ?_, ?_, ?_, ?_, ?_⟩
  · exact ⟨by rw [e0]; exact hI.1.1, by rw [e1]; exact hI.1.2.1, by rw [e2]; exact hI.1.2.2.1, by rw [e3]; exact hI.1.2.2.2.1, by rw [e4]; exact hI.1.2.2.2.2.1, hI.1.2.2.2.2.2⟩
  · intro j hj
    rw [e0] at hj
    by_cases hji : j = i
    · subst hji
      rw [hG 0 j (by omega), hG 1 j (by omega), hG 5 j (by omega)]
      have h := hI.ro hj
      exact ⟨h.1, h.2.1, h.2.2.1, h2, h3, h4, h.2.2.2.2.2.2⟩
    · rw [hG 0 j (by omega), hG 1 j (by omega), hG 2 j (by omega), hG 3 j (by omega), hG 4 j (by omega), hG 5 j (by omega)]
      exact hI.ro hj
  · intro j hj h5
    rw [e0] at hj
    rw [hG 5 j (by omega)] at h5
    rw [e4, hG 6 j (by omega), hG 7 j (by omega), hG 8 j (by omega), hG 9 j (by omega), hG 22 j (by omega)]
    exact hI.ca hj h5
  · intro a b ha hb h
    rw [e0] at ha hb
    rw [hG 0 a (by omega), hG 0 b (by omega)] at h
    exact hI.up ha hb h
  · intro a b ha hb h1 h2 h
    rw [e0] at ha hb
    rw [hG 5 a (by omega)] at h1
    rw [hG 5 b (by omega)] at h2
    rw [hG 22 a (by omega), hG 22 b (by omega)] at h
    exact hI.uc ha hb h1 h2 h
  · intro j hj
    rw [e1] at hj
    rw [hG 10 j (by omega), hG 11 j (by omega), hG 12 j (by omega)]
    exact hI.pl hj
  · intro j hj
    rw [e2] at hj
    rw [e1, hG 13 j (by omega), hG 14 j (by omega), hG 11 (F 13 j) (by omega)]
    exact hI.cl hj
  · intro k hk
    rw [e3] at hk
    rw [e0, e2, e4, hG 16 k (by omega), hG 17 k (by omega), hG 18 k (by omega), hG 19 k (by omega), hG 20 k (by omega), hG 21 k (by omega), hG 23 k (by omega)]
    exact hI.en hk
  · intro k hk h
    rw [e3] at hk
    rw [hG 21 k (by omega)] at h ⊢
    rw [hG 5 (F 21 k - 1) (by omega), hG 23 k (by omega), hG 22 (F 21 k - 1) (by omega), hG 20 k (by omega)]
    exact hI.op hk h
  · intro k r hk hr h5 h
    rw [e3] at hk
    rw [e0] at hr
    rw [hG 5 r (by omega)] at h5
    rw [hG 23 k (by omega), hG 22 r (by omega)] at h
    rw [hG 21 k (by omega)]
    exact hI.li hk hr h5 h
  · intro j hj
    rw [e2] at hj
    rw [e3, hG 15 j (by omega), hI.bi hj]
    exact sm_congr (fun k hk => by rw [hG 16 k (by omega), hG 20 k (by omega), hG 19 k (by omega)])
  · intro j hj
    rw [e0] at hj
    rw [hG 4 j (by omega), hG 5 j (by omega)]
    exact hI.z0 hj
  · intro j hj
    rw [e2] at hj
    rw [hG 15 j (by omega)]
    exact hI.z2 hj
  · intro k hk
    rw [e3] at hk
    rw [hG 20 k (by omega)]
    exact hI.z3 hk

theorem I_ca {F G : FF} {N : Nat} (hI : wInv F N) {i : Nat} (hG : ∀ a b, ¬ (b = i ∧ (a = 7 ∨ a = 9)) → G a b = F a b) (h7 : F 5 i ≠ 0 → 1 ≤ G 7 i ∧ G 7 i ≤ 100 ∧ G 9 i < F 8 i) : wInv G N := by
  have e0 := hG 24 0 (by omega)
  have e1 := hG 24 1 (by omega)
  have e2 := hG 24 2 (by omega)
  have e3 := hG 24 3 (by omega)
  have e4 := hG 24 4 (by omega)
  refine ⟨?_, ?_, ?_, ?_, ?_, ?_, ?_, ?_, ?_, ?_, ?_, ?_, ?_, ?_⟩
  · exact ⟨by rw [e0]; exact hI.1.1, by rw [e1]; exact hI.1.2.1, by rw [e2]; exact hI.1.2.2.1, by rw [e3]; exact hI.1.2.2.2.1, by rw [e4]; exact hI.1.2.2.2.2.1, hI.1.2.2.2.2.2⟩
  · intro j hj
    rw [e0] at hj
    rw [hG 0 j (by omega), hG 1 j (by omega), hG 2 j (by omega), hG 3 j (by omega), hG 4 j (by omega), hG 5 j (by omega)]
    exact hI.ro hj
  · intro j hj h5
    rw [e0] at hj
    rw [hG 5 j (by omega)] at h5
    by_cases hji : j = i
    · subst hji
      rw [e4, hG 6 j (by omega), hG 8 j (by omega), hG 22 j (by omega)]
      have h := hI.ca hj h5
      have h9 := h7 h5
      exact ⟨h.1, h9.1, h9.2.1, h.2.2.2.1, h.2.2.2.2.1, h9.2.2, h.2.2.2.2.2.2⟩
    · rw [e4, hG 6 j (by omega), hG 7 j (by omega), hG 8 j (by omega), hG 9 j (by omega), hG 22 j (by omega)]
      exact hI.ca hj h5
  · intro a b ha hb h
    rw [e0] at ha hb
    rw [hG 0 a (by omega), hG 0 b (by omega)] at h
    exact hI.up ha hb h
  · intro a b ha hb h1 h2 h
    rw [e0] at ha hb
    rw [hG 5 a (by omega)] at h1
    rw [hG 5 b (by omega)] at h2
    rw [hG 22 a (by omega), hG 22 b (by omega)] at h
    exact hI.uc ha hb h1 h2 h
  · intro j hj
    rw [e1] at hj
    rw [hG 10 j (by omega), hG 11 j (by omega), hG 12 j (by omega)]
    exact hI.pl hj
  · intro j hj
    rw [e2] at hj
    rw [e1, hG 13 j (by omega), hG 14 j (by omega), hG 11 (F 13 j) (by omega)]
    exact hI.cl hj
  · intro k hk
    rw [e3] at hk
    rw [e0, e2, e4, hG 16 k (by omega), hG 17 k (by omega), hG 18 k (by omega), hG 19 k (by omega), hG 20 k (by omega), hG 21 k (by omega), hG 23 k (by omega)]
    exact hI.en hk
  · intro k hk h
    rw [e3] at hk
    rw [hG 21 k (by omega)] at h ⊢
    rw [hG 5 (F 21 k - 1) (by omega), hG 23 k (by omega), hG 22 (F 21 k - 1) (by omega), hG 20 k (by omega)]
    exact hI.op hk h
  · intro k r hk hr h5 h
    rw [e3] at hk
    rw [e0] at hr
    rw [hG 5 r (by omega)] at h5
    rw [hG 23 k (by omega), hG 22 r (by omega)] at h
    rw [hG 21 k (by omega)]
    exact hI.li hk hr h5 h
  · intro j hj
    rw [e2] at hj
    rw [e3, hG 15 j (by omega), hI.bi hj]
    exact sm_congr (fun k hk => by rw [hG 16 k (by omega), hG 20 k (by omega), hG 19 k (by omega)])
  · intro j hj
    rw [e0] at hj
    rw [hG 4 j (by omega), hG 5 j (by omega)]
    exact hI.z0 hj
  · intro j hj
    rw [e2] at hj
    rw [hG 15 j (by omega)]
    exact hI.z2 hj
  · intro k hk
    rw [e3] at hk
    rw [hG 20 k (by omega)]
    exact hI.z3 hk

theorem I_cl {F G : FF} {N : Nat} (hI : wInv F N) {i : Nat} (hG : ∀ a b, ¬ (b = i ∧ (a = 13 ∨ a = 14)) → G a b = F a b) (h13 : G 13 i < F 24 1) (h14 : G 14 i ≤ F 11 (G 13 i)) : wInv G N := by
  have e0 := hG 24 0 (by omega)
  have e1 := hG 24 1 (by omega)
  have e2 := hG 24 2 (by omega)
  have e3 := hG 24 3 (by omega)
  have e4 := hG 24 4 (by omega)
  refine ⟨?_, ?_, ?_, ?_, ?_, ?_, ?_, ?_, ?_, ?_, ?_, ?_, ?_, ?_⟩
  · exact ⟨by rw [e0]; exact hI.1.1, by rw [e1]; exact hI.1.2.1, by rw [e2]; exact hI.1.2.2.1, by rw [e3]; exact hI.1.2.2.2.1, by rw [e4]; exact hI.1.2.2.2.2.1, hI.1.2.2.2.2.2⟩
  · intro j hj
    rw [e0] at hj
    rw [hG 0 j (by omega), hG 1 j (by omega), hG 2 j (by omega), hG 3 j (by omega), hG 4 j (by omega), hG 5 j (by omega)]
    exact hI.ro hj
  · intro j hj h5
    rw [e0] at hj
    rw [hG 5 j (by omega)] at h5
    rw [e4, hG 6 j (by omega), hG 7 j (by omega), hG 8 j (by omega), hG 9 j (by omega), hG 22 j (by omega)]
    exact hI.ca hj h5
  · intro a b ha hb h
    rw [e0] at ha hb
    rw [hG 0 a (by omega), hG 0 b (by omega)] at h
    exact hI.up ha hb h
  · intro a b ha hb h1 h2 h
    rw [e0] at ha hb
    rw [hG 5 a (by omega)] at h1
    rw [hG 5 b (by omega)] at h2
    rw [hG 22 a (by omega), hG 22 b (by omega)] at h
    exact hI.uc ha hb h1 h2 h
  · intro j hj
    rw [e1] at hj
    rw [hG 10 j (by omega), hG 11 j (by omega), hG 12 j (by omega)]
    exact hI.pl hj
  · intro j hj
    rw [e2] at hj
    by_cases hji : j = i
    · subst hji
      rw [e1, hG 11 (G 13 j) (by omega)]
      exact ⟨h13, h14⟩
    · rw [e1, hG 13 j (by omega), hG 14 j (by omega), hG 11 (F 13 j) (by omega)]
      exact hI.cl hj
  · intro k hk
    rw [e3] at hk
    rw [e0, e2, e4, hG 16 k (by omega), hG 17 k (by omega), hG 18 k (by omega), hG 19 k (by omega), hG 20 k (by omega), hG 21 k (by omega), hG 23 k (by omega)]
    exact hI.en hk
  · intro k hk h
    rw [e3] at hk
    rw [hG 21 k (by omega)] at h ⊢
    rw [hG 5 (F 21 k - 1) (by omega), hG 23 k (by omega), hG 22 (F 21 k - 1) (by omega), hG 20 k (by omega)]
    exact hI.op hk h
  · intro k r hk hr h5 h
    rw [e3] at hk
    rw [e0] at hr
    rw [hG 5 r (by omega)] at h5
    rw [hG 23 k (by omega), hG 22 r (by omega)] at h
    rw [hG 21 k (by omega)]
    exact hI.li hk hr h5 h
  · intro j hj
    rw [e2] at hj
    rw [e3, hG 15 j (by omega), hI.bi hj]
    exact sm_congr (fun k hk => by rw [hG 16 k (by omega), hG 20 k (by omega), hG 19 k (by omega)])
  · intro j hj
    rw [e0] at hj
    rw [hG 4 j (by omega), hG 5 j (by omega)]
    exact hI.z0 hj
  · intro j hj
    rw [e2] at hj
    rw [hG 15 j (by omega)]
    exact hI.z2 hj
  · intro k hk
    rw [e3] at hk
    rw [hG 20 k (by omega)]
    exact hI.z3 hk

theorem I_clr {F G : FF} {N : Nat} (hI : wInv F N) {i : Nat} (hi : i < F 24 0) (hG : ∀ a b, ¬ (a = 21 ∨ (b = i ∧ (a = 4 ∨ a = 5))) → G a b = F a b) (h4 : G 4 i ≤ 999) (h5G : ∀ b, G 5 b = if b = i then 0 else F 5 b) (h21G : ∀ k, k < F 24 3 → G 21 k = if F 21 k = i + 1 then 0 else F 21 k) : wInv G N := by
  have e0 := hG 24 0 (by omega)
  have e1 := hG 24 1 (by omega)
  have e2 := hG 24 2 (by omega)
  have e3 := hG 24 3 (by omega)
  have e4 := hG 24 4 (by omega)
  refine ⟨?_, ?_, ?_, ?_, ?_, ?_, ?_, ?_, ?_, ?_, ?_, ?_, ?_, ?_⟩
  · exact ⟨by rw [e0]; exact hI.1.1, by rw [e1]; exact hI.1.2.1, by rw [e2]; exact hI.1.2.2.1, by rw [e3]; exact hI.1.2.2.2.1, by rw [e4]; exact hI.1.2.2.2.2.1, hI.1.2.2.2.2.2⟩
  · intro j hj
    rw [e0] at hj
    by_cases hji : j = i
    · subst hji
      rw [h5G, if_pos rfl, hG 0 j (by omega), hG 1 j (by omega), hG 2 j (by omega), hG 3 j (by omega)]
      have h := hI.ro hj
      exact ⟨h.1, h.2.1, h.2.2.1, h.2.2.2.1, h.2.2.2.2.1, h4, Nat.zero_le _⟩
    · rw [hG 0 j (by omega), hG 1 j (by omega), hG 2 j (by omega), hG 3 j (by omega), hG 4 j (by omega), hG 5 j (by omega)]
      exact hI.ro hj
  · intro j hj h5
    rw [e0] at hj
    rw [h5G] at h5
    by_cases hji : j = i
    · rw [if_pos hji] at h5
      exact absurd rfl h5
    · rw [if_neg hji] at h5
      rw [e4, hG 6 j (by omega), hG 7 j (by omega), hG 8 j (by omega), hG 9 j (by omega), hG 22 j (by omega)]
      exact hI.ca hj h5
  · intro a b ha hb h
    rw [e0] at ha hb
    rw [hG 0 a (by omega), hG 0 b (by omega)] at h
    exact hI.up ha hb h
  · intro a b ha hb h1 h2 h
    rw [e0] at ha hb
    rw [h5G] at h1 h2
    rw [hG 22 a (by omega), hG 22 b (by omega)] at h
    by_cases ha9 : a = i
    · rw [if_pos ha9] at h1
      exact absurd rfl h1
    · by_cases hb9 : b = i
      · rw [if_pos hb9] at h2
        exact absurd rfl h2
      · rw [if_neg ha9] at h1
        rw [if_neg hb9] at h2
        exact hI.uc ha hb h1 h2 h
  · intro j hj
    rw [e1] at hj
    rw [hG 10 j (by omega), hG 11 j (by omega), hG 12 j (by omega)]
    exact hI.pl hj
  · intro j hj
    rw [e2] at hj
    rw [e1, hG 13 j (by omega), hG 14 j (by omega), hG 11 (F 13 j) (by omega)]
    exact hI.cl hj
  · intro k hk
    rw [e3] at hk
    have h := hI.en hk
    have h9 : G 21 k ≤ F 24 0 := by
      rw [h21G k hk]
      split
      · exact Nat.zero_le _
      · exact h.2.2.2.2.2.1
    rw [e0, e2, e4, hG 16 k (by omega), hG 17 k (by omega), hG 18 k (by omega), hG 19 k (by omega), hG 20 k (by omega), hG 23 k (by omega)]
    exact ⟨h.1, h.2.1, h.2.2.1, h.2.2.2.1, h.2.2.2.2.1, h9, h.2.2.2.2.2.2⟩
  · intro k hk h
    rw [e3] at hk
    rw [h21G k hk] at h ⊢
    by_cases hk9 : F 21 k = i + 1
    · rw [if_pos hk9] at h
      exact absurd rfl h
    · rw [if_neg hk9] at h ⊢
      have h1 := hI.op hk h
      have h2 := (hI.en hk).2.2.2.2.2.1
      rw [h5G, if_neg (by omega), hG 23 k (by omega), hG 22 (F 21 k - 1) (by omega), hG 20 k (by omega)]
      exact h1
  · intro k r hk hr h5 h
    rw [e3] at hk
    rw [e0] at hr
    rw [h5G] at h5
    rw [hG 23 k (by omega), hG 22 r (by omega)] at h
    by_cases hri : r = i
    · rw [if_pos hri] at h5
      exact absurd rfl h5
    · rw [if_neg hri] at h5
      have h1 := hI.li hk hr h5 h
      rw [h21G k hk, if_neg (by omega)]
      exact h1
  · intro j hj
    rw [e2] at hj
    rw [e3, hG 15 j (by omega), hI.bi hj]
    exact sm_congr (fun k hk => by rw [hG 16 k (by omega), hG 20 k (by omega), hG 19 k (by omega)])
  · intro j hj
    rw [e0] at hj
    rw [hG 4 j (by omega), hG 5 j (by omega)]
    exact hI.z0 hj
  · intro j hj
    rw [e2] at hj
    rw [hG 15 j (by omega)]
    exact hI.z2 hj
  · intro k hk
    rw [e3] at hk
    rw [hG 20 k (by omega)]
    exact hI.z3 hk

theorem I_und0 {F G : FF} {N : Nat} (hI : wInv F N) {i : Nat} (hi : i < F 24 0) (hG : ∀ a b, ¬ (a = 21 ∨ a = 20 ∨ a = 14 ∨ a = 15 ∨ a = 5) → G a b = F a b) (h5G : ∀ b, G 5 b = if b = i then 0 else F 5 b) (h21G : ∀ k, k < F 24 3 → G 21 k = if F 21 k = i + 1 then 0 else F 21 k) (h20G : ∀ k, G 20 k = if k < F 24 3 ∧ F 21 k = i + 1 then 1 else F 20 k) (h14G : ∀ j, j < F 24 2 → G 14 j ≤ F 11 (F 13 j)) (h15G : ∀ j, j < F 24 2 → G 15 j = sm (fun k => if F 16 k = j ∧ G 20 k = 0 then F 19 k else 0) (F 24 3)) (h15z : ∀ j, F 24 2 ≤ j → G 15 j = F 15 j) : wInv G N := by
  have e0 := hG 24 0 (by omega)
  have e1 := hG 24 1 (by omega)
  have e2 := hG 24 2 (by omega)
  have e3 := hG 24 3 (by omega)
  have e4 := hG 24 4 (by omega)
  refine ⟨?_, ?_, ?_, ?_, ?_, ?_, ?_, ?_, ?_, ?_, ?_, ?_, ?_, ?_⟩
  · exact ⟨by rw [e0]; exact hI.1.1, by rw [e1]; exact hI.1.2.1, by rw [e2]; exact hI.1.2.2.1, by rw [e3]; exact hI.1.2.2.2.1, by rw [e4]; exact hI.1.2.2.2.2.1, hI.1.2.2.2.2.2⟩
  · intro j hj
    rw [e0] at hj
    have h := hI.ro hj
    have h9 : G 5 j ≤ 1 := by
      rw [h5G]
      split
      · exact Nat.zero_le _
      · exact h.2.2.2.2.2.2
    rw [hG 0 j (by omega), hG 1 j (by omega), hG 2 j (by omega), hG 3 j (by omega), hG 4 j (by omega)]
    exact ⟨h.1, h.2.1, h.2.2.1, h.2.2.2.1, h.2.2.2.2.1, h.2.2.2.2.2.1, h9⟩
  · intro j hj h5
    rw [e0] at hj
    rw [h5G] at h5
    by_cases hji : j = i
    · rw [if_pos hji] at h5
      exact absurd rfl h5
    · rw [if_neg hji] at h5
      rw [e4, hG 6 j (by omega), hG 7 j (by omega), hG 8 j (by omega), hG 9 j (by omega), hG 22 j (by omega)]
      exact hI.ca hj h5
  · intro a b ha hb h
    rw [e0] at ha hb
    rw [hG 0 a (by omega), hG 0 b (by omega)] at h
    exact hI.up ha hb h
  · intro a b ha hb h1 h2 h
    rw [e0] at ha hb
    rw [h5G] at h1 h2
    rw [hG 22 a (by omega), hG 22 b (by omega)] at h
    by_cases ha9 : a = i
    · rw [if_pos ha9] at h1
      exact absurd rfl h1
    · by_cases hb9 : b = i
      · rw [if_pos hb9] at h2
        exact absurd rfl h2
      · rw [if_neg ha9] at h1
        rw [if_neg hb9] at h2
        exact hI.uc ha hb h1 h2 h
  · intro j hj
    rw [e1] at hj
    rw [hG 10 j (by omega), hG 11 j (by omega), hG 12 j (by omega)]
    exact hI.pl hj
  · intro j hj
    rw [e2] at hj
    rw [e1, hG 13 j (by omega), hG 11 (F 13 j) (by omega)]
    exact ⟨(hI.cl hj).1, h14G j hj⟩
  · intro k hk
    rw [e3] at hk
    have h := hI.en hk
    have h9 : G 21 k ≤ F 24 0 := by
      rw [h21G k hk]
      split
      · exact Nat.zero_le _
      · exact h.2.2.2.2.2.1
    have h8 : G 20 k ≤ 1 := by
      rw [h20G k]
      split
      · exact Nat.le_refl _
      · exact h.2.2.2.2.1
    rw [e0, e2, e4, hG 16 k (by omega), hG 17 k (by omega), hG 18 k (by omega), hG 19 k (by omega), hG 23 k (by omega)]
    exact ⟨h.1, h.2.1, h.2.2.1, h.2.2.2.1, h8, h9, h.2.2.2.2.2.2⟩
  · intro k hk h
    rw [e3] at hk
    rw [h21G k hk] at h ⊢
    by_cases hk9 : F 21 k = i + 1
    · rw [if_pos hk9] at h
      exact absurd rfl h
    · rw [if_neg hk9] at h ⊢
      have h1 := hI.op hk h
      have h2 := (hI.en hk).2.2.2.2.2.1
      rw [h5G, if_neg (by omega), hG 23 k (by omega), hG 22 (F 21 k - 1) (by omega), h20G k, if_neg (by omega)]
      exact h1
  · intro k r hk hr h5 h
    rw [e3] at hk
    rw [e0] at hr
    rw [h5G] at h5
    rw [hG 23 k (by omega), hG 22 r (by omega)] at h
    by_cases hri : r = i
    · rw [if_pos hri] at h5
      exact absurd rfl h5
    · rw [if_neg hri] at h5
      have h1 := hI.li hk hr h5 h
      rw [h21G k hk, if_neg (by omega)]
      exact h1
  · intro j hj
    rw [e2] at hj
    rw [e3, h15G j hj]
    exact sm_congr (fun k hk => by rw [hG 16 k (by omega), hG 19 k (by omega)])
  · intro j hj
    rw [e0] at hj
    rw [hG 4 j (by omega), h5G, if_neg (by omega)]
    exact hI.z0 hj
  · intro j hj
    rw [e2] at hj
    rw [h15z j hj]
    exact hI.z2 hj
  · intro k hk
    rw [e3] at hk
    rw [h20G k, if_neg (by omega)]
    exact hI.z3 hk

theorem und_15z {F : FF} {N r k b : Nat} (hI : wInv F N) (hk : k ≤ F 24 3) (hb : F 24 2 ≤ b) : f_und F r k 15 b = F 15 b := by
  induction k with
  | zero => exact fU_k (by decide)
  | succ k ih =>
    have ih := ih (by omega)
    by_cases h : F 21 k = r + 1
    · rw [und_s h]
      unfold f_und1
      have h16 := (hI.en (k := k) (by omega)).1
      rw [fU_i (by rw [und_a (a := 16) (by decide) (by decide) (by decide) (by decide) (by decide)]; omega), fU_k (by decide), fU_k (by decide), fU_k (by decide)]
      exact ih
    · rw [und_n h]
      exact ih
theorem I_und {F : FF} {N r : Nat} (hI : wInv F N) (hr : r < F 24 0) : wInv (f_und F r (F 24 3)) N :=
  I_und0 (i := r) hI hr (fun a b h => und_a (by omega) (by omega) (by omega) (by omega) (by omega)) (fun b => und_5) (fun k hk => by rw [und_21]; by_cases h : F 21 k = r + 1 <;> simp [h, hk]) (fun k => und_20) (fun j hj => und_14 hI hj) (fun j hj => und_15 hI (Nat.le_refl _) hj) (fun j hj => und_15z hI (Nat.le_refl _) hj)
theorem I_prom {F : FF} {N r : Nat} (hI : wInv F N) (hr : r < F 24 0) (h5 : F 5 r ≠ 0) : wInv (f_promote F r) N :=
  I_clr (i := r) hI hr (fun a b h => prom_o h) (by unfold f_promote; rw [clr_a (by decide) (by decide), fU_s]; exact (hI.ca hr h5).1) (fun b => by unfold f_promote; rw [clr_5]; simp [fU]) (fun k hk => by
    unfold f_promote
    rw [clr_21, fU_k (by decide)]
    by_cases h : F 21 k = r + 1 <;> simp [h, hk])
theorem I_9 {F : FF} {N r v : Nat} (hI : wInv F N) (h5 : F 5 r = 0) : wInv (fU F 9 r v) N :=
  I_ca (i := r) hI (fun a b h => fU_o (by omega)) (fun h => absurd h5 h)
theorem I_fault {F : FF} {N r : Nat} (hI : wInv F N) (hr : r < F 24 0) (h5 : F 5 r ≠ 0) : wInv (f_fault F r) N := by
  unfold f_fault
  have h := hI.ca hr h5
  split
  · exact I_9 (I_und hI hr) (by rw [und_5, if_pos rfl])
  · exact I_ca (i := r) hI (fun a b h => fU_o (by omega)) (fun _ => by rw [fU_k (by decide), fU_s]; omega)
theorem fault_a {F : FF} {r a b : Nat} (h5 : a ≠ 5) (h9 : a ≠ 9) (h14 : a ≠ 14) (h15 : a ≠ 15) (h20 : a ≠ 20) (h21 : a ≠ 21) : f_fault F r a b = F a b := by
  unfold f_fault
  split
  · rw [fU_k h9]
    exact und_a h5 h14 h15 h20 h21
  · exact fU_k h9
