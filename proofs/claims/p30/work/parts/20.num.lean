theorem nI_tn {x : Int32} (h : ¬ x < 0) : nI (tn x) = x := by
  obtain ⟨j, hj, rfl⟩ := nI_of h
  rw [tn_nI hj]
theorem wi_tn {x : Int32} {lo hi : Nat} (h : wi x (nI lo) (nI hi) = true) (hh : hi < 2 ^ 31) (hl : lo < 2 ^ 31) : nI (tn x) = x ∧ lo ≤ tn x ∧ tn x ≤ hi := by
  obtain ⟨j, h1, h2, rfl, h4⟩ := wi_nat h hh hl
  rw [h4]
  exact ⟨rfl, h1, h2⟩
theorem ctr_tn {l g : Int32} (h : ctr l g = true) : nI (tn l) = l ∧ nI (tn g) = g ∧ tn l ≤ tn g ∧ tn g ≤ 999 := by
  unfold ctr at h
  rw [Bool.and_eq_true] at h
  obtain ⟨h1, h2, h3⟩ := wi_tn (lo := 0) (hi := 999) h.1 (by omega) (by omega)
  have h4 := h.2
  rw [← h1] at h4
  obtain ⟨h5, h6, h7⟩ := wi_tn (lo := tn l) (hi := 999) h4 (by omega) (by omega)
  exact ⟨h1, h5, h6, h7⟩
theorem path_tn {p : Int32} (h : pathB p = true) : nI (tn p) = p ∧ tn p ≤ 9999 := by
  unfold pathB at h
  rw [Bool.and_eq_true] at h
  obtain ⟨h1, h2, h3⟩ := wi_tn (lo := 0) (hi := 9999) h.1 (by omega) (by omega)
  exact ⟨h1, h3⟩
theorem vpb_nt {x : Int32} {n : Nat} (h : vpb x n = true) : nI (tn x) = x := nI_tn (fun q => vpb_in.mp h (Or.inl q))
theorem nI_bI {x : Nat} (h : x ≤ 1) : nI x = bI (decide (x ≠ 0)) := by
  rcases Nat.le_one_iff_eq_zero_or_eq_one.mp h with rfl | rfl <;> rfl
theorem w_nz2 {x : Nat} (h : x ≤ 1) : narrow .boolean (.int (nI x)) = .int (nI x) := by
  rw [nI_bI h]
  exact w_nz _
theorem w_max0 {t b : Nat} (ht : t < 2 ^ 30) (hb : b < 2 ^ 30) : (if nI t - nI b < 0 then 0 else nI t - nI b) = nI (t - b) := by
  by_cases h : t < b
  · rw [if_pos (pk_sneg hb h), show t - b = 0 by omega]
    rfl
  · rw [pk_sub (by omega), if_neg (nI_pos (by omega))]
theorem w_sub_le {a b : Nat} (ha : a < 2 ^ 30) (hb : b < 2 ^ 30) : nI a - nI b ≤ 0 ↔ a ≤ b := by
  rw [Int32.le_iff_toInt_le, pk_sub_toInt ha hb]
  have : (0 : Int32).toInt = 0 := by decide
  rw [this]
  omega
theorem clr_a {F : FF} {r k a b : Nat} (h5 : a ≠ 5) (h21 : a ≠ 21) : f_clr F r k a b = F a b := by
  induction k with
  | zero => exact fU_k h5
  | succ k ih =>
    show (if f_clr F r k 21 k = r + 1 then fU (f_clr F r k) 21 k 0 else f_clr F r k) a b = F a b
    split
    · rw [fU_k h21]
      exact ih
    · exact ih
theorem clr_5 {F : FF} {r k b : Nat} : f_clr F r k 5 b = if b = r then 0 else F 5 b := by
  induction k with
  | zero => simp [f_clr, fU]
  | succ k ih =>
    show (if f_clr F r k 21 k = r + 1 then fU (f_clr F r k) 21 k 0 else f_clr F r k) 5 b = _
    split
    · rw [fU_k (by decide)]
      exact ih
    · exact ih
theorem clr_21 {F : FF} {r k j : Nat} : f_clr F r k 21 j = if j < k ∧ F 21 j = r + 1 then 0 else F 21 j := by
  induction k generalizing j with
  | zero => simp [f_clr, fU]
  | succ k ih =>
    show (if f_clr F r k 21 k = r + 1 then fU (f_clr F r k) 21 k 0 else f_clr F r k) 21 j = _
    have hk : f_clr F r k 21 k = F 21 k := by rw [ih]; simp
    rw [hk]
    split
    · rename_i h
      by_cases hj : j = k
      · subst hj
        rw [fU_s, if_pos ⟨by omega, h⟩]
      · rw [fU_i hj, ih]
        by_cases h1 : j < k ∧ F 21 j = r + 1
        · rw [if_pos h1, if_pos ⟨by omega, h1.2⟩]
        · rw [if_neg h1, if_neg (fun q => h1 ⟨by omega, q.2⟩)]
    · rename_i h
      rw [ih]
      by_cases h1 : j < k ∧ F 21 j = r + 1
      · rw [if_pos h1, if_pos ⟨by omega, h1.2⟩]
      · rw [if_neg h1, if_neg (fun q => by
          by_cases hj : j = k
          · subst hj
            exact h q.2
          · exact h1 ⟨by omega, q.2⟩)]
theorem fU_o {F : FF} {k i v a b : Nat} (h : ¬ (a = k ∧ b = i)) : fU F k i v a b = F a b := if_neg h
theorem prom_o {F : FF} {i a b : Nat} (h : ¬ (a = 21 ∨ (b = i ∧ (a = 4 ∨ a = 5)))) : f_promote F i a b = F a b := by
  unfold f_promote
  by_cases h5 : a = 5
  · subst h5
    rw [clr_5, if_neg (by omega), fU_o (by omega)]
  · rw [clr_a h5 (by omega), fU_o (by omega)]
theorem und_o {F : FF} {i a b : Nat} (h : ¬ (a = 21 ∨ (b = i ∧ (a = 4 ∨ a = 5)))) : f_und F i 0 a b = F a b := by
  show fU F 5 i 0 a b = F a b
  rw [fU_o (by omega)]
theorem fU_id {F : FF} {k i : Nat} : fU F k i (F k i) = F := by
  funext a b
  simp only [fU]
  split
  · rename_i h
    rw [h.1, h.2]
  · rfl
theorem und_o9 {F : FF} {i v a b : Nat} (h : ¬ (a = 21 ∨ (b = i ∧ (a = 4 ∨ a = 5 ∨ a = 9)))) : f_und F i 0 a b = fU F 9 i v a b := by
  have h1 : ¬ (a = 9 ∧ b = i) := by omega
  have h2 : ¬ (a = 5 ∧ b = i) := by omega
  simp only [f_und, fU]
  rw [if_neg h1, if_neg h2]
