theorem sm_one {f g : Nat → Nat} {n k : Nat} (hk : k < n) (he : ∀ j, j ≠ k → f j = g j) : sm f n + g k = sm g n + f k := by
  induction n with
  | zero => exact absurd hk (Nat.not_lt_zero _)
  | succ n ih =>
    show sm f n + f n + g k = sm g n + g n + f k
    by_cases h : k = n
    · subst h
      rw [sm_congr (f := f) (g := g) (n := k) (fun i hi => he i (by omega))]
      omega
    · have h1 := ih (by omega)
      have h2 := he n (fun q => h q.symm)
      omega
theorem sm_ge {f : Nat → Nat} {n k : Nat} (hk : k < n) : f k ≤ sm f n := by
  induction n with
  | zero => exact absurd hk (Nat.not_lt_zero _)
  | succ n ih =>
    show f k ≤ sm f n + f n
    by_cases h : k = n
    · subst h
      omega
    · have h1 := ih (by omega)
      omega
theorem und_a {F : FF} {r k a b : Nat} (h5 : a ≠ 5) (h14 : a ≠ 14) (h15 : a ≠ 15) (h20 : a ≠ 20) (h21 : a ≠ 21) : f_und F r k a b = F a b := by
  induction k with
  | zero => exact fU_k h5
  | succ k ih =>
    show (if f_und F r k 21 k = r + 1 then f_und1 (f_und F r k) k else f_und F r k) a b = F a b
    split
    · unfold f_und1
      rw [fU_k h15, fU_k h14, fU_k h20, fU_k h21]
      exact ih
    · exact ih
theorem und_5 {F : FF} {r k b : Nat} : f_und F r k 5 b = if b = r then 0 else F 5 b := by
  induction k with
  | zero => simp [f_und, fU]
  | succ k ih =>
    show (if f_und F r k 21 k = r + 1 then f_und1 (f_und F r k) k else f_und F r k) 5 b = _
    split
    · unfold f_und1
      rw [fU_k (by decide), fU_k (by decide), fU_k (by decide), fU_k (by decide)]
      exact ih
    · exact ih
theorem und_21 {F : FF} {r k j : Nat} : f_und F r k 21 j = if j < k ∧ F 21 j = r + 1 then 0 else F 21 j := by
  induction k generalizing j with
  | zero => simp [f_und, fU]
  | succ k ih =>
    show (if f_und F r k 21 k = r + 1 then f_und1 (f_und F r k) k else f_und F r k) 21 j = _
    have hk : f_und F r k 21 k = F 21 k := by rw [ih]; simp
    rw [hk]
    split
    · rename_i h
      unfold f_und1
      rw [fU_k (by decide), fU_k (by decide), fU_k (by decide)]
      by_cases hj : j = k
      · subst hj
        rw [fU_s, if_pos ⟨by omega, h⟩]
      · rw [fU_i hj, ih]
        by_cases h1 : j < k ∧ F 21 j = r + 1
        · rw [if_pos h1, if_pos ⟨by omega, h1.2⟩]
        · rw [if_neg h1, if_neg (fun q => h1 ⟨by omega, q.2⟩)]
    · rename_i h
      rw [ih]
      by_cases h1 : j < k ∧ F 21 j = r + 1
      · rw [if_pos h1, if_pos ⟨by omega, h1.2⟩]
      · rw [if_neg h1, if_neg (fun q => by
          by_cases hj : j = k
          · subst hj
            exact h q.2
          · exact h1 ⟨by omega, q.2⟩)]
theorem und_s {F : FF} {r k : Nat} (h : F 21 k = r + 1) : f_und F r (k + 1) = f_und1 (f_und F r k) k := by
  show (if f_und F r k 21 k = r + 1 then f_und1 (f_und F r k) k else f_und F r k) = _
  rw [if_pos (by rw [und_21]; simp [h])]
theorem und_n {F : FF} {r k : Nat} (h : ¬ F 21 k = r + 1) : f_und F r (k + 1) = f_und F r k := by
  show (if f_und F r k 21 k = r + 1 then f_und1 (f_und F r k) k else f_und F r k) = _
  rw [if_neg (by rw [und_21]; simp [h])]
theorem und_20 {F : FF} {r k j : Nat} : f_und F r k 20 j = if j < k ∧ F 21 j = r + 1 then 1 else F 20 j := by
  induction k generalizing j with
  | zero => simp [f_und, fU]
  | succ k ih =>
    by_cases h : F 21 k = r + 1
    · rw [und_s h]
      unfold f_und1
      rw [fU_k (by decide), fU_k (by decide)]
      by_cases hj : j = k
      · subst hj
        rw [fU_s, if_pos ⟨by omega, h⟩]
      · rw [fU_i hj, fU_k (by decide), ih]
        by_cases h1 : j < k ∧ F 21 j = r + 1
        · rw [if_pos h1, if_pos ⟨by omega, h1.2⟩]
        · rw [if_neg h1, if_neg (fun q => h1 ⟨by omega, q.2⟩)]
    · rw [und_n h, ih]
      by_cases h1 : j < k ∧ F 21 j = r + 1
      · rw [if_pos h1, if_pos ⟨by omega, h1.2⟩]
      · rw [if_neg h1, if_neg (fun q => by
          by_cases hj : j = k
          · subst hj
            exact h q.2
          · exact h1 ⟨by omega, q.2⟩)]
theorem und_14 {F : FF} {N r k c : Nat} (hI : wInv F N) (hc : c < F 24 2) : f_und F r k 14 c ≤ F 11 (F 13 c) := by
  induction k with
  | zero =>
    rw [show f_und F r 0 14 c = F 14 c from fU_k (by decide)]
    exact (hI.cl hc).2
  | succ k ih =>
    by_cases h : F 21 k = r + 1
    · rw [und_s h]
      unfold f_und1
      rw [fU_k (by decide)]
      by_cases hj : c = f_und F r k 16 k
      · rw [← hj, fU_s, und_a (a := 11) (by decide) (by decide) (by decide) (by decide) (by decide), und_a (a := 13) (by decide) (by decide) (by decide) (by decide) (by decide)]
        exact Nat.min_le_right _ _
      · rw [fU_i hj, fU_k (by decide), fU_k (by decide)]
        exact ih
    · rw [und_n h]
      exact ih
theorem und_15 {F : FF} {N r k c : Nat} (hI : wInv F N) (hk : k ≤ F 24 3) (hc : c < F 24 2) : f_und F r k 15 c = sm (fun j => if F 16 j = c ∧ f_und F r k 20 j = 0 then F 19 j else 0) (F 24 3) := by
  induction k with
  | zero =>
    rw [show f_und F r 0 15 c = F 15 c from fU_k (by decide), hI.bi hc]
    exact sm_congr (fun i _ => by rw [show f_und F r 0 20 i = F 20 i from fU_k (by decide)])
  | succ k ih =>
    have ih := ih (by omega)
    by_cases h : F 21 k = r + 1
    · have h20 : f_und F r k 20 k = 0 := by
        rw [und_20, if_neg (fun q => Nat.lt_irrefl _ q.1)]
        exact (hI.op (by omega) (by omega)).2.2
      have hn : ∀ j, j ≠ k → (if F 16 j = c ∧ f_und F r k 20 j = 0 then F 19 j else 0) = (if F 16 j = c ∧ f_und F r (k + 1) 20 j = 0 then F 19 j else 0) := fun j hj => by
        have e : f_und F r (k + 1) 20 j = f_und F r k 20 j := by
          rw [und_20, und_20]
          by_cases h1 : j < k ∧ F 21 j = r + 1
          · rw [if_pos h1, if_pos ⟨by omega, h1.2⟩]
          · rw [if_neg h1, if_neg (fun q => h1 ⟨by omega, q.2⟩)]
        rw [e]
      have hs := sm_one (f := fun j => if F 16 j = c ∧ f_und F r k 20 j = 0 then F 19 j else 0) (g := fun j => if F 16 j = c ∧ f_und F r (k + 1) 20 j = 0 then F 19 j else 0) (n := F 24 3) (k := k) (by omega) hn
      have h1k : f_und F r (k + 1) 20 k = 1 := by rw [und_20, if_pos ⟨by omega, h⟩]
      simp only [h1k, h20] at hs
      rw [show f_und F r (k + 1) 15 c = f_und1 (f_und F r k) k 15 c by rw [und_s h]]
      unfold f_und1
      rw [und_a (a := 16) (by decide) (by decide) (by decide) (by decide) (by decide), und_a (a := 19) (by decide) (by decide) (by decide) (by decide) (by decide)]
      by_cases hj : c = F 16 k
      · rw [← hj, fU_s, ih]
        rw [← hj] at hs
        simp only [and_true, if_true, true_and] at hs
        simp at hs
        omega
      · rw [fU_i hj, fU_k (by decide), fU_k (by decide), fU_k (by decide), ih]
        have hj2 : ¬ F 16 k = c := fun q => hj q.symm
        simp [hj2] at hs
        omega
    · rw [und_n h]
      exact ih
