theorem gN_hit {F : FF} {r : Nat} (k : Nat) (h : wpt F r < F 24 0) : gN F k r = wpt F r := by
  cases k with
  | zero => rfl
  | succ k => exact if_pos h
theorem gN_step {F : FF} {r k : Nat} (h : ¬ wpt F r < F 24 0) : gN F (k + 1) r = gN F k (r / 10) := if_neg h
def fitN : Nat → Nat → Nat → Bool
  | 0, q, p => p == q
  | k + 1, q, p => (p == q) || fitN k q (p / 10)
theorem fitN_le {k q p : Nat} (h : fitN k q p = true) : q ≤ p := by
  induction k generalizing p with
  | zero =>
    simp [fitN] at h
    omega
  | succ k ih =>
    simp [fitN] at h
    rcases h with h | h
    · omega
    · have := ih h
      have := Nat.div_le_self p 10
      omega
theorem gN_none {F : FF} {k p : Nat} (h : ∀ t, t < F 24 0 → fitN k (F 0 t) p = false) : gN F k p = F 24 0 := by
  induction k generalizing p with
  | zero =>
    exact wpt_all (fun i hi => by
      have := h i hi
      simp [fitN] at this
      omega)
  | succ k ih =>
    have h1 : wpt F p = F 24 0 := wpt_all (fun i hi => by
      have := h i hi
      simp [fitN] at this
      omega)
    rw [gN_step (by omega)]
    exact ih (fun t ht => by
      have := h t ht
      simp [fitN] at this
      exact this.2)
theorem gN_max {F : FF} {N k p b : Nat} (hI : wInv F N) (hb : b < F 24 0) (hf : fitN k (F 0 b) p = true) (hm : ∀ t, t < F 24 0 → fitN k (F 0 t) p = true → F 0 t ≤ F 0 b) : gN F k p = b := by
  induction k generalizing p with
  | zero =>
    simp [fitN] at hf
    refine wpt_eq hb hf.symm (fun i hi q => ?_)
    have := hI.up (Nat.lt_trans hi hb) hb (by omega)
    omega
  | succ k ih =>
    by_cases h : wpt F p < F 24 0
    · rw [gN_hit _ h]
      have h1 := wpt_lt h
      have h2 := hm _ h (by simp [fitN, h1])
      have h3 := fitN_le hf
      exact hI.up h hb (by omega)
    · rw [gN_step h]
      have h1 : F 0 b ≠ p := fun q => by
        have h2 := wpt_le F p
        have h4 := wpt_ne (F := F) (p := p) (j := b) (by omega)
        exact h4 q
      refine ih ?_ (fun t ht h5 => hm t ht (by simp [fitN, h5]))
      simp [fitN] at hf
      rcases hf with hf | hf
      · exact absurd hf.symm h1
      · exact hf
theorem ct_s {P : Nat → Bool} {n : Nat} (h : P n = true) : ct P (n + 1) = ct P n + 1 := by
  show ct P n + (if P n = true then 1 else 0) = ct P n + 1
  rw [if_pos h]
theorem ct_n {P : Nat → Bool} {n : Nat} (h : P n = false) : ct P (n + 1) = ct P n := by
  show ct P n + (if P n = true then 1 else 0) = ct P n
  rw [h]
  rfl
theorem min_up {j n : Nat} (h : n ≤ j) : Nat.min (j + 1) n = Nat.min j n := by
  rw [show Nat.min (j + 1) n = n from Nat.min_eq_right (by omega), show Nat.min j n = n from Nat.min_eq_right h]
theorem min_in {j n : Nat} (h : j < n) : Nat.min (j + 1) n = Nat.min j n + 1 := by
  rw [show Nat.min (j + 1) n = j + 1 from Nat.min_eq_left (by omega), show Nat.min j n = j from Nat.min_eq_left (by omega)]
theorem min_lt {j n : Nat} (h : j < n) : Nat.min j n = j := Nat.min_eq_left (by omega)
theorem min_ge {j n : Nat} (h : n ≤ j) : Nat.min j n = n := Nat.min_eq_right h
