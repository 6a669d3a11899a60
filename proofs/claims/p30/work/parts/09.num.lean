theorem okD_0 (k : Nat) : okD k 0 = true := by
  cases k with
  | zero => rfl
  | succ k => rfl
theorem okD_f {k r : Nat} (hk : 0 < k) (h : r ≠ 0) (h2 : r % 10 = 0) : okD k r = false := by
  obtain ⟨k, rfl⟩ : ∃ j, k = j + 1 := ⟨k - 1, by omega⟩
  simp [okD, h, h2]
theorem okD_s {k r : Nat} (hk : 0 < k) (h : r ≠ 0) (h2 : r % 10 ≠ 0) : okD k r = okD (k - 1) (r / 10) := by
  obtain ⟨k, rfl⟩ : ∃ j, k = j + 1 := ⟨k - 1, by omega⟩
  simp [okD, h, h2]
theorem vpin_of {x : Int32} {n : Nat} (hn : n < 2 ^ 31) (h0 : ¬ x < 0) (h : ¬ nI n ≤ x) : vp_in x n := by
  obtain ⟨j, hj, rfl⟩ := nI_of h0
  refine vp_in_nI ?_ hn
  rcases Nat.lt_or_ge j n with q | q
  · exact q
  · exact absurd ((nI_leI hn hj).mpr q) h
theorem vpb_lt {x : Int32} {n : Nat} (h0 : ¬ x < 0) (h : tn x < n) : vpb x n = true := vpb_in.mpr (fun q => q.elim h0 (fun q => absurd h (Nat.not_lt.mpr q)))
theorem vpb_ge {x : Int32} {n : Nat} (h : n ≤ tn x) : vpb x n = false := by
  cases q : vpb x n
  · rfl
  · exact absurd (Or.inr h) (vpb_in.mp q)
theorem vpb_big {x : Int32} {n k : Nat} (hk : k < 2 ^ 31) (hn : n ≤ k) (h0 : ¬ x < 0) (h : nI k ≤ x) : vpb x n = false := by
  obtain ⟨j, hj, rfl⟩ := nI_of h0
  exact vpb_no (Nat.le_trans hn ((nI_leI hk hj).mp h)) hj
abbrev xIAE : String := "java/lang/IllegalArgumentException"
abbrev xISE : String := "java/lang/IllegalStateException"
abbrev xNSE : String := "java/util/NoSuchElementException"
abbrev xIOB : String := "java/lang/IndexOutOfBoundsException"
abbrev xARI : String := "java/lang/ArithmeticException"
def wInv (F : FF) (N : Nat) : Prop :=
  (F 24 0 ≤ 8 ∧ F 24 1 ≤ 3 ∧ F 24 2 ≤ 6 ∧ F 24 3 ≤ N ∧ F 24 4 ≤ N ∧ N ≤ 512) ∧
  (∀ i, i < F 24 0 → F 0 i ≤ 9999 ∧ 1 ≤ F 1 i ∧ F 1 i ≤ 5 ∧ F 2 i ≤ 999 ∧ F 3 i ≤ 999 ∧ F 4 i ≤ 999 ∧ F 5 i ≤ 1) ∧
  (∀ i, i < F 24 0 → F 5 i ≠ 0 → F 6 i ≤ 999 ∧ 1 ≤ F 7 i ∧ F 7 i ≤ 100 ∧ 1 ≤ F 8 i ∧ F 8 i ≤ 9 ∧ F 9 i < F 8 i ∧ F 22 i < F 24 4) ∧
  (∀ i j, i < F 24 0 → j < F 24 0 → F 0 i = F 0 j → i = j) ∧
  (∀ i j, i < F 24 0 → j < F 24 0 → F 5 i ≠ 0 → F 5 j ≠ 0 → F 22 i = F 22 j → i = j) ∧
  (∀ i, i < F 24 1 → 1 ≤ F 10 i ∧ F 10 i ≤ 20 ∧ 1 ≤ F 11 i ∧ F 11 i ≤ 100 ∧ F 12 i ≤ 99) ∧
  (∀ i, i < F 24 2 → F 13 i < F 24 1 ∧ F 14 i ≤ F 11 (F 13 i)) ∧
  (∀ k, k < F 24 3 → F 16 k < F 24 2 ∧ F 17 k ≤ 115 ∧ F 18 k ≤ 5 ∧ F 19 k ≤ 495 ∧ F 20 k ≤ 1 ∧ F 21 k ≤ F 24 0 ∧ F 23 k ≤ F 24 4) ∧
  (∀ k, k < F 24 3 → F 21 k ≠ 0 → F 5 (F 21 k - 1) ≠ 0 ∧ F 23 k = F 22 (F 21 k - 1) + 1 ∧ F 20 k = 0) ∧
  (∀ k r, k < F 24 3 → r < F 24 0 → F 5 r ≠ 0 → F 23 k = F 22 r + 1 → F 21 k = r + 1) ∧
  (∀ i, i < F 24 2 → F 15 i = sm (fun k => if F 16 k = i ∧ F 20 k = 0 then F 19 k else 0) (F 24 3)) ∧
  (∀ i, F 24 0 ≤ i → F 4 i = 0 ∧ F 5 i = 0) ∧ (∀ i, F 24 2 ≤ i → F 15 i = 0) ∧ (∀ k, F 24 3 ≤ k → F 20 k = 0)
theorem wInv.n {F : FF} {N : Nat} (h : wInv F N) : F 24 0 ≤ 8 ∧ F 24 1 ≤ 3 ∧ F 24 2 ≤ 6 ∧ F 24 3 ≤ 512 ∧ F 24 4 ≤ 512 := by
  obtain ⟨⟨h1, h2, h3, h4, h5, h6⟩, -⟩ := h
  exact ⟨h1, h2, h3, by omega, by omega⟩
theorem wInv.ro {F : FF} {N : Nat} (h : wInv F N) {i : Nat} (hi : i < F 24 0) : F 0 i ≤ 9999 ∧ 1 ≤ F 1 i ∧ F 1 i ≤ 5 ∧ F 2 i ≤ 999 ∧ F 3 i ≤ 999 ∧ F 4 i ≤ 999 ∧ F 5 i ≤ 1 := h.2.1 i hi
theorem wInv.ca {F : FF} {N : Nat} (h : wInv F N) {i : Nat} (hi : i < F 24 0) (h5 : F 5 i ≠ 0) : F 6 i ≤ 999 ∧ 1 ≤ F 7 i ∧ F 7 i ≤ 100 ∧ 1 ≤ F 8 i ∧ F 8 i ≤ 9 ∧ F 9 i < F 8 i ∧ F 22 i < F 24 4 := h.2.2.1 i hi h5
theorem wInv.up {F : FF} {N : Nat} (h : wInv F N) {i j : Nat} (hi : i < F 24 0) (hj : j < F 24 0) (e : F 0 i = F 0 j) : i = j := h.2.2.2.1 i j hi hj e
theorem wInv.uc {F : FF} {N : Nat} (h : wInv F N) {i j : Nat} (hi : i < F 24 0) (hj : j < F 24 0) (h5 : F 5 i ≠ 0) (h6 : F 5 j ≠ 0) (e : F 22 i = F 22 j) : i = j := h.2.2.2.2.1 i j hi hj h5 h6 e
theorem wInv.pl {F : FF} {N : Nat} (h : wInv F N) {i : Nat} (hi : i < F 24 1) : 1 ≤ F 10 i ∧ F 10 i ≤ 20 ∧ 1 ≤ F 11 i ∧ F 11 i ≤ 100 ∧ F 12 i ≤ 99 := h.2.2.2.2.2.1 i hi
theorem wInv.cl {F : FF} {N : Nat} (h : wInv F N) {i : Nat} (hi : i < F 24 2) : F 13 i < F 24 1 ∧ F 14 i ≤ F 11 (F 13 i) := h.2.2.2.2.2.2.1 i hi
theorem wInv.en {F : FF} {N : Nat} (h : wInv F N) {k : Nat} (hk : k < F 24 3) : F 16 k < F 24 2 ∧ F 17 k ≤ 115 ∧ F 18 k ≤ 5 ∧ F 19 k ≤ 495 ∧ F 20 k ≤ 1 ∧ F 21 k ≤ F 24 0 ∧ F 23 k ≤ F 24 4 := h.2.2.2.2.2.2.2.1 k hk
theorem wInv.op {F : FF} {N : Nat} (h : wInv F N) {k : Nat} (hk : k < F 24 3) (h21 : F 21 k ≠ 0) : F 5 (F 21 k - 1) ≠ 0 ∧ F 23 k = F 22 (F 21 k - 1) + 1 ∧ F 20 k = 0 := h.2.2.2.2.2.2.2.2.1 k hk h21
theorem wInv.li {F : FF} {N : Nat} (h : wInv F N) {k r : Nat} (hk : k < F 24 3) (hr : r < F 24 0) (h5 : F 5 r ≠ 0) (e : F 23 k = F 22 r + 1) : F 21 k = r + 1 := h.2.2.2.2.2.2.2.2.2.1 k r hk hr h5 e
theorem wInv.bi {F : FF} {N : Nat} (h : wInv F N) {i : Nat} (hi : i < F 24 2) : F 15 i = sm (fun k => if F 16 k = i ∧ F 20 k = 0 then F 19 k else 0) (F 24 3) := h.2.2.2.2.2.2.2.2.2.2.1 i hi
theorem wInv.z0 {F : FF} {N : Nat} (h : wInv F N) {i : Nat} (hi : F 24 0 ≤ i) : F 4 i = 0 ∧ F 5 i = 0 := h.2.2.2.2.2.2.2.2.2.2.2.1 i hi
theorem wInv.z2 {F : FF} {N : Nat} (h : wInv F N) {i : Nat} (hi : F 24 2 ≤ i) : F 15 i = 0 := h.2.2.2.2.2.2.2.2.2.2.2.2.1 i hi
theorem wInv.z3 {F : FF} {N : Nat} (h : wInv F N) {k : Nat} (hk : F 24 3 ≤ k) : F 20 k = 0 := h.2.2.2.2.2.2.2.2.2.2.2.2.2 k hk
theorem wInv.bl {F : FF} {N : Nat} (h : wInv F N) {i : Nat} (hi : i < F 24 2) : F 15 i ≤ 512 * 495 := by
  rw [h.bi hi]
  have h1 : sm (fun k => if F 16 k = i ∧ F 20 k = 0 then F 19 k else 0) (F 24 3) ≤ F 24 3 * 495 := sm_le (fun k hk => by
    have := (h.en hk).2.2.2.1
    split <;> omega)
  have h2 := h.n.2.2.2.1
  exact Nat.le_trans h1 (Nat.mul_le_mul_right _ h2)
theorem nI_e0 {n : Nat} (h : n < 2 ^ 31) : nI n = 0 ↔ n = 0 := nI_eq (b := 0) h (by decide)
theorem wpt_lt {F : FF} {p : Nat} (h : wpt F p < F 24 0) : F 0 (wpt F p) = p := by
  have h2 : (F 0 (wpt F p) == p) = true := fi_at (fun i => F 0 i == p) h
  simpa using h2
theorem wpt_ne {F : FF} {p j : Nat} (h : j < wpt F p) : F 0 j ≠ p := by
  have h2 : (F 0 j == p) = false := fi_ne (fun i => F 0 i == p) h
  simpa using h2
theorem wpt_le (F : FF) (p : Nat) : wpt F p ≤ F 24 0 := fi_le _ _
theorem wpt_eq {F : FF} {p j : Nat} (hj : j < F 24 0) (h : F 0 j = p) (hn : ∀ i, i < j → F 0 i ≠ p) : wpt F p = j := fi_eq hj (by simp [h]) (fun i hi => by simp [hn i hi])
theorem wpt_all {F : FF} {p : Nat} (h : ∀ i, i < F 24 0 → F 0 i ≠ p) : wpt F p = F 24 0 := fi_all (fun i hi => by simp [h i hi])
theorem gN_le (F : FF) (k p : Nat) : gN F k p ≤ F 24 0 := by
  induction k generalizing p with
  | zero => exact wpt_le F p
  | succ k ih =>
    unfold gN
    split
    · exact wpt_le F p
    · exact ih _
theorem vpb_tn {x : Int32} {n : Nat} (h : vpb x n = true) : tn x < n := Nat.not_le.mp (fun q => vpb_in.mp h (Or.inr q))
