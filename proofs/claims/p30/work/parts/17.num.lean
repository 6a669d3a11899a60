theorem w_min {a b : Nat} (ha : a < 2 ^ 31) (hb : b < 2 ^ 31) : (if nI b < nI a then nI b else nI a) = nI (Nat.min a b) := by
  by_cases h : b < a
  · rw [if_pos ((nI_ltI hb ha).mpr h), show Nat.min a b = b from Nat.min_eq_right (by omega)]
  · rw [if_neg (fun q => h ((nI_ltI hb ha).mp q)), show Nat.min a b = a from Nat.min_eq_left (by omega)]
theorem w_tok {t o b : Nat} (h : t ≤ b) : t + Nat.min o (b - t) = Nat.min (t + o) b := by
  rcases Nat.le_total o (b - t) with q | q
  · rw [show Nat.min o (b - t) = o from Nat.min_eq_left q, show Nat.min (t + o) b = t + o from Nat.min_eq_left (by omega)]
  · rw [show Nat.min o (b - t) = b - t from Nat.min_eq_right q, show Nat.min (t + o) b = b from Nat.min_eq_right (by omega)]
    omega
theorem oI_eq {v n : Nat} (hv : v < 2 ^ 30) (hn : n < 2 ^ 30) : oI v = nI n ↔ v = n + 1 := by
  unfold oI
  cases v with
  | zero =>
    constructor
    · intro h
      have h1 := congrArg Int32.toInt h
      rw [nI_toInt (by omega)] at h1
      have h2 : (nI 0 - 1).toInt = -1 := by decide
      rw [h2] at h1
      omega
    · intro h
      omega
  | succ v =>
    rw [nI_pred, nI_eq (by omega) (by omega)]
    omega
def rfX (ad : Nat → Nat) (m : Nat) (n : Int32) : Option Nat := if vpb n m = true then some (ad (tn n)) else none
theorem rfX_in {ad : Nat → Nat} {m j : Nat} (h : j < m) (hm : m < 2 ^ 31) : rfX ad m (nI j) = some (ad j) := by
  unfold rfX
  rw [if_pos (vpb_nI h hm), tn_nI (by omega)]
theorem rfX_no {ad : Nat → Nat} {m : Nat} {n : Int32} (h : vpb n m = false) : rfX ad m n = none := by
  unfold rfX
  rw [h]
  rfl
theorem rfX_ok {ad : Nat → Nat} {m : Nat} {n : Int32} (h : vpb n m = true) : rfX ad m n = some (ad (tn n)) := if_pos h
theorem sm_s {f : Nat → Nat} {n : Nat} : sm f (n + 1) = sm f n + f n := rfl
theorem und1_14 {F : FF} {k a b : Nat} (h14 : a ≠ 14) (h15 : a ≠ 15) (h20 : a ≠ 20) (h21 : a ≠ 21) : f_und1 F k a b = F a b := by
  unfold f_und1
  rw [fU_k h15, fU_k h14, fU_k h20, fU_k h21]
