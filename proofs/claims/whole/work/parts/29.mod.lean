/-! The reference's cells: its object and 22 rows, MA k for the row k of F. -/
def mT : Nat → Nat
  | 5 => 3
  | 20 => 3
  | 17 => 2
  | 15 => 1
  | _ => 0
def mL (k : Nat) : Nat := if k ≤ 9 then 8 else if k ≤ 12 then 3 else if k ≤ 15 then 6 else 700
abbrev mX : Type := (Nat → Int32) ⊕ (Nat → Int64) ⊕ (Nat → UInt32) ⊕ (Nat → UInt64) ⊕ (Nat → Option Nat)
def mC (F : FF) : Nat → mX
  | 15 => .inr (.inl (fun i => lN (F 15 i)))
  | 21 => .inl (fun i => oI (F 21 i))
  | k => .inl (fun i => nI (F k i))
abbrev e_m (F : FF) (MA : Nat → Nat) (cd : Int32) : va_E := .inr (7, [.int cd, .int (nI (F 24 0)), .ref (MA 0), .ref (MA 1), .ref (MA 2), .ref (MA 3), .ref (MA 4), .ref (MA 5), .ref (MA 6), .ref (MA 7), .ref (MA 8), .ref (MA 9), .int (nI (F 24 1)), .ref (MA 10), .ref (MA 11), .ref (MA 12), .int (nI (F 24 2)), .ref (MA 13), .ref (MA 14), .ref (MA 15), .int (nI (F 24 3)), .ref (MA 16), .ref (MA 17), .ref (MA 18), .ref (MA 19), .ref (MA 20), .ref (MA 21)])
def wMod (E : wEn) (F : FF) (MA : Nat → Nat) (mo : Nat) (cd : Int32) (w : wW) : Prop :=
  w mo = some (e_m F MA cd) ∧ (∀ k, k ≤ 21 → w (MA k) = some (.inl (E.2.1 (mT k), mL k, mC F k))) ∧ ∀ i j, i ≤ 21 → j ≤ 21 → MA i = MA j → i = j
theorem wMod.x {E : wEn} {F : FF} {MA : Nat → Nat} {mo : Nat} {cd : Int32} {w : wW} (h : wMod E F MA mo cd w) : w mo = some (e_m F MA cd) := h.1
theorem wMod.a {E : wEn} {F : FF} {MA : Nat → Nat} {mo : Nat} {cd : Int32} {w : wW} (h : wMod E F MA mo cd w) (k : Nat) (hk : k ≤ 21) : w (MA k) = some (.inl (E.2.1 (mT k), mL k, mC F k)) := h.2.1 k hk
theorem wMod.i {E : wEn} {F : FF} {MA : Nat → Nat} {mo : Nat} {cd : Int32} {w : wW} (h : wMod E F MA mo cd w) (k : Nat) (hk : k ≤ 21) {t n : Nat} {f : Nat → Int32} (ht : mT k = t) (hn : mL k = n) (hf : mC F k = .inl f) : w (MA k) = some (.inl (E.2.1 t, n, .inl f)) := by
  rw [h.a k hk, ht, hn, hf]
theorem wMod.l {E : wEn} {F : FF} {MA : Nat → Nat} {mo : Nat} {cd : Int32} {w : wW} (h : wMod E F MA mo cd w) : w (MA 15) = some (.inl (E.2.1 1, 6, .inr (.inl (fun i => lN (F 15 i))))) := h.a 15 (by decide)
/-- all cells but the reference's stay -/
def wKm (mo : Nat) (MA : Nat → Nat) (w w2 : wW) : Prop := ∀ a, a ≠ mo → (∀ k, k ≤ 21 → a ≠ MA k) → w2 a = w a
theorem wKm.rf {mo : Nat} {MA : Nat → Nat} {w : wW} : wKm mo MA w w := fun _ _ _ => rfl
theorem wKm.tr {mo : Nat} {MA : Nat → Nat} {w w1 w2 : wW} (h1 : wKm mo MA w w1) (h2 : wKm mo MA w1 w2) : wKm mo MA w w2 := fun a h k => (h2 a h k).trans (h1 a h k)
theorem wKm.o {mo : Nat} {MA : Nat → Nat} {w : wW} {e : va_E} : wKm mo MA w (wU w mo e) := fun _ h _ => wU_n _ _ h
theorem wKm.s {mo k : Nat} {MA : Nat → Nat} {w : wW} {e : va_E} (hk : k ≤ 21) : wKm mo MA w (wU w (MA k) e) := fun _ _ h => wU_n _ _ (h k hk)
theorem mtag (E : wEn) (F : FF) (k : Nat) : wtg (.inl (E.2.1 (mT k), mL k, mC F k)) ≠ 7 := by
  unfold mC
  split <;> exact Nat.ne_of_beq_eq_false rfl
theorem M_ext {E : wEn} {F G : FF} {MA : Nat → Nat} {mo : Nat} {cd : Int32} {w : wW} (h : wMod E F MA mo cd w) (hG : ∀ a b, a ≤ 21 → G a b = F a b) (h0 : G 24 0 = F 24 0) (h1 : G 24 1 = F 24 1) (h2 : G 24 2 = F 24 2) (h3 : G 24 3 = F 24 3) : wMod E G MA mo cd w := by
  refine ⟨?_, ?_, h.2.2⟩
  · rw [h.x]
    simp only [e_m, h0, h1, h2, h3]
  · intro k hk
    rw [h.a k hk]
    have e : mC G k = mC F k := by
      unfold mC
      split
      · simp only [hG 15 _ (by decide)]
      · simp only [hG 21 _ (by decide)]
      · simp only [hG k _ hk]
    rw [e]
/-- the object's own numbers change -/
theorem M_o {E : wEn} {F G : FF} {MA : Nat → Nat} {mo : Nat} {cd cd2 : Int32} {w : wW} (h : wMod E F MA mo cd w) (hG : ∀ a b, a ≤ 21 → G a b = F a b) : wMod E G MA mo cd2 (wU w mo (e_m G MA cd2)) := by
  refine ⟨wU_s _ _ _, ?_, h.2.2⟩
  intro k hk
  have e : mC G k = mC F k := by
    unfold mC
    split
    · simp only [hG 15 _ (by decide)]
    · simp only [hG 21 _ (by decide)]
    · simp only [hG k _ hk]
  rw [wU_n _ _ (wne (h.a k hk) h.x (mtag E F k)), e]
  exact h.a k hk
/-- a place of a row changes -/
theorem M_s {E : wEn} {F : FF} {MA : Nat → Nat} {mo : Nat} {cd : Int32} {w : wW} (h : wMod E F MA mo cd w) (k i v : Nat) (hk : k ≤ 21) {x : vp_A} {c : ClassId} (hx : (c, x) = (E.2.1 (mT k), mL k, mC (fU F k i v) k)) : wMod E (fU F k i v) MA mo cd (wU w (MA k) (.inl (c, x))) := by
  have e24 : ∀ b, fU F k i v 24 b = F 24 b := fun b => fU_k (by omega)
  refine ⟨?_, ?_, h.2.2⟩
  · rw [wU_n _ _ (Ne.symm (wne (h.a k hk) h.x (mtag E F k))), h.x]
    simp only [e_m, e24]
  · intro j hj
    by_cases hjk : j = k
    · subst hjk
      rw [wU_s, hx]
    · rw [wU_n _ _ (fun q => hjk (h.2.2 j k hj hk q)), h.a j hj]
      have e : ∀ b, fU F k i v j b = F j b := fun b => fU_k hjk
      have e2 : mC (fU F k i v) j = mC F j := by
        unfold mC
        split
        · simp only [e]
        · simp only [e]
        · simp only [e]
      rw [e2]
theorem upd_nI {F : FF} {k i v : Nat} : upd (fun j => nI (F k j)) i (nI v) = fun j => nI (fU F k i v k j) := by
  funext j
  by_cases h : j = i
  · subst h
    rw [fU_s]
    simp [upd]
  · rw [fU_i h]
    simp [upd, h]
theorem upd_oI {F : FF} {k i v : Nat} : upd (fun j => oI (F k j)) i (oI v) = fun j => oI (fU F k i v k j) := by
  funext j
  by_cases h : j = i
  · subst h
    rw [fU_s]
    simp [upd]
  · rw [fU_i h]
    simp [upd, h]
theorem upd_lN {F : FF} {k i v : Nat} : vp_updL (fun j => lN (F k j)) i (lN v) = fun j => lN (fU F k i v k j) := by
  funext j
  by_cases h : j = i
  · subst h
    rw [fU_s]
    simp [vp_updL]
  · rw [fU_i h]
    simp [vp_updL, h]
def xI (F : FF) (m : Nat) : Int32 := if m < F 24 0 then nI m else -1
theorem xI_in {F : FF} {m : Nat} (h : m < F 24 0) : xI F m = nI m := if_pos h
theorem xI_no {F : FF} {m : Nat} (h : ¬ m < F 24 0) : xI F m = -1 := if_neg h
theorem nI_m1 {m : Nat} (h : m < 2 ^ 31) : ¬ nI m = -1 := fun q => by
  have h1 := nI_pos h
  rw [q] at h1
  exact h1 (by decide)
theorem wi_vpb {x : Int32} {n : Nat} (hn : n < 2 ^ 30) : wi x 0 (nI n - 1) = vpb x n := by
  have h1 : (nI n - 1).toInt = (n : Int) - 1 := pk_sub_toInt (b := 1) hn (by decide)
  simp only [wi, vpb, Int32.le_iff_toInt_le, h1]
  have h0 : (0 : Int32).toInt = 0 := by decide
  rw [h0]
  congr 1
  by_cases h : x.toInt < n
  · simp [h]
    omega
  · simp [h]
    omega
theorem gN_0 {F : FF} {k : Nat} : gN F k 0 = wpt F 0 := by
  induction k with
  | zero => rfl
  | succ k ih =>
    unfold gN
    split
    · rfl
    · rw [show 0 / 10 = 0 from rfl]
      exact ih
theorem pw10 {r k : Nat} (h0 : 0 < r) (h : r < 10 ^ k) : 0 < k ∧ r / 10 < 10 ^ (k - 1) := by
  cases k with
  | zero =>
    have : (10 : Nat) ^ 0 = 1 := rfl
    omega
  | succ k =>
    rw [Nat.pow_succ] at h
    exact ⟨Nat.succ_pos _, by rw [Nat.add_sub_cancel]; omega⟩
theorem tick_eq {n R T C : Nat} (hR : 0 < R) (h1 : C ≤ T + n * R) (h2 : n = 0 ∨ T + (n - 1) * R < C) : n = (C - T + R - 1) / R := by
  refine (Nat.div_eq_of_lt_le ?_ ?_).symm
  · rcases h2 with h2 | h2
    · subst h2
      omega
    · have e : n * R = (n - 1) * R + R := by
        cases n with
        | zero => simp at h2; omega
        | succ n => rw [Nat.succ_sub_one, Nat.succ_mul]
      omega
  · rw [Nat.succ_mul]
    omega
