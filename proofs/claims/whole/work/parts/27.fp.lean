theorem fp_sgn (s : Bool) : s.toNat ≤ 1 := by cases s <;> decide
theorem fp_set32 (s : Bool) (c : Nat) (q : Int) : ∃ r, r ≤ 255 * 2 ^ 23 ∧ Jvm.FP.Core.encode Jvm.FP.Core.b32 (Jvm.FP.Core.settle Jvm.FP.Core.b32 s c q) = s.toNat * 2 ^ 31 + r := by
  have hp : 2 ^ Jvm.FP.Core.b32.p = 2 ^ 24 := by decide
  have ht : Jvm.FP.Core.b32.tails = 2 ^ 23 := by decide
  have he : Jvm.FP.Core.b32.exps = 2 ^ 8 := by decide
  have hM : Jvm.FP.Core.b32.qmax = 104 := by decide
  have hm : Jvm.FP.Core.b32.qmin = -149 := by decide
  have hb : ∀ (c : Nat) (q : Int), c < 2 ^ 24 → ∃ r, r ≤ 255 * 2 ^ 23 ∧ Jvm.FP.Core.encode Jvm.FP.Core.b32 (Jvm.FP.Core.bound Jvm.FP.Core.b32 s c q) = s.toNat * 2 ^ 31 + r := by
    intro c q hc
    unfold Jvm.FP.Core.bound
    by_cases hq : q ≤ Jvm.FP.Core.b32.qmax
    · rw [if_pos hq]
      unfold Jvm.FP.Core.encode
      by_cases hc2 : c < Jvm.FP.Core.b32.tails
      · refine ⟨c, by rw [ht] at hc2; omega, ?_⟩
        simp only [hc2, if_true]
        unfold Jvm.FP.Core.assemble
        rw [ht, he]
        omega
      · refine ⟨((q - Jvm.FP.Core.b32.qmin).toNat + 1) * 2 ^ 23 + (c - 2 ^ 23), ?_, ?_⟩
        · rw [hM] at hq
          rw [hm]
          omega
        · simp only [hc2, if_false]
          unfold Jvm.FP.Core.assemble
          rw [ht, he]
          omega
    · rw [if_neg hq]
      refine ⟨255 * 2 ^ 23, Nat.le_refl _, ?_⟩
      show Jvm.FP.Core.assemble Jvm.FP.Core.b32 s (Jvm.FP.Core.b32.exps - 1) 0 = _
      unfold Jvm.FP.Core.assemble
      rw [ht, he]
      omega
  unfold Jvm.FP.Core.settle
  by_cases hc : c < 2 ^ Jvm.FP.Core.b32.p
  · rw [if_pos hc]
    exact hb c q (by rw [hp] at hc; exact hc)
  · rw [if_neg hc]
    exact hb _ _ (by rw [ht]; omega)
theorem fp_rr32 (s : Bool) (n d : Nat) (e : Int) : ∃ r, r ≤ 255 * 2 ^ 23 ∧ Jvm.FP.Core.encode Jvm.FP.Core.b32 (Jvm.FP.Core.roundRatio Jvm.FP.Core.b32 s n d e) = s.toNat * 2 ^ 31 + r := by
  unfold Jvm.FP.Core.roundRatio
  by_cases h : n = 0
  · rw [if_pos h]
    have ht : Jvm.FP.Core.b32.tails = 2 ^ 23 := by decide
    have he : Jvm.FP.Core.b32.exps = 2 ^ 8 := by decide
    refine ⟨0, Nat.zero_le _, ?_⟩
    have h9 : Jvm.FP.Core.encode Jvm.FP.Core.b32 (.fin s 0 Jvm.FP.Core.b32.qmin) = Jvm.FP.Core.assemble Jvm.FP.Core.b32 s 0 0 := by
      have hlt : 0 < Jvm.FP.Core.b32.tails := by decide
      unfold Jvm.FP.Core.encode
      simp only [hlt, if_true]
    rw [h9]
    unfold Jvm.FP.Core.assemble
    rw [ht, he]
    omega
  · rw [if_neg h]
    exact fp_set32 _ _ _
theorem fp_n32 {s : Bool} {r n : Nat} (hr : r ≤ 255 * 2 ^ 23) (hn : n = s.toNat * 2 ^ 31 + r) : vf_n32 (UInt32.ofNat n) := by
  have hs := fp_sgn s
  unfold vf_n32
  rw [UInt32.le_iff_toNat_le, UInt32.toNat_and, UInt32.toNat_ofNat']
  have h1 : (0x7fffffff : UInt32).toNat = 2 ^ 31 - 1 := by decide
  have h2 : (0x7f800000 : UInt32).toNat = 255 * 2 ^ 23 := by decide
  rw [h1, h2, Nat.and_two_pow_sub_one_eq_mod]
  omega
theorem fp_set64 (s : Bool) (c : Nat) (q : Int) : ∃ r, r ≤ 2047 * 2 ^ 52 ∧ Jvm.FP.Core.encode Jvm.FP.Core.b64 (Jvm.FP.Core.settle Jvm.FP.Core.b64 s c q) = s.toNat * 2 ^ 63 + r := by
  have hp : 2 ^ Jvm.FP.Core.b64.p = 2 ^ 53 := by decide
  have ht : Jvm.FP.Core.b64.tails = 2 ^ 52 := by decide
  have he : Jvm.FP.Core.b64.exps = 2 ^ 11 := by decide
  have hM : Jvm.FP.Core.b64.qmax = 971 := by decide +kernel
  have hm : Jvm.FP.Core.b64.qmin = -1074 := by decide +kernel
  have hb : ∀ (c : Nat) (q : Int), c < 2 ^ 53 → ∃ r, r ≤ 2047 * 2 ^ 52 ∧ Jvm.FP.Core.encode Jvm.FP.Core.b64 (Jvm.FP.Core.bound Jvm.FP.Core.b64 s c q) = s.toNat * 2 ^ 63 + r := by
    intro c q hc
    unfold Jvm.FP.Core.bound
    by_cases hq : q ≤ Jvm.FP.Core.b64.qmax
    · rw [if_pos hq]
      unfold Jvm.FP.Core.encode
      by_cases hc2 : c < Jvm.FP.Core.b64.tails
      · refine ⟨c, by rw [ht] at hc2; omega, ?_⟩
        simp only [hc2, if_true]
        unfold Jvm.FP.Core.assemble
        rw [ht, he]
        omega
      · refine ⟨((q - Jvm.FP.Core.b64.qmin).toNat + 1) * 2 ^ 52 + (c - 2 ^ 52), ?_, ?_⟩
        · rw [hM] at hq
          rw [hm]
          omega
        · simp only [hc2, if_false]
          unfold Jvm.FP.Core.assemble
          rw [ht, he]
          omega
    · rw [if_neg hq]
      refine ⟨2047 * 2 ^ 52, Nat.le_refl _, ?_⟩
      show Jvm.FP.Core.assemble Jvm.FP.Core.b64 s (Jvm.FP.Core.b64.exps - 1) 0 = _
      unfold Jvm.FP.Core.assemble
      rw [ht, he]
      omega
  unfold Jvm.FP.Core.settle
  by_cases hc : c < 2 ^ Jvm.FP.Core.b64.p
  · rw [if_pos hc]
    exact hb c q (by rw [hp] at hc; exact hc)
  · rw [if_neg hc]
    exact hb _ _ (by rw [ht]; omega)
theorem fp_rr64 (s : Bool) (n d : Nat) (e : Int) : ∃ r, r ≤ 2047 * 2 ^ 52 ∧ Jvm.FP.Core.encode Jvm.FP.Core.b64 (Jvm.FP.Core.roundRatio Jvm.FP.Core.b64 s n d e) = s.toNat * 2 ^ 63 + r := by
  unfold Jvm.FP.Core.roundRatio
  by_cases h : n = 0
  · rw [if_pos h]
    have ht : Jvm.FP.Core.b64.tails = 2 ^ 52 := by decide
    have he : Jvm.FP.Core.b64.exps = 2 ^ 11 := by decide
    refine ⟨0, Nat.zero_le _, ?_⟩
    have h9 : Jvm.FP.Core.encode Jvm.FP.Core.b64 (.fin s 0 Jvm.FP.Core.b64.qmin) = Jvm.FP.Core.assemble Jvm.FP.Core.b64 s 0 0 := by
      have hlt : 0 < Jvm.FP.Core.b64.tails := by decide
      unfold Jvm.FP.Core.encode
      simp only [hlt, if_true]
    rw [h9]
    unfold Jvm.FP.Core.assemble
    rw [ht, he]
    omega
  · rw [if_neg h]
    exact fp_set64 _ _ _
theorem fp_n64 {s : Bool} {r n : Nat} (hr : r ≤ 2047 * 2 ^ 52) (hn : n = s.toNat * 2 ^ 63 + r) : vf_n64 (UInt64.ofNat n) := by
  have hs := fp_sgn s
  unfold vf_n64
  rw [UInt64.le_iff_toNat_le, UInt64.toNat_and, UInt64.toNat_ofNat']
  have h1 : (0x7fffffffffffffff : UInt64).toNat = 2 ^ 63 - 1 := by decide
  have h2 : (0x7ff0000000000000 : UInt64).toNat = 2047 * 2 ^ 52 := by decide
  rw [h1, h2, Nat.and_two_pow_sub_one_eq_mod]
  omega
def fpB : Jvm.FP.Core.Datum → Nat → Bool
  | .fin _ c _, n => (n == 0) || (c != 0)
  | _, _ => false
theorem fp_i2f : ∀ n, n < 2561 → fpB (Jvm.FP.Core.decode Jvm.FP.Core.b32 (FP.i2f (nI n)).toNat) n = true := by decide +kernel
theorem fp_i2d : ∀ n, n < 2561 → fpB (Jvm.FP.Core.decode Jvm.FP.Core.b64 (FP.i2d (nI n)).toNat) n = true := by decide +kernel
theorem fp_fdiv {a b : Nat} (ha : a < 2561) (hb : b < 2561) (h0 : b ≠ 0) : vf_n32 (FP.fdiv (FP.i2f (nI a)) (FP.i2f (nI b))) := by
  have h1 := fp_i2f a ha
  have h2 := fp_i2f b hb
  show vf_n32 (UInt32.ofNat (Jvm.FP.Core.encode Jvm.FP.Core.b32 (Jvm.FP.Core.quotient Jvm.FP.Core.b32 (Jvm.FP.Core.decode Jvm.FP.Core.b32 (FP.i2f (nI a)).toNat) (Jvm.FP.Core.decode Jvm.FP.Core.b32 (FP.i2f (nI b)).toNat))))
  generalize Jvm.FP.Core.decode Jvm.FP.Core.b32 (FP.i2f (nI a)).toNat = x at h1 ⊢
  generalize Jvm.FP.Core.decode Jvm.FP.Core.b32 (FP.i2f (nI b)).toNat = y at h2 ⊢
  cases x with
  | nan => cases h1
  | inf s => cases h1
  | fin s c q =>
    cases y with
    | nan => cases h2
    | inf s => cases h2
    | fin t d r =>
      have hd : d ≠ 0 := by
        simp [fpB, h0] at h2
        exact h2
      unfold Jvm.FP.Core.quotient
      simp only [hd, if_false]
      obtain ⟨v, hv, he⟩ := fp_rr32 (s != t) c d (q - r)
      exact fp_n32 hv he
theorem fp_ddiv {a b : Nat} (ha : a < 2561) (hb : b < 2561) (h0 : b ≠ 0) : vf_n64 (FP.ddiv (FP.i2d (nI a)) (FP.i2d (nI b))) := by
  have h1 := fp_i2d a ha
  have h2 := fp_i2d b hb
  show vf_n64 (UInt64.ofNat (Jvm.FP.Core.encode Jvm.FP.Core.b64 (Jvm.FP.Core.quotient Jvm.FP.Core.b64 (Jvm.FP.Core.decode Jvm.FP.Core.b64 (FP.i2d (nI a)).toNat) (Jvm.FP.Core.decode Jvm.FP.Core.b64 (FP.i2d (nI b)).toNat))))
  generalize Jvm.FP.Core.decode Jvm.FP.Core.b64 (FP.i2d (nI a)).toNat = x at h1 ⊢
  generalize Jvm.FP.Core.decode Jvm.FP.Core.b64 (FP.i2d (nI b)).toNat = y at h2 ⊢
  cases x with
  | nan => cases h1
  | inf s => cases h1
  | fin s c q =>
    cases y with
    | nan => cases h2
    | inf s => cases h2
    | fin t d r =>
      have hd : d ≠ 0 := by
        simp [fpB, h0] at h2
        exact h2
      unfold Jvm.FP.Core.quotient
      simp only [hd, if_false]
      obtain ⟨v, hv, he⟩ := fp_rr64 (s != t) c d (q - r)
      exact fp_n64 hv he
theorem fp_dec32 {x : UInt32} (h : vf_n32 x) : Jvm.FP.Core.decode Jvm.FP.Core.b32 x.toNat ≠ .nan := by
  have ht : Jvm.FP.Core.b32.tails = 2 ^ 23 := by decide
  have he : Jvm.FP.Core.b32.exps = 2 ^ 8 := by decide
  unfold vf_n32 at h
  rw [UInt32.le_iff_toNat_le, UInt32.toNat_and] at h
  have h1 : (0x7fffffff : UInt32).toNat = 2 ^ 31 - 1 := by decide
  have h2 : (0x7f800000 : UInt32).toNat = 255 * 2 ^ 23 := by decide
  rw [h1, h2, Nat.and_two_pow_sub_one_eq_mod] at h
  unfold Jvm.FP.Core.decode
  by_cases h3 : Jvm.FP.Core.fieldE Jvm.FP.Core.b32 x.toNat = Jvm.FP.Core.b32.exps - 1
  · rw [if_pos h3]
    have h4 : Jvm.FP.Core.fieldT Jvm.FP.Core.b32 x.toNat = 0 := by
      unfold Jvm.FP.Core.fieldE at h3
      unfold Jvm.FP.Core.fieldT
      rw [ht, he] at h3
      rw [ht]
      omega
    rw [if_pos h4]
    exact fun q => by cases q
  · rw [if_neg h3]
    split <;> exact fun q => by cases q
theorem fp_f2d {x : UInt32} (h : vf_n32 x) : vf_n64 (FP.f2d x) := by
  have h1 := fp_dec32 h
  have h2 : FP.f2d x = Jvm.FP.Core.f2d x := if_neg (by
    show ¬ decide (Jvm.FP.Core.decode Jvm.FP.Core.b32 x.toNat = .nan) = true
    simp [h1])
  rw [h2]
  show vf_n64 (UInt64.ofNat (Jvm.FP.Core.encode Jvm.FP.Core.b64 (Jvm.FP.Core.round Jvm.FP.Core.b64 (Jvm.FP.Core.decode Jvm.FP.Core.b32 x.toNat))))
  generalize Jvm.FP.Core.decode Jvm.FP.Core.b32 x.toNat = d at h1 ⊢
  cases d with
  | nan => exact absurd rfl h1
  | inf s =>
    have ht : Jvm.FP.Core.b64.tails = 2 ^ 52 := by decide
    have he : Jvm.FP.Core.b64.exps = 2 ^ 11 := by decide
    refine fp_n64 (s := s) (r := 2047 * 2 ^ 52) (Nat.le_refl _) ?_
    show Jvm.FP.Core.assemble Jvm.FP.Core.b64 s (Jvm.FP.Core.b64.exps - 1) 0 = _
    unfold Jvm.FP.Core.assemble
    rw [ht, he]
    omega
  | fin s c q =>
    obtain ⟨v, hv, he⟩ := fp_rr64 s c 1 q
    exact fp_n64 hv he
theorem fp_cmp (x : UInt64) : FP.dcmp x x = none ∨ FP.dcmp x x = some .eq := by
  show Jvm.FP.Core.order (Jvm.FP.Core.decode Jvm.FP.Core.b64 x.toNat) (Jvm.FP.Core.decode Jvm.FP.Core.b64 x.toNat) = none ∨ Jvm.FP.Core.order (Jvm.FP.Core.decode Jvm.FP.Core.b64 x.toNat) (Jvm.FP.Core.decode Jvm.FP.Core.b64 x.toNat) = some .eq
  generalize Jvm.FP.Core.decode Jvm.FP.Core.b64 x.toNat = d
  have hc : ∀ a : Int, compare a a = .eq := fun a => by simp [compare, compareOfLessAndEq]
  cases d with
  | nan => exact Or.inl rfl
  | inf s => exact Or.inr (congrArg some (hc _))
  | fin s c q => exact Or.inr (congrArg some (hc _))
