/-! every call keeps wInv, one more call -/
theorem J_same {F : FF} {N : Nat} (hI : wInv F N) (hN : N < 512) : wInv F (N + 1) := I_mono hI (Nat.le_succ N) (by omega)
theorem J_addRoute {F : FF} {N : Nat} (hI : wInv F N) (hN : N < 512) (p c l g : Int32) : wInv (s_addRoute F p c l g).2.2 (N + 1) := by
  have h0 := J_same hI hN
  unfold s_addRoute
  split
  · rename_i h
    split
    · exact h0
    · simp only [Bool.and_eq_true, Bool.not_eq_true', decide_eq_false_iff_not] at h
      have h1 := wi_tn (lo := 1) (hi := 5) h.2.1 (by omega) (by omega)
      have h2 := ctr_tn h.2.2.1
      have h3 := hI.n
      exact J_same (I_aro hI (by omega) (path_tn h.1).2 h1.2 (by omega) h2.2.2.2 h.2.2.2) hN
  · exact h0
theorem J_route {F : FF} {N : Nat} (hI : wInv F N) (hN : N < 512) (p : Int32) : wInv (s_route F p).2.2 (N + 1) := by
  have h0 := J_same hI hN
  unfold s_route
  (repeat' split) <;> exact h0
theorem J_setContract {F : FF} {N : Nat} (hI : wInv F N) (hN : N < 512) (r l g : Int32) : wInv (s_setContract F r l g).2.2 (N + 1) := by
  have h0 := J_same hI hN
  unfold s_setContract
  split
  · rename_i hr
    split
    · rename_i h
      have h2 := ctr_tn h
      have h3 := hI.ro (vpb_tn hr)
      dsimp only
      exact J_same (I_ro (i := tn r) hI (vpb_tn hr) (fun a b h => by rw [fU_o (by omega), fU_o (by omega)]) (by rw [fU_k (by decide), fU_s]; omega) (by rw [fU_s]; omega) (by rw [fU_k (by decide), fU_k (by decide)]; exact h3.2.2.2.2.2.1)) hN
    · exact h0
  · exact h0
theorem J_setAnswer {F : FF} {N : Nat} (hI : wInv F N) (hN : N < 512) (r a : Int32) : wInv (s_setAnswer F r a).2.2 (N + 1) := by
  have h0 := J_same hI hN
  unfold s_setAnswer
  split
  · rename_i hr
    split
    · rename_i h
      have h2 := wi_tn (lo := 0) (hi := 999) h (by omega) (by omega)
      have h3 := hI.ro (vpb_tn hr)
      dsimp only
      exact J_same (I_ro (i := tn r) hI (vpb_tn hr) (fun a b h => by rw [fU_o (by omega)]) (by rw [fU_k (by decide)]; exact h3.2.2.2.1) (by rw [fU_k (by decide)]; exact h3.2.2.2.2.1) (by rw [fU_s]; omega)) hN
    · exact h0
  · exact h0
theorem J_broken {F : FF} {N : Nat} (hI : wInv F N) (hN : N < 512) (r : Int32) : wInv (s_broken F r).2.2 (N + 1) := by
  have h0 := J_same hI hN
  unfold s_broken
  (repeat' split) <;> exact h0
theorem J_begin {F : FF} {N : Nat} (hI : wInv F N) (hN : N < 512) (r a sh li : Int32) : wInv (s_begin F r a sh li).2.2 (N + 1) := by
  have h0 := J_same hI hN
  unfold s_begin
  split
  · rename_i hr
    split
    · rename_i h
      split
      · rename_i h5
        simp only [Bool.and_eq_true] at h
        have h1 := wi_tn (lo := 0) (hi := 999) h.1 (by omega) (by omega)
        have h2 := wi_tn (lo := 1) (hi := 100) h.2.1 (by omega) (by omega)
        have h3 := wi_tn (lo := 1) (hi := 9) h.2.2 (by omega) (by omega)
        exact I_beg hI hN (vpb_tn hr) h5 h1.2.2 h2.2 h3.2
      · exact h0
    · exact h0
  · exact h0
theorem J_setShare {F : FF} {N : Nat} (hI : wInv F N) (hN : N < 512) (r sh : Int32) : wInv (s_setShare F r sh).2.2 (N + 1) := by
  have h0 := J_same hI hN
  unfold s_setShare
  split
  · rename_i hr
    split
    · rename_i h
      split
      · exact h0
      · rename_i h5
        have h2 := wi_tn (lo := 1) (hi := 100) h (by omega) (by omega)
        have h3 := hI.ca (vpb_tn hr) h5
        dsimp only
        exact J_same (I_ca (i := tn r) hI (fun a b h => by rw [fU_o (by omega)]) (fun _ => by rw [fU_s, fU_k (by decide)]; exact ⟨h2.2.1, h2.2.2, h3.2.2.2.2.2.1⟩)) hN
    · exact h0
  · exact h0
theorem J_promote {F : FF} {N : Nat} (hI : wInv F N) (hN : N < 512) (r : Int32) : wInv (s_promote F r).2.2 (N + 1) := by
  have h0 := J_same hI hN
  unfold s_promote
  split
  · rename_i hr
    split
    · exact h0
    · rename_i h5
      exact J_same (I_prom hI (vpb_tn hr) h5) hN
  · exact h0
theorem J_takeBack {F : FF} {N : Nat} (hI : wInv F N) (hN : N < 512) (r : Int32) : wInv (s_takeBack F r).2.2 (N + 1) := by
  have h0 := J_same hI hN
  unfold s_takeBack
  split
  · rename_i hr
    split
    · exact h0
    · exact J_same (I_und hI (vpb_tn hr)) hN
  · exact h0
theorem J_hasCanary {F : FF} {N : Nat} (hI : wInv F N) (hN : N < 512) (r : Int32) : wInv (s_hasCanary F r).2.2 (N + 1) := by
  have h0 := J_same hI hN
  unfold s_hasCanary
  (repeat' split) <;> exact h0
theorem J_faults {F : FF} {N : Nat} (hI : wInv F N) (hN : N < 512) (r : Int32) : wInv (s_faults F r).2.2 (N + 1) := by
  have h0 := J_same hI hN
  unfold s_faults
  (repeat' split) <;> exact h0
theorem J_addPlan {F : FF} {N : Nat} (hI : wInv F N) (hN : N < 512) (r b p : Int32) : wInv (s_addPlan F r b p).2.2 (N + 1) := by
  have h0 := J_same hI hN
  unfold s_addPlan
  split
  · rename_i h
    split
    · exact h0
    · simp only [Bool.and_eq_true] at h
      have h1 := wi_tn (lo := 1) (hi := 20) h.1 (by omega) (by omega)
      have h2 := wi_tn (lo := 1) (hi := 100) h.2.1 (by omega) (by omega)
      have h3 := wi_tn (lo := 0) (hi := 99) h.2.2 (by omega) (by omega)
      have h4 := hI.n
      exact J_same (I_apl hI (by omega) h1.2 h2.2 h3.2.2) hN
  · exact h0
theorem J_addCaller {F : FF} {N : Nat} (hI : wInv F N) (hN : N < 512) (p : Int32) : wInv (s_addCaller F p).2.2 (N + 1) := by
  have h0 := J_same hI hN
  unfold s_addCaller
  split
  · rename_i hp
    split
    · exact h0
    · have h4 := hI.n
      exact J_same (I_acl hI (by omega) (vpb_tn hp)) hN
  · exact h0
theorem J_setPlan {F : FF} {N : Nat} (hI : wInv F N) (hN : N < 512) (c p : Int32) : wInv (s_setPlan F c p).2.2 (N + 1) := by
  have h0 := J_same hI hN
  unfold s_setPlan
  split
  · rename_i h
    simp only [Bool.and_eq_true] at h
    dsimp only
    refine J_same (I_cl (i := tn c) hI (fun a b h => by rw [fU_o (by omega), fU_o (by omega)]) ?_ ?_) hN
    · rw [fU_k (by decide), fU_s]
      exact vpb_tn h.2
    · rw [fU_s, fU_k (by decide), fU_s]
      omega
  · exact h0
theorem J_tokens {F : FF} {N : Nat} (hI : wInv F N) (hN : N < 512) (c : Int32) : wInv (s_tokens F c).2.2 (N + 1) := by
  have h0 := J_same hI hN
  unfold s_tokens
  (repeat' split) <;> exact h0
theorem J_ticksUntil {F : FF} {N : Nat} (hI : wInv F N) (hN : N < 512) (c r : Int32) : wInv (s_ticksUntil F c r).2.2 (N + 1) := by
  have h0 := J_same hI hN
  unfold s_ticksUntil
  (repeat' split) <;> exact h0
theorem J_bill {F : FF} {N : Nat} (hI : wInv F N) (hN : N < 512) (c : Int32) : wInv (s_bill F c).2.2 (N + 1) := by
  have h0 := J_same hI hN
  unfold s_bill
  (repeat' split) <;> exact h0
theorem J_call {F : FF} {N : Nat} (hI : wInv F N) (hN : N < 512) (c p k : Int32) : wInv (s_call F c p k).2.2 (N + 1) := by
  have h0 := J_same hI hN
  unfold s_call
  split
  · rename_i hc
    split
    · exact I_call hI hN (vpb_tn hc) (gN_le F 4 (tn p))
    · exact h0
  · exact h0
theorem J_pass {F : FF} {N : Nat} (hI : wInv F N) (hN : N < 512) (t : Int32) : wInv (s_pass F t).2.2 (N + 1) := by
  have h0 := J_same hI hN
  unfold s_pass
  split
  · exact J_same (I_pass hI (Nat.le_refl _)) hN
  · exact h0
theorem J_count {F : FF} {N : Nat} (hI : wInv F N) (hN : N < 512) (c k : Int32) : wInv (s_count F c k).2.2 (N + 1) := by
  have h0 := J_same hI hN
  unfold s_count
  (repeat' split) <;> exact h0
theorem J_isUndone {F : FF} {N : Nat} (hI : wInv F N) (hN : N < 512) (k : Int32) : wInv (s_isUndone F k).2.2 (N + 1) := by
  have h0 := J_same hI hN
  unfold s_isUndone
  (repeat' split) <;> exact h0
theorem J_greatest {F : FF} {N : Nat} (hI : wInv F N) (hN : N < 512) : wInv (s_greatest F).2.2 (N + 1) := by
  have h0 := J_same hI hN
  unfold s_greatest
  (repeat' split) <;> exact h0
/-! the two pictures beside each other -/
