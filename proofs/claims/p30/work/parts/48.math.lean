/-! What the law asks of the mathematical state. -/
theorem ao_addRoute {F : FF} {a1 b1 c1 d1 : Int32} : ((s_addRoute F a1 b1 c1 d1).1 = 0 ∧ aE [-1002, -1003] (s_addRoute F a1 b1 c1 d1) = (s_addRoute F a1 b1 c1 d1).2.1) ∨ ((s_addRoute F a1 b1 c1 d1).1 ≠ 0 ∧ aE [-1002, -1003] (s_addRoute F a1 b1 c1 d1) < 0 ∧ (s_addRoute F a1 b1 c1 d1).2.2 = F) := by
  unfold s_addRoute
  (repeat' split) <;> first | exact Or.inl ⟨rfl, rfl⟩ | exact Or.inr ⟨Nat.succ_ne_zero _, (show ([-1002, -1003] : List Int32).getD 0 0 < 0 by decide), rfl⟩ | exact Or.inr ⟨Nat.succ_ne_zero _, (show ([-1002, -1003] : List Int32).getD 1 0 < 0 by decide), rfl⟩
theorem ao_route {F : FF} {a1 : Int32} : ((s_route F a1).1 = 0 ∧ aE [-1002, -1005] (s_route F a1) = (s_route F a1).2.1) ∨ ((s_route F a1).1 ≠ 0 ∧ aE [-1002, -1005] (s_route F a1) < 0 ∧ (s_route F a1).2.2 = F) := by
  unfold s_route
  (repeat' split) <;> first | exact Or.inl ⟨rfl, rfl⟩ | exact Or.inr ⟨Nat.succ_ne_zero _, (show ([-1002, -1005] : List Int32).getD 0 0 < 0 by decide), rfl⟩ | exact Or.inr ⟨Nat.succ_ne_zero _, (show ([-1002, -1005] : List Int32).getD 1 0 < 0 by decide), rfl⟩
theorem ao_setContract {F : FF} {a1 b1 c1 : Int32} : ((s_setContract F a1 b1 c1).1 = 0 ∧ aE [-1001, -1002] (s_setContract F a1 b1 c1) = (s_setContract F a1 b1 c1).2.1) ∨ ((s_setContract F a1 b1 c1).1 ≠ 0 ∧ aE [-1001, -1002] (s_setContract F a1 b1 c1) < 0 ∧ (s_setContract F a1 b1 c1).2.2 = F) := by
  unfold s_setContract
  (repeat' split) <;> first | exact Or.inl ⟨rfl, rfl⟩ | exact Or.inr ⟨Nat.succ_ne_zero _, (show ([-1001, -1002] : List Int32).getD 0 0 < 0 by decide), rfl⟩ | exact Or.inr ⟨Nat.succ_ne_zero _, (show ([-1001, -1002] : List Int32).getD 1 0 < 0 by decide), rfl⟩
theorem ao_setAnswer {F : FF} {a1 b1 : Int32} : ((s_setAnswer F a1 b1).1 = 0 ∧ aE [-1001, -1002] (s_setAnswer F a1 b1) = (s_setAnswer F a1 b1).2.1) ∨ ((s_setAnswer F a1 b1).1 ≠ 0 ∧ aE [-1001, -1002] (s_setAnswer F a1 b1) < 0 ∧ (s_setAnswer F a1 b1).2.2 = F) := by
  unfold s_setAnswer
  (repeat' split) <;> first | exact Or.inl ⟨rfl, rfl⟩ | exact Or.inr ⟨Nat.succ_ne_zero _, (show ([-1001, -1002] : List Int32).getD 0 0 < 0 by decide), rfl⟩ | exact Or.inr ⟨Nat.succ_ne_zero _, (show ([-1001, -1002] : List Int32).getD 1 0 < 0 by decide), rfl⟩
theorem ao_broken {F : FF} {a1 : Int32} : ((s_broken F a1).1 = 0 ∧ aE [-1001] (s_broken F a1) = (s_broken F a1).2.1) ∨ ((s_broken F a1).1 ≠ 0 ∧ aE [-1001] (s_broken F a1) < 0 ∧ (s_broken F a1).2.2 = F) := by
  unfold s_broken
  (repeat' split) <;> first | exact Or.inl ⟨rfl, rfl⟩ | exact Or.inr ⟨Nat.succ_ne_zero _, (show ([-1001] : List Int32).getD 0 0 < 0 by decide), rfl⟩
theorem ao_begin {F : FF} {a1 b1 c1 d1 : Int32} : ((s_begin F a1 b1 c1 d1).1 = 0 ∧ aE [-1001, -1002, -1003] (s_begin F a1 b1 c1 d1) = (s_begin F a1 b1 c1 d1).2.1) ∨ ((s_begin F a1 b1 c1 d1).1 ≠ 0 ∧ aE [-1001, -1002, -1003] (s_begin F a1 b1 c1 d1) < 0 ∧ (s_begin F a1 b1 c1 d1).2.2 = F) := by
  unfold s_begin
  (repeat' split) <;> first | exact Or.inl ⟨rfl, rfl⟩ | exact Or.inr ⟨Nat.succ_ne_zero _, (show ([-1001, -1002, -1003] : List Int32).getD 0 0 < 0 by decide), rfl⟩ | exact Or.inr ⟨Nat.succ_ne_zero _, (show ([-1001, -1002, -1003] : List Int32).getD 1 0 < 0 by decide), rfl⟩ | exact Or.inr ⟨Nat.succ_ne_zero _, (show ([-1001, -1002, -1003] : List Int32).getD 2 0 < 0 by decide), rfl⟩
theorem ao_promote {F : FF} {a1 : Int32} : ((s_promote F a1).1 = 0 ∧ aE [-1001, -1003] (s_promote F a1) = (s_promote F a1).2.1) ∨ ((s_promote F a1).1 ≠ 0 ∧ aE [-1001, -1003] (s_promote F a1) < 0 ∧ (s_promote F a1).2.2 = F) := by
  unfold s_promote
  (repeat' split) <;> first | exact Or.inl ⟨rfl, rfl⟩ | exact Or.inr ⟨Nat.succ_ne_zero _, (show ([-1001, -1003] : List Int32).getD 0 0 < 0 by decide), rfl⟩ | exact Or.inr ⟨Nat.succ_ne_zero _, (show ([-1001, -1003] : List Int32).getD 1 0 < 0 by decide), rfl⟩
theorem ao_takeBack {F : FF} {a1 : Int32} : ((s_takeBack F a1).1 = 0 ∧ aE [-1001, -1003] (s_takeBack F a1) = (s_takeBack F a1).2.1) ∨ ((s_takeBack F a1).1 ≠ 0 ∧ aE [-1001, -1003] (s_takeBack F a1) < 0 ∧ (s_takeBack F a1).2.2 = F) := by
  unfold s_takeBack
  (repeat' split) <;> first | exact Or.inl ⟨rfl, rfl⟩ | exact Or.inr ⟨Nat.succ_ne_zero _, (show ([-1001, -1003] : List Int32).getD 0 0 < 0 by decide), rfl⟩ | exact Or.inr ⟨Nat.succ_ne_zero _, (show ([-1001, -1003] : List Int32).getD 1 0 < 0 by decide), rfl⟩
theorem ao_hasCanary {F : FF} {a1 : Int32} : ((s_hasCanary F a1).1 = 0 ∧ aE [-1001] (s_hasCanary F a1) = (s_hasCanary F a1).2.1) ∨ ((s_hasCanary F a1).1 ≠ 0 ∧ aE [-1001] (s_hasCanary F a1) < 0 ∧ (s_hasCanary F a1).2.2 = F) := by
  unfold s_hasCanary
  (repeat' split) <;> first | exact Or.inl ⟨rfl, rfl⟩ | exact Or.inr ⟨Nat.succ_ne_zero _, (show ([-1001] : List Int32).getD 0 0 < 0 by decide), rfl⟩
theorem ao_faults {F : FF} {a1 : Int32} : ((s_faults F a1).1 = 0 ∧ aE [-1001, -1005] (s_faults F a1) = (s_faults F a1).2.1) ∨ ((s_faults F a1).1 ≠ 0 ∧ aE [-1001, -1005] (s_faults F a1) < 0 ∧ (s_faults F a1).2.2 = F) := by
  unfold s_faults
  (repeat' split) <;> first | exact Or.inl ⟨rfl, rfl⟩ | exact Or.inr ⟨Nat.succ_ne_zero _, (show ([-1001, -1005] : List Int32).getD 0 0 < 0 by decide), rfl⟩ | exact Or.inr ⟨Nat.succ_ne_zero _, (show ([-1001, -1005] : List Int32).getD 1 0 < 0 by decide), rfl⟩
theorem ao_addPlan {F : FF} {a1 b1 c1 : Int32} : ((s_addPlan F a1 b1 c1).1 = 0 ∧ aE [-1002, -1003] (s_addPlan F a1 b1 c1) = (s_addPlan F a1 b1 c1).2.1) ∨ ((s_addPlan F a1 b1 c1).1 ≠ 0 ∧ aE [-1002, -1003] (s_addPlan F a1 b1 c1) < 0 ∧ (s_addPlan F a1 b1 c1).2.2 = F) := by
  unfold s_addPlan
  (repeat' split) <;> first | exact Or.inl ⟨rfl, rfl⟩ | exact Or.inr ⟨Nat.succ_ne_zero _, (show ([-1002, -1003] : List Int32).getD 0 0 < 0 by decide), rfl⟩ | exact Or.inr ⟨Nat.succ_ne_zero _, (show ([-1002, -1003] : List Int32).getD 1 0 < 0 by decide), rfl⟩
theorem ao_addCaller {F : FF} {a1 : Int32} : ((s_addCaller F a1).1 = 0 ∧ aE [-1001, -1003] (s_addCaller F a1) = (s_addCaller F a1).2.1) ∨ ((s_addCaller F a1).1 ≠ 0 ∧ aE [-1001, -1003] (s_addCaller F a1) < 0 ∧ (s_addCaller F a1).2.2 = F) := by
  unfold s_addCaller
  (repeat' split) <;> first | exact Or.inl ⟨rfl, rfl⟩ | exact Or.inr ⟨Nat.succ_ne_zero _, (show ([-1001, -1003] : List Int32).getD 0 0 < 0 by decide), rfl⟩ | exact Or.inr ⟨Nat.succ_ne_zero _, (show ([-1001, -1003] : List Int32).getD 1 0 < 0 by decide), rfl⟩
theorem ao_setPlan {F : FF} {a1 b1 : Int32} : ((s_setPlan F a1 b1).1 = 0 ∧ aE [-1001] (s_setPlan F a1 b1) = (s_setPlan F a1 b1).2.1) ∨ ((s_setPlan F a1 b1).1 ≠ 0 ∧ aE [-1001] (s_setPlan F a1 b1) < 0 ∧ (s_setPlan F a1 b1).2.2 = F) := by
  unfold s_setPlan
  (repeat' split) <;> first | exact Or.inl ⟨rfl, rfl⟩ | exact Or.inr ⟨Nat.succ_ne_zero _, (show ([-1001] : List Int32).getD 0 0 < 0 by decide), rfl⟩
theorem ao_tokens {F : FF} {a1 : Int32} : ((s_tokens F a1).1 = 0 ∧ aE [-1001] (s_tokens F a1) = (s_tokens F a1).2.1) ∨ ((s_tokens F a1).1 ≠ 0 ∧ aE [-1001] (s_tokens F a1) < 0 ∧ (s_tokens F a1).2.2 = F) := by
  unfold s_tokens
  (repeat' split) <;> first | exact Or.inl ⟨rfl, rfl⟩ | exact Or.inr ⟨Nat.succ_ne_zero _, (show ([-1001] : List Int32).getD 0 0 < 0 by decide), rfl⟩
theorem ao_ticksUntil {F : FF} {a1 b1 : Int32} : ((s_ticksUntil F a1 b1).1 = 0 ∧ aE [-1001, -1005] (s_ticksUntil F a1 b1) = (s_ticksUntil F a1 b1).2.1) ∨ ((s_ticksUntil F a1 b1).1 ≠ 0 ∧ aE [-1001, -1005] (s_ticksUntil F a1 b1) < 0 ∧ (s_ticksUntil F a1 b1).2.2 = F) := by
  unfold s_ticksUntil
  (repeat' split) <;> first | exact Or.inl ⟨rfl, rfl⟩ | exact Or.inr ⟨Nat.succ_ne_zero _, (show ([-1001, -1005] : List Int32).getD 0 0 < 0 by decide), rfl⟩ | exact Or.inr ⟨Nat.succ_ne_zero _, (show ([-1001, -1005] : List Int32).getD 1 0 < 0 by decide), rfl⟩
theorem ao_bill {F : FF} {a1 : Int32} : ((s_bill32 F a1).1 = 0 ∧ aE [-1001] (s_bill32 F a1) = (s_bill32 F a1).2.1) ∨ ((s_bill32 F a1).1 ≠ 0 ∧ aE [-1001] (s_bill32 F a1) < 0 ∧ (s_bill32 F a1).2.2 = F) := by
  unfold s_bill32 s_bill
  (repeat' split) <;> first | exact Or.inl ⟨rfl, rfl⟩ | exact Or.inr ⟨Nat.succ_ne_zero _, (show ([-1001] : List Int32).getD 0 0 < 0 by decide), rfl⟩
theorem ao_call {F : FF} {a1 b1 c1 : Int32} : ((s_call F a1 b1 c1).1 = 0 ∧ aE [-1001, -1002] (s_call F a1 b1 c1) = (s_call F a1 b1 c1).2.1) ∨ ((s_call F a1 b1 c1).1 ≠ 0 ∧ aE [-1001, -1002] (s_call F a1 b1 c1) < 0 ∧ (s_call F a1 b1 c1).2.2 = F) := by
  unfold s_call
  (repeat' split) <;> first | exact Or.inl ⟨rfl, rfl⟩ | exact Or.inr ⟨Nat.succ_ne_zero _, (show ([-1001, -1002] : List Int32).getD 0 0 < 0 by decide), rfl⟩ | exact Or.inr ⟨Nat.succ_ne_zero _, (show ([-1001, -1002] : List Int32).getD 1 0 < 0 by decide), rfl⟩
theorem ao_pass {F : FF} {a1 : Int32} : ((s_pass F a1).1 = 0 ∧ aE [-1002] (s_pass F a1) = (s_pass F a1).2.1) ∨ ((s_pass F a1).1 ≠ 0 ∧ aE [-1002] (s_pass F a1) < 0 ∧ (s_pass F a1).2.2 = F) := by
  unfold s_pass
  (repeat' split) <;> first | exact Or.inl ⟨rfl, rfl⟩ | exact Or.inr ⟨Nat.succ_ne_zero _, (show ([-1002] : List Int32).getD 0 0 < 0 by decide), rfl⟩
theorem ao_count {F : FF} {a1 b1 : Int32} : ((s_count F a1 b1).1 = 0 ∧ aE [-1001, -1002] (s_count F a1 b1) = (s_count F a1 b1).2.1) ∨ ((s_count F a1 b1).1 ≠ 0 ∧ aE [-1001, -1002] (s_count F a1 b1) < 0 ∧ (s_count F a1 b1).2.2 = F) := by
  unfold s_count
  (repeat' split) <;> first | exact Or.inl ⟨rfl, rfl⟩ | exact Or.inr ⟨Nat.succ_ne_zero _, (show ([-1001, -1002] : List Int32).getD 0 0 < 0 by decide), rfl⟩ | exact Or.inr ⟨Nat.succ_ne_zero _, (show ([-1001, -1002] : List Int32).getD 1 0 < 0 by decide), rfl⟩
theorem ao_isUndone {F : FF} {a1 : Int32} : ((s_isUndone F a1).1 = 0 ∧ aE [-1001] (s_isUndone F a1) = (s_isUndone F a1).2.1) ∨ ((s_isUndone F a1).1 ≠ 0 ∧ aE [-1001] (s_isUndone F a1) < 0 ∧ (s_isUndone F a1).2.2 = F) := by
  unfold s_isUndone
  (repeat' split) <;> first | exact Or.inl ⟨rfl, rfl⟩ | exact Or.inr ⟨Nat.succ_ne_zero _, (show ([-1001] : List Int32).getD 0 0 < 0 by decide), rfl⟩
theorem ao_greatest {F : FF} : ((s_greatest F).1 = 0 ∧ aE [-1005] (s_greatest F) = (s_greatest F).2.1) ∨ ((s_greatest F).1 ≠ 0 ∧ aE [-1005] (s_greatest F) < 0 ∧ (s_greatest F).2.2 = F) := by
  unfold s_greatest
  (repeat' split) <;> first | exact Or.inl ⟨rfl, rfl⟩ | exact Or.inr ⟨Nat.succ_ne_zero _, (show ([-1005] : List Int32).getD 0 0 < 0 by decide), rfl⟩
def kpF (F G : FF) : Prop := G 24 0 = F 24 0 ∧ G 24 1 = F 24 1 ∧ G 24 2 = F 24 2 ∧ (∀ i, G 11 i = F 11 i) ∧ (∀ i, G 13 i = F 13 i)
def ksF (F G : FF) : Prop := G 24 3 = F 24 3 ∧ ∀ k, G 17 k = F 17 k
theorem kpF.rf {F : FF} : kpF F F := ⟨rfl, rfl, rfl, fun _ => rfl, fun _ => rfl⟩
theorem kpF.tr {F G H : FF} (h1 : kpF F G) (h2 : kpF G H) : kpF F H := ⟨h2.1.trans h1.1, h2.2.1.trans h1.2.1, h2.2.2.1.trans h1.2.2.1, fun i => (h2.2.2.2.1 i).trans (h1.2.2.2.1 i), fun i => (h2.2.2.2.2 i).trans (h1.2.2.2.2 i)⟩
theorem wKi.same {F G : FF} (h : wKi F) (hs : ksF F G) : wKi G := fun k hk => by
  rw [hs.2 k]
  exact h k (by rw [← hs.1]; exact hk)
theorem kp_of {F G : FF} (h : ∀ a b, (a = 24 ∧ b ≤ 3) ∨ a = 11 ∨ a = 13 ∨ a = 17 → G a b = F a b) : kpF F G ∧ ksF F G :=
  ⟨⟨h 24 0 (by omega), h 24 1 (by omega), h 24 2 (by omega), fun i => h 11 i (by omega), fun i => h 13 i (by omega)⟩, h 24 3 (by omega), fun k => h 17 k (by omega)⟩
theorem vpb_t {x : Int32} {n : Nat} (h : vpb x n = true) (hn : n < 2 ^ 31) : tn x < n ∧ x = nI (tn x) := by
  obtain ⟨j, h1, h2, h3⟩ := vpb_ex h hn
  rw [h3]
  exact ⟨h1, h2⟩
-- begin
theorem m_begin {F : FF} {a1 b1 c1 d1 : Int32} (h : (s_begin F a1 b1 c1 d1).1 = 0) : vpb a1 (F 24 0) = true ∧ F 5 (tn a1) = 0 ∧ (s_begin F a1 b1 c1 d1).2.1 = nI (ncan (f_begin F (tn a1) (tn b1) (tn c1) (tn d1))) ∧ (s_begin F a1 b1 c1 d1).2.2 = f_begin F (tn a1) (tn b1) (tn c1) (tn d1) := by
  unfold s_begin at h ⊢
  by_cases q1 : vpb a1 (F 24 0) = true
  · rw [if_pos q1] at h ⊢
    by_cases q2 : (wi b1 0 999 && (wi c1 1 100 && wi d1 1 9)) = true
    · rw [if_pos q2] at h ⊢
      by_cases q3 : F 5 (tn a1) = 0
      · rw [if_pos q3]
        exact ⟨q1, q3, rfl, rfl⟩
      · rw [if_neg q3] at h
        exact absurd h (Nat.succ_ne_zero _)
    · rw [if_neg q2] at h
      exact absurd h (Nat.succ_ne_zero _)
  · rw [if_neg q1] at h
    exact absurd h (Nat.succ_ne_zero _)
theorem beg_o {F : FF} {i a sh li x y : Nat} (h : ¬ ((y = i ∧ (x = 5 ∨ x = 6 ∨ x = 7 ∨ x = 8 ∨ x = 9 ∨ x = 22)) ∨ (x = 24 ∧ y = 4))) : f_begin F i a sh li x y = F x y := by
  unfold f_begin
  rw [fU_o (by omega), fU_o (by omega), fU_o (by omega), fU_o (by omega), fU_o (by omega), fU_o (by omega), fU_o (by omega)]
theorem beg_kp {F : FF} {i a sh li : Nat} : kpF F (f_begin F i a sh li) ∧ ksF F (f_begin F i a sh li) := kp_of (fun x y h => beg_o (by omega))
theorem beg_5 {F : FF} {i a sh li : Nat} : f_begin F i a sh li 5 i = 1 := by simp [f_begin, fU]
theorem beg_9 {F : FF} {i a sh li : Nat} : f_begin F i a sh li 9 i = 0 := by simp [f_begin, fU]
-- promote, takeBack
theorem m_promote {F : FF} {a1 : Int32} (h : (s_promote F a1).1 = 0) : vpb a1 (F 24 0) = true ∧ F 5 (tn a1) ≠ 0 ∧ (s_promote F a1).2.2 = f_promote F (tn a1) := by
  unfold s_promote at h ⊢
  by_cases q1 : vpb a1 (F 24 0) = true
  · rw [if_pos q1] at h ⊢
    by_cases q3 : F 5 (tn a1) = 0
    · rw [if_pos q3] at h
      exact absurd h (Nat.succ_ne_zero _)
    · rw [if_neg q3]
      exact ⟨q1, q3, rfl⟩
  · rw [if_neg q1] at h
    exact absurd h (Nat.succ_ne_zero _)
theorem m_takeBack {F : FF} {a1 : Int32} (h : (s_takeBack F a1).1 = 0) : vpb a1 (F 24 0) = true ∧ F 5 (tn a1) ≠ 0 ∧ (s_takeBack F a1).2.1 = nI (n_und F (tn a1) (F 24 3)) ∧ (s_takeBack F a1).2.2 = f_und F (tn a1) (F 24 3) := by
  unfold s_takeBack at h ⊢
  by_cases q1 : vpb a1 (F 24 0) = true
  · rw [if_pos q1] at h ⊢
    by_cases q3 : F 5 (tn a1) = 0
    · rw [if_pos q3] at h
      exact absurd h (Nat.succ_ne_zero _)
    · rw [if_neg q3]
      exact ⟨q1, q3, rfl, rfl⟩
  · rw [if_neg q1] at h
    exact absurd h (Nat.succ_ne_zero _)
theorem v_prom {F : FF} {a1 : Int32} (h : (s_promote F a1).1 = 0) : (s_promote F a1).2.1 = nI (F 6 (tn a1)) := by
  unfold s_promote at h ⊢
  by_cases q1 : vpb a1 (F 24 0) = true
  · rw [if_pos q1] at h ⊢
    by_cases q3 : F 5 (tn a1) = 0
    · rw [if_pos q3] at h
      exact absurd h (Nat.succ_ne_zero _)
    · rw [if_neg q3]
  · rw [if_neg q1] at h
    exact absurd h (Nat.succ_ne_zero _)
theorem m_setContract {F : FF} {a1 b1 c1 : Int32} (h : (s_setContract F a1 b1 c1).1 = 0) : vpb a1 (F 24 0) = true ∧ (s_setContract F a1 b1 c1).2.1 = nI (F 2 (tn a1)) := by
  unfold s_setContract at h ⊢
  by_cases q1 : vpb a1 (F 24 0) = true
  · rw [if_pos q1] at h ⊢
    by_cases q3 : ctr b1 c1 = true
    · rw [if_pos q3]
      exact ⟨q1, rfl⟩
    · rw [if_neg q3] at h
      exact absurd h (Nat.succ_ne_zero _)
  · rw [if_neg q1] at h
    exact absurd h (Nat.succ_ne_zero _)
theorem m_setAnswer {F : FF} {a1 b1 : Int32} (h : (s_setAnswer F a1 b1).1 = 0) : vpb a1 (F 24 0) = true ∧ (s_setAnswer F a1 b1).2.1 = nI (F 4 (tn a1)) := by
  unfold s_setAnswer at h ⊢
  by_cases q1 : vpb a1 (F 24 0) = true
  · rw [if_pos q1] at h ⊢
    by_cases q3 : wi b1 0 999 = true
    · rw [if_pos q3]
      exact ⟨q1, rfl⟩
    · rw [if_neg q3] at h
      exact absurd h (Nat.succ_ne_zero _)
  · rw [if_neg q1] at h
    exact absurd h (Nat.succ_ne_zero _)
theorem prom_kp {F : FF} {i : Nat} : kpF F (f_promote F i) ∧ ksF F (f_promote F i) := kp_of (fun x y h => prom_o (by omega))
theorem und_kp {F : FF} {i k : Nat} : kpF F (f_und F i k) ∧ ksF F (f_und F i k) := kp_of (fun x y h => und_a (by omega) (by omega) (by omega) (by omega) (by omega))
theorem prom_5 {F : FF} {i : Nat} : f_promote F i 5 i = 0 := by
  unfold f_promote
  rw [clr_5, if_pos rfl]
theorem hc_congr {F G : FF} {h0 : Int64} {n : Nat} (h2 : G 24 2 = F 24 2) (h14 : ∀ i, G 14 i = F 14 i) (h15 : ∀ i, G 15 i = F 15 i) : h_c G h0 n = h_c F h0 n := by
  induction n with
  | zero => rfl
  | succ n ih =>
    unfold h_c
    rw [ih]
    have e1 : aE [-1001] (s_tokens G (nI n)) = aE [-1001] (s_tokens F (nI n)) := by
      unfold s_tokens aE
      rw [h2, h14]
      split <;> rfl
    have e2 : aE [-1001] (s_bill32 G (nI n)) = aE [-1001] (s_bill32 F (nI n)) := by
      unfold s_bill32 s_bill aE
      rw [h2, h15]
      split <;> rfl
    rw [e1, e2]
theorem hu_congr {F G : FF} {h0 : Int64} {n : Nat} (h3 : G 24 3 = F 24 3) (h20 : ∀ i, G 20 i = F 20 i) : h_u G h0 n = h_u F h0 n := by
  induction n with
  | zero => rfl
  | succ n ih =>
    unfold h_u
    rw [ih]
    have e1 : aE [-1001] (s_isUndone G (nI n)) = aE [-1001] (s_isUndone F (nI n)) := by
      unfold s_isUndone aE
      rw [h3, h20]
      split <;> rfl
    rw [e1]
theorem hs_congr {F G : FF} {n : Nat} (h2 : G 24 2 = F 24 2) (h3 : G 24 3 = F 24 3) (h14 : ∀ i, G 14 i = F 14 i) (h15 : ∀ i, G 15 i = F 15 i) (h20 : ∀ i, G 20 i = F 20 i) : h_state G 0 n = h_state F 0 n := by
  unfold h_state
  rw [h3, hu_congr h3 h20, hc_congr h2 h14 h15]
  rfl
theorem hs_prom {F : FF} {i n : Nat} : h_state (f_promote F i) 0 n = h_state F 0 n := hs_congr (prom_o (by omega)) (prom_o (by omega)) (fun _ => prom_o (by omega)) (fun _ => prom_o (by omega)) (fun _ => prom_o (by omega))
theorem ct_split {P Q R : Nat → Bool} {n : Nat} (h : ∀ i, i < n → (R i = (P i || Q i)) ∧ (P i && Q i) = false) : ct R n = ct P n + ct Q n := by
  induction n with
  | zero => rfl
  | succ n ih =>
    unfold ct
    rw [ih (fun i hi => h i (by omega))]
    obtain ⟨h1, h2⟩ := h n (by omega)
    rw [h1]
    cases hp : P n <;> cases hq : Q n <;> simp [hp, hq] at h2 ⊢ <;> omega
/-- the calls that takeBack undoes -/
theorem und_cnt {F : FF} {N r : Nat} (hI : wInv F N) : ct (fun i => decide (f_und F r (F 24 3) 20 i ≠ 0)) (F 24 3) = ct (fun i => decide (F 20 i ≠ 0)) (F 24 3) + n_und F r (F 24 3) := by
  refine ct_split (fun i hi => ?_)
  rw [und_20]
  by_cases h : F 21 i = r + 1
  · have h20 := (hI.op hi (by omega)).2.2
    simp [h, hi, h20]
  · simp [h]
-- setContract, setAnswer, setPlan
theorem kp_setContract {F : FF} {a1 b1 c1 : Int32} : kpF F (s_setContract F a1 b1 c1).2.2 ∧ ksF F (s_setContract F a1 b1 c1).2.2 := by
  unfold s_setContract
  (repeat' split) <;> exact kp_of (fun x y h => by first | rfl | (show fU (fU F 2 _ _) 3 _ _ x y = F x y; rw [fU_o (by omega), fU_o (by omega)]))
theorem kp_setAnswer {F : FF} {a1 b1 : Int32} : kpF F (s_setAnswer F a1 b1).2.2 ∧ ksF F (s_setAnswer F a1 b1).2.2 := by
  unfold s_setAnswer
  (repeat' split) <;> exact kp_of (fun x y h => by first | rfl | (show fU F 4 _ _ x y = F x y; rw [fU_o (by omega)]))
theorem m_setPlan {F : FF} {a1 b1 : Int32} (h : (s_setPlan F a1 b1).1 = 0) : vpb a1 (F 24 2) = true ∧ vpb b1 (F 24 1) = true ∧ (s_setPlan F a1 b1).2.1 = nI (F 14 (tn a1) - F 11 (tn b1)) ∧ (s_setPlan F a1 b1).2.2 = fU (fU F 13 (tn a1) (tn b1)) 14 (tn a1) (F 14 (tn a1) - (F 14 (tn a1) - F 11 (tn b1))) := by
  unfold s_setPlan at h ⊢
  by_cases q1 : (vpb a1 (F 24 2) && vpb b1 (F 24 1)) = true
  · rw [if_pos q1]
    rw [Bool.and_eq_true] at q1
    exact ⟨q1.1, q1.2, rfl, rfl⟩
  · rw [if_neg q1] at h
    exact absurd h (Nat.succ_ne_zero _)
-- pass
theorem m_pass {F : FF} {a1 : Int32} (h : (s_pass F a1).1 = 0) : (s_pass F a1).2.1 = nI (sm (g_got F (tn a1)) (F 24 2)) ∧ (s_pass F a1).2.2 = f_pass F (tn a1) (F 24 2) := by
  unfold s_pass at h ⊢
  by_cases q1 : wi a1 1 100 = true
  · rw [if_pos q1]
    exact ⟨rfl, rfl⟩
  · rw [if_neg q1] at h
    exact absurd h (Nat.succ_ne_zero _)
theorem pass_kp {F : FF} {t k : Nat} : kpF F (f_pass F t k) ∧ ksF F (f_pass F t k) := kp_of (fun x y h => pass_a (by omega))
theorem pass_14s {F : FF} {t k b : Nat} (h : b < k) : f_pass F t k 14 b = F 14 b + g_got F t b := by
  induction k with
  | zero => omega
  | succ k ih =>
    unfold f_pass
    by_cases hb : b = k
    · subst hb
      rw [fU_s]
    · rw [fU_i hb]
      exact ih (by omega)
theorem pass_sum {F : FF} {t n : Nat} : sm (fun i => f_pass F t n 14 i) n = sm (fun i => F 14 i) n + sm (g_got F t) n := by
  rw [← sm_add]
  exact sm_congr (fun i hi => pass_14s hi)
-- addRoute, addPlan, addCaller
theorem m_addRoute {F : FF} {a1 b1 c1 d1 : Int32} (h : (s_addRoute F a1 b1 c1 d1).1 = 0) : (s_addRoute F a1 b1 c1 d1).2.1 = nI (F 24 0) ∧ (s_addRoute F a1 b1 c1 d1).2.2 = f_addRoute F (tn a1) (tn b1) (tn c1) (tn d1) := by
  unfold s_addRoute at h ⊢
  by_cases q1 : (pathB a1 && (wi b1 1 5 && (ctr c1 d1 && !decide (wpt F (tn a1) < F 24 0)))) = true
  · rw [if_pos q1] at h ⊢
    by_cases q2 : F 24 0 = 8
    · rw [if_pos q2] at h
      exact absurd h (Nat.succ_ne_zero _)
    · rw [if_neg q2]
      exact ⟨rfl, rfl⟩
  · rw [if_neg q1] at h
    exact absurd h (Nat.succ_ne_zero _)
theorem aro_o {F : FF} {p c l g x y : Nat} (h : ¬ (x = 0 ∨ x = 1 ∨ x = 2 ∨ x = 3 ∨ (x = 24 ∧ y = 0))) : f_addRoute F p c l g x y = F x y := by
  unfold f_addRoute
  rw [fU_o (by omega), fU_o (by omega), fU_o (by omega), fU_o (by omega), fU_o (by omega)]
theorem aro_0 {F : FF} {p c l g : Nat} : f_addRoute F p c l g 24 0 = F 24 0 + 1 := by simp [f_addRoute, fU]
theorem m_addPlan {F : FF} {a1 b1 c1 : Int32} (h : (s_addPlan F a1 b1 c1).1 = 0) : F 24 1 ≠ 3 ∧ (s_addPlan F a1 b1 c1).2.1 = nI (F 24 1) ∧ (s_addPlan F a1 b1 c1).2.2 = f_addPlan F (tn a1) (tn b1) (tn c1) := by
  unfold s_addPlan at h ⊢
  by_cases q1 : (wi a1 1 20 && (wi b1 1 100 && wi c1 0 99)) = true
  · rw [if_pos q1] at h ⊢
    by_cases q2 : F 24 1 = 3
    · rw [if_pos q2] at h
      exact absurd h (Nat.succ_ne_zero _)
    · rw [if_neg q2]
      exact ⟨q2, rfl, rfl⟩
  · rw [if_neg q1] at h
    exact absurd h (Nat.succ_ne_zero _)
theorem apl_o {F : FF} {r b p x y : Nat} (h : ¬ ((y = F 24 1 ∧ (x = 10 ∨ x = 11 ∨ x = 12)) ∨ (x = 24 ∧ y = 1))) : f_addPlan F r b p x y = F x y := by
  unfold f_addPlan
  rw [fU_o (by omega), fU_o (by omega), fU_o (by omega), fU_o (by omega)]
theorem apl_1 {F : FF} {r b p : Nat} : f_addPlan F r b p 24 1 = F 24 1 + 1 := by simp [f_addPlan, fU]
theorem apl_11 {F : FF} {r b p : Nat} : f_addPlan F r b p 11 (F 24 1) = b := by simp [f_addPlan, fU]
/-- the numbers of addPlan are always in range -/
theorem apl_ok {F : FF} {a b c : Nat} (ha : 1 ≤ a ∧ a ≤ 20) (hb : 1 ≤ b ∧ b ≤ 100) (hc : c ≤ 99) (h3 : F 24 1 ≠ 3) : (s_addPlan F (nI a) (nI b) (nI c)).1 = 0 := by
  have w1 : wi (nI a) 1 20 = true := wi_t (fun q => nI_nlt (a := a) (b := 1) ha.1 (by omega) q) (fun q => nI_nlt (a := 20) (b := a) ha.2 (by omega) q)
  have w2 : wi (nI b) 1 100 = true := wi_t (fun q => nI_nlt (a := b) (b := 1) hb.1 (by omega) q) (fun q => nI_nlt (a := 100) (b := b) hb.2 (by omega) q)
  have w3 : wi (nI c) 0 99 = true := wi_t (fun q => nI_nlt (a := c) (b := 0) (by omega) (by omega) q) (fun q => nI_nlt (a := 99) (b := c) hc (by omega) q)
  unfold s_addPlan
  rw [w1, w2, w3, if_pos (by decide), if_neg h3]
theorem m_addCaller {F : FF} {a1 : Int32} (h : (s_addCaller F a1).1 = 0) : vpb a1 (F 24 1) = true ∧ F 24 2 ≠ 6 ∧ (s_addCaller F a1).2.1 = nI (F 24 2) ∧ (s_addCaller F a1).2.2 = f_addCaller F (tn a1) := by
  unfold s_addCaller at h ⊢
  by_cases q1 : vpb a1 (F 24 1) = true
  · rw [if_pos q1] at h ⊢
    by_cases q2 : F 24 2 = 6
    · rw [if_pos q2] at h
      exact absurd h (Nat.succ_ne_zero _)
    · rw [if_neg q2]
      exact ⟨q1, q2, rfl, rfl⟩
  · rw [if_neg q1] at h
    exact absurd h (Nat.succ_ne_zero _)
theorem acl_o {F : FF} {p x y : Nat} (h : ¬ ((y = F 24 2 ∧ (x = 13 ∨ x = 14)) ∨ (x = 24 ∧ y = 2))) : f_addCaller F p x y = F x y := by
  unfold f_addCaller
  rw [fU_o (by omega), fU_o (by omega), fU_o (by omega)]
theorem acl_2 {F : FF} {p : Nat} : f_addCaller F p 24 2 = F 24 2 + 1 := by simp [f_addCaller, fU]
theorem acl_13 {F : FF} {p : Nat} : f_addCaller F p 13 (F 24 2) = p := by simp [f_addCaller, fU]
-- call
theorem m_call {F : FF} {a1 b1 c1 : Int32} (h : (s_call F a1 b1 c1).1 = 0) : vpb a1 (F 24 2) = true ∧ pathB b1 = true ∧ wi c1 0 99 = true ∧ (s_call F a1 b1 c1).2.1 = nI (c_kind F (tn a1) (gN F 4 (tn b1)) (tn c1)) ∧ (s_call F a1 b1 c1).2.2 = f_call F (tn a1) (gN F 4 (tn b1)) (tn c1) := by
  unfold s_call at h ⊢
  by_cases q1 : vpb a1 (F 24 2) = true
  · rw [if_pos q1] at h ⊢
    by_cases q2 : (pathB b1 && wi c1 0 99) = true
    · rw [if_pos q2]
      rw [Bool.and_eq_true] at q2
      exact ⟨q1, q2.1, q2.2, rfl, rfl⟩
    · rw [if_neg q2] at h
      exact absurd h (Nat.succ_ne_zero _)
  · rw [if_neg q1] at h
    exact absurd h (Nat.succ_ne_zero _)
theorem ent_o {F : FF} {c kd co ca op x y : Nat} (h : ¬ (x = 16 ∨ x = 17 ∨ x = 18 ∨ x = 19 ∨ x = 21 ∨ x = 23 ∨ x = 14 ∨ x = 15 ∨ (x = 24 ∧ y = 3))) : f_enter F c kd co ca op x y = F x y := by
  unfold f_enter
  rw [fU_o (by omega), fU_o (by omega), fU_o (by omega), fU_o (by omega), fU_o (by omega), fU_o (by omega), fU_o (by omega), fU_o (by omega), fU_o (by omega)]
theorem ent_y {F : FF} {c kd co ca op x y : Nat} (hy : y ≠ F 24 3) (hx : x ≠ 14) (hx2 : x ≠ 15) (hx3 : x ≠ 24) : f_enter F c kd co ca op x y = F x y := by
  unfold f_enter
  rw [fU_o (by omega), fU_o (by omega), fU_o (by omega), fU_o (by omega), fU_o (by omega), fU_o (by omega), fU_o (by omega), fU_o (by omega), fU_o (by omega)]
theorem ent_3 {F : FF} {c kd co ca op : Nat} : f_enter F c kd co ca op 24 3 = F 24 3 + 1 := by simp [f_enter, fU]
theorem ent_17 {F : FF} {c kd co ca op : Nat} : f_enter F c kd co ca op 17 (F 24 3) = kd := by simp [f_enter, fU]
theorem ent_19 {F : FF} {c kd co ca op : Nat} : f_enter F c kd co ca op 19 (F 24 3) = co * F 12 (F 13 c) := by simp [f_enter, fU]
theorem ent_21 {F : FF} {c kd co ca op : Nat} : f_enter F c kd co ca op 21 (F 24 3) = op := by simp [f_enter, fU]
theorem ent_14 {F : FF} {c kd co ca op : Nat} : f_enter F c kd co ca op 14 c = F 14 c - co := by simp [f_enter, fU]
theorem flt_kp {F : FF} {r : Nat} : kpF F (f_fault F r) ∧ ksF F (f_fault F r) := kp_of (fun x y h => fault_a (by omega) (by omega) (by omega) (by omega) (by omega) (by omega))
theorem kind_5 {F : FF} {c r key : Nat} : c_kind F c r key = 110 ∨ c_kind F c r key = 108 ∨ c_kind F c r key = 115 ∨ c_kind F c r key = 99 ∨ c_kind F c r key = 102 := by
  unfold c_kind
  (repeat' split) <;> simp
/-- a call, by its kind -/
theorem call_nl {F : FF} {c r key : Nat} (h : c_kind F c r key = 110 ∨ c_kind F c r key = 108) : f_call F c r key = f_enter F c (c_kind F c r key) 0 0 0 := by
  unfold f_call
  rw [if_neg (by omega), if_neg (by omega), if_neg (by omega)]
theorem call_s {F : FF} {c r key : Nat} (h : c_kind F c r key = 115) : f_call F c r key = f_enter F c 115 (F 1 r) 0 0 := by
  unfold f_call
  rw [if_pos h]
theorem call_c {F : FF} {c r key : Nat} (h : c_kind F c r key = 99) : f_call F c r key = f_enter F c 99 (F 1 r) (F 22 r + 1) (r + 1) := by
  unfold f_call
  rw [if_neg (by omega), if_pos h]
theorem call_f {F : FF} {c r key : Nat} (h : c_kind F c r key = 102) : f_call F c r key = f_enter (f_fault F r) c 102 0 0 0 := by
  unfold f_call
  rw [if_neg (by omega), if_neg (by omega), if_pos h]
theorem call_3 {F : FF} {c r key : Nat} : f_call F c r key 24 3 = F 24 3 + 1 := by
  rcases kind_5 (F := F) (c := c) (r := r) (key := key) with h | h | h | h | h
  · rw [call_nl (Or.inl h), ent_3]
  · rw [call_nl (Or.inr h), ent_3]
  · rw [call_s h, ent_3]
  · rw [call_c h, ent_3]
  · rw [call_f h, ent_3, flt_kp.2.1]
theorem call_kp {F : FF} {c r key : Nat} : kpF F (f_call F c r key) := by
  have h0 : ∀ G : FF, kpF F G → ∀ kd co ca op : Nat, kpF F (f_enter G c kd co ca op) := fun G hG kd co ca op => hG.tr ⟨ent_o (by omega), ent_o (by omega), ent_o (by omega), fun i => ent_o (by omega), fun i => ent_o (by omega)⟩
  rcases kind_5 (F := F) (c := c) (r := r) (key := key) with h | h | h | h | h
  · rw [call_nl (Or.inl h)]; exact h0 F kpF.rf _ _ _ _
  · rw [call_nl (Or.inr h)]; exact h0 F kpF.rf _ _ _ _
  · rw [call_s h]; exact h0 F kpF.rf _ _ _ _
  · rw [call_c h]; exact h0 F kpF.rf _ _ _ _
  · rw [call_f h]; exact h0 _ flt_kp.1 _ _ _ _
theorem call_ki {F : FF} {c r key : Nat} (hk : wKi F) : wKi (f_call F c r key) := by
  have h0 : ∀ G : FF, ksF F G → ∀ kd co ca op : Nat, (kd = 110 ∨ kd = 108 ∨ kd = 115 ∨ kd = 99 ∨ kd = 102) → wKi (f_enter G c kd co ca op) := fun G hG kd co ca op hkd k hk2 => by
    rw [ent_3] at hk2
    by_cases hkk : k = G 24 3
    · subst hkk
      rw [ent_17]
      exact hkd
    · rw [ent_y hkk (by omega) (by omega) (by omega), hG.2 k]
      exact hk k (by rw [← hG.1]; omega)
  have hr : ksF F F := ⟨rfl, fun _ => rfl⟩
  rcases kind_5 (F := F) (c := c) (r := r) (key := key) with h | h | h | h | h
  · rw [call_nl (Or.inl h), h]; exact h0 F hr _ _ _ _ (by omega)
  · rw [call_nl (Or.inr h), h]; exact h0 F hr _ _ _ _ (by omega)
  · rw [call_s h]; exact h0 F hr _ _ _ _ (by omega)
  · rw [call_c h]; exact h0 F hr _ _ _ _ (by omega)
  · rw [call_f h]; exact h0 _ flt_kp.2 _ _ _ _ (by omega)
theorem und_mono {F : FF} {N r k c : Nat} (hI : wInv F N) (hk : k ≤ F 24 3) (hc : c < F 24 2) : F 14 c ≤ f_und F r k 14 c := by
  induction k with
  | zero => exact Nat.le_of_eq (fU_k (by decide)).symm
  | succ k ih =>
    have ih := ih (by omega)
    by_cases h : F 21 k = r + 1
    · rw [und_s h]
      have h14 := und_14 (r := r) (k := k) hI hc
      unfold f_und1
      rw [fU_k (by decide)]
      by_cases hcc : c = f_und F r k 16 k
      · rw [← hcc, fU_s]
        have e13 : f_und F r k 13 c = F 13 c := und_a (by decide) (by decide) (by decide) (by decide) (by decide)
        have e11 : f_und F r k 11 (F 13 c) = F 11 (F 13 c) := und_a (by decide) (by decide) (by decide) (by decide) (by decide)
        rw [e13, e11]
        exact Nat.le_trans ih (Nat.le_min.mpr ⟨Nat.le_add_right _ _, h14⟩)
      · rw [fU_i hcc, fU_k (by decide), fU_k (by decide)]
        exact ih
    · rw [und_n h]
      exact ih
theorem flt_mono {F : FF} {N r c : Nat} (hI : wInv F N) (hc : c < F 24 2) : F 14 c ≤ f_fault F r 14 c := by
  unfold f_fault
  split
  · rw [fU_k (by decide)]
    exact und_mono hI (Nat.le_refl _) hc
  · exact Nat.le_of_eq (fU_k (by decide)).symm
theorem kind_n {F : FF} {c r key : Nat} : c_kind F c r key = 110 ↔ ¬ r < F 24 0 := by
  unfold c_kind
  (repeat' split) <;> simp_all
theorem kind_l {F : FF} {c r key : Nat} : c_kind F c r key = 108 ↔ r < F 24 0 ∧ F 14 c < F 1 r := by
  unfold c_kind
  (repeat' split) <;> simp_all <;> omega
theorem kind_sc {F : FF} {c r key : Nat} (h : c_kind F c r key = 115 ∨ c_kind F c r key = 99) : r < F 24 0 ∧ F 1 r ≤ F 14 c := by
  have h1 := kind_n (F := F) (c := c) (r := r) (key := key)
  have h2 := kind_l (F := F) (c := c) (r := r) (key := key)
  have hr : r < F 24 0 := Nat.not_le.mp (fun q => by
    have := h1.mpr (Nat.not_lt.mpr q)
    omega)
  exact ⟨hr, Nat.not_lt.mp (fun q => by
    have := h2.mpr ⟨hr, q⟩
    omega)⟩
theorem kind_scf {F : FF} {c r key : Nat} (h : c_kind F c r key = 115 ∨ c_kind F c r key = 99 ∨ c_kind F c r key = 102) : r < F 24 0 ∧ F 1 r ≤ F 14 c := by
  have h1 := kind_n (F := F) (c := c) (r := r) (key := key)
  have h2 := kind_l (F := F) (c := c) (r := r) (key := key)
  have hr : r < F 24 0 := Nat.not_le.mp (fun q => by
    have := h1.mpr (Nat.not_lt.mpr q)
    omega)
  exact ⟨hr, Nat.not_lt.mp (fun q => by
    have := h2.mpr ⟨hr, q⟩
    omega)⟩
theorem call_14nl {F : FF} {c r key : Nat} (h : c_kind F c r key = 110 ∨ c_kind F c r key = 108) : f_call F c r key 14 c = F 14 c := by
  rw [call_nl h, ent_14]
  rfl
theorem call_14sc {F : FF} {c r key : Nat} (h : c_kind F c r key = 115 ∨ c_kind F c r key = 99) : f_call F c r key 14 c = F 14 c - F 1 r := by
  rcases h with h | h
  · rw [call_s h, ent_14]
  · rw [call_c h, ent_14]
theorem call_14f {F : FF} {N c r key : Nat} (hI : wInv F N) (hc : c < F 24 2) (h : c_kind F c r key = 102) : F 14 c ≤ f_call F c r key 14 c := by
  rw [call_f h, ent_14]
  exact flt_mono hI hc
theorem call_20 {F : FF} {c r key k : Nat} (h : c_kind F c r key ≠ 102) : f_call F c r key 20 k = F 20 k := by
  rcases kind_5 (F := F) (c := c) (r := r) (key := key) with h1 | h1 | h1 | h1 | h1
  · rw [call_nl (Or.inl h1)]; exact ent_o (by omega)
  · rw [call_nl (Or.inr h1)]; exact ent_o (by omega)
  · rw [call_s h1]; exact ent_o (by omega)
  · rw [call_c h1]; exact ent_o (by omega)
  · exact absurd h1 h
theorem call_und {F : FF} {N c r key : Nat} (hI : wInv F N) (h : c_kind F c r key ≠ 102) : ct (fun i => decide (f_call F c r key 20 i ≠ 0)) (f_call F c r key 24 3) = ct (fun i => decide (F 20 i ≠ 0)) (F 24 3) := by
  rw [call_3]
  have e : ct (fun i => decide (f_call F c r key 20 i ≠ 0)) (F 24 3 + 1) = ct (fun i => decide (f_call F c r key 20 i ≠ 0)) (F 24 3) + (if decide (f_call F c r key 20 (F 24 3) ≠ 0) = true then 1 else 0) := rfl
  rw [e, ct_congr (Q := fun i => decide (F 20 i ≠ 0)) (fun i _ => by rw [call_20 h])]
  rw [call_20 h, hI.z3 (Nat.le_refl _)]
  simp
/-- ticksUntil tells whether a call is limited -/
theorem v_ticks {F : FF} {N c r : Nat} (hI : wInv F N) (hc : c < F 24 2) (hr : r < F 24 0) : (aE [-1001, -1005] (s_ticksUntil F (nI c) (nI r)) = 0) ↔ ¬ F 14 c < F 1 r := by
  have hn := hI.n
  have hcl := hI.cl hc
  have hpl := hI.pl hcl.1
  have hro := hI.ro hr
  unfold s_ticksUntil
  rw [if_pos (by rw [vpb_nI hc (by omega), vpb_nI hr (by omega)]; rfl), tn_nI (show c < 2 ^ 31 by omega), tn_nI (show r < 2 ^ 31 by omega)]
  by_cases h1 : F 11 (F 13 c) < F 1 r
  · rw [if_pos h1, aE_x (k := 1) (v := -1005) rfl rfl]
    exact ⟨fun q => absurd q (by decide), fun q => absurd (Nat.lt_of_le_of_lt hcl.2 h1) q⟩
  · rw [if_neg h1]
    refine Iff.trans (show _ ↔ nI ((F 1 r - F 14 c + F 10 (F 13 c) - 1) / F 10 (F 13 c)) = 0 from Iff.rfl) ?_
    have hb : (F 1 r - F 14 c + F 10 (F 13 c) - 1) / F 10 (F 13 c) < 2 ^ 31 := Nat.lt_of_le_of_lt (Nat.div_le_self _ _) (by omega)
    rw [nI_e0 hb]
    constructor
    · intro q q2
      have h3 : F 10 (F 13 c) ≤ F 1 r - F 14 c + F 10 (F 13 c) - 1 := by omega
      have h4 := Nat.div_le_div_right (c := F 10 (F 13 c)) h3
      rw [Nat.div_self (by omega), q] at h4
      omega
    · intro q
      exact Nat.div_eq_of_lt (by omega)
theorem path_ok {j : Nat} (h : j ≤ 9 ∨ j = 11 ∨ j = 12 ∨ j = 13 ∨ j = 21 ∨ j = 22 ∨ j = 23 ∨ j = 31 ∨ j = 32 ∨ j = 33) : pathB (nI j) = true := by
  have h2 : j = 0 ∨ j = 1 ∨ j = 2 ∨ j = 3 ∨ j = 4 ∨ j = 5 ∨ j = 6 ∨ j = 7 ∨ j = 8 ∨ j = 9 ∨ j = 11 ∨ j = 12 ∨ j = 13 ∨ j = 21 ∨ j = 22 ∨ j = 23 ∨ j = 31 ∨ j = 32 ∨ j = 33 := by omega
  rcases h2 with rfl | rfl | rfl | rfl | rfl | rfl | rfl | rfl | rfl | rfl | rfl | rfl | rfl | rfl | rfl | rfl | rfl | rfl | rfl <;> decide
theorem v_route {F : FF} {a1 : Int32} (h : pathB a1 = true) : aE [-1002, -1005] (s_route F a1) = if gN F 4 (tn a1) < F 24 0 then nI (gN F 4 (tn a1)) else -1005 := by
  unfold s_route
  rw [if_pos h]
  split
  · exact aE_0 rfl
  · exact aE_x (k := 1) rfl rfl
