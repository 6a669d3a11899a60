theorem obj_inj {w : wW} {a b c : Nat} {fs gs : List Value} (h1 : w a = some (.inr (c, fs))) (h2 : w b = some (.inr (c, gs))) (e : a = b) : fs = gs := by
  subst e
  rw [h1] at h2
  simpa using h2
theorem nI_inj8 {w : wW} {a b c i j : Nat} {fs gs : List Value} (hb : i < 2 ^ 31 ∧ j < 2 ^ 31) (h1 : w a = some (.inr (c, .int (nI i) :: fs))) (h2 : w b = some (.inr (c, .int (nI j) :: gs))) (e : a = b) : i = j := by
  have h := obj_inj h1 h2 e
  have h3 : nI i = nI j := by simpa using (List.cons.inj h).1
  exact (nI_eq hb.1 hb.2).mp h3
theorem wU_2 {w : wW} {a b : Nat} {e1 e2 : va_E} (h : b ≠ a) : wU (wU w a e1) a e2 b = w b := by rw [wU_n _ _ h, wU_n _ _ h]

theorem U_ro {E : wEn} {F G : FF} {AD : AT} {w w2 : wW} {i : Nat} (hs : wSys E F AD w) (hi : i < F 24 0) (hb : F 24 0 ≤ 8) (hG : ∀ a b, ¬ (a = 21 ∨ (b = i ∧ 2 ≤ a ∧ a ≤ 4)) → G a b = F a b) (ha : w2 (AD 0 i) = some (e_route G AD i)) (ho : ∀ b, b ≠ AD 0 i → w2 b = w b) : wSys E G AD w2 := by
  have e24 : ∀ b, G 24 b = F 24 b := fun b => hG 24 b (by omega)
  have hold := hs.ro hi
  unfold wSys
  simp only [e_x, e_log, e24]
  refine ⟨?_, ?_, ?_, ?_, ?_, ?_, ?_, ?_, ?_, ?_, ?_, hs.2.2.2.2.2.2.2.2.2.2.2⟩
  · rw [ho _ (wne hs.x hold (Nat.ne_of_beq_eq_false rfl))]
    exact hs.x
  · rw [ho _ (wne hs.aR hold (Nat.ne_of_beq_eq_false rfl))]
    exact hs.aR
  · rw [ho _ (wne hs.aP hold (Nat.ne_of_beq_eq_false rfl))]
    exact hs.aP
  · rw [ho _ (wne hs.aC hold (Nat.ne_of_beq_eq_false rfl))]
    exact hs.aC
  · rw [ho _ (wne hs.log hold (Nat.ne_of_beq_eq_false rfl))]
    exact hs.log
  · rw [ho _ (wne hs.aE hold (Nat.ne_of_beq_eq_false rfl))]
    exact hs.aE
  · intro j hj
    by_cases hji : j = i
    · subst hji
      exact ha
    · have e : ∀ a, a ≠ 21 → G a j = F a j := fun a h => hG a j (by omega)
      rw [ho _ (fun q => hji (nI_inj8 (by omega) (hs.ro hj) (hs.ro hi) q)), show e_route G AD j = e_route F AD j from by simp only [e_route, e 0 (by decide), e 1 (by decide), e 2 (by decide), e 3 (by decide), e 4 (by decide), e 5 (by decide)]]
      exact hs.ro hj
  · intro j hj h5
    rw [hG 5 j (by omega)] at h5
    rw [ho _ (wne (hs.ca hj h5) hold (Nat.ne_of_beq_eq_false rfl)), show e_can G j = e_can F j from by simp only [e_can, hG 22 j (by omega), hG 6 j (by omega), hG 8 j (by omega), hG 7 j (by omega), hG 9 j (by omega)]]
    exact hs.ca hj h5
  · intro j hj
    rw [ho _ (wne (hs.pl hj) hold (Nat.ne_of_beq_eq_false rfl)), show e_plan G j = e_plan F j from by simp only [e_plan, hG 10 j (by omega), hG 11 j (by omega), hG 12 j (by omega)]]
    exact hs.pl hj
  · intro j hj
    rw [ho _ (wne (hs.cl hj) hold (Nat.ne_of_beq_eq_false rfl)), show e_caller G AD j = e_caller F AD j from by simp only [e_caller, hG 13 j (by omega), hG 14 j (by omega), hG 15 j (by omega)]]
    exact hs.cl hj
  · intro j hj
    rw [ho _ (wne (hs.en hj) hold (Nat.ne_of_beq_eq_false rfl)), show e_entry G AD j = e_entry F AD j from by simp only [e_entry, hG 16 j (by omega), hG 17 j (by omega), hG 18 j (by omega), hG 19 j (by omega), hG 23 j (by omega), hG 20 j (by omega)]]
    exact hs.en hj

theorem U_ca {E : wEn} {F G : FF} {AD : AT} {w w2 : wW} {i : Nat} (hs : wSys E F AD w) (hi : i < F 24 0) (hi5 : F 5 i ≠ 0) (hb : F 24 0 ≤ 8 ∧ F 24 4 ≤ 512) (hu : ∀ a b, a < F 24 0 → b < F 24 0 → F 5 a ≠ 0 → F 5 b ≠ 0 → F 22 a = F 22 b → a = b) (hv : ∀ a, a < F 24 0 → F 5 a ≠ 0 → F 22 a < F 24 4) (hG : ∀ a b, ¬ (a = 21 ∨ (b = i ∧ (a = 7 ∨ a = 9))) → G a b = F a b) (ha : w2 (AD 4 i) = some (e_can G i)) (ho : ∀ b, b ≠ AD 4 i → w2 b = w b) : wSys E G AD w2 := by
  have e24 : ∀ b, G 24 b = F 24 b := fun b => hG 24 b (by omega)
  have hold := hs.ca hi hi5
  unfold wSys
  simp only [e_x, e_log, e24]
  refine ⟨?_, ?_, ?_, ?_, ?_, ?_, ?_, ?_, ?_, ?_, ?_, hs.2.2.2.2.2.2.2.2.2.2.2⟩
  · rw [ho _ (wne hs.x hold (Nat.ne_of_beq_eq_false rfl))]
    exact hs.x
  · rw [ho _ (wne hs.aR hold (Nat.ne_of_beq_eq_false rfl))]
    exact hs.aR
  · rw [ho _ (wne hs.aP hold (Nat.ne_of_beq_eq_false rfl))]
    exact hs.aP
  · rw [ho _ (wne hs.aC hold (Nat.ne_of_beq_eq_false rfl))]
    exact hs.aC
  · rw [ho _ (wne hs.log hold (Nat.ne_of_beq_eq_false rfl))]
    exact hs.log
  · rw [ho _ (wne hs.aE hold (Nat.ne_of_beq_eq_false rfl))]
    exact hs.aE
  · intro j hj
    rw [ho _ (wne (hs.ro hj) hold (Nat.ne_of_beq_eq_false rfl)), show e_route G AD j = e_route F AD j from by simp only [e_route, hG 0 j (by omega), hG 1 j (by omega), hG 2 j (by omega), hG 3 j (by omega), hG 4 j (by omega), hG 5 j (by omega)]]
    exact hs.ro hj
  · intro j hj h5
    by_cases hji : j = i
    · subst hji
      exact ha
    · rw [hG 5 j (by omega)] at h5
      rw [ho _ (fun q => hji ((hu j i hj hi h5 hi5 (nI_inj8 (by have := hv j hj h5; have := hv i hi hi5; omega) (hs.ca hj h5) (hs.ca hi hi5) q)))), show e_can G j = e_can F j from by simp only [e_can, hG 22 j (by omega), hG 6 j (by omega), hG 8 j (by omega), hG 7 j (by omega), hG 9 j (by omega)]]
      exact hs.ca hj h5
  · intro j hj
    rw [ho _ (wne (hs.pl hj) hold (Nat.ne_of_beq_eq_false rfl)), show e_plan G j = e_plan F j from by simp only [e_plan, hG 10 j (by omega), hG 11 j (by omega), hG 12 j (by omega)]]
    exact hs.pl hj
  · intro j hj
    rw [ho _ (wne (hs.cl hj) hold (Nat.ne_of_beq_eq_false rfl)), show e_caller G AD j = e_caller F AD j from by simp only [e_caller, hG 13 j (by omega), hG 14 j (by omega), hG 15 j (by omega)]]
    exact hs.cl hj
  · intro j hj
    rw [ho _ (wne (hs.en hj) hold (Nat.ne_of_beq_eq_false rfl)), show e_entry G AD j = e_entry F AD j from by simp only [e_entry, hG 16 j (by omega), hG 17 j (by omega), hG 18 j (by omega), hG 19 j (by omega), hG 23 j (by omega), hG 20 j (by omega)]]
    exact hs.en hj

theorem U_cl {E : wEn} {F G : FF} {AD : AT} {w w2 : wW} {i : Nat} (hs : wSys E F AD w) (hi : i < F 24 2) (hb : F 24 2 ≤ 6) (hG : ∀ a b, ¬ (a = 21 ∨ (b = i ∧ 13 ≤ a ∧ a ≤ 15)) → G a b = F a b) (ha : w2 (AD 2 i) = some (e_caller G AD i)) (ho : ∀ b, b ≠ AD 2 i → w2 b = w b) : wSys E G AD w2 := by
  have e24 : ∀ b, G 24 b = F 24 b := fun b => hG 24 b (by omega)
  have hold := hs.cl hi
  unfold wSys
  simp only [e_x, e_log, e24]
  refine ⟨?_, ?_, ?_, ?_, ?_, ?_, ?_, ?_, ?_, ?_, ?_, hs.2.2.2.2.2.2.2.2.2.2.2⟩
  · rw [ho _ (wne hs.x hold (Nat.ne_of_beq_eq_false rfl))]
    exact hs.x
  · rw [ho _ (wne hs.aR hold (Nat.ne_of_beq_eq_false rfl))]
    exact hs.aR
  · rw [ho _ (wne hs.aP hold (Nat.ne_of_beq_eq_false rfl))]
    exact hs.aP
  · rw [ho _ (wne hs.aC hold (Nat.ne_of_beq_eq_false rfl))]
    exact hs.aC
  · rw [ho _ (wne hs.log hold (Nat.ne_of_beq_eq_false rfl))]
    exact hs.log
  · rw [ho _ (wne hs.aE hold (Nat.ne_of_beq_eq_false rfl))]
    exact hs.aE
  · intro j hj
    rw [ho _ (wne (hs.ro hj) hold (Nat.ne_of_beq_eq_false rfl)), show e_route G AD j = e_route F AD j from by simp only [e_route, hG 0 j (by omega), hG 1 j (by omega), hG 2 j (by omega), hG 3 j (by omega), hG 4 j (by omega), hG 5 j (by omega)]]
    exact hs.ro hj
  · intro j hj h5
    rw [hG 5 j (by omega)] at h5
    rw [ho _ (wne (hs.ca hj h5) hold (Nat.ne_of_beq_eq_false rfl)), show e_can G j = e_can F j from by simp only [e_can, hG 22 j (by omega), hG 6 j (by omega), hG 8 j (by omega), hG 7 j (by omega), hG 9 j (by omega)]]
    exact hs.ca hj h5
  · intro j hj
    rw [ho _ (wne (hs.pl hj) hold (Nat.ne_of_beq_eq_false rfl)), show e_plan G j = e_plan F j from by simp only [e_plan, hG 10 j (by omega), hG 11 j (by omega), hG 12 j (by omega)]]
    exact hs.pl hj
  · intro j hj
    by_cases hji : j = i
    · subst hji
      exact ha
    · have e : ∀ a, a ≠ 21 → G a j = F a j := fun a h => hG a j (by omega)
      rw [ho _ (fun q => hji (nI_inj8 (by omega) (hs.cl hj) (hs.cl hi) q)), show e_caller G AD j = e_caller F AD j from by simp only [e_caller, e 13 (by decide), e 14 (by decide), e 15 (by decide)]]
      exact hs.cl hj
  · intro j hj
    rw [ho _ (wne (hs.en hj) hold (Nat.ne_of_beq_eq_false rfl)), show e_entry G AD j = e_entry F AD j from by simp only [e_entry, hG 16 j (by omega), hG 17 j (by omega), hG 18 j (by omega), hG 19 j (by omega), hG 23 j (by omega), hG 20 j (by omega)]]
    exact hs.en hj

theorem U_en {E : wEn} {F G : FF} {AD : AT} {w w2 : wW} {k : Nat} (hs : wSys E F AD w) (hk : k < F 24 3) (hG : ∀ a b, ¬ (a = 21 ∨ (b = k ∧ a = 20)) → G a b = F a b) (ha : w2 (AD 3 k) = some (e_entry G AD k)) (ho : ∀ b, b ≠ AD 3 k → w2 b = w b) : wSys E G AD w2 := by
  have e24 : ∀ b, G 24 b = F 24 b := fun b => hG 24 b (by omega)
  have hold := hs.en hk
  unfold wSys
  simp only [e_x, e_log, e24]
  refine ⟨?_, ?_, ?_, ?_, ?_, ?_, ?_, ?_, ?_, ?_, ?_, hs.2.2.2.2.2.2.2.2.2.2.2⟩
  · rw [ho _ (wne hs.x hold (Nat.ne_of_beq_eq_false rfl))]
    exact hs.x
  · rw [ho _ (wne hs.aR hold (Nat.ne_of_beq_eq_false rfl))]
    exact hs.aR
  · rw [ho _ (wne hs.aP hold (Nat.ne_of_beq_eq_false rfl))]
    exact hs.aP
  · rw [ho _ (wne hs.aC hold (Nat.ne_of_beq_eq_false rfl))]
    exact hs.aC
  · rw [ho _ (wne hs.log hold (Nat.ne_of_beq_eq_false rfl))]
    exact hs.log
  · rw [ho _ (wne hs.aE hold (Nat.ne_of_beq_eq_false rfl))]
    exact hs.aE
  · intro j hj
    rw [ho _ (wne (hs.ro hj) hold (Nat.ne_of_beq_eq_false rfl)), show e_route G AD j = e_route F AD j from by simp only [e_route, hG 0 j (by omega), hG 1 j (by omega), hG 2 j (by omega), hG 3 j (by omega), hG 4 j (by omega), hG 5 j (by omega)]]
    exact hs.ro hj
  · intro j hj h5
    rw [hG 5 j (by omega)] at h5
    rw [ho _ (wne (hs.ca hj h5) hold (Nat.ne_of_beq_eq_false rfl)), show e_can G j = e_can F j from by simp only [e_can, hG 22 j (by omega), hG 6 j (by omega), hG 8 j (by omega), hG 7 j (by omega), hG 9 j (by omega)]]
    exact hs.ca hj h5
  · intro j hj
    rw [ho _ (wne (hs.pl hj) hold (Nat.ne_of_beq_eq_false rfl)), show e_plan G j = e_plan F j from by simp only [e_plan, hG 10 j (by omega), hG 11 j (by omega), hG 12 j (by omega)]]
    exact hs.pl hj
  · intro j hj
    rw [ho _ (wne (hs.cl hj) hold (Nat.ne_of_beq_eq_false rfl)), show e_caller G AD j = e_caller F AD j from by simp only [e_caller, hG 13 j (by omega), hG 14 j (by omega), hG 15 j (by omega)]]
    exact hs.cl hj
  · intro j hj
    by_cases hji : j = k
    · subst hji
      exact ha
    · have e : ∀ a, a ≠ 21 → G a j = F a j := fun a h => hG a j (by omega)
      rw [ho _ (fun q => hji (hs.inj hj hk q)), show e_entry G AD j = e_entry F AD j from by simp only [e_entry, e 16 (by decide), e 17 (by decide), e 18 (by decide), e 19 (by decide), e 23 (by decide), e 20 (by decide)]]
      exact hs.en hj
theorem wU_c {w : wW} {a : Nat} {e1 e2 : va_E} : wU (wU w a e1) a e2 = wU w a e2 := by
  funext b
  by_cases h : b = a
  · subst h
    rw [wU_s, wU_s]
  · rw [wU_n _ _ h, wU_n _ _ h, wU_n _ _ h]
theorem rfU_up {ad : Nat → Nat} {n q : Nat} : va_up (rfU ad n) n (some q) = rfU (fun b => if b = n then q else ad b) (n + 1) := by
  funext b
  by_cases h : b = n
  · subst h
    rw [va_up_self, rfU_lt (Nat.lt_succ_self _)]
    simp
  · rw [va_up_ne _ _ h]
    by_cases h2 : b < n
    · rw [rfU_lt h2, rfU_lt (by omega)]
      simp [h]
    · rw [rfU_ge (by omega), rfU_ge (by omega)]
def F00 : FF := fun a _ => if a = 21 then 1 else 0
theorem rfU_0 {ad : Nat → Nat} : rfU ad 0 = fun _ => none := by
  funext b
  exact rfU_ge (Nat.zero_le _)
