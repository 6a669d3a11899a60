theorem U_end {E : wEn} {F G : FF} {AD : AT} {w w2 : wW} {i : Nat} (hs : wSys E F AD w) (hi : i < F 24 0) (hb : F 24 0 ≤ 8) (hz : G 5 i = 0) (hG : ∀ a b, ¬ (a = 21 ∨ (b = i ∧ (a = 4 ∨ a = 5 ∨ a = 9))) → G a b = F a b) (ha : w2 (AD 0 i) = some (e_route G AD i)) (ho : ∀ b, b ≠ AD 0 i → w2 b = w b) : wSys E G AD w2 := by
  have e24 : ∀ b, G 24 b = F 24 b := fun b => hG 24 b (by omega)
  have hold := hs.ro hi
  unfold wSys
  simp only [e_x, e_log, e24]
  refine ⟨?_, ?_, ?_, ?_, ?_, ?_, ?_, ?_, ?_, ?_, ?_, hs.2.2.2.2.2.2.2.2.2.2.2⟩
  · rw [ho _ (wne hs.x hold (Nat.ne_of_beq_eq_false rfl))]
    exact hs.x
  · rw [ho _ (wne hs.aR hold (Nat.ne_of_beq_eq_false rfl))]
    exact hs.aR
  · rw [ho _ (wne hs.aP hold (Nat.ne_of_beq_eq_false rfl))]
    exact hs.aP
  · rw [ho _ (wne hs.aC hold (Nat.ne_of_beq_eq_false rfl))]
    exact hs.aC
  · rw [ho _ (wne hs.log hold (Nat.ne_of_beq_eq_false rfl))]
    exact hs.log
  · rw [ho _ (wne hs.aE hold (Nat.ne_of_beq_eq_false rfl))]
    exact hs.aE
  · intro j hj
    by_cases hji : j = i
    · subst hji
      exact ha
    · rw [ho _ (fun q => hji (nI_inj8 (by omega) (hs.ro hj) (hs.ro hi) q)), show e_route G AD j = e_route F AD j from by simp only [e_route, hG 0 j (by omega), hG 1 j (by omega), hG 2 j (by omega), hG 3 j (by omega), hG 4 j (by omega), hG 5 j (by omega)]]
      exact hs.ro hj
  · intro j hj h5
    have hji : j ≠ i := fun q => h5 (by rw [q]; exact hz)
    rw [hG 5 j (by omega)] at h5
    rw [ho _ (wne (hs.ca hj h5) hold (Nat.ne_of_beq_eq_false rfl)), show e_can G j = e_can F j from by simp only [e_can, hG 22 j (by omega), hG 6 j (by omega), hG 8 j (by omega), hG 7 j (by omega), hG 9 j (by omega)]]
    exact hs.ca hj h5
  · intro j hj
    rw [ho _ (wne (hs.pl hj) hold (Nat.ne_of_beq_eq_false rfl)), show e_plan G j = e_plan F j from by simp only [e_plan, hG 10 j (by omega), hG 11 j (by omega), hG 12 j (by omega)]]
    exact hs.pl hj
  · intro j hj
    rw [ho _ (wne (hs.cl hj) hold (Nat.ne_of_beq_eq_false rfl)), show e_caller G AD j = e_caller F AD j from by simp only [e_caller, hG 13 j (by omega), hG 14 j (by omega), hG 15 j (by omega)]]
    exact hs.cl hj
  · intro j hj
    rw [ho _ (wne (hs.en hj) hold (Nat.ne_of_beq_eq_false rfl)), show e_entry G AD j = e_entry F AD j from by simp only [e_entry, hG 16 j (by omega), hG 17 j (by omega), hG 18 j (by omega), hG 19 j (by omega), hG 23 j (by omega), hG 20 j (by omega)]]
    exact hs.en hj

theorem U_beg {E : wEn} {F G : FF} {AD : AT} {w w2 : wW} {i q : Nat} (hs : wSys E F AD w) (hi : i < F 24 0) (hb : F 24 0 ≤ 8) (hq : w q = none) (hG : ∀ a b, ¬ (a = 21 ∨ (b = i ∧ (a = 5 ∨ a = 6 ∨ a = 7 ∨ a = 8 ∨ a = 9 ∨ a = 22)) ∨ (a = 24 ∧ b = 4)) → G a b = F a b)
    (hx2 : w2 (AD 5 0) = some (e_x G AD)) (hr2 : w2 (AD 0 i) = some (e_route G (fU AD 4 i q) i)) (hc2 : w2 q = some (e_can G i)) (ho : ∀ b, b ≠ q → b ≠ AD 0 i → b ≠ AD 5 0 → w2 b = w b) : wSys E G (fU AD 4 i q) w2 := by
  have e0 := hG 24 0 (by omega)
  have e1 := hG 24 1 (by omega)
  have e2 := hG 24 2 (by omega)
  have e3 := hG 24 3 (by omega)
  have hold := hs.ro hi
  have hox := hs.x
  have aq : ∀ a b, a ≠ 4 → fU AD 4 i q a b = AD a b := fun a b h => fU_k h
  have a5 : ∀ b, fU AD 4 i q 5 b = AD 5 b := fun b => fU_k (by decide)
  have a0 : fU AD 4 i q 0 = AD 0 := funext fun b => fU_k (by decide)
  have a1 : fU AD 4 i q 1 = AD 1 := funext fun b => fU_k (by decide)
  have a2 : fU AD 4 i q 2 = AD 2 := funext fun b => fU_k (by decide)
  have a3 : fU AD 4 i q 3 = AD 3 := funext fun b => fU_k (by decide)
  unfold wSys
  simp only [a5, a0, a1, a2, a3, e_log, e0, e1, e2, e3]
  refine ⟨?_, ?_, ?_, ?_, ?_, ?_, ?_, ?_, ?_, ?_, ?_, hs.2.2.2.2.2.2.2.2.2.2.2⟩
  · have h : e_x G (fU AD 4 i q) = e_x G AD := by simp only [e_x, a5]
    rw [h]
    exact hx2
  · rw [ho _ (wne_f hq hs.aR) (wne hs.aR hold (Nat.ne_of_beq_eq_false rfl)) (wne hs.aR hox (Nat.ne_of_beq_eq_false rfl))]
    exact hs.aR
  · rw [ho _ (wne_f hq hs.aP) (wne hs.aP hold (Nat.ne_of_beq_eq_false rfl)) (wne hs.aP hox (Nat.ne_of_beq_eq_false rfl))]
    exact hs.aP
  · rw [ho _ (wne_f hq hs.aC) (wne hs.aC hold (Nat.ne_of_beq_eq_false rfl)) (wne hs.aC hox (Nat.ne_of_beq_eq_false rfl))]
    exact hs.aC
  · rw [ho _ (wne_f hq hs.log) (wne hs.log hold (Nat.ne_of_beq_eq_false rfl)) (wne hs.log hox (Nat.ne_of_beq_eq_false rfl))]
    exact hs.log
  · rw [ho _ (wne_f hq hs.aE) (wne hs.aE hold (Nat.ne_of_beq_eq_false rfl)) (wne hs.aE hox (Nat.ne_of_beq_eq_false rfl))]
    exact hs.aE
  · intro j hj
    by_cases hji : j = i
    · subst hji
      exact hr2
    · rw [ho _ (wne_f hq (hs.ro hj)) (fun q => hji (nI_inj8 (by omega) (hs.ro hj) (hs.ro hi) q)) (wne (hs.ro hj) hox (Nat.ne_of_beq_eq_false rfl)), show e_route G (fU AD 4 i q) j = e_route F AD j from by simp only [e_route, hG 0 j (by omega), hG 1 j (by omega), hG 2 j (by omega), hG 3 j (by omega), hG 4 j (by omega), hG 5 j (by omega), fU_i (F := AD) (k := 4) (v := q) (a := 4) hji]]
      exact hs.ro hj
  · intro j hj h5
    by_cases hji : j = i
    · subst hji
      rw [fU_s]
      exact hc2
    · rw [hG 5 j (by omega)] at h5
      rw [fU_i hji, ho _ (wne_f hq (hs.ca hj h5)) (wne (hs.ca hj h5) hold (Nat.ne_of_beq_eq_false rfl)) (wne (hs.ca hj h5) hox (Nat.ne_of_beq_eq_false rfl)), show e_can G j = e_can F j from by simp only [e_can, hG 22 j (by omega), hG 6 j (by omega), hG 8 j (by omega), hG 7 j (by omega), hG 9 j (by omega)]]
      exact hs.ca hj h5
  · intro j hj
    rw [ho _ (wne_f hq (hs.pl hj)) (wne (hs.pl hj) hold (Nat.ne_of_beq_eq_false rfl)) (wne (hs.pl hj) hox (Nat.ne_of_beq_eq_false rfl)), show e_plan G j = e_plan F j from by simp only [e_plan, hG 10 j (by omega), hG 11 j (by omega), hG 12 j (by omega), aq 1 _ (by decide), aq 2 _ (by decide)]]
    exact hs.pl hj
  · intro j hj
    rw [ho _ (wne_f hq (hs.cl hj)) (wne (hs.cl hj) hold (Nat.ne_of_beq_eq_false rfl)) (wne (hs.cl hj) hox (Nat.ne_of_beq_eq_false rfl)), show e_caller G (fU AD 4 i q) j = e_caller F AD j from by simp only [e_caller, hG 13 j (by omega), hG 14 j (by omega), hG 15 j (by omega), aq 1 _ (by decide), aq 2 _ (by decide)]]
    exact hs.cl hj
  · intro j hj
    rw [ho _ (wne_f hq (hs.en hj)) (wne (hs.en hj) hold (Nat.ne_of_beq_eq_false rfl)) (wne (hs.en hj) hox (Nat.ne_of_beq_eq_false rfl)), show e_entry G (fU AD 4 i q) j = e_entry F AD j from by simp only [e_entry, hG 16 j (by omega), hG 17 j (by omega), hG 18 j (by omega), hG 19 j (by omega), hG 23 j (by omega), hG 20 j (by omega), aq 1 _ (by decide), aq 2 _ (by decide)]]
    exact hs.en hj

theorem obj_len {w : wW} {a b n m : Nat} {c1 c2 : ClassId} {f g : (Nat → Int32) ⊕ (Nat → Int64) ⊕ (Nat → UInt32) ⊕ (Nat → UInt64) ⊕ (Nat → Option Nat)} (h1 : w a = some (.inl (c1, n, f))) (h2 : w b = some (.inl (c2, m, g))) (e : a = b) : n = m := by
  subst e
  rw [h1] at h2
  have h3 := Option.some.inj h2
  have h4 := Sum.inl.inj h3
  exact congrArg (fun q => q.2.1) h4

theorem U_aro {E : wEn} {F G : FF} {AD : AT} {w w2 : wW} {q : Nat} (hs : wSys E F AD w) (hq : w q = none) (hc : G 24 0 = F 24 0 + 1) (hz : G 5 (F 24 0) = 0) (hG : ∀ a b, ¬ (a = 21 ∨ (b = F 24 0 ∧ (a = 0 ∨ a = 1 ∨ a = 2 ∨ a = 3)) ∨ (a = 24 ∧ b = 0)) → G a b = F a b)
    (hx2 : w2 (AD 5 0) = some (e_x G AD)) (ha2 : w2 (AD 5 1) = some (e_q E 4 8 (rfU (fun b => if b = F 24 0 then q else AD 0 b) (F 24 0 + 1)))) (hn2 : w2 q = some (e_route G AD (F 24 0))) (ho : ∀ b, b ≠ q → b ≠ AD 5 1 → b ≠ AD 5 0 → w2 b = w b) : wSys E G (fU AD 0 (F 24 0) q) w2 := by
  have e1 := hG 24 1 (by omega)
  have e2 := hG 24 2 (by omega)
  have e3 := hG 24 3 (by omega)
  have hold := hs.aR
  have hox := hs.x
  have aq : ∀ a b, a ≠ 0 → (fU AD 0 (F 24 0) q) a b = AD a b := fun a b h => fU_k h
  have a5 : ∀ b, (fU AD 0 (F 24 0) q) 5 b = AD 5 b := fun b => fU_k (by decide)
  have a4 : ∀ b, (fU AD 0 (F 24 0) q) 4 b = AD 4 b := fun b => fU_k (by decide)
  have a1 : (fU AD 0 (F 24 0) q) 1 = AD 1 := funext fun b => fU_k (by decide)
  have a2 : (fU AD 0 (F 24 0) q) 2 = AD 2 := funext fun b => fU_k (by decide)
  have a3 : (fU AD 0 (F 24 0) q) 3 = AD 3 := funext fun b => fU_k (by decide)
  have ak : (fU AD 0 (F 24 0) q) 0 = (fun b => if b = F 24 0 then q else AD 0 b) := by
    funext b
    by_cases h : b = F 24 0
    · subst h
      rw [fU_s, if_pos rfl]
    · rw [fU_i h, if_neg h]
  unfold wSys
  simp only [a5, a1, a2, a3, ak, e_log, hc, e1, e2, e3]
  refine ⟨?_, ?_, ?_, ?_, ?_, ?_, ?_, ?_, ?_, ?_, ?_, hs.2.2.2.2.2.2.2.2.2.2.2⟩
  · have h : e_x G (fU AD 0 (F 24 0) q) = e_x G AD := by simp only [e_x, a5]
    rw [h]
    exact hx2
  · exact ha2
  · rw [ho _ (wne_f hq hs.aP) (fun h => by have := obj_len hs.aP hold h; omega) (wne hs.aP hox (Nat.ne_of_beq_eq_false rfl))]
    exact hs.aP
  · rw [ho _ (wne_f hq hs.aC) (fun h => by have := obj_len hs.aC hold h; omega) (wne hs.aC hox (Nat.ne_of_beq_eq_false rfl))]
    exact hs.aC
  · rw [ho _ (wne_f hq hs.log) (wne hs.log hold (Nat.ne_of_beq_eq_false rfl)) (wne hs.log hox (Nat.ne_of_beq_eq_false rfl))]
    exact hs.log
  · rw [ho _ (wne_f hq hs.aE) (fun h => by have := obj_len hs.aE hold h; omega) (wne hs.aE hox (Nat.ne_of_beq_eq_false rfl))]
    exact hs.aE
  · intro j hj
    by_cases hjn : j = F 24 0
    · subst hjn
      rw [if_pos rfl]
      exact hn2
    · have hj : j < F 24 0 := by omega
      rw [if_neg hjn, ho _ (wne_f hq (hs.ro hj)) (wne (hs.ro hj) hold (Nat.ne_of_beq_eq_false rfl)) (wne (hs.ro hj) hox (Nat.ne_of_beq_eq_false rfl)), show e_route G (fU AD 0 (F 24 0) q) j = e_route F AD j from by simp only [e_route, hG 0 j (by omega), hG 1 j (by omega), hG 2 j (by omega), hG 3 j (by omega), hG 4 j (by omega), hG 5 j (by omega), a4, aq 1 _ (by decide), aq 2 _ (by decide)]]
      exact hs.ro hj
  · intro j hj h5
    have hjn : j ≠ F 24 0 := fun h => h5 (by rw [h]; exact hz)
    have hj : j < F 24 0 := by omega
    rw [hG 5 j (by omega)] at h5
    rw [a4, ho _ (wne_f hq (hs.ca hj h5)) (wne (hs.ca hj h5) hold (Nat.ne_of_beq_eq_false rfl)) (wne (hs.ca hj h5) hox (Nat.ne_of_beq_eq_false rfl)), show e_can G j = e_can F j from by simp only [e_can, hG 22 j (by omega), hG 6 j (by omega), hG 8 j (by omega), hG 7 j (by omega), hG 9 j (by omega)]]
    exact hs.ca hj h5
  · intro j hj
    rw [ho _ (wne_f hq (hs.pl hj)) (wne (hs.pl hj) hold (Nat.ne_of_beq_eq_false rfl)) (wne (hs.pl hj) hox (Nat.ne_of_beq_eq_false rfl)), show e_plan G j = e_plan F j from by simp only [e_plan, hG 10 j (by omega), hG 11 j (by omega), hG 12 j (by omega), a4, aq 1 _ (by decide), aq 2 _ (by decide)]]
    exact hs.pl hj
  · intro j hj
    rw [ho _ (wne_f hq (hs.cl hj)) (wne (hs.cl hj) hold (Nat.ne_of_beq_eq_false rfl)) (wne (hs.cl hj) hox (Nat.ne_of_beq_eq_false rfl)), show e_caller G (fU AD 0 (F 24 0) q) j = e_caller F AD j from by simp only [e_caller, hG 13 j (by omega), hG 14 j (by omega), hG 15 j (by omega), a4, aq 1 _ (by decide), aq 2 _ (by decide)]]
    exact hs.cl hj
  · intro j hj
    rw [ho _ (wne_f hq (hs.en hj)) (wne (hs.en hj) hold (Nat.ne_of_beq_eq_false rfl)) (wne (hs.en hj) hox (Nat.ne_of_beq_eq_false rfl)), show e_entry G (fU AD 0 (F 24 0) q) j = e_entry F AD j from by simp only [e_entry, hG 16 j (by omega), hG 17 j (by omega), hG 18 j (by omega), hG 19 j (by omega), hG 23 j (by omega), hG 20 j (by omega), a4, aq 1 _ (by decide), aq 2 _ (by decide)]]
    exact hs.en hj

theorem U_apl {E : wEn} {F G : FF} {AD : AT} {w w2 : wW} {q : Nat} (hs : wSys E F AD w) (hq : w q = none) (hpl : ∀ j, j < F 24 2 → F 13 j < F 24 1) (hc : G 24 1 = F 24 1 + 1) (hG : ∀ a b, ¬ (a = 21 ∨ (b = F 24 1 ∧ (a = 10 ∨ a = 11 ∨ a = 12)) ∨ (a = 24 ∧ b = 1)) → G a b = F a b)
    (hx2 : w2 (AD 5 0) = some (e_x G AD)) (ha2 : w2 (AD 5 2) = some (e_q E 5 3 (rfU (fun b => if b = F 24 1 then q else AD 1 b) (F 24 1 + 1)))) (hn2 : w2 q = some (e_plan G (F 24 1))) (ho : ∀ b, b ≠ q → b ≠ AD 5 2 → b ≠ AD 5 0 → w2 b = w b) : wSys E G (fU AD 1 (F 24 1) q) w2 := by
  have e0 := hG 24 0 (by omega)
  have e2 := hG 24 2 (by omega)
  have e3 := hG 24 3 (by omega)
  have hold := hs.aP
  have hox := hs.x
  have aq : ∀ a b, a ≠ 1 → (fU AD 1 (F 24 1) q) a b = AD a b := fun a b h => fU_k h
  have a5 : ∀ b, (fU AD 1 (F 24 1) q) 5 b = AD 5 b := fun b => fU_k (by decide)
  have a4 : ∀ b, (fU AD 1 (F 24 1) q) 4 b = AD 4 b := fun b => fU_k (by decide)
  have a0 : (fU AD 1 (F 24 1) q) 0 = AD 0 := funext fun b => fU_k (by decide)
  have a2 : (fU AD 1 (F 24 1) q) 2 = AD 2 := funext fun b => fU_k (by decide)
  have a3 : (fU AD 1 (F 24 1) q) 3 = AD 3 := funext fun b => fU_k (by decide)
  have ak : (fU AD 1 (F 24 1) q) 1 = (fun b => if b = F 24 1 then q else AD 1 b) := by
    funext b
    by_cases h : b = F 24 1
    · subst h
      rw [fU_s, if_pos rfl]
    · rw [fU_i h, if_neg h]
  unfold wSys
  simp only [a5, a0, a2, a3, ak, e_log, hc, e0, e2, e3]
  refine ⟨?_, ?_, ?_, ?_, ?_, ?_, ?_, ?_, ?_, ?_, ?_, hs.2.2.2.2.2.2.2.2.2.2.2⟩
  · have h : e_x G (fU AD 1 (F 24 1) q) = e_x G AD := by simp only [e_x, a5]
    rw [h]
    exact hx2
  · rw [ho _ (wne_f hq hs.aR) (fun h => by have := obj_len hs.aR hold h; omega) (wne hs.aR hox (Nat.ne_of_beq_eq_false rfl))]
    exact hs.aR
  · exact ha2
  · rw [ho _ (wne_f hq hs.aC) (fun h => by have := obj_len hs.aC hold h; omega) (wne hs.aC hox (Nat.ne_of_beq_eq_false rfl))]
    exact hs.aC
  · rw [ho _ (wne_f hq hs.log) (wne hs.log hold (Nat.ne_of_beq_eq_false rfl)) (wne hs.log hox (Nat.ne_of_beq_eq_false rfl))]
    exact hs.log
  · rw [ho _ (wne_f hq hs.aE) (fun h => by have := obj_len hs.aE hold h; omega) (wne hs.aE hox (Nat.ne_of_beq_eq_false rfl))]
    exact hs.aE
  · intro j hj
    rw [ho _ (wne_f hq (hs.ro hj)) (wne (hs.ro hj) hold (Nat.ne_of_beq_eq_false rfl)) (wne (hs.ro hj) hox (Nat.ne_of_beq_eq_false rfl)), show e_route G (fU AD 1 (F 24 1) q) j = e_route F AD j from by simp only [e_route, hG 0 j (by omega), hG 1 j (by omega), hG 2 j (by omega), hG 3 j (by omega), hG 4 j (by omega), hG 5 j (by omega), a4, aq 2 _ (by decide)]]
    exact hs.ro hj
  · intro j hj h5
    rw [hG 5 j (by omega)] at h5
    rw [a4, ho _ (wne_f hq (hs.ca hj h5)) (wne (hs.ca hj h5) hold (Nat.ne_of_beq_eq_false rfl)) (wne (hs.ca hj h5) hox (Nat.ne_of_beq_eq_false rfl)), show e_can G j = e_can F j from by simp only [e_can, hG 22 j (by omega), hG 6 j (by omega), hG 8 j (by omega), hG 7 j (by omega), hG 9 j (by omega)]]
    exact hs.ca hj h5
  · intro j hj
    by_cases hjn : j = F 24 1
    · subst hjn
      rw [if_pos rfl]
      exact hn2
    · have hj : j < F 24 1 := by omega
      rw [if_neg hjn, ho _ (wne_f hq (hs.pl hj)) (wne (hs.pl hj) hold (Nat.ne_of_beq_eq_false rfl)) (wne (hs.pl hj) hox (Nat.ne_of_beq_eq_false rfl)), show e_plan G j = e_plan F j from by simp only [e_plan, hG 10 j (by omega), hG 11 j (by omega), hG 12 j (by omega), a4, aq 2 _ (by decide)]]
      exact hs.pl hj
  · intro j hj
    rw [ho _ (wne_f hq (hs.cl hj)) (wne (hs.cl hj) hold (Nat.ne_of_beq_eq_false rfl)) (wne (hs.cl hj) hox (Nat.ne_of_beq_eq_false rfl)), show e_caller G (fU AD 1 (F 24 1) q) j = e_caller F AD j from by simp only [e_caller, hG 13 j (by omega), hG 14 j (by omega), hG 15 j (by omega), fU_i (F := AD) (k := 1) (v := q) (a := 1) (i := F 24 1) (b := F 13 j) (by have := hpl j hj; omega)]]
    exact hs.cl hj
  · intro j hj
    rw [ho _ (wne_f hq (hs.en hj)) (wne (hs.en hj) hold (Nat.ne_of_beq_eq_false rfl)) (wne (hs.en hj) hox (Nat.ne_of_beq_eq_false rfl)), show e_entry G (fU AD 1 (F 24 1) q) j = e_entry F AD j from by simp only [e_entry, hG 16 j (by omega), hG 17 j (by omega), hG 18 j (by omega), hG 19 j (by omega), hG 23 j (by omega), hG 20 j (by omega), a4, aq 2 _ (by decide)]]
    exact hs.en hj

theorem U_acl {E : wEn} {F G : FF} {AD : AT} {w w2 : wW} {q : Nat} (hs : wSys E F AD w) (hq : w q = none) (hen : ∀ j, j < F 24 3 → F 16 j < F 24 2) (hc : G 24 2 = F 24 2 + 1) (hG : ∀ a b, ¬ (a = 21 ∨ (b = F 24 2 ∧ (a = 13 ∨ a = 14 ∨ a = 15)) ∨ (a = 24 ∧ b = 2)) → G a b = F a b)
    (hx2 : w2 (AD 5 0) = some (e_x G AD)) (ha2 : w2 (AD 5 3) = some (e_q E 6 6 (rfU (fun b => if b = F 24 2 then q else AD 2 b) (F 24 2 + 1)))) (hn2 : w2 q = some (e_caller G AD (F 24 2))) (ho : ∀ b, b ≠ q → b ≠ AD 5 3 → b ≠ AD 5 0 → w2 b = w b) : wSys E G (fU AD 2 (F 24 2) q) w2 := by
  have e0 := hG 24 0 (by omega)
  have e1 := hG 24 1 (by omega)
  have e3 := hG 24 3 (by omega)
  have hold := hs.aC
  have hox := hs.x
  have aq : ∀ a b, a ≠ 2 → (fU AD 2 (F 24 2) q) a b = AD a b := fun a b h => fU_k h
  have a5 : ∀ b, (fU AD 2 (F 24 2) q) 5 b = AD 5 b := fun b => fU_k (by decide)
  have a4 : ∀ b, (fU AD 2 (F 24 2) q) 4 b = AD 4 b := fun b => fU_k (by decide)
  have a0 : (fU AD 2 (F 24 2) q) 0 = AD 0 := funext fun b => fU_k (by decide)
  have a1 : (fU AD 2 (F 24 2) q) 1 = AD 1 := funext fun b => fU_k (by decide)
  have a3 : (fU AD 2 (F 24 2) q) 3 = AD 3 := funext fun b => fU_k (by decide)
  have ak : (fU AD 2 (F 24 2) q) 2 = (fun b => if b = F 24 2 then q else AD 2 b) := by
    funext b
    by_cases h : b = F 24 2
    · subst h
      rw [fU_s, if_pos rfl]
    · rw [fU_i h, if_neg h]
  unfold wSys
  simp only [a5, a0, a1, a3, ak, e_log, hc, e0, e1, e3]
  refine ⟨?_, ?_, ?_, ?_, ?_, ?_, ?_, ?_, ?_, ?_, ?_, hs.2.2.2.2.2.2.2.2.2.2.2⟩
  · have h : e_x G (fU AD 2 (F 24 2) q) = e_x G AD := by simp only [e_x, a5]
    rw [h]
    exact hx2
  · rw [ho _ (wne_f hq hs.aR) (fun h => by have := obj_len hs.aR hold h; omega) (wne hs.aR hox (Nat.ne_of_beq_eq_false rfl))]
    exact hs.aR
  · rw [ho _ (wne_f hq hs.aP) (fun h => by have := obj_len hs.aP hold h; omega) (wne hs.aP hox (Nat.ne_of_beq_eq_false rfl))]
    exact hs.aP
  · exact ha2
  · rw [ho _ (wne_f hq hs.log) (wne hs.log hold (Nat.ne_of_beq_eq_false rfl)) (wne hs.log hox (Nat.ne_of_beq_eq_false rfl))]
    exact hs.log
  · rw [ho _ (wne_f hq hs.aE) (fun h => by have := obj_len hs.aE hold h; omega) (wne hs.aE hox (Nat.ne_of_beq_eq_false rfl))]
    exact hs.aE
  · intro j hj
    rw [ho _ (wne_f hq (hs.ro hj)) (wne (hs.ro hj) hold (Nat.ne_of_beq_eq_false rfl)) (wne (hs.ro hj) hox (Nat.ne_of_beq_eq_false rfl)), show e_route G (fU AD 2 (F 24 2) q) j = e_route F AD j from by simp only [e_route, hG 0 j (by omega), hG 1 j (by omega), hG 2 j (by omega), hG 3 j (by omega), hG 4 j (by omega), hG 5 j (by omega), a4, aq 1 _ (by decide)]]
    exact hs.ro hj
  · intro j hj h5
    rw [hG 5 j (by omega)] at h5
    rw [a4, ho _ (wne_f hq (hs.ca hj h5)) (wne (hs.ca hj h5) hold (Nat.ne_of_beq_eq_false rfl)) (wne (hs.ca hj h5) hox (Nat.ne_of_beq_eq_false rfl)), show e_can G j = e_can F j from by simp only [e_can, hG 22 j (by omega), hG 6 j (by omega), hG 8 j (by omega), hG 7 j (by omega), hG 9 j (by omega)]]
    exact hs.ca hj h5
  · intro j hj
    rw [ho _ (wne_f hq (hs.pl hj)) (wne (hs.pl hj) hold (Nat.ne_of_beq_eq_false rfl)) (wne (hs.pl hj) hox (Nat.ne_of_beq_eq_false rfl)), show e_plan G j = e_plan F j from by simp only [e_plan, hG 10 j (by omega), hG 11 j (by omega), hG 12 j (by omega), a4, aq 1 _ (by decide)]]
    exact hs.pl hj
  · intro j hj
    by_cases hjn : j = F 24 2
    · subst hjn
      rw [if_pos rfl]
      exact hn2
    · have hj : j < F 24 2 := by omega
      rw [if_neg hjn, ho _ (wne_f hq (hs.cl hj)) (wne (hs.cl hj) hold (Nat.ne_of_beq_eq_false rfl)) (wne (hs.cl hj) hox (Nat.ne_of_beq_eq_false rfl)), show e_caller G (fU AD 2 (F 24 2) q) j = e_caller F AD j from by simp only [e_caller, hG 13 j (by omega), hG 14 j (by omega), hG 15 j (by omega), a4, aq 1 _ (by decide)]]
      exact hs.cl hj
  · intro j hj
    rw [ho _ (wne_f hq (hs.en hj)) (wne (hs.en hj) hold (Nat.ne_of_beq_eq_false rfl)) (wne (hs.en hj) hox (Nat.ne_of_beq_eq_false rfl)), show e_entry G (fU AD 2 (F 24 2) q) j = e_entry F AD j from by simp only [e_entry, hG 16 j (by omega), hG 17 j (by omega), hG 18 j (by omega), hG 19 j (by omega), hG 23 j (by omega), hG 20 j (by omega), fU_i (F := AD) (k := 2) (v := q) (a := 2) (i := F 24 2) (b := F 16 j) (by have := hen j hj; omega)]]
    exact hs.en hj

theorem U_aen {E : wEn} {F G : FF} {AD : AT} {w w2 : wW} {q c : Nat} (hs : wSys E F AD w) (hq : w q = none) (hcc : c < F 24 2) (hb : F 24 2 ≤ 6) (hc : G 24 3 = F 24 3 + 1) (hG : ∀ a b, ¬ (a = 21 ∨ (b = F 24 3 ∧ (a = 16 ∨ a = 17 ∨ a = 18 ∨ a = 19 ∨ a = 20 ∨ a = 23)) ∨ (b = c ∧ (a = 14 ∨ a = 15)) ∨ (a = 24 ∧ b = 3)) → G a b = F a b) (h16 : G 16 (F 24 3) = c)
    (hc2 : w2 (AD 2 c) = some (e_caller G AD c)) (hl2 : w2 (AD 5 4) = some (e_log G AD)) (ha2 : w2 (AD 5 5) = some (e_q E 7 512 (rfU (fun b => if b = F 24 3 then q else AD 3 b) (F 24 3 + 1)))) (hn2 : w2 q = some (e_entry G AD (F 24 3))) (ho : ∀ b, b ≠ q → b ≠ AD 2 c → b ≠ AD 5 5 → b ≠ AD 5 4 → w2 b = w b) : wSys E G (fU AD 3 (F 24 3) q) w2 := by
  have e0 := hG 24 0 (by omega)
  have e1 := hG 24 1 (by omega)
  have e2 := hG 24 2 (by omega)
  have e4 := hG 24 4 (by omega)
  have hoc := hs.cl hcc
  have hoa := hs.aE
  have hol := hs.log
  have a5 : ∀ b, fU AD 3 (F 24 3) q 5 b = AD 5 b := fun b => fU_k (by decide)
  have a4 : ∀ b, fU AD 3 (F 24 3) q 4 b = AD 4 b := fun b => fU_k (by decide)
  have aq : ∀ a b, a ≠ 3 → fU AD 3 (F 24 3) q a b = AD a b := fun a b h => fU_k h
  have a0 : fU AD 3 (F 24 3) q 0 = AD 0 := funext fun b => fU_k (by decide)
  have a1 : fU AD 3 (F 24 3) q 1 = AD 1 := funext fun b => fU_k (by decide)
  have a2 : fU AD 3 (F 24 3) q 2 = AD 2 := funext fun b => fU_k (by decide)
  have ak : fU AD 3 (F 24 3) q 3 = (fun b => if b = F 24 3 then q else AD 3 b) := by
    funext b
    by_cases h : b = F 24 3
    · subst h
      rw [fU_s, if_pos rfl]
    · rw [fU_i h, if_neg h]
  unfold wSys
  simp only [a5, a0, a1, a2, ak, hc, e0, e1, e2]
  refine ⟨?_, ?_, ?_, ?_, ?_, ?_, ?_, ?_, ?_, ?_, ?_, ?_⟩
  · rw [ho _ (wne_f hq hs.x) (wne hs.x hoc (Nat.ne_of_beq_eq_false rfl)) (wne hs.x hoa (Nat.ne_of_beq_eq_false rfl)) (wne hs.x hol (Nat.ne_of_beq_eq_false rfl))]
    have h : e_x G (fU AD 3 (F 24 3) q) = e_x F AD := by simp only [e_x, a5, e0, e1, e2, e4]
    rw [h]
    exact hs.x
  · rw [ho _ (wne_f hq hs.aR) (wne hs.aR hoc (Nat.ne_of_beq_eq_false rfl)) (fun h => by have := obj_len hs.aR hoa h; omega) (wne hs.aR hol (Nat.ne_of_beq_eq_false rfl))]
    exact hs.aR
  · rw [ho _ (wne_f hq hs.aP) (wne hs.aP hoc (Nat.ne_of_beq_eq_false rfl)) (fun h => by have := obj_len hs.aP hoa h; omega) (wne hs.aP hol (Nat.ne_of_beq_eq_false rfl))]
    exact hs.aP
  · rw [ho _ (wne_f hq hs.aC) (wne hs.aC hoc (Nat.ne_of_beq_eq_false rfl)) (fun h => by have := obj_len hs.aC hoa h; omega) (wne hs.aC hol (Nat.ne_of_beq_eq_false rfl))]
    exact hs.aC
  · have h : e_log G (fU AD 3 (F 24 3) q) = e_log G AD := by simp only [e_log, a5]
    rw [h]
    exact hl2
  · exact ha2
  · intro j hj
    rw [ho _ (wne_f hq (hs.ro hj)) (wne (hs.ro hj) hoc (Nat.ne_of_beq_eq_false rfl)) (wne (hs.ro hj) hoa (Nat.ne_of_beq_eq_false rfl)) (wne (hs.ro hj) hol (Nat.ne_of_beq_eq_false rfl)), show e_route G (fU AD 3 (F 24 3) q) j = e_route F AD j from by simp only [e_route, hG 0 j (by omega), hG 1 j (by omega), hG 2 j (by omega), hG 3 j (by omega), hG 4 j (by omega), hG 5 j (by omega), a4]]
    exact hs.ro hj
  · intro j hj h5
    rw [hG 5 j (by omega)] at h5
    rw [a4, ho _ (wne_f hq (hs.ca hj h5)) (wne (hs.ca hj h5) hoc (Nat.ne_of_beq_eq_false rfl)) (wne (hs.ca hj h5) hoa (Nat.ne_of_beq_eq_false rfl)) (wne (hs.ca hj h5) hol (Nat.ne_of_beq_eq_false rfl)), show e_can G j = e_can F j from by simp only [e_can, hG 22 j (by omega), hG 6 j (by omega), hG 8 j (by omega), hG 7 j (by omega), hG 9 j (by omega)]]
    exact hs.ca hj h5
  · intro j hj
    rw [ho _ (wne_f hq (hs.pl hj)) (wne (hs.pl hj) hoc (Nat.ne_of_beq_eq_false rfl)) (wne (hs.pl hj) hoa (Nat.ne_of_beq_eq_false rfl)) (wne (hs.pl hj) hol (Nat.ne_of_beq_eq_false rfl)), show e_plan G j = e_plan F j from by simp only [e_plan, hG 10 j (by omega), hG 11 j (by omega), hG 12 j (by omega)]]
    exact hs.pl hj
  · intro j hj
    by_cases hji : j = c
    · subst hji
      have h : e_caller G (fU AD 3 (F 24 3) q) j = e_caller G AD j := by simp only [e_caller, aq 1 _ (by decide)]
      rw [h]
      exact hc2
    · rw [ho _ (wne_f hq (hs.cl hj)) (fun q => hji (nI_inj8 (by omega) (hs.cl hj) hoc q)) (wne (hs.cl hj) hoa (Nat.ne_of_beq_eq_false rfl)) (wne (hs.cl hj) hol (Nat.ne_of_beq_eq_false rfl)), show e_caller G (fU AD 3 (F 24 3) q) j = e_caller F AD j from by simp only [e_caller, hG 13 j (by omega), hG 14 j (by omega), hG 15 j (by omega), aq 1 _ (by decide)]]
      exact hs.cl hj
  · intro j hj
    by_cases hjn : j = F 24 3
    · subst hjn
      rw [if_pos rfl]
      have h : e_entry G (fU AD 3 (F 24 3) q) (F 24 3) = e_entry G AD (F 24 3) := by simp only [e_entry, aq 2 _ (by decide)]
      rw [h]
      exact hn2
    · have hj : j < F 24 3 := by omega
      rw [if_neg hjn, ho _ (wne_f hq (hs.en hj)) (wne (hs.en hj) hoc (Nat.ne_of_beq_eq_false rfl)) (wne (hs.en hj) hoa (Nat.ne_of_beq_eq_false rfl)) (wne (hs.en hj) hol (Nat.ne_of_beq_eq_false rfl)), show e_entry G (fU AD 3 (F 24 3) q) j = e_entry F AD j from by simp only [e_entry, hG 16 j (by omega), hG 17 j (by omega), hG 18 j (by omega), hG 19 j (by omega), hG 23 j (by omega), hG 20 j (by omega), aq 2 _ (by decide)]]
      exact hs.en hj
  · intro i j hi hj h
    by_cases h1 : i = F 24 3
    · by_cases h2 : j = F 24 3
      · omega
      · rw [if_pos h1, if_neg h2] at h
        exact absurd h.symm (wne_f hq (hs.en (by omega)))
    · by_cases h2 : j = F 24 3
      · rw [if_neg h1, if_pos h2] at h
        exact absurd h (wne_f hq (hs.en (by omega)))
      · rw [if_neg h1, if_neg h2] at h
        exact hs.inj (by omega) (by omega) h
