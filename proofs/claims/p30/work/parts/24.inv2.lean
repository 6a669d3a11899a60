theorem I_mono {F : FF} {N M : Nat} (hI : wInv F N) (h : N ≤ M) (h5 : M ≤ 512) : wInv F M := by
  obtain ⟨⟨h1, h2, h3, h4, h6, h7⟩, hr⟩ := hI
  exact ⟨⟨h1, h2, h3, by omega, by omega, h5⟩, hr⟩
theorem I_F00 : wInv F00 0 := by
  have z : ∀ a b, a ≠ 21 → F00 a b = 0 := fun a b h => if_neg h
  have e : ∀ b, F00 24 b = 0 := fun b => z 24 b (by decide)
  refine ⟨⟨by rw [e]; omega, by rw [e]; omega, by rw [e]; omega, by rw [e]; omega, by rw [e]; omega, by omega⟩, ?_, ?_, ?_, ?_, ?_, ?_, ?_, ?_, ?_, ?_, ?_, ?_, ?_⟩
  · intro i hi; rw [e] at hi; omega
  · intro i hi; rw [e] at hi; omega
  · intro i j hi; rw [e] at hi; omega
  · intro i j hi; rw [e] at hi; omega
  · intro i hi; rw [e] at hi; omega
  · intro i hi; rw [e] at hi; omega
  · intro i hi; rw [e] at hi; omega
  · intro i hi; rw [e] at hi; omega
  · intro i j hi; rw [e] at hi; omega
  · intro i hi; rw [e] at hi; omega
  · intro i hi; exact ⟨z 4 i (by decide), z 5 i (by decide)⟩
  · intro i hi; exact z 15 i (by decide)
  · intro i hi; exact z 20 i (by decide)

theorem I_beg0 {F G : FF} {N : Nat} (hI : wInv F N) {i : Nat} (hN : N < 512) (hi : i < F 24 0) (h5 : F 5 i = 0) (hc : G 24 4 = F 24 4 + 1) (hG : ∀ a b, ¬ ((b = i ∧ (a = 5 ∨ a = 6 ∨ a = 7 ∨ a = 8 ∨ a = 9 ∨ a = 22)) ∨ (a = 24 ∧ b = 4)) → G a b = F a b) (h5G : G 5 i = 1) (h22 : G 22 i = F 24 4) (hb : G 6 i ≤ 999 ∧ 1 ≤ G 7 i ∧ G 7 i ≤ 100 ∧ 1 ≤ G 8 i ∧ G 8 i ≤ 9 ∧ G 9 i < G 8 i) : wInv G (N + 1) := by
  have e0 := hG 24 0 (by omega)
  have e1 := hG 24 1 (by omega)
  have e2 := hG 24 2 (by omega)
  have e3 := hG 24 3 (by omega)
  have e4 := hc
  refine ⟨?_, ?_, ?_, ?_, ?_, ?_, ?_, ?_, ?_, ?_, ?_, ?_, ?_, ?_⟩
  · have h9 := hI.1; exact ⟨by rw [e0]; have h := hI.1.1; omega, by rw [e1]; have h := hI.1.2.1; omega, by rw [e2]; have h := hI.1.2.2.1; omega, by rw [e3]; have h := hI.1.2.2.2.1; omega, by rw [e4]; have h := hI.1.2.2.2.2.1; omega, by omega⟩
  · intro j hj
    rw [e0] at hj
    have h := hI.ro hj
    rw [hG 0 j (by omega), hG 1 j (by omega), hG 2 j (by omega), hG 3 j (by omega), hG 4 j (by omega)]
    by_cases hji : j = i
    · subst hji
      rw [h5G]
      exact ⟨h.1, h.2.1, h.2.2.1, h.2.2.2.1, h.2.2.2.2.1, h.2.2.2.2.2.1, Nat.le_refl _⟩
    · rw [hG 5 j (by omega)]
      exact h
  · intro j hj h5j
    rw [e0] at hj
    rw [e4]
    by_cases hji : j = i
    · subst hji
      rw [h22]
      exact ⟨hb.1, hb.2.1, hb.2.2.1, hb.2.2.2.1, hb.2.2.2.2.1, hb.2.2.2.2.2, Nat.lt_succ_self _⟩
    · rw [hG 5 j (by omega)] at h5j
      have h := hI.ca hj h5j
      rw [hG 6 j (by omega), hG 7 j (by omega), hG 8 j (by omega), hG 9 j (by omega), hG 22 j (by omega)]
      exact ⟨h.1, h.2.1, h.2.2.1, h.2.2.2.1, h.2.2.2.2.1, h.2.2.2.2.2.1, by omega⟩
  · intro a b ha hb h
    rw [e0] at ha hb
    rw [hG 0 a (by omega), hG 0 b (by omega)] at h
    exact hI.up ha hb h
  · intro a b ha hb9 h1 h2 h
    rw [e0] at ha hb9
    by_cases ha9 : a = i
    · by_cases hb8 : b = i
      · rw [ha9, hb8]
      · rw [hG 5 b (by omega)] at h2
        have hx := (hI.ca hb9 h2).2.2.2.2.2.2
        rw [ha9, h22, hG 22 b (by omega)] at h
        omega
    · rw [hG 5 a (by omega)] at h1
      have hx := (hI.ca ha h1).2.2.2.2.2.2
      by_cases hb8 : b = i
      · rw [hb8, h22, hG 22 a (by omega)] at h
        omega
      · rw [hG 5 b (by omega)] at h2
        rw [hG 22 a (by omega), hG 22 b (by omega)] at h
        exact hI.uc ha hb9 h1 h2 h
  · intro j hj
    rw [e1] at hj
    rw [hG 10 j (by omega), hG 11 j (by omega), hG 12 j (by omega)]
    exact hI.pl hj
  · intro j hj
    rw [e2] at hj
    rw [e1, hG 13 j (by omega), hG 14 j (by omega), hG 11 (F 13 j) (by omega)]
    exact hI.cl hj
  · intro k hk
    rw [e3] at hk
    have h := hI.en hk
    rw [e0, e2, e4, hG 16 k (by omega), hG 17 k (by omega), hG 18 k (by omega), hG 19 k (by omega), hG 20 k (by omega), hG 21 k (by omega), hG 23 k (by omega)]
    exact ⟨h.1, h.2.1, h.2.2.1, h.2.2.2.1, h.2.2.2.2.1, h.2.2.2.2.2.1, by omega⟩
  · intro k hk h
    rw [e3] at hk
    rw [hG 21 k (by omega)] at h ⊢
    have h1 := hI.op hk h
    have h2 : F 21 k - 1 ≠ i := fun q => h1.1 (by rw [q]; exact h5)
    rw [hG 5 (F 21 k - 1) (by omega), hG 23 k (by omega), hG 22 (F 21 k - 1) (by omega), hG 20 k (by omega)]
    exact h1
  · intro k r hk hr h5r h
    rw [e3] at hk
    rw [e0] at hr
    rw [hG 23 k (by omega)] at h
    rw [hG 21 k (by omega)]
    by_cases hri : r = i
    · have hx := (hI.en hk).2.2.2.2.2.2
      rw [hri, h22] at h
      omega
    · rw [hG 5 r (by omega)] at h5r
      rw [hG 22 r (by omega)] at h
      exact hI.li hk hr h5r h
  · intro j hj
    rw [e2] at hj
    rw [e3, hG 15 j (by omega), hI.bi hj]
    exact sm_congr (fun k hk => by rw [hG 16 k (by omega), hG 20 k (by omega), hG 19 k (by omega)])
  · intro j hj
    rw [e0] at hj
    rw [hG 4 j (by omega), hG 5 j (by omega)]
    exact hI.z0 hj
  · intro j hj
    rw [e2] at hj
    rw [hG 15 j (by omega)]
    exact hI.z2 hj
  · intro k hk
    rw [e3] at hk
    rw [hG 20 k (by omega)]
    exact hI.z3 hk

theorem I_beg {F : FF} {N i a sh li : Nat} (hI : wInv F N) (hN : N < 512) (hi : i < F 24 0) (h5 : F 5 i = 0) (ha : a ≤ 999) (hs : 1 ≤ sh ∧ sh ≤ 100) (hl : 1 ≤ li ∧ li ≤ 9) : wInv (f_begin F i a sh li) (N + 1) :=
  I_beg0 (i := i) hI hN hi h5 (by simp [f_begin, fU]) (fun a b h => by simp only [f_begin, fU]; (repeat' split) <;> first | rfl | omega) (by simp [f_begin, fU]) (by simp [f_begin, fU]) (by simp [f_begin, fU]; omega)

theorem I_aro0 {F G : FF} {N : Nat} (hI : wInv F N) (hN : F 24 0 < 8) (hc : G 24 0 = F 24 0 + 1) (hG : ∀ a b, ¬ ((b = F 24 0 ∧ (a = 0 ∨ a = 1 ∨ a = 2 ∨ a = 3)) ∨ (a = 24 ∧ b = 0)) → G a b = F a b) (hnew : ∀ j, j < F 24 0 → F 0 j ≠ G 0 (F 24 0)) (hb : G 0 (F 24 0) ≤ 9999 ∧ 1 ≤ G 1 (F 24 0) ∧ G 1 (F 24 0) ≤ 5 ∧ G 2 (F 24 0) ≤ 999 ∧ G 3 (F 24 0) ≤ 999) : wInv G N := by
  have e0 := hc
  have e1 := hG 24 1 (by omega)
  have e2 := hG 24 2 (by omega)
  have e3 := hG 24 3 (by omega)
  have e4 := hG 24 4 (by omega)
  have hz := hI.z0 (Nat.le_refl (F 24 0))
  refine ⟨?_, ?_, ?_, ?_, ?_, ?_, ?_, ?_, ?_, ?_, ?_, ?_, ?_, ?_⟩
  · have h9 := hI.1; exact ⟨by rw [e0]; have h := hI.1.1; omega, by rw [e1]; have h := hI.1.2.1; omega, by rw [e2]; have h := hI.1.2.2.1; omega, by rw [e3]; have h := hI.1.2.2.2.1; omega, by rw [e4]; have h := hI.1.2.2.2.2.1; omega, by omega⟩
  · intro j hj
    rw [e0] at hj
    by_cases hjn : j = F 24 0
    · subst hjn
      rw [hG 4 (F 24 0) (by omega), hG 5 (F 24 0) (by omega), hz.1, hz.2]
      exact ⟨hb.1, hb.2.1, hb.2.2.1, hb.2.2.2.1, hb.2.2.2.2, Nat.zero_le _, Nat.zero_le _⟩
    · rw [hG 0 j (by omega), hG 1 j (by omega), hG 2 j (by omega), hG 3 j (by omega), hG 4 j (by omega), hG 5 j (by omega)]
      exact hI.ro (by omega)
  · intro j hj h5
    rw [e0] at hj
    rw [hG 5 j (by omega)] at h5
    have hjn : j ≠ F 24 0 := fun q => h5 (by rw [q]; exact hz.2)
    rw [e4, hG 6 j (by omega), hG 7 j (by omega), hG 8 j (by omega), hG 9 j (by omega), hG 22 j (by omega)]
    exact hI.ca (by omega) h5
  · intro a b ha hb9 h
    rw [e0] at ha hb9
    by_cases ha9 : a = F 24 0
    · by_cases hb8 : b = F 24 0
      · rw [ha9, hb8]
      · rw [ha9, hG 0 b (by omega)] at h
        exact absurd h.symm (hnew b (by omega))
    · by_cases hb8 : b = F 24 0
      · rw [hb8, hG 0 a (by omega)] at h
        exact absurd h (hnew a (by omega))
      · rw [hG 0 a (by omega), hG 0 b (by omega)] at h
        exact hI.up (by omega) (by omega) h
  · intro a b ha hb9 h1 h2 h
    rw [e0] at ha hb9
    rw [hG 5 a (by omega)] at h1
    rw [hG 5 b (by omega)] at h2
    have ha9 : a ≠ F 24 0 := fun q => h1 (by rw [q]; exact hz.2)
    have hb8 : b ≠ F 24 0 := fun q => h2 (by rw [q]; exact hz.2)
    rw [hG 22 a (by omega), hG 22 b (by omega)] at h
    exact hI.uc (by omega) (by omega) h1 h2 h
  · intro j hj
    rw [e1] at hj
    rw [hG 10 j (by omega), hG 11 j (by omega), hG 12 j (by omega)]
    exact hI.pl hj
  · intro j hj
    rw [e2] at hj
    rw [e1, hG 13 j (by omega), hG 14 j (by omega), hG 11 (F 13 j) (by omega)]
    exact hI.cl hj
  · intro k hk
    rw [e3] at hk
    have h := hI.en hk
    rw [e0, e2, e4, hG 16 k (by omega), hG 17 k (by omega), hG 18 k (by omega), hG 19 k (by omega), hG 20 k (by omega), hG 21 k (by omega), hG 23 k (by omega)]
    exact ⟨h.1, h.2.1, h.2.2.1, h.2.2.2.1, h.2.2.2.2.1, by omega, h.2.2.2.2.2.2⟩
  · intro k hk h
    rw [e3] at hk
    rw [hG 21 k (by omega)] at h ⊢
    rw [hG 5 (F 21 k - 1) (by omega), hG 23 k (by omega), hG 22 (F 21 k - 1) (by omega), hG 20 k (by omega)]
    exact hI.op hk h
  · intro k r hk hr h5 h
    rw [e3] at hk
    rw [e0] at hr
    rw [hG 5 r (by omega)] at h5
    have hrn : r ≠ F 24 0 := fun q => h5 (by rw [q]; exact hz.2)
    rw [hG 23 k (by omega), hG 22 r (by omega)] at h
    rw [hG 21 k (by omega)]
    exact hI.li hk (by omega) h5 h
  · intro j hj
    rw [e2] at hj
    rw [e3, hG 15 j (by omega), hI.bi hj]
    exact sm_congr (fun k hk => by rw [hG 16 k (by omega), hG 20 k (by omega), hG 19 k (by omega)])
  · intro j hj
    rw [e0] at hj
    rw [hG 4 j (by omega), hG 5 j (by omega)]
    exact hI.z0 (by omega)
  · intro j hj
    rw [e2] at hj
    rw [hG 15 j (by omega)]
    exact hI.z2 hj
  · intro k hk
    rw [e3] at hk
    rw [hG 20 k (by omega)]
    exact hI.z3 hk

theorem I_aro {F : FF} {N p c l g : Nat} (hI : wInv F N) (hn : F 24 0 < 8) (hp : p ≤ 9999) (hc : 1 ≤ c ∧ c ≤ 5) (hl : l ≤ 999) (hg : g ≤ 999) (hw : ¬ wpt F p < F 24 0) : wInv (f_addRoute F p c l g) N :=
  I_aro0 hI hn (by simp [f_addRoute, fU]) (fun a b h => by simp only [f_addRoute, fU]; (repeat' split) <;> first | rfl | omega) (fun j hj => by
    have h := wpt_ne (F := F) (p := p) (j := j) (by omega)
    simpa [f_addRoute, fU] using h) (by simp [f_addRoute, fU]; omega)

theorem I_apl0 {F G : FF} {N : Nat} (hI : wInv F N) (hN : F 24 1 < 3) (hc : G 24 1 = F 24 1 + 1) (hG : ∀ a b, ¬ ((b = F 24 1 ∧ (a = 10 ∨ a = 11 ∨ a = 12)) ∨ (a = 24 ∧ b = 1)) → G a b = F a b) (hb : 1 ≤ G 10 (F 24 1) ∧ G 10 (F 24 1) ≤ 20 ∧ 1 ≤ G 11 (F 24 1) ∧ G 11 (F 24 1) ≤ 100 ∧ G 12 (F 24 1) ≤ 99) : wInv G N := by
  have e0 := hG 24 0 (by omega)
  have e1 := hc
  have e2 := hG 24 2 (by omega)
  have e3 := hG 24 3 (by omega)
  have e4 := hG 24 4 (by omega)
  refine ⟨?_, ?_, ?_, ?_, ?_, ?_, ?_, ?_, ?_, ?_, ?_, ?_, ?_, ?_⟩
  · have h9 := hI.1; exact ⟨by rw [e0]; have h := hI.1.1; omega, by rw [e1]; have h := hI.1.2.1; omega, by rw [e2]; have h := hI.1.2.2.1; omega, by rw [e3]; have h := hI.1.2.2.2.1; omega, by rw [e4]; have h := hI.1.2.2.2.2.1; omega, by omega⟩
  · intro j hj
    rw [e0] at hj
    rw [hG 0 j (by omega), hG 1 j (by omega), hG 2 j (by omega), hG 3 j (by omega), hG 4 j (by omega), hG 5 j (by omega)]
    exact hI.ro hj
  · intro j hj h5
    rw [e0] at hj
    rw [hG 5 j (by omega)] at h5
    rw [e4, hG 6 j (by omega), hG 7 j (by omega), hG 8 j (by omega), hG 9 j (by omega), hG 22 j (by omega)]
    exact hI.ca hj h5
  · intro a b ha hb h
    rw [e0] at ha hb
    rw [hG 0 a (by omega), hG 0 b (by omega)] at h
    exact hI.up ha hb h
  · intro a b ha hb h1 h2 h
    rw [e0] at ha hb
    rw [hG 5 a (by omega)] at h1
    rw [hG 5 b (by omega)] at h2
    rw [hG 22 a (by omega), hG 22 b (by omega)] at h
    exact hI.uc ha hb h1 h2 h
  · intro j hj
    rw [e1] at hj
    by_cases hjn : j = F 24 1
    · subst hjn
      exact hb
    · rw [hG 10 j (by omega), hG 11 j (by omega), hG 12 j (by omega)]
      exact hI.pl (by omega)
  · intro j hj
    rw [e2] at hj
    have h := hI.cl hj
    rw [e1, hG 13 j (by omega), hG 14 j (by omega), hG 11 (F 13 j) (by omega)]
    exact ⟨by omega, h.2⟩
  · intro k hk
    rw [e3] at hk
    rw [e0, e2, e4, hG 16 k (by omega), hG 17 k (by omega), hG 18 k (by omega), hG 19 k (by omega), hG 20 k (by omega), hG 21 k (by omega), hG 23 k (by omega)]
    exact hI.en hk
  · intro k hk h
    rw [e3] at hk
    rw [hG 21 k (by omega)] at h ⊢
    rw [hG 5 (F 21 k - 1) (by omega), hG 23 k (by omega), hG 22 (F 21 k - 1) (by omega), hG 20 k (by omega)]
    exact hI.op hk h
  · intro k r hk hr h5 h
    rw [e3] at hk
    rw [e0] at hr
    rw [hG 5 r (by omega)] at h5
    rw [hG 23 k (by omega), hG 22 r (by omega)] at h
    rw [hG 21 k (by omega)]
    exact hI.li hk hr h5 h
  · intro j hj
    rw [e2] at hj
    rw [e3, hG 15 j (by omega), hI.bi hj]
    exact sm_congr (fun k hk => by rw [hG 16 k (by omega), hG 20 k (by omega), hG 19 k (by omega)])
  · intro j hj
    rw [e0] at hj
    rw [hG 4 j (by omega), hG 5 j (by omega)]
    exact hI.z0 hj
  · intro j hj
    rw [e2] at hj
    rw [hG 15 j (by omega)]
    exact hI.z2 hj
  · intro k hk
    rw [e3] at hk
    rw [hG 20 k (by omega)]
    exact hI.z3 hk

theorem I_apl {F : FF} {N r b p : Nat} (hI : wInv F N) (hn : F 24 1 < 3) (hr : 1 ≤ r ∧ r ≤ 20) (hb : 1 ≤ b ∧ b ≤ 100) (hp : p ≤ 99) : wInv (f_addPlan F r b p) N :=
  I_apl0 hI hn (by simp [f_addPlan, fU]) (fun a b h => by simp only [f_addPlan, fU]; (repeat' split) <;> first | rfl | omega) (by simp [f_addPlan, fU]; omega)
theorem sm_z {f : Nat → Nat} {n : Nat} (h : ∀ i, i < n → f i = 0) : sm f n = 0 := by
  induction n with
  | zero => rfl
  | succ n ih => rw [sm_s, ih (fun i hi => h i (by omega)), h n (by omega)]

theorem I_acl0 {F G : FF} {N : Nat} (hI : wInv F N) (hN : F 24 2 < 6) (hc : G 24 2 = F 24 2 + 1) (hG : ∀ a b, ¬ ((b = F 24 2 ∧ (a = 13 ∨ a = 14)) ∨ (a = 24 ∧ b = 2)) → G a b = F a b) (h13 : G 13 (F 24 2) < F 24 1) (h14 : G 14 (F 24 2) ≤ F 11 (G 13 (F 24 2))) : wInv G N := by
  have e0 := hG 24 0 (by omega)
  have e1 := hG 24 1 (by omega)
  have e2 := hc
  have e3 := hG 24 3 (by omega)
  have e4 := hG 24 4 (by omega)
  refine ⟨?_, ?_, ?_, ?_, ?_, ?_, ?_, ?_, ?_, ?_, ?_, ?_, ?_, ?_⟩
  · have h9 := hI.1; exact ⟨by rw [e0]; have h := hI.1.1; omega, by rw [e1]; have h := hI.1.2.1; omega, by rw [e2]; have h := hI.1.2.2.1; omega, by rw [e3]; have h := hI.1.2.2.2.1; omega, by rw [e4]; have h := hI.1.2.2.2.2.1; omega, by omega⟩
  · intro j hj
    rw [e0] at hj
    rw [hG 0 j (by omega), hG 1 j (by omega), hG 2 j (by omega), hG 3 j (by omega), hG 4 j (by omega), hG 5 j (by omega)]
    exact hI.ro hj
  · intro j hj h5
    rw [e0] at hj
    rw [hG 5 j (by omega)] at h5
    rw [e4, hG 6 j (by omega), hG 7 j (by omega), hG 8 j (by omega), hG 9 j (by omega), hG 22 j (by omega)]
    exact hI.ca hj h5
  · intro a b ha hb h
    rw [e0] at ha hb
    rw [hG 0 a (by omega), hG 0 b (by omega)] at h
    exact hI.up ha hb h
  · intro a b ha hb h1 h2 h
    rw [e0] at ha hb
    rw [hG 5 a (by omega)] at h1
    rw [hG 5 b (by omega)] at h2
    rw [hG 22 a (by omega), hG 22 b (by omega)] at h
    exact hI.uc ha hb h1 h2 h
  · intro j hj
    rw [e1] at hj
    rw [hG 10 j (by omega), hG 11 j (by omega), hG 12 j (by omega)]
    exact hI.pl hj
  · intro j hj
    rw [e2] at hj
    by_cases hjn : j = F 24 2
    · subst hjn
      rw [e1, hG 11 (G 13 (F 24 2)) (by omega)]
      exact ⟨h13, h14⟩
    · rw [e1, hG 13 j (by omega), hG 14 j (by omega), hG 11 (F 13 j) (by omega)]
      exact hI.cl (by omega)
  · intro k hk
    rw [e3] at hk
    have h := hI.en hk
    rw [e0, e2, e4, hG 16 k (by omega), hG 17 k (by omega), hG 18 k (by omega), hG 19 k (by omega), hG 20 k (by omega), hG 21 k (by omega), hG 23 k (by omega)]
    exact ⟨by omega, h.2⟩
  · intro k hk h
    rw [e3] at hk
    rw [hG 21 k (by omega)] at h ⊢
    rw [hG 5 (F 21 k - 1) (by omega), hG 23 k (by omega), hG 22 (F 21 k - 1) (by omega), hG 20 k (by omega)]
    exact hI.op hk h
  · intro k r hk hr h5 h
    rw [e3] at hk
    rw [e0] at hr
    rw [hG 5 r (by omega)] at h5
    rw [hG 23 k (by omega), hG 22 r (by omega)] at h
    rw [hG 21 k (by omega)]
    exact hI.li hk hr h5 h
  · intro j hj
    rw [e2] at hj
    rw [e3, hG 15 j (by omega)]
    by_cases hjn : j = F 24 2
    · rw [hI.z2 (by omega)]
      refine (sm_z (fun k hk => ?_)).symm
      have h := (hI.en hk).1
      rw [hG 16 k (by omega), if_neg (by omega)]
    · rw [hI.bi (by omega)]
      exact sm_congr (fun k hk => by rw [hG 16 k (by omega), hG 20 k (by omega), hG 19 k (by omega)])
  · intro j hj
    rw [e0] at hj
    rw [hG 4 j (by omega), hG 5 j (by omega)]
    exact hI.z0 hj
  · intro j hj
    rw [e2] at hj
    rw [hG 15 j (by omega)]
    exact hI.z2 (by omega)
  · intro k hk
    rw [e3] at hk
    rw [hG 20 k (by omega)]
    exact hI.z3 hk

theorem I_acl {F : FF} {N p : Nat} (hI : wInv F N) (hn : F 24 2 < 6) (hp : p < F 24 1) : wInv (f_addCaller F p) N :=
  I_acl0 hI hn (by simp [f_addCaller, fU]) (fun a b h => by simp only [f_addCaller, fU]; (repeat' split) <;> first | rfl | omega) (by simpa [f_addCaller, fU] using hp) (by simp [f_addCaller, fU])

theorem I_ent0 {F G : FF} {N : Nat} (hI : wInv F N) {c kd co ca op : Nat} (hN : N < 512) (hcc : c < F 24 2) (hkd : kd ≤ 115) (hco : co ≤ 5) (hca : ca ≤ F 24 4) (hop : op ≠ 0 → op ≤ F 24 0 ∧ F 5 (op - 1) ≠ 0 ∧ ca = F 22 (op - 1) + 1) (hli : ∀ r, r < F 24 0 → F 5 r ≠ 0 → ca = F 22 r + 1 → op = r + 1) (hc : G 24 3 = F 24 3 + 1) (hG : ∀ a b, ¬ ((b = F 24 3 ∧ (a = 16 ∨ a = 17 ∨ a = 18 ∨ a = 19 ∨ a = 21 ∨ a = 23)) ∨ (b = c ∧ (a = 14 ∨ a = 15)) ∨ (a = 24 ∧ b = 3)) → G a b = F a b) (h16 : G 16 (F 24 3) = c) (h17 : G 17 (F 24 3) = kd) (h18 : G 18 (F 24 3) = co) (h19 : G 19 (F 24 3) = co * F 12 (F 13 c)) (h21 : G 21 (F 24 3) = op) (h23 : G 23 (F 24 3) = ca) (h14 : G 14 c = F 14 c - co) (h15 : G 15 c = F 15 c + co * F 12 (F 13 c)) : wInv G (N + 1) := by
  have e0 := hG 24 0 (by omega)
  have e1 := hG 24 1 (by omega)
  have e2 := hG 24 2 (by omega)
  have e3 := hc
  have e4 := hG 24 4 (by omega)
  have hz := hI.z3 (Nat.le_refl (F 24 3))
  have hcl := hI.cl hcc
  have hpr : co * F 12 (F 13 c) ≤ 495 := Nat.mul_le_mul hco (hI.pl hcl.1).2.2.2.2
  refine ⟨?_, ?_, ?_, ?_, ?_, ?_, ?_, ?_, ?_, ?_, ?_, ?_, ?_, ?_⟩
  · have h9 := hI.1; exact ⟨by rw [e0]; have h := hI.1.1; omega, by rw [e1]; have h := hI.1.2.1; omega, by rw [e2]; have h := hI.1.2.2.1; omega, by rw [e3]; have h := hI.1.2.2.2.1; omega, by rw [e4]; have h := hI.1.2.2.2.2.1; omega, by omega⟩
  · intro j hj
    rw [e0] at hj
    rw [hG 0 j (by omega), hG 1 j (by omega), hG 2 j (by omega), hG 3 j (by omega), hG 4 j (by omega), hG 5 j (by omega)]
    exact hI.ro hj
  · intro j hj h5
    rw [e0] at hj
    rw [hG 5 j (by omega)] at h5
    rw [e4, hG 6 j (by omega), hG 7 j (by omega), hG 8 j (by omega), hG 9 j (by omega), hG 22 j (by omega)]
    exact hI.ca hj h5
  · intro a b ha hb h
    rw [e0] at ha hb
    rw [hG 0 a (by omega), hG 0 b (by omega)] at h
    exact hI.up ha hb h
  · intro a b ha hb h1 h2 h
    rw [e0] at ha hb
    rw [hG 5 a (by omega)] at h1
    rw [hG 5 b (by omega)] at h2
    rw [hG 22 a (by omega), hG 22 b (by omega)] at h
    exact hI.uc ha hb h1 h2 h
  · intro j hj
    rw [e1] at hj
    rw [hG 10 j (by omega), hG 11 j (by omega), hG 12 j (by omega)]
    exact hI.pl hj
  · intro j hj
    rw [e2] at hj
    by_cases hjc : j = c
    · subst hjc
      rw [e1, hG 13 j (by omega), h14, hG 11 (F 13 j) (by omega)]
      exact ⟨hcl.1, by omega⟩
    · rw [e1, hG 13 j (by omega), hG 14 j (by omega), hG 11 (F 13 j) (by omega)]
      exact hI.cl hj
  · intro k hk
    rw [e3] at hk
    by_cases hkn : k = F 24 3
    · subst hkn
      rw [e0, e2, e4, h16, h17, h18, h19, h21, h23, hG 20 (F 24 3) (by omega), hz]
      refine ⟨hcc, hkd, hco, hpr, Nat.zero_le _, ?_, hca⟩
      by_cases h : op = 0
      · omega
      · exact (hop h).1
    · rw [e0, e2, e4, hG 16 k (by omega), hG 17 k (by omega), hG 18 k (by omega), hG 19 k (by omega), hG 20 k (by omega), hG 21 k (by omega), hG 23 k (by omega)]
      exact hI.en (by omega)
  · intro k hk h
    rw [e3] at hk
    by_cases hkn : k = F 24 3
    · subst hkn
      rw [h21] at h ⊢
      have h1 := hop h
      rw [hG 5 (op - 1) (by omega), h23, hG 22 (op - 1) (by omega), hG 20 (F 24 3) (by omega)]
      exact ⟨h1.2.1, h1.2.2, hz⟩
    · rw [hG 21 k (by omega)] at h ⊢
      rw [hG 5 (F 21 k - 1) (by omega), hG 23 k (by omega), hG 22 (F 21 k - 1) (by omega), hG 20 k (by omega)]
      exact hI.op (by omega) h
  · intro k r hk hr h5 h
    rw [e3] at hk
    rw [e0] at hr
    rw [hG 5 r (by omega)] at h5
    rw [hG 22 r (by omega)] at h
    by_cases hkn : k = F 24 3
    · subst hkn
      rw [h23] at h
      rw [h21]
      exact hli r hr h5 h
    · rw [hG 23 k (by omega)] at h
      rw [hG 21 k (by omega)]
      exact hI.li (by omega) hr h5 h
  · intro j hj
    rw [e2] at hj
    rw [e3, sm_s, h16, h19, hG 20 (F 24 3) (by omega), hz]
    have hs : sm (fun k => if G 16 k = j ∧ G 20 k = 0 then G 19 k else 0) (F 24 3) = sm (fun k => if F 16 k = j ∧ F 20 k = 0 then F 19 k else 0) (F 24 3) := sm_congr (fun k hk => by rw [hG 16 k (by omega), hG 20 k (by omega), hG 19 k (by omega)])
    rw [hs, ← hI.bi hj]
    by_cases hjc : j = c
    · subst hjc
      rw [h15, if_pos ⟨rfl, rfl⟩]
    · rw [hG 15 j (by omega), if_neg (fun q => hjc q.1.symm), Nat.add_zero]
  · intro j hj
    rw [e0] at hj
    rw [hG 4 j (by omega), hG 5 j (by omega)]
    exact hI.z0 hj
  · intro j hj
    rw [e2] at hj
    rw [hG 15 j (by omega)]
    exact hI.z2 hj
  · intro k hk
    rw [e3] at hk
    rw [hG 20 k (by omega)]
    exact hI.z3 (by omega)

theorem I_ent {F : FF} {N c kd co ca op : Nat} (hI : wInv F N) (hN : N < 512) (hcc : c < F 24 2) (hkd : kd ≤ 115) (hco : co ≤ 5) (hca : ca ≤ F 24 4) (hop : op ≠ 0 → op ≤ F 24 0 ∧ F 5 (op - 1) ≠ 0 ∧ ca = F 22 (op - 1) + 1) (hli : ∀ r, r < F 24 0 → F 5 r ≠ 0 → ca = F 22 r + 1 → op = r + 1) : wInv (f_enter F c kd co ca op) (N + 1) :=
  I_ent0 hI hN hcc hkd hco hca hop hli (by simp [f_enter, fU]) (fun a b h => by simp only [f_enter, fU]; (repeat' split) <;> first | rfl | omega) (by simp [f_enter, fU]) (by simp [f_enter, fU]) (by simp [f_enter, fU]) (by simp [f_enter, fU]) (by simp [f_enter, fU]) (by simp [f_enter, fU]) (by simp [f_enter, fU]) (by simp [f_enter, fU])
theorem I_call {F : FF} {N c r key : Nat} (hI : wInv F N) (hN : N < 512) (hcc : c < F 24 2) (hr : r ≤ F 24 0) : wInv (f_call F c r key) (N + 1) := by
  unfold f_call
  have key0 : ∀ (G : FF) (k co : Nat), wInv G N → c < G 24 2 → k ≤ 115 → co ≤ 5 → wInv (f_enter G c k co 0 0) (N + 1) := fun G k co hG hc hk hco => I_ent hG hN hc hk hco (Nat.zero_le _) (fun h => absurd rfl h) (fun r hr h5 h => absurd h (by omega))
  have hin : ∀ k, c_kind F c r key = k → k ≠ 110 → r < F 24 0 := fun k h h2 => by
    rcases Nat.lt_or_ge r (F 24 0) with q | q
    · exact q
    · unfold c_kind at h
      rw [if_neg (by omega)] at h
      exact absurd h.symm h2
  split
  · rename_i h
    have hr9 := hin _ h (by decide)
    exact key0 F 115 (F 1 r) hI hcc (by decide) (hI.ro hr9).2.2.1
  · split
    · rename_i h
      have hr9 := hin _ h (by decide)
      have h5 : F 5 r ≠ 0 := fun q => by
        unfold c_kind at h
        rw [if_pos hr9] at h
        split at h
        · exact absurd h (by decide)
        · rw [if_pos (Or.inl q)] at h
          exact absurd h (by decide)
      have hca := (hI.ca hr9 h5).2.2.2.2.2.2
      refine I_ent hI hN hcc (by decide) (hI.ro hr9).2.2.1 hca (fun _ => ⟨hr9, ?_, ?_⟩) (fun q hq h5q e => ?_)
      · rw [Nat.add_sub_cancel]
        exact h5
      · rw [Nat.add_sub_cancel]
      · rw [hI.uc hr9 hq h5 h5q (by omega)]
    · split
      · rename_i h
        have hr9 := hin _ h (by decide)
        have h5 : F 5 r ≠ 0 := fun q => by
          unfold c_kind at h
          rw [if_pos hr9] at h
          split at h
          · exact absurd h (by decide)
          · rw [if_pos (Or.inl q)] at h
            exact absurd h (by decide)
        exact key0 _ 102 0 (I_fault hI hr9 h5) (by rw [fault_a (by decide) (by decide) (by decide) (by decide) (by decide) (by decide)]; exact hcc) (by decide) (by decide)
      · refine key0 F _ 0 hI hcc ?_ (by decide)
        unfold c_kind
        (repeat' split) <;> decide
theorem pass_a {F : FF} {t k a b : Nat} (h : a ≠ 14) : f_pass F t k a b = F a b := by
  induction k with
  | zero => rfl
  | succ k ih => unfold f_pass; rw [fU_k h, ih]
theorem pass_14 {F : FF} {t k b : Nat} (h : k ≤ b) : f_pass F t k 14 b = F 14 b := by
  induction k with
  | zero => rfl
  | succ k ih => unfold f_pass; rw [fU_i (by omega), ih (by omega)]
theorem got_le {F : FF} {N t i : Nat} (hI : wInv F N) (hi : i < F 24 2) : F 14 i + g_got F t i ≤ F 11 (F 13 i) := by
  have h := (hI.cl hi).2
  have h2 : g_got F t i ≤ F 11 (F 13 i) - F 14 i := Nat.min_le_right _ _
  omega
theorem I_pass {F : FF} {N t k : Nat} (hI : wInv F N) (hk : k ≤ F 24 2) : wInv (f_pass F t k) N := by
  induction k with
  | zero => exact hI
  | succ k ih =>
    have h9 : f_pass F t (k + 1) = fU (f_pass F t k) 14 k (F 14 k + g_got F t k) := rfl
    rw [h9]
    refine I_cl (i := k) (ih (by omega)) (fun a b h => fU_o (by omega)) ?_ ?_
    · rw [fU_k (by decide), pass_a (by decide), pass_a (by decide)]
      exact (hI.cl (by omega)).1
    · rw [fU_s, fU_k (by decide), pass_a (by decide), pass_a (by decide)]
      exact got_le hI (by omega)
