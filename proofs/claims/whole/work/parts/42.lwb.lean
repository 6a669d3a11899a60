/-! The law: what holds at the head of its loop, and what one call leaves. -/
def lwA (p : Program) (s : State) (m : MethodId) (args : Array Value) (meth : Method) (c : Code) (A : Nat → Prop) (E : wEn) (b L : Nat) (xs : Nat → Int32) : Prop := wC p s m args meth c RL cL_law 9 wsL_law E A ∧ (∀ q ∈ wNC, va_Nc q.1 q.2 s) ∧ va_X b L xs s s.heap ∧ b < s.heap.size ∧ ¬ A b
def lwI (E : wEn) (MA : Nat → Nat) (x mo oL oD N : Nat) (w : wW) : Prop := ∃ (F : FF) (AD : AT) (cd : Int32) (fo : Nat → Int64) (go : Nat → UInt64), wInv F N ∧ wSys E F AD w ∧ AD 5 0 = x ∧ wMod E F MA mo cd w ∧ w oL = some (.inl (E.2.1 1, 1, .inr (.inl fo))) ∧ w oD = some (.inl (E.2.1 8, 1, .inr (.inr (.inr (.inl go)))))
theorem mL_1 (k : Nat) : mL k ≠ 1 := by
  unfold mL
  (repeat' split) <;> decide
theorem lw_ne {E : wEn} {F : FF} {MA : Nat → Nat} {mo oa : Nat} {cd : Int32} {w : wW} {ca : ClassId} {ya : mX} (hm : wMod E F MA mo cd w) (ho : w oa = some (.inl (ca, 1, ya))) : oa ≠ mo ∧ ∀ k, k ≤ 21 → oa ≠ MA k := by
  refine ⟨fun q => ?_, fun k hk q => ?_⟩
  · rw [q, hm.x] at ho
    cases ho
  · rw [q, hm.a k hk] at ho
    exact mL_1 k (congrArg (fun z => z.2.1) (Sum.inl.inj (Option.some.inj ho)))
/-- the reference's picture behind a wrapper -/
theorem lw_mo {E : wEn} {F : FF} {MA : Nat → Nat} {mo oa : Nat} {cd : Int32} {w w2 : wW} {ca : ClassId} {ya : mX} (hm : wMod E F MA mo cd w) (ho : w oa = some (.inl (ca, 1, ya))) (hk : wKo oa w w2) : wMod E F MA mo cd w2 := by
  have hne := lw_ne hm ho
  refine wMod_kp hm (fun a e ha hk9 hor => hk a e ha hk9 ?_)
  rcases hor with rfl | ⟨k, hk1, rfl⟩
  · exact Ne.symm hne.1
  · exact Ne.symm (hne.2 k hk1)
/-- an out row behind the reference's method -/
theorem lw_km {E : wEn} {F : FF} {MA : Nat → Nat} {mo oa : Nat} {cd : Int32} {w w2 : wW} {ca : ClassId} {ya : mX} (hm : wMod E F MA mo cd w) (ho : w oa = some (.inl (ca, 1, ya))) (hk : wKm mo MA w w2) : w2 oa = some (.inl (ca, 1, ya)) := by
  have hne := lw_ne hm ho
  rw [hk oa hne.1 hne.2]
  exact ho
theorem lw_dl {E : wEn} {oL oD : Nat} {w : wW} {fo : Nat → Int64} {go : Nat → UInt64} (ho : w oL = some (.inl (E.2.1 1, 1, .inr (.inl fo)))) (hd : w oD = some (.inl (E.2.1 8, 1, .inr (.inr (.inr (.inl go)))))) : oD ≠ oL := fun q => by
  rw [q, ho] at hd
  exact nomatch Sum.inr.inj (Prod.mk.inj (Prod.mk.inj (Sum.inl.inj (Option.some.inj hd))).2).2
theorem lw_next {E : wEn} {F G : FF} {AD2 : AT} {MA : Nat → Nat} {x mo oL oD N1 : Nat} {cd cd2 : Int32} {w w2 w3 : wW} {fo f2 : Nat → Int64} {go : Nat → UInt64} (hJ : wInv G N1) (hm : wMod E F MA mo cd w) (ho : w oL = some (.inl (E.2.1 1, 1, .inr (.inl fo)))) (hd : w oD = some (.inl (E.2.1 8, 1, .inr (.inr (.inr (.inl go)))))) (hk2 : wKo oL w w2) (hs2 : wSys E G AD2 w2) (ha2 : AD2 5 0 = x) (ho2 : w2 oL = some (.inl (E.2.1 1, 1, .inr (.inl f2)))) (hm3 : wMod E G MA mo cd2 w3) (hk3 : wKm mo MA w2 w3) : lwI E MA x mo oL oD N1 w3 ∧ w3 oL = some (.inl (E.2.1 1, 1, .inr (.inl f2))) := by
  have hm2 := lw_mo hm ho hk2
  have hd2 : w2 oD = some (.inl (E.2.1 8, 1, .inr (.inr (.inr (.inl go))))) := hk2 oD _ hd rfl (lw_dl ho hd)
  have ho3 := lw_km hm2 ho2 hk3
  exact ⟨⟨G, AD2, cd2, f2, go, hJ, wSys_km hs2 hm2 hk3, ha2, hm3, ho3, lw_km hm2 hd2 hk3⟩, ho3⟩
theorem lw_nextD {E : wEn} {F G : FF} {AD2 : AT} {MA : Nat → Nat} {x mo oL oD N1 : Nat} {cd cd2 : Int32} {w w2 w3 : wW} {fo : Nat → Int64} {go g2 : Nat → UInt64} (hJ : wInv G N1) (hm : wMod E F MA mo cd w) (ho : w oL = some (.inl (E.2.1 1, 1, .inr (.inl fo)))) (hd : w oD = some (.inl (E.2.1 8, 1, .inr (.inr (.inr (.inl go)))))) (hk2 : wKo oD w w2) (hs2 : wSys E G AD2 w2) (ha2 : AD2 5 0 = x) (hd2 : w2 oD = some (.inl (E.2.1 8, 1, .inr (.inr (.inr (.inl g2)))))) (hm3 : wMod E G MA mo cd2 w3) (hk3 : wKm mo MA w2 w3) : lwI E MA x mo oL oD N1 w3 ∧ w3 oD = some (.inl (E.2.1 8, 1, .inr (.inr (.inr (.inl g2))))) := by
  have hm2 := lw_mo hm hd hk2
  have ho2 : w2 oL = some (.inl (E.2.1 1, 1, .inr (.inl fo))) := hk2 oL _ ho rfl (Ne.symm (lw_dl ho hd))
  have hd3 := lw_km hm2 hd2 hk3
  exact ⟨⟨G, AD2, cd2, fo, g2, hJ, wSys_km hs2 hm2 hk3, ha2, hm3, lw_km hm2 ho2 hk3, hd3⟩, hd3⟩
theorem lw_cmp {x y : Int64} (h : x = y) : lg_cmp x y = 0 := by
  subst h
  simp [lg_cmp]
theorem lw_z0 : (0 : Int32).toNatClampNeg = 0 := by decide
theorem cb_addRoute {F : FF} {p1 c1 l1 g1 : Int32} : (s_addRoute F p1 c1 l1 g1).1 < 2 ^ 31 := by
  unfold s_addRoute
  (repeat' split) <;> exact Nat.le_of_ble_eq_true rfl
theorem cb_route {F : FF} {p1 : Int32} : (s_route F p1).1 < 2 ^ 31 := by
  unfold s_route
  (repeat' split) <;> exact Nat.le_of_ble_eq_true rfl
theorem cb_setContract {F : FF} {r1 l1 g1 : Int32} : (s_setContract F r1 l1 g1).1 < 2 ^ 31 := by
  unfold s_setContract
  (repeat' split) <;> exact Nat.le_of_ble_eq_true rfl
theorem cb_setAnswer {F : FF} {r1 a1 : Int32} : (s_setAnswer F r1 a1).1 < 2 ^ 31 := by
  unfold s_setAnswer
  (repeat' split) <;> exact Nat.le_of_ble_eq_true rfl
theorem cb_broken {F : FF} {r1 : Int32} : (s_broken F r1).1 < 2 ^ 31 := by
  unfold s_broken
  (repeat' split) <;> exact Nat.le_of_ble_eq_true rfl
theorem cb_begin {F : FF} {r1 a1 h1 l1 : Int32} : (s_begin F r1 a1 h1 l1).1 < 2 ^ 31 := by
  unfold s_begin
  (repeat' split) <;> exact Nat.le_of_ble_eq_true rfl
theorem cb_setShare {F : FF} {r1 h1 : Int32} : (s_setShare F r1 h1).1 < 2 ^ 31 := by
  unfold s_setShare
  (repeat' split) <;> exact Nat.le_of_ble_eq_true rfl
theorem cb_promote {F : FF} {r1 : Int32} : (s_promote F r1).1 < 2 ^ 31 := by
  unfold s_promote
  (repeat' split) <;> exact Nat.le_of_ble_eq_true rfl
theorem cb_takeBack {F : FF} {r1 : Int32} : (s_takeBack F r1).1 < 2 ^ 31 := by
  unfold s_takeBack
  (repeat' split) <;> exact Nat.le_of_ble_eq_true rfl
theorem cb_hasCanary {F : FF} {r1 : Int32} : (s_hasCanary F r1).1 < 2 ^ 31 := by
  unfold s_hasCanary
  (repeat' split) <;> exact Nat.le_of_ble_eq_true rfl
theorem cb_faults {F : FF} {r1 : Int32} : (s_faults F r1).1 < 2 ^ 31 := by
  unfold s_faults
  (repeat' split) <;> exact Nat.le_of_ble_eq_true rfl
theorem cb_addPlan {F : FF} {r1 b1 p1 : Int32} : (s_addPlan F r1 b1 p1).1 < 2 ^ 31 := by
  unfold s_addPlan
  (repeat' split) <;> exact Nat.le_of_ble_eq_true rfl
theorem cb_addCaller {F : FF} {p1 : Int32} : (s_addCaller F p1).1 < 2 ^ 31 := by
  unfold s_addCaller
  (repeat' split) <;> exact Nat.le_of_ble_eq_true rfl
theorem cb_setPlan {F : FF} {c1 p1 : Int32} : (s_setPlan F c1 p1).1 < 2 ^ 31 := by
  unfold s_setPlan
  (repeat' split) <;> exact Nat.le_of_ble_eq_true rfl
theorem cb_tokens {F : FF} {c1 : Int32} : (s_tokens F c1).1 < 2 ^ 31 := by
  unfold s_tokens
  (repeat' split) <;> exact Nat.le_of_ble_eq_true rfl
theorem cb_ticksUntil {F : FF} {c1 r1 : Int32} : (s_ticksUntil F c1 r1).1 < 2 ^ 31 := by
  unfold s_ticksUntil
  (repeat' split) <;> exact Nat.le_of_ble_eq_true rfl
theorem cb_bill {F : FF} {c1 : Int32} : (s_bill F c1).1 < 2 ^ 31 := by
  unfold s_bill
  (repeat' split) <;> exact Nat.le_of_ble_eq_true rfl
theorem cb_call {F : FF} {c1 p1 k1 : Int32} : (s_call F c1 p1 k1).1 < 2 ^ 31 := by
  unfold s_call
  (repeat' split) <;> exact Nat.le_of_ble_eq_true rfl
theorem cb_pass {F : FF} {t1 : Int32} : (s_pass F t1).1 < 2 ^ 31 := by
  unfold s_pass
  (repeat' split) <;> exact Nat.le_of_ble_eq_true rfl
theorem cb_count {F : FF} {c1 k1 : Int32} : (s_count F c1 k1).1 < 2 ^ 31 := by
  unfold s_count
  (repeat' split) <;> exact Nat.le_of_ble_eq_true rfl
theorem cb_isUndone {F : FF} {k1 : Int32} : (s_isUndone F k1).1 < 2 ^ 31 := by
  unfold s_isUndone
  (repeat' split) <;> exact Nat.le_of_ble_eq_true rfl
theorem cb_greatest {F : FF}  : (s_greatest F ).1 < 2 ^ 31 := by
  unfold s_greatest
  (repeat' split) <;> exact Nat.le_of_ble_eq_true rfl
theorem bo_hasCanary {F : FF} {r1 : Int32} : (s_hasCanary F r1).2.1 = 0 ∨ (s_hasCanary F r1).2.1 = 1 := by
  unfold s_hasCanary
  split
  · show bI _ = 0 ∨ bI _ = 1
    unfold bI
    split
    · exact Or.inr rfl
    · exact Or.inl rfl
  · exact Or.inl rfl
theorem bo_isUndone {F : FF} {k1 : Int32} : (s_isUndone F k1).2.1 = 0 ∨ (s_isUndone F k1).2.1 = 1 := by
  unfold s_isUndone
  split
  · show bI _ = 0 ∨ bI _ = 1
    unfold bI
    split
    · exact Or.inr rfl
    · exact Or.inl rfl
  · exact Or.inl rfl
theorem fp_dec64 {x : UInt64} (h : vf_n64 x) : Jvm.FP.Core.decode Jvm.FP.Core.b64 x.toNat ≠ .nan := by
  have ht : Jvm.FP.Core.b64.tails = 2 ^ 52 := by decide
  have he : Jvm.FP.Core.b64.exps = 2 ^ 11 := by decide
  unfold vf_n64 at h
  rw [UInt64.le_iff_toNat_le, UInt64.toNat_and] at h
  have h1 : (0x7fffffffffffffff : UInt64).toNat = 2 ^ 63 - 1 := by decide
  have h2 : (0x7ff0000000000000 : UInt64).toNat = 2047 * 2 ^ 52 := by decide
  rw [h1, h2, Nat.and_two_pow_sub_one_eq_mod] at h
  unfold Jvm.FP.Core.decode
  by_cases h3 : Jvm.FP.Core.fieldE Jvm.FP.Core.b64 x.toNat = Jvm.FP.Core.b64.exps - 1
  · rw [if_pos h3]
    have h4 : Jvm.FP.Core.fieldT Jvm.FP.Core.b64 x.toNat = 0 := by
      unfold Jvm.FP.Core.fieldE at h3
      unfold Jvm.FP.Core.fieldT
      rw [ht, he] at h3
      rw [ht]
      omega
    rw [if_pos h4]
    exact fun q => by cases q
  · rw [if_neg h3]
    split <;> exact fun q => by cases q
theorem fp_eq {x : UInt64} (h : vf_n64 x) : Op.cmpValue (FP.dcmp x x) .l = 0 := by
  rcases fp_cmp x with h1 | h1
  · exfalso
    have h2 := fp_dec64 h
    have h3 : Jvm.FP.Core.order (Jvm.FP.Core.decode Jvm.FP.Core.b64 x.toNat) (Jvm.FP.Core.decode Jvm.FP.Core.b64 x.toNat) = none := h1
    generalize Jvm.FP.Core.decode Jvm.FP.Core.b64 x.toNat = d at h2 h3
    cases d with
    | nan => exact h2 rfl
    | inf s => exact nomatch h3
    | fin s c q => exact nomatch h3
  · rw [h1]
    rfl
theorem la_31 (x : Int32) : ∃ k : Nat, k ≤ 31 ∧ (x &&& 31).toInt = (k : Int) := by
  have h1 : (x.toBitVec &&& 31#32).toNat ≤ 31 := by
    rw [BitVec.toNat_and]
    exact Nat.and_le_right
  refine ⟨(x.toBitVec &&& 31#32).toNat, h1, ?_⟩
  show (x.toBitVec &&& 31#32).toInt = _
  rw [BitVec.toInt_eq_toNat_of_lt (by omega)]
