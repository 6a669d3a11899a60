/-! The law's 26 wrappers: each catches what its method throws. -/
def wNC : List (String × String) := [(xISE, xIAE), (xNSE, xIAE), (xIAE, xIOB), (xISE, xIOB), (xNSE, xIOB)]
def wBn (E : wEn) (w : wW) (sz : Nat) (U : State) : Prop := wB E w sz U ∧ ∀ q ∈ wNC, va_Nc q.1 q.2 U
def wMn (l : Launch) (y : MethodName) (ws : List Cond) (lv mc ms : Nat) (E : wEn) (w : wW) (sz : Nat) (av : List Value) (post : Option Value → wW → Prop) : Prop :=
  vx_Met l y ws (wRm lv mc ms) (va_Pc av (wBn E w sz)) (wQ E (wA w sz) post) (wX E (wA w sz) (fun _ _ => False)) mc ms (wA w sz)
theorem wBn_blind {E : wEn} {w : wW} {sz : Nat} {av : List Value} : FrameBlind (va_Pc av (wBn E w sz)) := by
  intro a U g mk q
  obtain ⟨q0, q1, q2⟩ := q
  have h := wB_blind (E := E) (w := w) (sz := sz) (av := av) a U g mk ⟨q0, q1⟩
  exact ⟨h.1, h.2, fun x hx => (q2 x hx).moved (u := U) (U := U.calling g mk a) (Vm.Alike.refl U.vm)⟩
theorem wm_startH {own : String} {l : Launch} {y : MethodName} {ws ws' : List Cond} {lv mc ms : Nat} {E : wEn} {w : wW} {sz : Nat} {av : List Value} {post : Option Value → wW → Prop} {cc : ByteArray} {maxL : Nat} {ret : Option FieldType} {hh : List (Nat × Nat × Nat × Nat)} (ho : y.cls = own) (hy : plainName y.cls = true) (hw : ws = Cond.codeWith y cc maxL ret hh :: ws') (hn : (lg_sl av).length ≤ maxL)
    (body : ∀ (p : Program) (e : Env) (s : State) (m : MethodId) (args : Array Value) (below : List Frame) (meth : Method) (c : Code) (ls : Array Slot), wC p s m args meth c own cc maxL ws E (wA w sz) → meth.sig.returnType = ret → c.exceptionTable.toList = tableOf hh → (∀ q ∈ wNC, va_Nc q.1 q.2 s) → wP E.1 (wA w sz) w s.heap → va_S (wA w sz) s.heap s.heap [] → lv_has ls maxL (lv_args 0 av) →
      W p l e (wRm lv mc ms) s m args below meth c s.heap [] 0 0 (vx_MQ below (wQ E (wA w sz) post) (wX E (wA w sz) (fun _ _ => False)) args s mc ms (wA w sz)) (F0 m 0 ls [])) : wMn l y ws lv mc ms E w sz av post := by
  subst ho
  refine vx_ofWH hy hw ?_
  intro p e s m args below meth c s₁ B hml hv
  obtain ⟨rfl, ⟨hsz, hP, hK, hG⟩, hnc⟩ := hv
  have hts := atoms_spec (ws := ws) B.pre
  have hT := vx_table (x := y) B (hts _ (by rw [hw]; exact List.mem_cons_self))
  rw [lg_entry_eq]
  exact body p e s m _ below meth c _ ⟨B.exec, B.bytes, hml, findClass_of_methodNamed B.named, hts, B.notSynchronized, hK, hG, fun q h => Or.inr (by rw [← hsz]; exact h)⟩ B.returns hT hnc hP.self va_S.rf (lv_entry av hn)
section WRX
variable {p : Program} {l : Launch} {e : Env} {R : Room} {s : State} {m : MethodId} {args : Array Value} {below : List Frame} {meth : Method} {c : Code} {H : Heap} {locs : List Loc} {cells slots : Nat} {Q : State → Prop}
variable {cc : ByteArray} {pc nL : Nat} {ls : Array Slot} {rest : List Value} {A : Nat → Prop} {own : String} {Ts : List Cond} {E : wEn} {w : wW}
/-- the law calls a wrapper -/
theorem wl_runSN {y : MethodName} {bytes : ByteArray} {hh : List (Nat × Nat × Nat × Nat)} {maxL n index lv mc1 ms1 : Nat} {ret : Option FieldType} {ws : List Cond} {As st0 : List Value} {post1 : Option Value → wW → Prop} (C0 : wC p s m args meth c own cc nL Ts E A) (hnc : ∀ q ∈ wNC, va_Nc q.1 q.2 s) (hP : wP E.1 A w H) (hS : va_S A s.heap H locs) (hM : wMn l y ws lv mc1 ms1 E w H.size As post1) (cw : vx_CSW R s args own index y bytes maxL ret hh ws (wRm lv mc1 ms1) mc1 ms1 n)
    (hst : st0 = As.reverse ++ rest) (hn : As.length = n) (hsize : ls.size = nL) (hW : (rest.map fun v => v.category).sum ≤ 8) (hdg : decode cc pc = .ok (.invokestatic index, 3)) (hf : cells + mc1 ≤ R.cells ∧ slots + ms1 ≤ R.slots) :
    vx_Run p l e R s m args below meth c H locs cells slots mc1 ms1 (F0 m pc ls st0) rest (wQ E (wA w H.size) post1 As.toArray) (wX E (wA w H.size) (fun _ _ => False)) (wA w H.size) := by
  subst hst
  exact vx_runSX ⟨C0.1, C0.2.1, C0.2.2.1, C0.2.2.2.1, C0.2.2.2.2.1⟩ hM cw ⟨wBn_blind, fun U hU hW => ⟨rfl, wB_of C0 hP hS hU hW, fun q hq => (hnc q hq).moved hW.alike⟩⟩ rfl hn hsize rfl (lv_room hW) hdg hf
/-- caught by the row k of the table -/
theorem wl_catch {hh : List (Nat × Nat × Nat × Nat)} {X : String} {ce : Cell} {q9 : Addr} {pre suf : List (Nat × Nat × Nat × Nat)} {x : Nat × Nat × Nat × Nat} (C0 : wC p s m args meth c own cc nL Ts E A) (hT : c.exceptionTable.toList = tableOf hh) (hh2 : hh = pre ++ x :: suf)
    (hpass : ∀ z ∈ pre, z.2.2.2 ≠ 0 ∧ ∃ nm : String, (Cond.classLink own z.2.2.2 nm).before args s = true ∧ va_Nc X nm s) (hx : covers (⟨x.1, x.2.1, x.2.2.1, x.2.2.2⟩ : ExceptionTableEntry) pc = true) (h0 : x.2.2.2 ≠ 0) (hlink : (Cond.classLink own x.2.2.2 X).before args s = true) (hcast : Cond.castable X X ∈ wNW) (hcell : H[q9]? = some ce) (hv : ce.vm = .none) (hcl : s.vm.findClass X = some ce.cls)
    (kk : W p l e R s m args below meth c H locs cells slots Q (F0 m x.2.2.1 ls [.ref q9])) : vx_W p l e R s m args below meth c H locs cells slots Q (F0 m pc ls rest) q9 := by
  refine vx_catch C0.2.2.2.1 (pre.map fun q => ⟨q.1, q.2.1, q.2.2.1, q.2.2.2⟩) ⟨x.1, x.2.1, x.2.2.1, x.2.2.2⟩ (suf.map fun q => ⟨q.1, q.2.1, q.2.2.1, q.2.2.2⟩) (by rw [hT, hh2]; simp [tableOf]) ?_ hx h0 hlink (wNw_use (wNW_ok _ hcast) (C0.2.2.2.2.2.2.2.1.1 _ hcast)) hcell hv hcl kk
  intro z hz
  obtain ⟨z0, hz0, rfl⟩ := List.mem_map.mp hz
  exact Or.inr (hpass z0 hz0)
end WRX
/-- what a wrapper keeps: all but the system's cells and the out row -/
def wKo (oa : Nat) (w w2 : wW) : Prop := ∀ (a : Nat) (e : va_E), w a = some e → sysK e = false → a ≠ oa → w2 a = some e
