/-! The law's methods: their premises (wBt), their calls, the table of 'ask'. -/
section LB
abbrev xUOE : String := "java/lang/UnsupportedOperationException"
def wNC : List (String × String) := [(xISE, xIAE), (xNSE, xIAE), (xIAE, xIOB), (xISE, xIOB), (xNSE, xIOB), (xNSE, xISE), (xNSE, xUOE)]
abbrev cPre : String := "jdk/internal/util/Preconditions"
abbrev dBiF : String := "Ljava/util/function/BiFunction;"
/-- the text of the law's five kinds, as it lies in the heap -/
def wStr (ka va b : Nat) (A : Nat → Prop) (U : State) : Prop :=
  vk_R RL 116 "nlscf" ka U ∧ vk_S 1 [5] [[110, 108, 115, 99, 102]] (fun _ => ka) (fun _ => va) A U U.heap ∧ va_Z RJ0 "COMPACT_STRINGS" "Z" (.int 1) A U U.heap ∧ va_Zq cPre "SIOOBE_FORMATTER" dBiF A U U.heap ∧ ∃ (L : Nat) (xs : Nat → Int32), L < 2 ^ 31 ∧ va_X b L xs U U.heap ∧ b < U.heap.size ∧ ¬ A b
theorem wStr.go {ka va b : Nat} {A B : Nat → Prop} {s U : State} {H : Heap} {locs : List Loc} (h : wStr ka va b A s) (hW : s.WarmedH U.vm) (hS : va_S A s.heap H locs) (hU : U.heap = H) (hAB : ∀ q, B q → A q) : wStr ka va b B U := by
  obtain ⟨h1, h2, h3, h4, L, xs, h5, h6, h7, h8⟩ := h
  refine ⟨h1.warm hW, ?_, ?_, ?_, L, xs, h5, ?_, ?_, fun h => h8 (hAB _ h)⟩
  · rw [hU]
    exact ((h2.moved hW.alike).kept hS.2.1).narrow hAB
  · rw [hU]
    exact ((h3.moved hW.alike).kept hS.2.1).narrow hAB
  · rw [hU]
    exact ((h4.moved hW.alike).kept hS.2.1).narrow hAB
  · rw [hU]
    exact (h6.moved hW.alike).kept (hS.2.1 b h7 h8)
  · rw [hU]
    exact Nat.lt_of_lt_of_le h7 hS.1
def wBt (E : wEn) (w : wW) (sz : Nat) (U : State) : Prop := wB E w sz U ∧ (∀ q ∈ wNC, va_Nc q.1 q.2 U) ∧ wStr (E.2.2 100) (E.2.2 101) (E.2.2 102) (wA w sz) U
def wMt (l : Launch) (y : MethodName) (ws : List Cond) (lv mc ms : Nat) (E : wEn) (w : wW) (sz : Nat) (av : List Value) (post : Option Value → wW → Prop) : Prop :=
  vx_Met l y ws (wRm lv mc ms) (va_Pc av (wBt E w sz)) (wQ E (wA w sz) post) (wX E (wA w sz) (fun _ _ => False)) mc ms (wA w sz)
theorem wBt_blind {E : wEn} {w : wW} {sz : Nat} {av : List Value} : FrameBlind (va_Pc av (wBt E w sz)) := by
  intro a U g mk q
  obtain ⟨q0, q1, q2, q3⟩ := q
  have h := wB_blind (E := E) (w := w) (sz := sz) (av := av) a U g mk ⟨q0, q1⟩
  exact ⟨h.1, h.2, fun x hx => (q2 x hx).moved (u := U) (U := U.calling g mk a) (Vm.Alike.refl U.vm), q3.go (U := U.calling g mk a) (H := U.heap) (locs := []) (State.WarmedH.refl U) va_S.rf rfl (fun _ h => h)⟩
/-- what holds all through a body of the law's -/
def wCt (p : Program) (s : State) (m : MethodId) (args : Array Value) (meth : Method) (c : Code) (own : String) (cc : ByteArray) (nL : Nat) (Ts : List Cond) (E : wEn) (A : Nat → Prop) : Prop :=
  wC p s m args meth c own cc nL Ts E A ∧ (∀ q ∈ wNC, va_Nc q.1 q.2 s) ∧ wStr (E.2.2 100) (E.2.2 101) (E.2.2 102) A s
theorem wBt_of {p : Program} {s : State} {m : MethodId} {args : Array Value} {meth : Method} {c : Code} {own : String} {cc : ByteArray} {nL : Nat} {Ts : List Cond} {E : wEn} {A : Nat → Prop} (C1 : wCt p s m args meth c own cc nL Ts E A) {w : wW} {H : Heap} {locs : List Loc} (hP : wP E.1 A w H) (hS : va_S A s.heap H locs) {U : State} (hU : U.heap = H) (hW : s.WarmedH U.vm) : wBt E w H.size U :=
  ⟨wB_of C1.1 hP hS hU hW, fun q hq => (C1.2.1 q hq).moved hW.alike, C1.2.2.go hW hS hU (wA_in hP hS C1.1.2.2.2.2.2.2.2.2 rfl)⟩
theorem wt_start {own : String} {l : Launch} {y : MethodName} {ws ws' : List Cond} {lv mc ms : Nat} {E : wEn} {w : wW} {sz : Nat} {av : List Value} {post : Option Value → wW → Prop} {cc : ByteArray} {maxL : Nat} {ret : Option FieldType} (ho : y.cls = own) (hy : plainName y.cls = true) (hw : ws = Cond.code y cc maxL ret :: ws') (hn : (lg_sl av).length ≤ maxL)
    (body : ∀ (p : Program) (e : Env) (s : State) (m : MethodId) (args : Array Value) (below : List Frame) (meth : Method) (c : Code) (ls : Array Slot), wCt p s m args meth c own cc maxL ws E (wA w sz) → meth.sig.returnType = ret → wP E.1 (wA w sz) w s.heap → va_S (wA w sz) s.heap s.heap [] → lv_has ls maxL (lv_args 0 av) →
      W p l e (wRm lv mc ms) s m args below meth c s.heap [] 0 0 (vx_MQ below (wQ E (wA w sz) post) (wX E (wA w sz) (fun _ _ => False)) args s mc ms (wA w sz)) (F0 m 0 ls [])) : wMt l y ws lv mc ms E w sz av post := by
  subst ho
  refine vx_ofW hy hw ?_
  intro p e s m args below meth c s₁ B hml ht hv
  obtain ⟨rfl, ⟨hsz, hP, hK, hG⟩, hnc, hst⟩ := hv
  have hts := atoms_spec (ws := ws) B.pre
  rw [lg_entry_eq]
  exact body p e s m _ below meth c _ ⟨⟨B.exec, B.bytes, hml, findClass_of_methodNamed B.named, hts, B.notSynchronized, hK, hG, fun q h => Or.inr (by rw [← hsz]; exact h)⟩, hnc, hst⟩ B.returns hP.self va_S.rf (lv_entry av hn)
theorem wt_startH {own : String} {l : Launch} {y : MethodName} {ws ws' : List Cond} {lv mc ms : Nat} {E : wEn} {w : wW} {sz : Nat} {av : List Value} {post : Option Value → wW → Prop} {cc : ByteArray} {maxL : Nat} {ret : Option FieldType} {hh : List (Nat × Nat × Nat × Nat)} (ho : y.cls = own) (hy : plainName y.cls = true) (hw : ws = Cond.codeWith y cc maxL ret hh :: ws') (hn : (lg_sl av).length ≤ maxL)
    (body : ∀ (p : Program) (e : Env) (s : State) (m : MethodId) (args : Array Value) (below : List Frame) (meth : Method) (c : Code) (ls : Array Slot), wCt p s m args meth c own cc maxL ws E (wA w sz) → meth.sig.returnType = ret → c.exceptionTable.toList = tableOf hh → wP E.1 (wA w sz) w s.heap → va_S (wA w sz) s.heap s.heap [] → lv_has ls maxL (lv_args 0 av) →
      W p l e (wRm lv mc ms) s m args below meth c s.heap [] 0 0 (vx_MQ below (wQ E (wA w sz) post) (wX E (wA w sz) (fun _ _ => False)) args s mc ms (wA w sz)) (F0 m 0 ls [])) : wMt l y ws lv mc ms E w sz av post := by
  subst ho
  refine vx_ofWH hy hw ?_
  intro p e s m args below meth c s₁ B hml hv
  obtain ⟨rfl, ⟨hsz, hP, hK, hG⟩, hnc, hst⟩ := hv
  have hts := atoms_spec (ws := ws) B.pre
  have hT := vx_table (x := y) B (hts _ (by rw [hw]; exact List.mem_cons_self))
  rw [lg_entry_eq]
  exact body p e s m _ below meth c _ ⟨⟨B.exec, B.bytes, hml, findClass_of_methodNamed B.named, hts, B.notSynchronized, hK, hG, fun q h => Or.inr (by rw [← hsz]; exact h)⟩, hnc, hst⟩ B.returns hT hP.self va_S.rf (lv_entry av hn)
end LB
/-- the system's picture, whatever its addresses, and all else as it was -/
abbrev zK (E : wEn) (F : FF) (x : Nat) (w0 w : wW) : Prop := (∃ AD : AT, wSys E F AD w ∧ AD 5 0 = x) ∧ wKp w0 w
abbrev pZ (E : wEn) (F2 : FF) (x : Nat) (w0 : wW) (r : Int32) : Option Value → wW → Prop := fun v w2 => v = some (.int r) ∧ zK E F2 x w0 w2
abbrev pL (E : wEn) (F2 : FF) (x : Nat) (w0 : wW) (r : Int64) : Option Value → wW → Prop := fun v w2 => v = some (.long r) ∧ zK E F2 x w0 w2
theorem zK.rf {E : wEn} {F : FF} {x : Nat} {w0 w : wW} (h : zK E F x w0 w) : zK E F x w w := ⟨h.1, wKp.rf⟩
theorem zK.tr {E : wEn} {F : FF} {x : Nat} {w0 w w2 : wW} (hk : wKp w0 w) (h : zK E F x w w2) : zK E F x w0 w2 := ⟨h.1, hk.tr h.2⟩
/-- what 'ask' answers: the answer, or the number of the exception -/
def aE (l : List Int32) (r : Nat × Int32 × FF) : Int32 := if r.1 = 0 then r.2.1 else l.getD (r.1 - 1) 0
section LBX
variable {p : Program} {l : Launch} {e : Env} {R : Room} {s : State} {m : MethodId} {args : Array Value} {below : List Frame} {meth : Method} {c : Code} {H : Heap} {locs : List Loc} {cells slots : Nat} {Q : State → Prop}
variable {cc : ByteArray} {pc nL : Nat} {ls : Array Slot} {rest : List Value} {A : Nat → Prop} {own : String} {Ts : List Cond} {E : wEn} {w : wW}
/-- a static call of a method of the law's, no table -/
theorem wt_goS {y : MethodName} {bytes : ByteArray} {maxL n index lv mc1 ms1 : Nat} {ret : Option FieldType} {ws : List Cond} {As st0 : List Value} {post1 : Option Value → wW → Prop} (C1 : wCt p s m args meth c own cc nL Ts E A) (hP : wP E.1 A w H) (hS : va_S A s.heap H locs) (hM : wMt l y ws lv mc1 ms1 E w H.size As post1) (cw : CallB R s args own index y bytes maxL ret ws (wRm lv mc1 ms1) mc1 ms1 n ∧ (Cond.static y).before args s = true)
    (hst : st0 = As.reverse ++ rest) (hn : As.length = n) (hsize : ls.size = nL) (hW : (rest.map fun v => v.category).sum ≤ 8) (hdg : decode cc pc = .ok (.invokestatic index, 3)) (hc : cells + mc1 ≤ R.cells) (hs : slots + ms1 ≤ R.slots)
    (kk : ∀ (v : Option Value) (w2 : wW) (H1 : Heap) (locs1 : List Loc), post1 v w2 → wP E.1 A w2 H1 → va_S A s.heap H1 locs1 → W p l e R s m args below meth c H1 locs1 (cells + mc1) (slots + ms1) Q (F0 m (pc + 3) ls (v.toList ++ rest))) :
    W p l e R s m args below meth c H locs cells slots Q (F0 m pc ls st0) := by
  subst hst
  have C0 := C1.1
  exact wl_go (post1 := post1) (px1 := fun _ _ => False) (vx_runS ⟨C0.1, C0.2.1, C0.2.2.1, C0.2.2.2.1, C0.2.2.2.2.1⟩ hM cw ⟨wBt_blind, fun U hU hW => ⟨rfl, wBt_of C1 hP hS hU hW⟩⟩ rfl hn hsize rfl (lv_room hW) hdg ⟨hc, hs⟩) hS (wA_in hP hS C0.2.2.2.2.2.2.2.2 rfl) (fun X ce q9 w2 H1 locs1 h => h.elim) (fun v w2 H1 locs1 h1 h2 _ h3 _ _ => kk v w2 H1 locs1 h1 h2 h3)
/-- .. of one with a table -/
theorem wt_goX {y : MethodName} {bytes : ByteArray} {hh : List (Nat × Nat × Nat × Nat)} {maxL n index lv mc1 ms1 : Nat} {ret : Option FieldType} {ws : List Cond} {As st0 : List Value} {post1 : Option Value → wW → Prop} (C1 : wCt p s m args meth c own cc nL Ts E A) (hP : wP E.1 A w H) (hS : va_S A s.heap H locs) (hM : wMt l y ws lv mc1 ms1 E w H.size As post1) (cw : vx_CSW R s args own index y bytes maxL ret hh ws (wRm lv mc1 ms1) mc1 ms1 n)
    (hst : st0 = As.reverse ++ rest) (hn : As.length = n) (hsize : ls.size = nL) (hW : (rest.map fun v => v.category).sum ≤ 8) (hdg : decode cc pc = .ok (.invokestatic index, 3)) (hc : cells + mc1 ≤ R.cells) (hs : slots + ms1 ≤ R.slots)
    (kk : ∀ (v : Option Value) (w2 : wW) (H1 : Heap) (locs1 : List Loc), post1 v w2 → wP E.1 A w2 H1 → va_S A s.heap H1 locs1 → W p l e R s m args below meth c H1 locs1 (cells + mc1) (slots + ms1) Q (F0 m (pc + 3) ls (v.toList ++ rest))) :
    W p l e R s m args below meth c H locs cells slots Q (F0 m pc ls st0) := by
  subst hst
  have C0 := C1.1
  exact wl_go (post1 := post1) (px1 := fun _ _ => False) (vx_runSX ⟨C0.1, C0.2.1, C0.2.2.1, C0.2.2.2.1, C0.2.2.2.2.1⟩ hM cw ⟨wBt_blind, fun U hU hW => ⟨rfl, wBt_of C1 hP hS hU hW⟩⟩ rfl hn hsize rfl (lv_room hW) hdg ⟨hc, hs⟩) hS (wA_in hP hS C0.2.2.2.2.2.2.2.2 rfl) (fun X ce q9 w2 H1 locs1 h => h.elim) (fun v w2 H1 locs1 h1 h2 _ h3 _ _ => kk v w2 H1 locs1 h1 h2 h3)
/-- a virtual call of a method of the JDK's on a constant -/
theorem wt_goV {y : MethodName} {bytes : ByteArray} {C : String} {a maxL n index lv mc1 ms1 : Nat} {ret : Option FieldType} {ws : List Cond} {As st0 : List Value} {post1 : Option Value → wW → Prop} (C1 : wCt p s m args meth c own cc nL Ts E A) (hP : wP E.1 A w H) (hS : va_S A s.heap H locs) (hM : wMt l y ws lv mc1 ms1 E w H.size (Value.ref a :: As) post1) (cw : CallW R s args own C index y bytes maxL ret ws (wRm lv mc1 ms1) mc1 ms1 n)
    (hrec : ∃ cell : Cell, H[a]? = some cell ∧ cell.vm.isStatics = false ∧ s.vm.findClass C = some cell.cls)
    (hst : st0 = As.reverse ++ .ref a :: rest) (hn : As.length = n) (hsize : ls.size = nL) (hW : (rest.map fun v => v.category).sum ≤ 8) (hdg : decode cc pc = .ok (.invokevirtual index, 3)) (hc : cells + mc1 ≤ R.cells) (hs : slots + ms1 ≤ R.slots)
    (kk : ∀ (v : Option Value) (w2 : wW) (H1 : Heap) (locs1 : List Loc), post1 v w2 → wP E.1 A w2 H1 → va_S A s.heap H1 locs1 → W p l e R s m args below meth c H1 locs1 (cells + mc1) (slots + ms1) Q (F0 m (pc + 3) ls (v.toList ++ rest))) :
    W p l e R s m args below meth c H locs cells slots Q (F0 m pc ls st0) := by
  subst hst
  have C0 := C1.1
  exact wl_go (post1 := post1) (px1 := fun _ _ => False) (vx_runV ⟨C0.1, C0.2.1, C0.2.2.1, C0.2.2.2.1, C0.2.2.2.2.1⟩ hM cw ⟨wBt_blind, hrec, fun U hU hW => ⟨rfl, wBt_of C1 hP hS hU hW⟩⟩ rfl hn hsize rfl (lv_room hW) hdg ⟨hc, hs⟩) hS (wA_in hP hS C0.2.2.2.2.2.2.2.2 rfl) (fun X ce q9 w2 H1 locs1 h => h.elim) (fun v w2 H1 locs1 h1 h2 _ h3 _ _ => kk v w2 H1 locs1 h1 h2 h3)
/-- 'ask' is called -/
theorem wt_ask {x : Nat} {a0 a1 b1 c1 d1 r : Int32} {F2 : FF} {w0 : wW} (C1 : wCt p s m args meth c RL cc nL Ts E A) (hP : wP E.1 A w H) (hS : va_S A s.heap H locs) (hM : wMt l yL_ask wsL_ask 6 3 18 E w H.size [.ref x, .int a0, .int a1, .int b1, .int c1, .int d1] (pZ E F2 x w0 r)) (hg : GoodIn Ts (va_wsS RL 107 yL_ask wsL_ask)) (hR : (wRm 6 3 18).frames + 1 ≤ R.frames ∧ 8 + (7 + 11) + (wRm 6 3 18).locals ≤ R.locals)
    (hsize : ls.size = nL) (hW : (rest.map fun v => v.category).sum ≤ 8) (hdg : decode cc pc = .ok (.invokestatic 107, 3)) (hc : cells + 3 ≤ R.cells) (hs : slots + 18 ≤ R.slots)
    (kk : ∀ (w2 : wW) (H1 : Heap) (locs1 : List Loc), zK E F2 x w0 w2 → wP E.1 A w2 H1 → va_S A s.heap H1 locs1 → W p l e R s m args below meth c H1 locs1 (cells + 3) (slots + 18) Q (F0 m (pc + 3) ls (.int r :: rest))) :
    W p l e R s m args below meth c H locs cells slots Q (F0 m pc ls (.int d1 :: .int c1 :: .int b1 :: .int a1 :: .int a0 :: .ref x :: rest)) := by
  refine wt_goX (As := [.ref x, .int a0, .int a1, .int b1, .int c1, .int d1]) (rest := rest) C1 hP hS hM (vx_cwSW 6 C1.1.2.2.2.2.1 hg rfl rfl rfl (by decide +kernel) hR) rfl rfl hsize hW hdg hc hs (fun v w2 H1 locs1 h hP1 hS1 => ?_)
  obtain ⟨rfl, hz⟩ := h
  exact kk w2 H1 locs1 hz hP1 hS1
end LBX
-- the table of 'ask'
def hhA : List (Nat × Nat × Nat × Nat) := [(0, 118, 294, 93), (119, 124, 294, 93), (125, 130, 294, 93), (131, 139, 294, 93), (140, 146, 294, 93), (147, 152, 294, 93), (153, 163, 294, 93), (164, 170, 294, 93), (171, 176, 294, 93), (177, 182, 294, 93), (183, 196, 294, 93), (197, 202, 294, 93), (203, 211, 294, 93), (212, 217, 294, 93), (218, 224, 294, 93), (225, 230, 294, 93), (231, 237, 294, 93), (238, 244, 294, 93), (245, 251, 294, 93), (252, 260, 294, 93), (261, 266, 294, 93), (267, 274, 294, 93), (275, 288, 294, 93), (289, 293, 294, 93), (0, 118, 300, 95), (119, 124, 300, 95), (125, 130, 300, 95), (131, 139, 300, 95), (140, 146, 300, 95), (147, 152, 300, 95), (153, 163, 300, 95), (164, 170, 300, 95), (171, 176, 300, 95), (177, 182, 300, 95), (183, 196, 300, 95), (197, 202, 300, 95), (203, 211, 300, 95), (212, 217, 300, 95), (218, 224, 300, 95), (225, 230, 300, 95), (231, 237, 300, 95), (238, 244, 300, 95), (245, 251, 300, 95), (252, 260, 300, 95), (261, 266, 300, 95), (267, 274, 300, 95), (275, 288, 300, 95), (289, 293, 300, 95), (0, 118, 306, 97), (119, 124, 306, 97), (125, 130, 306, 97), (131, 139, 306, 97), (140, 146, 306, 97), (147, 152, 306, 97), (153, 163, 306, 97), (164, 170, 306, 97), (171, 176, 306, 97), (177, 182, 306, 97), (183, 196, 306, 97), (197, 202, 306, 97), (203, 211, 306, 97), (212, 217, 306, 97), (218, 224, 306, 97), (225, 230, 306, 97), (231, 237, 306, 97), (238, 244, 306, 97), (245, 251, 306, 97), (252, 260, 306, 97), (261, 266, 306, 97), (267, 274, 306, 97), (275, 288, 306, 97), (289, 293, 306, 97), (0, 118, 312, 99), (119, 124, 312, 99), (125, 130, 312, 99), (131, 139, 312, 99), (140, 146, 312, 99), (147, 152, 312, 99), (153, 163, 312, 99), (164, 170, 312, 99), (171, 176, 312, 99), (177, 182, 312, 99), (183, 196, 312, 99), (197, 202, 312, 99), (203, 211, 312, 99), (212, 217, 312, 99), (218, 224, 312, 99), (225, 230, 312, 99), (231, 237, 312, 99), (238, 244, 312, 99), (245, 251, 312, 99), (252, 260, 312, 99), (261, 266, 312, 99), (267, 274, 312, 99), (275, 288, 312, 99), (289, 293, 312, 99), (0, 118, 318, 101), (119, 124, 318, 101), (125, 130, 318, 101), (131, 139, 318, 101), (140, 146, 318, 101), (147, 152, 318, 101), (153, 163, 318, 101), (164, 170, 318, 101), (171, 176, 318, 101), (177, 182, 318, 101), (183, 196, 318, 101), (197, 202, 318, 101), (203, 211, 318, 101), (212, 217, 318, 101), (218, 224, 318, 101), (225, 230, 318, 101), (231, 237, 318, 101), (238, 244, 318, 101), (245, 251, 318, 101), (252, 260, 318, 101), (261, 266, 318, 101), (267, 274, 318, 101), (275, 288, 318, 101), (289, 293, 318, 101)]
def ixA : List (Nat × String) := [(93, xIOB), (95, xIAE), (97, xISE), (99, xUOE), (101, xNSE)]
def skA (X : String) (pc : Nat) (z : Nat × Nat × Nat × Nat) : Bool := !covers (⟨z.1, z.2.1, z.2.2.1, z.2.2.2⟩ : ExceptionTableEntry) pc || (z.2.2.2 != 0 && ixA.any (fun q => q.1 == z.2.2.2 && wNC.any (fun y => y.1 == X && y.2 == q.2)))
section LBC
variable {p : Program} {l : Launch} {e : Env} {R : Room} {s : State} {m : MethodId} {args : Array Value} {below : List Frame} {meth : Method} {c : Code} {H : Heap} {locs : List Loc} {cells slots : Nat} {Q : State → Prop}
variable {cc : ByteArray} {pc nL : Nat} {ls : Array Slot} {rest : List Value} {A : Nat → Prop} {Ts : List Cond} {E : wEn} {w : wW}
theorem wt_catch {X : String} {ce : Cell} {q9 : Addr} (n : Nat) {x : Nat × Nat × Nat × Nat} (C1 : wCt p s m args meth c RL cc nL Ts E A) (hT : c.exceptionTable.toList = tableOf hhA) (hix : ∀ q ∈ ixA, (Cond.classLink RL q.1 q.2).before args s = true) (hxn : hhA[n]? = some x) (hpre : (hhA.take n).all (skA X pc) = true) (hx : covers (⟨x.1, x.2.1, x.2.2.1, x.2.2.2⟩ : ExceptionTableEntry) pc = true) (h0 : x.2.2.2 ≠ 0) (hlk : (x.2.2.2, X) ∈ ixA) (hcast : Cond.castable X X ∈ wNW) (hcell : H[q9]? = some ce) (hv : ce.vm = .none) (hcl : s.vm.findClass X = some ce.cls)
    (kk : W p l e R s m args below meth c H locs cells slots Q (F0 m x.2.2.1 ls [.ref q9])) : vx_W p l e R s m args below meth c H locs cells slots Q (F0 m pc ls rest) q9 := by
  have C0 := C1.1
  have hsp : hhA = hhA.take n ++ x :: hhA.drop (n + 1) := by
    obtain ⟨hlt, hget⟩ := List.getElem?_eq_some_iff.mp hxn
    have h1 := (List.take_append_drop n hhA).symm
    rw [List.drop_eq_getElem_cons hlt, hget] at h1
    exact h1
  refine vx_catch C0.2.2.2.1 ((hhA.take n).map fun q => ⟨q.1, q.2.1, q.2.2.1, q.2.2.2⟩) ⟨x.1, x.2.1, x.2.2.1, x.2.2.2⟩ ((hhA.drop (n + 1)).map fun q => ⟨q.1, q.2.1, q.2.2.1, q.2.2.2⟩) (by
    rw [hT]
    unfold tableOf
    conv => lhs; rw [hsp]
    simp) ?_ hx h0 (hix _ hlk) (wNw_use (wNW_ok _ hcast) (C0.2.2.2.2.2.2.2.1.1 _ hcast)) hcell hv hcl kk
  intro z hz
  obtain ⟨z0, hz0, rfl⟩ := List.mem_map.mp hz
  have h1 := List.all_eq_true.mp hpre z0 hz0
  unfold skA at h1
  rcases Bool.or_eq_true _ _ ▸ h1 with h2 | h2
  · left
    rw [Bool.not_eq_true'] at h2
    exact h2
  · right
    rw [Bool.and_eq_true] at h2
    obtain ⟨h3, h4⟩ := h2
    obtain ⟨q, hq, h5⟩ := List.any_eq_true.mp h4
    rw [Bool.and_eq_true] at h5
    obtain ⟨h6, h7⟩ := h5
    obtain ⟨y, hy, h8⟩ := List.any_eq_true.mp h7
    rw [Bool.and_eq_true] at h8
    have e1 : q.1 = z0.2.2.2 := by simpa using h6
    have e2 : y.1 = X := by simpa using h8.1
    have e3 : y.2 = q.2 := by simpa using h8.2
    refine ⟨by simpa using h3, q.2, ?_, ?_⟩
    · rw [← e1]
      exact hix q hq
    · rw [← e2, ← e3]
      exact C1.2.1 y hy
end LBC
