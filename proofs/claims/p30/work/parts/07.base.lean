/-! My own base: a world is a partial map from addresses to what lies there; a method's contract carries its caller's whole world. -/
section WB
abbrev wW : Type := Nat → Option va_E
abbrev wEn : Type := va_G × (Nat → ClassId) × (Nat → Nat)
abbrev wCl : List vw_C := [(RX0, TX0, 2), (RX1, TX1, 4), (RX2, TX2, 5), (RX3, TX3, 6), (RX4, TX4, 3), (RX5, TX5, 7), (RX6, TX6, 8)]
def wTy (cy : Nat → ClassId) : List (ClassId × FieldType) := [(cy 0, .int), (cy 0, .int), (cy 0, .int), (cy 0, .int), (cy 4, .object RX5), (cy 5, .object RX4), (cy 6, .object RX1), (cy 7, .object RX3)]
def wArs : List String := [RX5, RX4, RX1, RX3]
def wU (w : wW) (a : Nat) (e : va_E) : wW := fun b => if b = a then some e else w b
theorem wU_s (w : wW) (a : Nat) (e : va_E) : wU w a e a = some e := by simp [wU]
theorem wU_n (w : wW) {a b : Nat} (e : va_E) (h : b ≠ a) : wU w a e b = w b := by simp [wU, h]
def wP (D : va_G) (A : Nat → Prop) (w : wW) (H : Heap) : Prop := ∃ ws : va_W, va_P D wCl ws H ∧ va_D A ws ∧ ∀ (a : Nat) (e : va_E), w a = some e ↔ ∃ k : Nat, ws[k]? = some (a, e)
def wA (w : wW) (sz : Nat) : Nat → Prop := fun q => w q ≠ none ∨ sz ≤ q
theorem wP.at {D : va_G} {A : Nat → Prop} {w : wW} {H : Heap} (h : wP D A w H) {a : Nat} {e : va_E} (he : w a = some e) : va_at D wCl (a, e) H := by
  obtain ⟨ws, hP, hD, hw⟩ := h
  obtain ⟨k, hk⟩ := (hw a e).mp he
  exact hP k _ hk
theorem wP.lt {D : va_G} {A : Nat → Prop} {w : wW} {H : Heap} (h : wP D A w H) {a : Nat} {e : va_E} (he : w a = some e) : a < H.size := (h.at he).lt
theorem wP.inA {D : va_G} {A : Nat → Prop} {w : wW} {H : Heap} (h : wP D A w H) {a : Nat} {e : va_E} (he : w a = some e) : A a := by
  obtain ⟨ws, hP, hD, hw⟩ := h
  obtain ⟨k, hk⟩ := (hw a e).mp he
  exact hD.2 k _ hk
theorem wP.sg {D : va_G} {A : Nat → Prop} {w : wW} {H : Heap} (h : wP D A w H) {a : Nat} {e : va_E} (he : w a = some e) : va_P D wCl [(a, e)] H := by
  intro k q hk
  match k, hk with
  | 0, hk => cases hk; exact h.at he
  | k + 1, hk => simp at hk
theorem wP.self {D : va_G} {A : Nat → Prop} {w : wW} {H : Heap} {sz : Nat} (h : wP D A w H) : wP D (wA w sz) w H := by
  obtain ⟨ws, hP, hD, hw⟩ := h
  exact ⟨ws, hP, hD.weaken (fun k q hk _ => Or.inl (by rw [(hw q.1 q.2).mpr ⟨k, hk⟩]; exact fun e => by cases e)), hw⟩
theorem wP.mono {D : va_G} {A B : Nat → Prop} {w : wW} {H : Heap} (h : wP D A w H) (hAB : ∀ q, A q → B q) : wP D B w H := by
  obtain ⟨ws, hP, hD, hw⟩ := h
  exact ⟨ws, hP, hD.weaken (fun _ _ _ ha => hAB _ ha), hw⟩
theorem wP.kept {D : va_G} {A : Nat → Prop} {w : wW} {H H1 : Heap} (h : wP D A w H) (hq : ∀ a : Nat, w a ≠ none → a < H.size → H1[a]? = H[a]?) : wP D A w H1 := by
  obtain ⟨ws, hP, hD, hw⟩ := h
  exact ⟨ws, hP.kept (fun k q hk => hq q.1 (by rw [(hw q.1 q.2).mpr ⟨k, hk⟩]; exact fun e => by cases e) (hP k q hk).lt), hD, hw⟩
theorem wP.nil {D : va_G} {A : Nat → Prop} {H : Heap} : wP D A (fun _ => none) H :=
  ⟨[], fun k q h => by simp at h, ⟨fun i j p q h => by simp at h, fun k q h => by simp at h⟩, fun a e => ⟨fun h => by simp at h, fun ⟨k, h⟩ => by simp at h⟩⟩
theorem wP_set {D : va_G} {A : Nat → Prop} {w : wW} {H1 : Heap} {ws : va_W} {k a : Nat} {e0 e1 : va_E} (hD : va_D A ws) (hw : ∀ (a : Nat) (e : va_E), w a = some e ↔ ∃ k : Nat, ws[k]? = some (a, e)) (hk : ws[k]? = some (a, e0)) (h1 : va_P D wCl (ws.set k (a, e1)) H1) (h2 : va_D A (ws.set k (a, e1))) : wP D A (wU w a e1) H1 := by
  have hl : k < ws.length := (List.getElem?_eq_some_iff.mp hk).1
  refine ⟨ws.set k (a, e1), h1, h2, fun b x => ⟨fun h => ?_, fun ⟨j, hj⟩ => ?_⟩⟩
  · by_cases hb : b = a
    · subst hb
      rw [wU_s] at h
      cases h
      exact ⟨k, List.getElem?_set_self hl⟩
    · rw [wU_n _ _ hb] at h
      obtain ⟨j, hj⟩ := (hw b x).mp h
      refine ⟨j, ?_⟩
      rw [List.getElem?_set_ne (fun e => hb (by subst e; rw [hj] at hk; cases hk; rfl))]
      exact hj
  · by_cases hjk : j = k
    · subst hjk
      rw [List.getElem?_set_self hl] at hj
      cases hj
      exact wU_s _ _ _
    · rw [List.getElem?_set_ne (Ne.symm hjk)] at hj
      have hb : b ≠ a := fun e => hjk (hD.1 j k (b, x) (a, e0) hj hk e)
      rw [wU_n _ _ hb]
      exact (hw b x).mpr ⟨j, hj⟩
theorem wP_push {D : va_G} {A : Nat → Prop} {w : wW} {H1 : Heap} {ws : va_W} {q : Nat} {e : va_E} (hw : ∀ (a : Nat) (e : va_E), w a = some e ↔ ∃ k : Nat, ws[k]? = some (a, e)) (h1 : va_P D wCl (ws ++ [(q, e)]) H1) (h2 : va_D A (ws ++ [(q, e)])) : wP D A (wU w q e) H1 ∧ w q = none := by
  have hlast : (ws ++ [(q, e)])[ws.length]? = some (q, e) := by simp
  have hq : ∀ x, w q ≠ some x := by
    intro x hx
    obtain ⟨j, hj⟩ := (hw q x).mp hx
    have hlj : j < ws.length := (List.getElem?_eq_some_iff.mp hj).1
    have h3 : (ws ++ [(q, e)])[j]? = some (q, x) := by rw [List.getElem?_append_left hlj]; exact hj
    have := h2.1 j ws.length _ _ h3 hlast rfl
    omega
  have hn : w q = none := by
    cases hx : w q with
    | none => rfl
    | some x => exact absurd hx (hq x)
  refine ⟨⟨ws ++ [(q, e)], h1, h2, fun b x => ⟨fun h => ?_, fun ⟨j, hj⟩ => ?_⟩⟩, hn⟩
  · by_cases hb : b = q
    · subst hb
      rw [wU_s] at h
      cases h
      exact ⟨_, hlast⟩
    · rw [wU_n _ _ hb] at h
      obtain ⟨j, hj⟩ := (hw b x).mp h
      exact ⟨j, by rw [List.getElem?_append_left (List.getElem?_eq_some_iff.mp hj).1]; exact hj⟩
  · by_cases hl : j < ws.length
    · rw [List.getElem?_append_left hl] at hj
      have hb : b ≠ q := fun e => by
        subst e
        exact hq x ((hw b x).mpr ⟨j, hj⟩)
      rw [wU_n _ _ hb]
      exact (hw b x).mpr ⟨j, hj⟩
    · have hj0 : j = ws.length := by
        have h5 := (List.getElem?_eq_some_iff.mp hj).1
        rw [List.length_append, List.length_singleton] at h5
        omega
      subst hj0
      rw [hlast] at hj
      cases hj
      exact wU_s _ _ _
/-- the words that a callee's list doesn't carry -/
def wNWn : List Cond := [(Cond.methodLinkNest "CallGateway" (29 : Nat) ({ cls := "CallGateway$CallLog", name := "<init>", desc := "()V" } : MethodName) "CallGateway"),
  (Cond.fieldLinkNest "CallGateway" (228 : Nat) "CallGateway$CallLog" "size" "I" "CallGateway"),
  (Cond.methodLinkNest "CallGateway" (68 : Nat) ({ cls := "CallGateway$Route", name := "<init>", desc := "(IIIII)V" } : MethodName) "CallGateway"),
  (Cond.fieldLinkNest "CallGateway" (276 : Nat) "CallGateway$Route" "number" "I" "CallGateway"),
  (Cond.fieldLinkNest "CallGateway" (283 : Nat) "CallGateway$Route" "path" "I" "CallGateway"),
  (Cond.fieldLinkNest "CallGateway" (183 : Nat) "CallGateway$Route" "cost" "I" "CallGateway"),
  (Cond.fieldLinkNest "CallGateway" (90 : Nat) "CallGateway$Route" "least" "I" "CallGateway"),
  (Cond.fieldLinkNest "CallGateway" (93 : Nat) "CallGateway$Route" "greatest" "I" "CallGateway"),
  (Cond.fieldLinkNest "CallGateway" (101 : Nat) "CallGateway$Route" "stableAnswer" "I" "CallGateway"),
  (Cond.fieldLinkNest "CallGateway" (104 : Nat) "CallGateway$Route" "canary" "LCallGateway$Canary;" "CallGateway"),
  (Cond.methodLinkNest "CallGateway" (286 : Nat) ({ cls := "CallGateway$Route", name := "fits", desc := "(I)Z" } : MethodName) "CallGateway"),
  (Cond.methodLinkNest "CallGateway" (108 : Nat) ({ cls := "CallGateway$Route", name := "isBrokenBy", desc := "(I)Z" } : MethodName) "CallGateway"),
  (Cond.methodLinkNest "CallGateway" (124 : Nat) ({ cls := "CallGateway$Canary", name := "<init>", desc := "(IIII)V" } : MethodName) "CallGateway"),
  (Cond.fieldLinkNest "CallGateway" (293 : Nat) "CallGateway$Canary" "number" "I" "CallGateway"),
  (Cond.fieldLinkNest "CallGateway" (111 : Nat) "CallGateway$Canary" "answer" "I" "CallGateway"),
  (Cond.fieldLinkNest "CallGateway" (294 : Nat) "CallGateway$Canary" "limit" "I" "CallGateway"),
  (Cond.fieldLinkNest "CallGateway" (137 : Nat) "CallGateway$Canary" "share" "I" "CallGateway"),
  (Cond.fieldLinkNest "CallGateway" (149 : Nat) "CallGateway$Canary" "faults" "I" "CallGateway"),
  (Cond.methodLinkNest "CallGateway" (307 : Nat) ({ cls := "CallGateway$CallLog", name := "undoCallsOf", desc := "(I)I" } : MethodName) "CallGateway"),
  (Cond.methodLinkNest "CallGateway$CallLog" (28 : Nat) ({ cls := "CallGateway$Entry", name := "undo", desc := "()V" } : MethodName) "CallGateway"),
  (Cond.methodLinkNest "CallGateway$Entry" (31 : Nat) ({ cls := "CallGateway$Caller", name := "gain", desc := "(I)I" } : MethodName) "CallGateway"),
  (Cond.methodLinkNest "CallGateway" (157 : Nat) ({ cls := "CallGateway$Plan", name := "<init>", desc := "(III)V" } : MethodName) "CallGateway"),
  (Cond.fieldLinkNest "CallGateway$Caller" (34 : Nat) "CallGateway$Plan" "rate" "I" "CallGateway"),
  (Cond.fieldLinkNest "CallGateway" (222 : Nat) "CallGateway$Plan" "rate" "I" "CallGateway"),
  (Cond.fieldLinkNest "CallGateway$Caller" (17 : Nat) "CallGateway$Plan" "burst" "I" "CallGateway"),
  (Cond.fieldLinkNest "CallGateway" (190 : Nat) "CallGateway$Plan" "burst" "I" "CallGateway"),
  (Cond.fieldLinkNest "CallGateway" (297 : Nat) "CallGateway$Plan" "price" "I" "CallGateway"),
  (Cond.methodLinkNest "CallGateway" (169 : Nat) ({ cls := "CallGateway$Caller", name := "<init>", desc := "(ILCallGateway$Plan;)V" } : MethodName) "CallGateway"),
  (Cond.fieldLinkNest "CallGateway$CallLog" (39 : Nat) "CallGateway$Caller" "number" "I" "CallGateway"),
  (Cond.fieldLinkNest "CallGateway" (203 : Nat) "CallGateway$Caller" "number" "I" "CallGateway"),
  (Cond.fieldLinkNest "CallGateway" (186 : Nat) "CallGateway$Caller" "plan" "LCallGateway$Plan;" "CallGateway"),
  (Cond.fieldLinkNest "CallGateway" (180 : Nat) "CallGateway$Caller" "tokens" "I" "CallGateway"),
  (Cond.fieldLinkNest "CallGateway$Entry" (37 : Nat) "CallGateway$Caller" "bill" "J" "CallGateway"),
  (Cond.fieldLinkNest "CallGateway" (199 : Nat) "CallGateway$Caller" "bill" "J" "CallGateway"),
  (Cond.methodLinkNest "CallGateway" (176 : Nat) ({ cls := "CallGateway$Caller", name := "changePlan", desc := "(LCallGateway$Plan;)I" } : MethodName) "CallGateway"),
  (Cond.methodLinkNest "CallGateway" (195 : Nat) ({ cls := "CallGateway$Caller", name := "ticksUntilItHas", desc := "(I)I" } : MethodName) "CallGateway"),
  (Cond.methodLinkNest "CallGateway" (206 : Nat) ({ cls := "CallGateway$CallLog", name := "billOf", desc := "(I)J" } : MethodName) "CallGateway"),
  (Cond.methodLinkNest "CallGateway" (212 : Nat) ({ cls := "CallGateway$CallLog", name := "isFull", desc := "()Z" } : MethodName) "CallGateway"),
  (Cond.methodLinkNest "CallGateway" (300 : Nat) ({ cls := "CallGateway$Entry", name := "<init>", desc := "(LCallGateway$Caller;CIII)V" } : MethodName) "CallGateway"),
  (Cond.fieldLinkNest "CallGateway$CallLog" (35 : Nat) "CallGateway$Entry" "caller" "LCallGateway$Caller;" "CallGateway"),
  (Cond.fieldLinkNest "CallGateway$CallLog" (47 : Nat) "CallGateway$Entry" "kind" "C" "CallGateway"),
  (Cond.fieldLinkNest "CallGateway$CallLog" (44 : Nat) "CallGateway$Entry" "added" "I" "CallGateway"),
  (Cond.fieldLinkNest "CallGateway$CallLog" (25 : Nat) "CallGateway$Entry" "canary" "I" "CallGateway"),
  (Cond.fieldLinkNest "CallGateway$CallLog" (31 : Nat) "CallGateway$Entry" "undone" "Z" "CallGateway"),
  (Cond.fieldLinkNest "CallGateway" (250 : Nat) "CallGateway$Entry" "undone" "Z" "CallGateway"),
  (Cond.methodLinkNest "CallGateway" (303 : Nat) ({ cls := "CallGateway$CallLog", name := "add", desc := "(LCallGateway$Entry;)V" } : MethodName) "CallGateway"),
  (Cond.methodLinkNest "CallGateway" (225 : Nat) ({ cls := "CallGateway$Caller", name := "gain", desc := "(I)I" } : MethodName) "CallGateway"),
  (Cond.methodLinkNest "CallGateway" (237 : Nat) ({ cls := "CallGateway$CallLog", name := "numberOf", desc := "(IC)I" } : MethodName) "CallGateway"),
  (Cond.methodLinkNest "CallGateway" (241 : Nat) ({ cls := "CallGateway$CallLog", name := "entryAt", desc := "(I)LCallGateway$Entry;" } : MethodName) "CallGateway")]
def wNWc : List Cond := [(Cond.castable "java/lang/IllegalArgumentException" "java/lang/IllegalArgumentException"),
  (Cond.declares ({ cls := "java/lang/RuntimeException", name := "<init>", desc := "()V" } : MethodName)),
  (Cond.declares ({ cls := "java/lang/RuntimeException", name := "<init>", desc := "(Ljava/lang/String;)V" } : MethodName)),
  (Cond.declares ({ cls := "java/lang/Exception", name := "<init>", desc := "()V" } : MethodName)),
  (Cond.declares ({ cls := "java/lang/Exception", name := "<init>", desc := "(Ljava/lang/String;)V" } : MethodName)),
  (Cond.declares ({ cls := "java/lang/Throwable", name := "<init>", desc := "()V" } : MethodName)),
  (Cond.declares ({ cls := "java/lang/Throwable", name := "<init>", desc := "(Ljava/lang/String;)V" } : MethodName)),
  (Cond.castable "java/lang/IllegalStateException" "java/lang/IllegalStateException"),
  (Cond.castable "java/util/NoSuchElementException" "java/util/NoSuchElementException"),
  (Cond.castable "java/lang/ArrayIndexOutOfBoundsException" "java/lang/ArrayIndexOutOfBoundsException"),
  (Cond.declares ({ cls := "java/lang/IndexOutOfBoundsException", name := "<init>", desc := "()V" } : MethodName)),
  (Cond.declares ({ cls := "java/lang/IndexOutOfBoundsException", name := "<init>", desc := "(Ljava/lang/String;)V" } : MethodName)),
  (Cond.castable "java/lang/IndexOutOfBoundsException" "java/lang/IndexOutOfBoundsException"),
  (Cond.castable "java/lang/ArrayIndexOutOfBoundsException" "java/lang/IndexOutOfBoundsException")]
def wSt : List (String × Nat × String) := [("CallGateway", 48, "a number is out of range"),
  ("CallGateway", 57, "a route has this path"),
  ("CallGateway", 65, "there are 8 routes"),
  ("CallGateway", 272, "it is no path"),
  ("CallGateway", 274, "the path goes to no route"),
  ("CallGateway", 277, "there is no such route"),
  ("CallGateway", 88, "an answer is out of range"),
  ("CallGateway", 99, "the answer is out of range"),
  ("CallGateway", 119, "the route has a canary"),
  ("CallGateway", 131, "the share is out of range"),
  ("CallGateway", 146, "the route has no canary"),
  ("CallGateway", 155, "there are 3 plans"),
  ("CallGateway", 279, "there is no such plan"),
  ("CallGateway", 167, "there are 6 callers"),
  ("CallGateway", 281, "there is no such caller"),
  ("CallGateway", 193, "the cost is greater than the burst"),
  ("CallGateway", 210, "it is no path, or the key is out of range"),
  ("CallGateway", 220, "the number of ticks is out of range"),
  ("CallGateway", 235, "there is no such kind"),
  ("CallGateway", 247, "there is no such call"),
  ("CallGateway", 256, "there are no callers")]
def wNestB : Cond → Bool
  | .fieldLinkNest .. => true
  | .methodLinkNest .. => true
  | .castable .. => true
  | .declares .. => true
  | _ => false

def wNW : List Cond := wNWn ++ wNWc
theorem wNW_ok : ∀ w ∈ wNW, wNestB w = true := fun w h => List.all_eq_true.mp (show wNW.all wNestB = true by decide +kernel) w h
theorem wNw_warm {w : Cond} {s U : State} (hW : s.WarmedH U.vm) (hn : wNestB w = true) (h : va_Nw w s) : va_Nw w U := by
  cases w <;> first | exact va_Nw.warmF hW h | exact va_Nw.warmM hW h | exact va_Nw.warmC hW h | exact va_Nw.warmD hW h | (simp [wNestB] at hn)
theorem wNw_use {w : Cond} {s : State} {args : Array Value} (hn : wNestB w = true) (h : va_Nw w s) : w.before args s = true := by
  cases w <;> first | exact va_Nw.use rfl h | (simp [wNestB] at hn)
def wG (sa : Nat → Nat) (A : Nat → Prop) (U : State) : Prop :=
  (∀ w ∈ wNW, va_Nw w U) ∧ (∀ (i : Nat) (q : String × Nat × String), wSt[i]? = some q → vk_R q.1 q.2.1 q.2.2 (sa i) U) ∧ vx_Zq Bundle.tN "UNASSIGNED_STACK" Bundle.steD A U U.heap ∧ vx_Zq Bundle.tN "SUPPRESSED_SENTINEL" Bundle.listD A U U.heap ∧ ∀ C ∈ wArs, va_AO C U
theorem wG.go {sa : Nat → Nat} {A B : Nat → Prop} {s U : State} {H : Heap} {locs : List Loc} (h : wG sa A s) (hW : s.WarmedH U.vm) (hS : va_S A s.heap H locs) (hU : U.heap = H) (hAB : ∀ q, B q → A q) : wG sa B U := by
  obtain ⟨h1, h2, h3, h4, h5⟩ := h
  refine ⟨fun w hw => wNw_warm hW (wNW_ok w hw) (h1 w hw), fun i q hq => (h2 i q hq).warm hW, ?_, ?_, fun C hC => (h5 C hC).moved hW.alike⟩
  · rw [hU]
    exact ((h3.moved hW.alike).kept hS.2.1).narrow hAB
  · rw [hU]
    exact ((h4.moved hW.alike).kept hS.2.1).narrow hAB
def wB (E : wEn) (w : wW) (sz : Nat) (U : State) : Prop := U.heap.size = sz ∧ wP E.1 (fun _ => True) w U.heap ∧ va_K E.1 wCl (wTy E.2.1) U ∧ wG E.2.2 (wA w sz) U
def wQ (E : wEn) (A : Nat → Prop) (post : Option Value → wW → Prop) : Array Value → State → Outcome → State → Prop := fun _ st oc t => (∃ (v : Option Value) (w2 : wW), oc = .returned v ∧ post v w2 ∧ wP E.1 A w2 t.heap) ∧ va_F A st t
def wX (E : wEn) (A : Nat → Prop) (px : String → wW → Prop) : String → State → State → Prop := fun X st t => ∃ w2 : wW, px X w2 ∧ wP E.1 A w2 t.heap ∧ va_F A st t
def wRm (lv mc ms : Nat) : Room := { frames := 7 + lv, cells := mc, slots := ms, locals := 200 + 60 * lv }
def wM (l : Launch) (y : MethodName) (ws : List Cond) (lv mc ms : Nat) (E : wEn) (w : wW) (sz : Nat) (av : List Value) (post : Option Value → wW → Prop) (px : String → wW → Prop) : Prop :=
  vx_Met l y ws (wRm lv mc ms) (va_Pc av (wB E w sz)) (wQ E (wA w sz) post) (wX E (wA w sz) px) mc ms (wA w sz)
/-- what holds all through a method's body -/
def wC (p : Program) (s : State) (m : MethodId) (args : Array Value) (meth : Method) (c : Code) (own : String) (cc : ByteArray) (nL : Nat) (Ts : List Cond) (E : wEn) (A : Nat → Prop) : Prop :=
  p.tables.exec = Jvm.exec ∧ c.code = cc ∧ c.maxLocals = nL ∧ s.vm.findClass own = some m.cls ∧ (∀ w ∈ Ts, w.before args s = true) ∧ meth.locks = false ∧ va_K E.1 wCl (wTy E.2.1) s ∧ wG E.2.2 A s ∧ ∀ q : Nat, s.heap.size ≤ q → A q
theorem wB_blind {E : wEn} {w : wW} {sz : Nat} {av : List Value} : FrameBlind (va_Pc av (wB E w sz)) := by
  intro a U g mk q
  obtain ⟨q0, q1, q2, q3, q4⟩ := q
  exact ⟨q0, q1, q2, va_K.moved (u := U) (U := U.calling g mk a) (Vm.Alike.refl U.vm) q3, q4.go (U := U.calling g mk a) (H := U.heap) (locs := []) (State.WarmedH.refl U) va_S.rf rfl (fun _ h => h)⟩
theorem wB_of {p : Program} {s : State} {m : MethodId} {args : Array Value} {meth : Method} {c : Code} {own : String} {cc : ByteArray} {nL : Nat} {Ts : List Cond} {E : wEn} {A : Nat → Prop} (C0 : wC p s m args meth c own cc nL Ts E A) {w : wW} {H : Heap} {locs : List Loc} (hP : wP E.1 A w H) (hS : va_S A s.heap H locs) {U : State} (hU : U.heap = H) (hW : s.WarmedH U.vm) : wB E w H.size U := by
  obtain ⟨-, -, -, -, -, -, hK, hG, hA⟩ := C0
  refine ⟨by rw [hU], by rw [hU]; exact hP.mono (fun _ _ => trivial), va_K.moved hW.alike hK, hG.go hW hS hU (fun q h => ?_)⟩
  rcases h with h | h
  · cases hx : w q with
    | none => exact absurd hx h
    | some x => exact hP.inA hx
  · exact hA q (Nat.le_trans hS.1 h)
theorem wm_start {own : String} {l : Launch} {y : MethodName} {ws ws' : List Cond} {lv mc ms : Nat} {E : wEn} {w : wW} {sz : Nat} {av : List Value} {post : Option Value → wW → Prop} {px : String → wW → Prop} {cc : ByteArray} {maxL : Nat} {ret : Option FieldType} (ho : y.cls = own) (hy : plainName y.cls = true) (hw : ws = Cond.code y cc maxL ret :: ws') (hn : (lg_sl av).length ≤ maxL)
    (body : ∀ (p : Program) (e : Env) (s : State) (m : MethodId) (args : Array Value) (below : List Frame) (meth : Method) (c : Code) (ls : Array Slot), wC p s m args meth c own cc maxL ws E (wA w sz) → meth.sig.returnType = ret → meth.name = y.name → (∀ x ∈ c.exceptionTable.toList, False) → wP E.1 (wA w sz) w s.heap → va_S (wA w sz) s.heap s.heap [] → lv_has ls maxL (lv_args 0 av) →
      W p l e (wRm lv mc ms) s m args below meth c s.heap [] 0 0 (vx_MQ below (wQ E (wA w sz) post) (wX E (wA w sz) px) args s mc ms (wA w sz)) (F0 m 0 ls [])) : wM l y ws lv mc ms E w sz av post px := by
  subst ho
  refine vx_ofW hy hw ?_
  intro p e s m args below meth c s₁ B hml ht hv
  obtain ⟨rfl, hsz, hP, hK, hG⟩ := hv
  have hts := atoms_spec (ws := ws) B.pre
  rw [lg_entry_eq]
  exact body p e s m _ below meth c _ ⟨B.exec, B.bytes, hml, findClass_of_methodNamed B.named, hts, B.notSynchronized, hK, hG, fun q h => Or.inr (by rw [← hsz]; exact h)⟩ B.returns (name_of_methodNamed B.named B.method).1 ht hP.self va_S.rf (lv_entry av hn)
end WB
section WR
variable {p : Program} {l : Launch} {e : Env} {R : Room} {s : State} {m : MethodId} {args : Array Value} {below : List Frame} {meth : Method} {c : Code} {H : Heap} {locs : List Loc} {cells slots : Nat} {Q : State → Prop}
variable {cc : ByteArray} {pc nL : Nat} {ls : Array Slot} {rest : List Value} {A : Nat → Prop} {a : Nat} {own : String} {Ts : List Cond} {E : wEn} {w : wW} {post : Option Value → wW → Prop} {px : String → wW → Prop} {mc ms : Nat}
-- ends
theorem wl_iret {v : Int32} {ty : FieldType} (C0 : wC p s m args meth c own cc nL Ts E A) (hr : meth.sig.returnType = some ty) (hn : narrow ty (.int v) = .int v) (hP : wP E.1 A w H) (hS : va_S A s.heap H locs) (hdg : decode cc pc = .ok (.ireturn, 1)) (hc : cells ≤ mc) (hs : slots ≤ ms) (hpost : post (some (.int v)) w) : W p l e R s m args below meth c H locs cells slots (vx_MQ below (wQ E A post) (wX E A px) args s mc ms A) (F0 m pc ls [.int v]) := by
  obtain ⟨hx, hb, -, -, -, hlocks, -⟩ := C0
  refine vx_ret (W.widen hc hs ?_)
  exact W.zret hx hb hr hn (fun t ht hW => ⟨⟨_, w, rfl, hpost, by rw [ht]; exact hP⟩, hS.F ht⟩) hS.2.2 hdg hlocks
theorem wl_lret {v : Int64} (C0 : wC p s m args meth c own cc nL Ts E A) (hr : meth.sig.returnType = some .long) (hP : wP E.1 A w H) (hS : va_S A s.heap H locs) (hdg : decode cc pc = .ok (.lreturn, 1)) (hc : cells ≤ mc) (hs : slots ≤ ms) (hpost : post (some (.long v)) w) : W p l e R s m args below meth c H locs cells slots (vx_MQ below (wQ E A post) (wX E A px) args s mc ms A) (F0 m pc ls [.long v]) := by
  obtain ⟨hx, hb, -, -, -, hlocks, -⟩ := C0
  refine vx_ret (W.widen hc hs ?_)
  exact W.lret hx hb hr (fun t ht hW => ⟨⟨_, w, rfl, hpost, by rw [ht]; exact hP⟩, hS.F ht⟩) hS.2.2 hdg hlocks
theorem wl_fret {v : UInt32} (C0 : wC p s m args meth c own cc nL Ts E A) (hr : meth.sig.returnType = some .float) (hP : wP E.1 A w H) (hS : va_S A s.heap H locs) (hdg : decode cc pc = .ok (.freturn, 1)) (hc : cells ≤ mc) (hs : slots ≤ ms) (hpost : post (some (.float v)) w) : W p l e R s m args below meth c H locs cells slots (vx_MQ below (wQ E A post) (wX E A px) args s mc ms A) (F0 m pc ls [.float v]) := by
  obtain ⟨hx, hb, -, -, -, hlocks, -⟩ := C0
  refine vx_ret (W.widen hc hs ?_)
  exact W.fret hx hb hr (fun t ht hW => ⟨⟨_, w, rfl, hpost, by rw [ht]; exact hP⟩, hS.F ht⟩) hS.2.2 hdg hlocks
theorem wl_dret {v : UInt64} (C0 : wC p s m args meth c own cc nL Ts E A) (hr : meth.sig.returnType = some .double) (hP : wP E.1 A w H) (hS : va_S A s.heap H locs) (hdg : decode cc pc = .ok (.dreturn, 1)) (hc : cells ≤ mc) (hs : slots ≤ ms) (hpost : post (some (.double v)) w) : W p l e R s m args below meth c H locs cells slots (vx_MQ below (wQ E A post) (wX E A px) args s mc ms A) (F0 m pc ls [.double v]) := by
  obtain ⟨hx, hb, -, -, -, hlocks, -⟩ := C0
  refine vx_ret (W.widen hc hs ?_)
  exact W.dret hx hb hr (fun t ht hW => ⟨⟨_, w, rfl, hpost, by rw [ht]; exact hP⟩, hS.F ht⟩) hS.2.2 hdg hlocks
theorem wl_vret (C0 : wC p s m args meth c own cc nL Ts E A) (hr : meth.sig.returnType = none) (hP : wP E.1 A w H) (hS : va_S A s.heap H locs) (hdg : decode cc pc = .ok (.return_, 1)) (hc : cells ≤ mc) (hs : slots ≤ ms) (hpost : post none w) : W p l e R s m args below meth c H locs cells slots (vx_MQ below (wQ E A post) (wX E A px) args s mc ms A) (F0 m pc ls []) := by
  obtain ⟨hx, hb, -, -, -, hlocks, -⟩ := C0
  refine vx_ret (W.widen hc hs ?_)
  exact W.vret hx hb hr (fun t ht hW => ⟨⟨_, w, rfl, hpost, by rw [ht]; exact hP⟩, hS.F ht⟩) hS.2.2 hdg hlocks
theorem wl_aret {v : Value} {n : String} (C0 : wC p s m args meth c own cc nL Ts E A) (hr : meth.sig.returnType = some (.object n)) (hv : v = .null ∨ ∃ a, v = .ref a) (hP : wP E.1 A w H) (hS : va_S A s.heap H locs) (hdg : decode cc pc = .ok (.areturn, 1)) (hc : cells ≤ mc) (hs : slots ≤ ms) (hpost : post (some v) w) : W p l e R s m args below meth c H locs cells slots (vx_MQ below (wQ E A post) (wX E A px) args s mc ms A) (F0 m pc ls [v]) := by
  obtain ⟨hx, hb, -, -, -, hlocks, -⟩ := C0
  refine vx_ret (W.widen hc hs ?_)
  exact W.aret hx hb hr (Or.inl ⟨n, rfl⟩) hv (fun t ht hW => ⟨⟨_, w, rfl, hpost, by rw [ht]; exact hP⟩, hS.F ht⟩) hS.2.2 hdg hlocks
-- a throw of the class's own
theorem wl_hx {cls : String} (hP : wP E.1 A w H) (hS : va_S A s.heap H locs) (hpx : px cls w) : ∀ t : State, s.vm.Alike t.vm → H.size ≤ t.heap.size → (∀ q : Nat, q < H.size → t.heap[q]? = H[q]?) → wX E A px cls s t := fun t _ hz hq =>
  ⟨w, hpx, hP.kept (fun a _ ha => hq a ha), Nat.le_trans hS.1 hz, fun q h1 h2 => (hq q (Nat.lt_of_lt_of_le h1 hS.1)).trans (hS.2.1 q h1 h2)⟩
abbrev wXn : List String := ["java/lang/RuntimeException", "java/lang/Exception"]
theorem wl_throwS {cls text : String} {ik is ic i : Nat} (C0 : wC p s m args meth c own cc nL Ts E A) (hl : l.stackTraces = false) (ht : ∀ x ∈ c.exceptionTable.toList, False) (hcls : Bundle.fit cls = true) (hk : (Cond.classLink own ik cls).before args s = true) (hini : (Cond.initialized cls).before args s = true) (hst : wSt[i]? = some (own, is, text))
    (hgo : ∀ w ∈ (vx_atS own ic cls wXn).filter goodWord, w ∈ Ts) (hcast : Cond.castable cls cls ∈ wNW) (hng : ∀ w ∈ (vx_atS own ic cls wXn).filter (fun w => !goodWord w), w ∈ wNW) (hgood : ∀ w ∈ Cond.classLink own ik cls :: Cond.initialized cls :: vx_atS own ic cls wXn, vx_ot w = true)
    (hP : wP E.1 A w H) (hS : va_S A s.heap H locs) (hsize : ls.size = nL)
    (d0 : decode cc pc = .ok (.new ik, 3)) (d3 : decode cc (pc + 3) = .ok (.dup, 1)) (d4 : decode cc (pc + 4) = .ok (.ldc is, 2)) (d6 : decode cc (pc + 6) = .ok (.invokespecial ic, 3)) (d9 : decode cc (pc + 9) = .ok (.athrow, 1))
    (hRf : 6 ≤ R.frames) (hRl : (rest.map fun v => v.category).sum + 82 ≤ R.locals) (hRc : cells + 1 ≤ R.cells) (hRs : slots + 6 ≤ R.slots) (hc : cells + 1 ≤ mc) (hs : slots + 6 ≤ ms) (hpx : px cls w) :
    W p l e R s m args below meth c H locs cells slots (vx_MQ below (wQ E A post) (wX E A px) args s mc ms A) (F0 m pc ls rest) := by
  obtain ⟨hx, hb, hml, hown, hts, hlocks, hK, hG, hA⟩ := C0
  exact vx_throwS hx hb hl hown hcls (by decide +kernel) hk hini (hG.2.1 i _ hst) (vx_hat (fun w hw => hts w (hgo w hw)) hng (fun w h => wNw_use (wNW_ok w h) (hG.1 w h))) hgood hG.2.2.1 hG.2.2.2.1 hS (by rw [hsize, hml]) d0 d3 d4 d6 d9 (fun x h => (ht x h).elim) hRf hRl hRc hRs hlocks (wl_hx hP hS hpx) hS.2.2 hc hs
theorem wl_throwSW {cls text : String} {ik is ic i : Nat} (C0 : wC p s m args meth c own cc nL Ts E A) (hl : l.stackTraces = false) (ht : ∀ x ∈ c.exceptionTable.toList, False) (hcls : Bundle.fit cls = true) (hk : (Cond.classLink own ik cls).before args s = true) (hini : (Cond.initialized cls).before args s = true) (hst : wSt[i]? = some (own, is, text))
    (hgo : ∀ w ∈ (vx_atS own ic cls wXn).filter goodWord, w ∈ Ts) (hcast : Cond.castable cls cls ∈ wNW) (hng : ∀ w ∈ (vx_atS own ic cls wXn).filter (fun w => !goodWord w), w ∈ wNW) (hgood : ∀ w ∈ Cond.classLink own ik cls :: Cond.initialized cls :: vx_atS own ic cls wXn, vx_ot w = true)
    (hP : wP E.1 A w H) (hS : va_S A s.heap H locs) (hsize : ls.size = nL)
    (d0 : decode cc pc = .ok (.new ik, 3)) (d3 : decode cc (pc + 3) = .ok (.dup, 1)) (d4 : decode cc (pc + 4) = .ok (.ldc_w is, 3)) (d7 : decode cc (pc + 7) = .ok (.invokespecial ic, 3)) (d10 : decode cc (pc + 10) = .ok (.athrow, 1))
    (hRf : 6 ≤ R.frames) (hRl : (rest.map fun v => v.category).sum + 82 ≤ R.locals) (hRc : cells + 1 ≤ R.cells) (hRs : slots + 6 ≤ R.slots) (hc : cells + 1 ≤ mc) (hs : slots + 6 ≤ ms) (hpx : px cls w) :
    W p l e R s m args below meth c H locs cells slots (vx_MQ below (wQ E A post) (wX E A px) args s mc ms A) (F0 m pc ls rest) := by
  obtain ⟨hx, hb, hml, hown, hts, hlocks, hK, hG, hA⟩ := C0
  exact vx_throwSW hx hb hl hown hcls (by decide +kernel) hk hini (hG.2.1 i _ hst) (vx_hat (fun w hw => hts w (hgo w hw)) hng (fun w h => wNw_use (wNW_ok w h) (hG.1 w h))) hgood hG.2.2.1 hG.2.2.2.1 hS (by rw [hsize, hml]) d0 d3 d4 d7 d10 (fun x h => (ht x h).elim) hRf hRl hRc hRs hlocks (wl_hx hP hS hpx) hS.2.2 hc hs
theorem x13_0 : decode prog_27_method_4_code 0 = .ok (.aload_n 0, 1) := by decide +kernel
theorem x13_1 : decode prog_27_method_4_code 1 = .ok (.aload_n 1, 1) := by decide +kernel
theorem x13_2 : decode prog_27_method_4_code 2 = .ok (.invokespecial 13, 3) := by decide +kernel
theorem x13_5 : decode prog_27_method_4_code 5 = .ok (.return_, 1) := by decide +kernel
theorem wl_throwX {cls text : String} {ik is ic i : Nat} (C0 : wC p s m args meth c own cc nL Ts E A) (hl : l.stackTraces = false) (ht : ∀ x ∈ c.exceptionTable.toList, False) (hcls : Bundle.fit cls = true) (hk : (Cond.classLink own ik cls).before args s = true) (hini : (Cond.initialized cls).before args s = true) (hst : wSt[i]? = some (own, is, text))
    (hgo : ∀ w ∈ (vxx_at own ic cls 13 prog_27_method_4_code wXn).filter goodWord, w ∈ Ts) (hcast : Cond.castable cls cls ∈ wNW) (hng : ∀ w ∈ (vxx_at own ic cls 13 prog_27_method_4_code wXn).filter (fun w => !goodWord w), w ∈ wNW) (hgood : ∀ w ∈ Cond.classLink own ik cls :: Cond.initialized cls :: vxx_at own ic cls 13 prog_27_method_4_code wXn, vx_ot w = true)
    (hP : wP E.1 A w H) (hS : va_S A s.heap H locs) (hsize : ls.size = nL)
    (d0 : decode cc pc = .ok (.new ik, 3)) (d3 : decode cc (pc + 3) = .ok (.dup, 1)) (d4 : decode cc (pc + 4) = .ok (.ldc is, 2)) (d6 : decode cc (pc + 6) = .ok (.invokespecial ic, 3)) (d9 : decode cc (pc + 9) = .ok (.athrow, 1))
    (hRf : 6 ≤ R.frames) (hRl : (rest.map fun v => v.category).sum + 82 ≤ R.locals) (hRc : cells + 1 ≤ R.cells) (hRs : slots + 6 ≤ R.slots) (hc : cells + 1 ≤ mc) (hs : slots + 6 ≤ ms) (hpx : px cls w) :
    W p l e R s m args below meth c H locs cells slots (vx_MQ below (wQ E A post) (wX E A px) args s mc ms A) (F0 m pc ls rest) := by
  obtain ⟨hx, hb, hml, hown, hts, hlocks, hK, hG, hA⟩ := C0
  exact vxx_throwS hx hb hl (by decide) x13_0 x13_1 x13_2 x13_5 hown hcls (by decide +kernel) hk hini (hG.2.1 i _ hst) (vx_hat (fun w hw => hts w (hgo w hw)) hng (fun w h => wNw_use (wNW_ok w h) (hG.1 w h))) hgood hG.2.2.1 hG.2.2.2.1 hS (by rw [hsize, hml]) d0 d3 d4 d6 d9 (fun x h => (ht x h).elim) hRf hRl hRc hRs hlocks (wl_hx hP hS hpx) hS.2.2 hc hs
theorem wl_throwXW {cls text : String} {ik is ic i : Nat} (C0 : wC p s m args meth c own cc nL Ts E A) (hl : l.stackTraces = false) (ht : ∀ x ∈ c.exceptionTable.toList, False) (hcls : Bundle.fit cls = true) (hk : (Cond.classLink own ik cls).before args s = true) (hini : (Cond.initialized cls).before args s = true) (hst : wSt[i]? = some (own, is, text))
    (hgo : ∀ w ∈ (vxx_at own ic cls 13 prog_27_method_4_code wXn).filter goodWord, w ∈ Ts) (hcast : Cond.castable cls cls ∈ wNW) (hng : ∀ w ∈ (vxx_at own ic cls 13 prog_27_method_4_code wXn).filter (fun w => !goodWord w), w ∈ wNW) (hgood : ∀ w ∈ Cond.classLink own ik cls :: Cond.initialized cls :: vxx_at own ic cls 13 prog_27_method_4_code wXn, vx_ot w = true)
    (hP : wP E.1 A w H) (hS : va_S A s.heap H locs) (hsize : ls.size = nL)
    (d0 : decode cc pc = .ok (.new ik, 3)) (d3 : decode cc (pc + 3) = .ok (.dup, 1)) (d4 : decode cc (pc + 4) = .ok (.ldc_w is, 3)) (d7 : decode cc (pc + 7) = .ok (.invokespecial ic, 3)) (d10 : decode cc (pc + 10) = .ok (.athrow, 1))
    (hRf : 6 ≤ R.frames) (hRl : (rest.map fun v => v.category).sum + 82 ≤ R.locals) (hRc : cells + 1 ≤ R.cells) (hRs : slots + 6 ≤ R.slots) (hc : cells + 1 ≤ mc) (hs : slots + 6 ≤ ms) (hpx : px cls w) :
    W p l e R s m args below meth c H locs cells slots (vx_MQ below (wQ E A post) (wX E A px) args s mc ms A) (F0 m pc ls rest) := by
  obtain ⟨hx, hb, hml, hown, hts, hlocks, hK, hG, hA⟩ := C0
  exact vxx_throwSW hx hb hl (by decide) x13_0 x13_1 x13_2 x13_5 hown hcls (by decide +kernel) hk hini (hG.2.1 i _ hst) (vx_hat (fun w hw => hts w (hgo w hw)) hng (fun w h => wNw_use (wNW_ok w h) (hG.1 w h))) hgood hG.2.2.1 hG.2.2.2.1 hS (by rw [hsize, hml]) d0 d3 d4 d7 d10 (fun x h => (ht x h).elim) hRf hRl hRc hRs hlocks (wl_hx hP hS hpx) hS.2.2 hc hs
/-- an exception of a callee goes on -/
theorem wl_out {X : String} {ce : Cell} {q9 : Addr} (C0 : wC p s m args meth c own cc nL Ts E A) (ht : ∀ x ∈ c.exceptionTable.toList, False) (hP : wP E.1 A w H) (hS : va_S A s.heap H locs) (hcell : H[q9]? = some ce) (hv : ce.vm = .none) (hcl : s.vm.findClass X = some ce.cls) (hc : cells ≤ mc) (hs : slots ≤ ms) (hpx : px X w) :
    vx_W p l e R s m args below meth c H locs cells slots (vx_MQ below (wQ E A post) (wX E A px) args s mc ms A) (F0 m pc ls rest) q9 := by
  obtain ⟨hx, hb, hml, hown, hts, hlocks, hK, hG, hA⟩ := C0
  exact vx_out (fun x h => (ht x h).elim) hlocks hcell hv hcl (fun t hth _ => ⟨w, hpx, by rw [hth]; exact hP, by rw [hth]; exact hS.1, fun q h1 h2 => by rw [hth]; exact hS.2.1 q h1 h2⟩) hS.2.2 hc hs
-- calls
theorem wl_go {A1 : Nat → Prop} {st0 : List Value} {av : Array Value} {mc1 ms1 : Nat} {post1 : Option Value → wW → Prop} {px1 : String → wW → Prop} (hr : vx_Run p l e R s m args below meth c H locs cells slots mc1 ms1 (F0 m pc ls st0) rest (wQ E A1 post1 av) (wX E A1 px1) A1) (hS : va_S A s.heap H locs) (hA1 : ∀ q, A1 q → A q)
    (kx : ∀ (X : String) (ce : Cell) (q9 : Addr) (w2 : wW) (H1 : Heap) (locs1 : List Loc), px1 X w2 → wP E.1 A w2 H1 → wP E.1 A1 w2 H1 → va_S A s.heap H1 locs1 → H.size ≤ H1.size → (∀ q : Nat, q < H.size → ¬ A1 q → H1[q]? = H[q]?) → H1[q9]? = some ce → ce.vm = .none → s.vm.findClass X = some ce.cls → vx_W p l e R s m args below meth c H1 locs1 (cells + mc1) (slots + ms1) Q (F0 m pc ls rest) q9)
    (kk : ∀ (v : Option Value) (w2 : wW) (H1 : Heap) (locs1 : List Loc), post1 v w2 → wP E.1 A w2 H1 → wP E.1 A1 w2 H1 → va_S A s.heap H1 locs1 → H.size ≤ H1.size → (∀ q : Nat, q < H.size → ¬ A1 q → H1[q]? = H[q]?) → W p l e R s m args below meth c H1 locs1 (cells + mc1) (slots + ms1) Q (F0 m (pc + 3) ls (v.toList ++ rest))) :
    W p l e R s m args below meth c H locs cells slots Q (F0 m pc ls st0) := by
  intro T hT X
  rcases hr T hT X with ⟨v, st₀, t, T', L, h0, X', hL, e1, e2, ⟨⟨v9, w2, hv, hp, hb⟩, hF⟩, st⟩ | ⟨q, st₀, t, T', L, X9, ce, h0, X', hL, e1, e2, ⟨w2, hp, hb, hF⟩, hce, hcv, hcl, st⟩
  · cases hv
    obtain ⟨k1, k2, k3⟩ := vx_keep h0 e1 hS (fun q _ h => hA1 q h) hA1 hL hF
    rw [← e1] at hb
    obtain ⟨t2, a1, b1⟩ := kk v w2 T'.heap (locs ++ L) hp (hb.mono hA1) hb k3 k1 k2 T' rfl X'
    exact ⟨t2, st t2 a1, b1⟩
  · obtain ⟨k1, k2, k3⟩ := vx_keep h0 e1 hS (fun q _ h => hA1 q h) hA1 hL hF
    rw [← e1] at hb
    obtain ⟨t2, a1, b1⟩ := kx X9 ce q w2 T'.heap (locs ++ L) hp (hb.mono hA1) hb k3 k1 k2 (by rw [e1]; exact hce) hcv hcl T' rfl X'
    exact ⟨t2, st.trans a1, b1⟩
theorem wA_in {sz0 : Nat} (hP : wP E.1 A w H) (hS : va_S A s.heap H locs) (hA : ∀ q : Nat, s.heap.size ≤ q → A q) (hz : H.size = sz0) : ∀ q, wA w sz0 q → A q := by
  intro q h
  rcases h with h | h
  · cases hx : w q with
    | none => exact absurd hx h
    | some x => exact hP.inA hx
  · exact hA q (Nat.le_trans hS.1 (by omega))
/-- behind a call in a method without a table: the exceptions go on -/
theorem wl_on {st0 : List Value} {av : Array Value} {mc1 ms1 : Nat} {post1 : Option Value → wW → Prop} {px1 : String → wW → Prop} (C0 : wC p s m args meth c own cc nL Ts E A) (ht : ∀ x ∈ c.exceptionTable.toList, False) (hP : wP E.1 A w H) (hS : va_S A s.heap H locs)
    (hr : vx_Run p l e R s m args below meth c H locs cells slots mc1 ms1 (F0 m pc ls st0) rest (wQ E (wA w H.size) post1 av) (wX E (wA w H.size) px1) (wA w H.size)) (hc : cells + mc1 ≤ mc) (hs : slots + ms1 ≤ ms) (hpx : ∀ (X : String) (w2 : wW), px1 X w2 → px X w2)
    (kk : ∀ (v : Option Value) (w2 : wW) (H1 : Heap) (locs1 : List Loc), post1 v w2 → wP E.1 A w2 H1 → va_S A s.heap H1 locs1 → W p l e R s m args below meth c H1 locs1 (cells + mc1) (slots + ms1) (vx_MQ below (wQ E A post) (wX E A px) args s mc ms A) (F0 m (pc + 3) ls (v.toList ++ rest))) :
    W p l e R s m args below meth c H locs cells slots (vx_MQ below (wQ E A post) (wX E A px) args s mc ms A) (F0 m pc ls st0) := by
  refine wl_go hr hS (wA_in hP hS C0.2.2.2.2.2.2.2.2 rfl) (fun X ce q9 w2 H1 locs1 h1 h2 _ h3 _ _ h4 h5 h6 => ?_) (fun v w2 H1 locs1 h1 h2 _ h3 _ _ => kk v w2 H1 locs1 h1 h2 h3)
  exact wl_out C0 ht h2 h3 h4 h5 h6 hc hs (hpx X w2 h1)
theorem wP_recv {ci : Nat} {q : vw_C} {fs : List Value} {D : va_G} {tys : List (ClassId × FieldType)} (hK : va_K D wCl tys s) (hP : wP D A w H) (hc : wCl[ci]? = some q) (he : w a = some (.inr (ci, fs))) : ∃ cell : Cell, H[a]? = some cell ∧ cell.vm.isStatics = false ∧ s.vm.findClass q.1 = some cell.cls := va_recv hK (hP.sg he) hc (q0 := 0) rfl
theorem wl_runV {y : MethodName} {bytes : ByteArray} {maxL n index lv mc1 ms1 ci : Nat} {ret : Option FieldType} {ws : List Cond} {As st0 fs : List Value} {q : vw_C} {post1 : Option Value → wW → Prop} {px1 : String → wW → Prop} (C0 : wC p s m args meth c own cc nL Ts E A) (hP : wP E.1 A w H) (hS : va_S A s.heap H locs) (hM : wM l y ws lv mc1 ms1 E w H.size (Value.ref a :: As) post1 px1) (cw : CallW R s args own q.1 index y bytes maxL ret ws (wRm lv mc1 ms1) mc1 ms1 n) (he : w a = some (.inr (ci, fs))) (hci : wCl[ci]? = some q)
    (hst : st0 = As.reverse ++ .ref a :: rest) (hn : As.length = n) (hsize : ls.size = nL) (hW : (rest.map fun v => v.category).sum ≤ 8) (hdg : decode cc pc = .ok (.invokevirtual index, 3)) (hf : cells + mc1 ≤ R.cells ∧ slots + ms1 ≤ R.slots) :
    vx_Run p l e R s m args below meth c H locs cells slots mc1 ms1 (F0 m pc ls st0) rest (wQ E (wA w H.size) post1 (Value.ref a :: As).toArray) (wX E (wA w H.size) px1) (wA w H.size) := by
  subst hst
  exact vx_runV ⟨C0.1, C0.2.1, C0.2.2.1, C0.2.2.2.1, C0.2.2.2.2.1⟩ hM cw ⟨wB_blind, wP_recv C0.2.2.2.2.2.2.1 hP hci he, fun U hU hW => ⟨rfl, wB_of C0 hP hS hU hW⟩⟩ rfl hn hsize rfl (lv_room hW) hdg hf
theorem wl_runVN {y : MethodName} {bytes : ByteArray} {host : String} {maxL n index lv mc1 ms1 ci : Nat} {ret : Option FieldType} {ws : List Cond} {As st0 fs : List Value} {q : vw_C} {post1 : Option Value → wW → Prop} {px1 : String → wW → Prop} (C0 : wC p s m args meth c own cc nL Ts E A) (hP : wP E.1 A w H) (hS : va_S A s.heap H locs) (hM : wM l y ws lv mc1 ms1 E w H.size (Value.ref a :: As) post1 px1) (cw : va_CN R s args own index y host bytes maxL ret ws (wRm lv mc1 ms1) mc1 ms1 n ∧ (Cond.instanceMethod y).before args s = true ∧ (Cond.selects q.1 y y).before args s = true) (he : w a = some (.inr (ci, fs))) (hci : wCl[ci]? = some q)
    (hst : st0 = As.reverse ++ .ref a :: rest) (hn : As.length = n) (hsize : ls.size = nL) (hW : (rest.map fun v => v.category).sum ≤ 8) (hdg : decode cc pc = .ok (.invokevirtual index, 3)) (hf : cells + mc1 ≤ R.cells ∧ slots + ms1 ≤ R.slots) :
    vx_Run p l e R s m args below meth c H locs cells slots mc1 ms1 (F0 m pc ls st0) rest (wQ E (wA w H.size) post1 (Value.ref a :: As).toArray) (wX E (wA w H.size) px1) (wA w H.size) := by
  subst hst
  exact vx_runVN ⟨C0.1, C0.2.1, C0.2.2.1, C0.2.2.2.1, C0.2.2.2.2.1⟩ hM cw ⟨wB_blind, wP_recv C0.2.2.2.2.2.2.1 hP hci he, fun U hU hW => ⟨rfl, wB_of C0 hP hS hU hW⟩⟩ rfl hn hsize rfl (lv_room hW) hdg hf
theorem wl_runS {y : MethodName} {bytes : ByteArray} {maxL n index lv mc1 ms1 : Nat} {ret : Option FieldType} {ws : List Cond} {As st0 : List Value} {post1 : Option Value → wW → Prop} {px1 : String → wW → Prop} (C0 : wC p s m args meth c own cc nL Ts E A) (hP : wP E.1 A w H) (hS : va_S A s.heap H locs) (hM : wM l y ws lv mc1 ms1 E w H.size As post1 px1) (cw : CallB R s args own index y bytes maxL ret ws (wRm lv mc1 ms1) mc1 ms1 n ∧ (Cond.static y).before args s = true)
    (hst : st0 = As.reverse ++ rest) (hn : As.length = n) (hsize : ls.size = nL) (hW : (rest.map fun v => v.category).sum ≤ 8) (hdg : decode cc pc = .ok (.invokestatic index, 3)) (hf : cells + mc1 ≤ R.cells ∧ slots + ms1 ≤ R.slots) :
    vx_Run p l e R s m args below meth c H locs cells slots mc1 ms1 (F0 m pc ls st0) rest (wQ E (wA w H.size) post1 As.toArray) (wX E (wA w H.size) px1) (wA w H.size) := by
  subst hst
  exact vx_runS ⟨C0.1, C0.2.1, C0.2.2.1, C0.2.2.2.1, C0.2.2.2.2.1⟩ hM cw ⟨wB_blind, fun U hU hW => ⟨rfl, wB_of C0 hP hS hU hW⟩⟩ rfl hn hsize rfl (lv_room hW) hdg hf
theorem wl_runSX {y : MethodName} {bytes : ByteArray} {hh : List (Nat × Nat × Nat × Nat)} {maxL n index lv mc1 ms1 : Nat} {ret : Option FieldType} {ws : List Cond} {As st0 : List Value} {post1 : Option Value → wW → Prop} {px1 : String → wW → Prop} (C0 : wC p s m args meth c own cc nL Ts E A) (hP : wP E.1 A w H) (hS : va_S A s.heap H locs) (hM : wM l y ws lv mc1 ms1 E w H.size As post1 px1) (cw : vx_CSW R s args own index y bytes maxL ret hh ws (wRm lv mc1 ms1) mc1 ms1 n)
    (hst : st0 = As.reverse ++ rest) (hn : As.length = n) (hsize : ls.size = nL) (hW : (rest.map fun v => v.category).sum ≤ 8) (hdg : decode cc pc = .ok (.invokestatic index, 3)) (hf : cells + mc1 ≤ R.cells ∧ slots + ms1 ≤ R.slots) :
    vx_Run p l e R s m args below meth c H locs cells slots mc1 ms1 (F0 m pc ls st0) rest (wQ E (wA w H.size) post1 As.toArray) (wX E (wA w H.size) px1) (wA w H.size) := by
  subst hst
  exact vx_runSX ⟨C0.1, C0.2.1, C0.2.2.1, C0.2.2.2.1, C0.2.2.2.2.1⟩ hM cw ⟨wB_blind, fun U hU hW => ⟨rfl, wB_of C0 hP hS hU hW⟩⟩ rfl hn hsize rfl (lv_room hW) hdg hf
theorem wl_runI {y : MethodName} {bytes : ByteArray} {maxL n index lv mc1 ms1 : Nat} {ws : List Cond} {As st0 : List Value} {post1 : Option Value → wW → Prop} {px1 : String → wW → Prop} (C0 : wC p s m args meth c own cc nL Ts E A) (hP : wP E.1 A w H) (hS : va_S A s.heap H locs) (hM : wM l y ws lv mc1 ms1 E w H.size (Value.ref a :: As) post1 px1) (cw : CallB R s args own index y bytes maxL none ws (wRm lv mc1 ms1) mc1 ms1 n ∧ y.name = "<init>" ∧ (Cond.instanceMethod y).before args s = true)
    (hst : st0 = As.reverse ++ .ref a :: rest) (hn : As.length = n) (hsize : ls.size = nL) (hW : (rest.map fun v => v.category).sum ≤ 8) (hdg : decode cc pc = .ok (.invokespecial index, 3)) (hf : cells + mc1 ≤ R.cells ∧ slots + ms1 ≤ R.slots) :
    vx_Run p l e R s m args below meth c H locs cells slots mc1 ms1 (F0 m pc ls st0) rest (wQ E (wA w H.size) post1 (Value.ref a :: As).toArray) (wX E (wA w H.size) px1) (wA w H.size) := by
  subst hst
  exact vx_runI ⟨C0.1, C0.2.1, C0.2.2.1, C0.2.2.2.1, C0.2.2.2.2.1⟩ hM cw ⟨wB_blind, fun U hU hW => ⟨rfl, wB_of C0 hP hS hU hW⟩⟩ rfl hn hsize rfl (lv_room hW) hdg hf
theorem wl_runIN {y : MethodName} {bytes : ByteArray} {host : String} {maxL n index lv mc1 ms1 : Nat} {ws : List Cond} {As st0 : List Value} {post1 : Option Value → wW → Prop} {px1 : String → wW → Prop} (C0 : wC p s m args meth c own cc nL Ts E A) (hP : wP E.1 A w H) (hS : va_S A s.heap H locs) (hM : wM l y ws lv mc1 ms1 E w H.size (Value.ref a :: As) post1 px1) (cw : va_CN R s args own index y host bytes maxL none ws (wRm lv mc1 ms1) mc1 ms1 n ∧ y.name = "<init>" ∧ (Cond.instanceMethod y).before args s = true)
    (hst : st0 = As.reverse ++ .ref a :: rest) (hn : As.length = n) (hsize : ls.size = nL) (hW : (rest.map fun v => v.category).sum ≤ 8) (hdg : decode cc pc = .ok (.invokespecial index, 3)) (hf : cells + mc1 ≤ R.cells ∧ slots + ms1 ≤ R.slots) :
    vx_Run p l e R s m args below meth c H locs cells slots mc1 ms1 (F0 m pc ls st0) rest (wQ E (wA w H.size) post1 (Value.ref a :: As).toArray) (wX E (wA w H.size) px1) (wA w H.size) := by
  subst hst
  exact vx_runIN ⟨C0.1, C0.2.1, C0.2.2.1, C0.2.2.2.1, C0.2.2.2.2.1⟩ hM cw ⟨wB_blind, fun U hU hW => ⟨rfl, wB_of C0 hP hS hU hW⟩⟩ rfl hn hsize rfl (lv_room hW) hdg hf
-- reads and writes
theorem wl_get {C : String} {T : u_T} {N ci index : Nat} {fs : List Value} {v : Value} (C0 : wC p s m args meth c own cc nL Ts E A) (hP : wP E.1 A w H) (he : w a = some (.inr (ci, fs))) (hin : ∀ w ∈ u_ws C T N, w ∈ Ts) (hc : wCl[ci]? = some (C, T, N)) (k : Nat) (hk : k < N) (hlink : (Cond.fieldLink own index (T k).1 (T k).2.1 (T k).2.2.1).before args s = true) (hv : fs[k]? = some v) (hdg : decode cc pc = .ok (.getfield index, 3))
    (kk : W p l e R s m args below meth c H locs cells slots Q (F0 m (pc + 3) ls (v :: rest))) : W p l e R s m args below meth c H locs cells slots Q (F0 m pc ls (.ref a :: rest)) :=
  va_get (D := E.1) (cl := wCl) C0.1 C0.2.1 C0.2.2.2.2.1 hin C0.2.2.2.1 C0.2.2.2.2.2.2.1 (hP.sg he) 0 rfl hc k hk hlink (fun _ h => h) hv hdg kk
theorem wl_getN {C host : String} {T : u_T} {N ci index : Nat} {fs : List Value} {v : Value} (C0 : wC p s m args meth c own cc nL Ts E A) (hP : wP E.1 A w H) (he : w a = some (.inr (ci, fs))) (hin : ∀ w ∈ u_ws C T N, w ∈ Ts) (hc : wCl[ci]? = some (C, T, N)) (k : Nat) (hk : k < N) (hlink : va_Nw (.fieldLinkNest own index (T k).1 (T k).2.1 (T k).2.2.1 host) s) (hv : fs[k]? = some v) (hdg : decode cc pc = .ok (.getfield index, 3))
    (kk : W p l e R s m args below meth c H locs cells slots Q (F0 m (pc + 3) ls (v :: rest))) : W p l e R s m args below meth c H locs cells slots Q (F0 m pc ls (.ref a :: rest)) :=
  va_getN (D := E.1) (cl := wCl) C0.1 C0.2.1 C0.2.2.2.2.1 hin C0.2.2.2.1 C0.2.2.2.2.2.2.1 (hP.sg he) 0 rfl hc k hk (va_Nw.use rfl hlink) (fun _ h => h) hv hdg kk
theorem wl_put {C : String} {T : u_T} {N ci index : Nat} {fs fs2 : List Value} {v : Value} {ty : FieldType} {ty0 : Nat → FieldType} (C0 : wC p s m args meth c own cc nL Ts E A) (hP : wP E.1 A w H) (hS : va_S A s.heap H locs) (he : w a = some (.inr (ci, fs))) (hin : ∀ w ∈ u_ws C T N, w ∈ Ts) (hty : ∀ k, k < N → parseFieldDescriptor (T k).2.2.1 = some (ty0 k)) (hnm : ∀ a, a < N → ∀ b, b < N → a ≠ b → (T a).2.1 ≠ (T b).2.1) (hc : wCl[ci]? = some (C, T, N)) (k : Nat) (hk : k < N) (hlink : (Cond.fieldLink own index (T k).1 (T k).2.1 (T k).2.2.1).before args s = true) (hfin : (T k).2.2.2 = false) (ht0 : ty0 k = ty) (hn : narrow ty v = v) (hfit : fits ty v = true) (hl : k < fs.length) (hfs : fs.set k v = fs2)
    (hdg : decode cc pc = .ok (.putfield index, 3)) (kk : ∀ (H1 : Heap) (locs1 : List Loc), wP E.1 A (wU w a (.inr (ci, fs2))) H1 → va_S A s.heap H1 locs1 → W p l e R s m args below meth c H1 locs1 cells slots Q (F0 m (pc + 3) ls rest)) : W p l e R s m args below meth c H locs cells slots Q (F0 m pc ls (v :: .ref a :: rest)) := by
  obtain ⟨ws, hP0, hD0, hw⟩ := hP
  obtain ⟨q0, hq0⟩ := (hw a _).mp he
  subst hfs
  exact va_put (D := E.1) (cl := wCl) C0.1 C0.2.1 C0.2.2.2.2.1 hin ty0 hty hnm C0.2.2.2.1 C0.2.2.2.2.2.2.1 hP0 hD0 hS q0 hq0 hc k hk hlink (fun _ h => h) hfin ((hty k hk).trans (by rw [ht0])) hn hfit hl hdg (fun H1 locs1 g1 g2 g3 => kk H1 locs1 (wP_set hD0 hw hq0 g1 g2) g3)
theorem wl_putN {C host : String} {T : u_T} {N ci index : Nat} {fs fs2 : List Value} {v : Value} {ty : FieldType} {ty0 : Nat → FieldType} (C0 : wC p s m args meth c own cc nL Ts E A) (hP : wP E.1 A w H) (hS : va_S A s.heap H locs) (he : w a = some (.inr (ci, fs))) (hin : ∀ w ∈ u_ws C T N, w ∈ Ts) (hty : ∀ k, k < N → parseFieldDescriptor (T k).2.2.1 = some (ty0 k)) (hnm : ∀ a, a < N → ∀ b, b < N → a ≠ b → (T a).2.1 ≠ (T b).2.1) (hc : wCl[ci]? = some (C, T, N)) (k : Nat) (hk : k < N) (hlink : va_Nw (.fieldLinkNest own index (T k).1 (T k).2.1 (T k).2.2.1 host) s) (hfin : (T k).2.2.2 = false) (ht0 : ty0 k = ty) (hn : narrow ty v = v) (hfit : fits ty v = true) (hl : k < fs.length) (hfs : fs.set k v = fs2)
    (hdg : decode cc pc = .ok (.putfield index, 3)) (kk : ∀ (H1 : Heap) (locs1 : List Loc), wP E.1 A (wU w a (.inr (ci, fs2))) H1 → va_S A s.heap H1 locs1 → W p l e R s m args below meth c H1 locs1 cells slots Q (F0 m (pc + 3) ls rest)) : W p l e R s m args below meth c H locs cells slots Q (F0 m pc ls (v :: .ref a :: rest)) := by
  obtain ⟨ws, hP0, hD0, hw⟩ := hP
  obtain ⟨q0, hq0⟩ := (hw a _).mp he
  subst hfs
  exact va_putN (D := E.1) (cl := wCl) C0.1 C0.2.1 C0.2.2.2.2.1 hin ty0 hty hnm C0.2.2.2.1 C0.2.2.2.2.2.2.1 hP0 hD0 hS q0 hq0 hc k hk (va_Nw.use rfl hlink) (fun _ h => h) hfin ((hty k hk).trans (by rw [ht0])) hn hfit hl hdg (fun H1 locs1 g1 g2 g3 => kk H1 locs1 (wP_set hD0 hw hq0 g1 g2) g3)
theorem wl_putF {C : String} {T : u_T} {N ci index : Nat} {fs fs2 : List Value} {v : Value} {ty : FieldType} {ty0 : Nat → FieldType} (C0 : wC p s m args meth c own cc nL Ts E A) (hin2 : meth.name = "<init>") (hP : wP E.1 A w H) (hS : va_S A s.heap H locs) (he : w a = some (.inr (ci, fs))) (hin : ∀ w ∈ u_ws C T N, w ∈ Ts) (hty : ∀ k, k < N → parseFieldDescriptor (T k).2.2.1 = some (ty0 k)) (hnm : ∀ a, a < N → ∀ b, b < N → a ≠ b → (T a).2.1 ≠ (T b).2.1) (hc : wCl[ci]? = some (C, T, N)) (k : Nat) (hk : k < N) (hlink : (Cond.fieldLink own index (T k).1 (T k).2.1 (T k).2.2.1).before args s = true) (hfin : (T k).2.2.2 = true) (hdecl : (T k).1 = own) (ht0 : ty0 k = ty) (hn : narrow ty v = v) (hfit : fits ty v = true) (hl : k < fs.length) (hfs : fs.set k v = fs2)
    (hdg : decode cc pc = .ok (.putfield index, 3)) (kk : ∀ (H1 : Heap) (locs1 : List Loc), wP E.1 A (wU w a (.inr (ci, fs2))) H1 → va_S A s.heap H1 locs1 → W p l e R s m args below meth c H1 locs1 cells slots Q (F0 m (pc + 3) ls rest)) : W p l e R s m args below meth c H locs cells slots Q (F0 m pc ls (v :: .ref a :: rest)) := by
  obtain ⟨ws, hP0, hD0, hw⟩ := hP
  obtain ⟨q0, hq0⟩ := (hw a _).mp he
  subst hfs
  exact va_putF (D := E.1) (cl := wCl) C0.1 C0.2.1 C0.2.2.2.2.1 hin ty0 hty hnm C0.2.2.2.1 C0.2.2.2.2.2.2.1 hP0 hD0 hS q0 hq0 hc k hk hlink (fun _ h => h) hfin hin2 hdecl ((hty k hk).trans (by rw [ht0])) hn hfit hl hdg (fun H1 locs1 g1 g2 g3 => kk H1 locs1 (wP_set hD0 hw hq0 g1 g2) g3)
theorem wl_alen {x : vp_A} {cA : ClassId} {ty : FieldType} {v : Int32} (C0 : wC p s m args meth c own cc nL Ts E A) (hP : wP E.1 A w H) (he : w a = some (.inl (cA, x))) (t0 : Nat) (ht : (wTy E.2.1)[t0]? = some (cA, ty)) (hv : Int32.ofNat x.1 = v) (hdg : decode cc pc = .ok (.arraylength, 1))
    (kk : W p l e R s m args below meth c H locs cells slots Q (F0 m (pc + 1) ls (.int v :: rest))) : W p l e R s m args below meth c H locs cells slots Q (F0 m pc ls (.ref a :: rest)) :=
  va_alen (D := E.1) (cl := wCl) C0.1 C0.2.1 C0.2.2.2.2.2.2.1 (hP.sg he) 0 t0 rfl ht hv hdg kk
theorem wl_iald {n : Nat} {f : Nat → Int32} {i : Int32} (C0 : wC p s m args meth c own cc nL Ts E A) (hP : wP E.1 A w H) (he : w a = some (.inl (E.2.1 0, n, .inl f))) (hin : vp_in i n) (hdg : decode cc pc = .ok (.iaload, 1))
    (kk : W p l e R s m args below meth c H locs cells slots Q (F0 m (pc + 1) ls (.int (f i.toNatClampNeg) :: rest))) : W p l e R s m args below meth c H locs cells slots Q (F0 m pc ls (.int i :: .ref a :: rest)) :=
  va_iald (D := E.1) (cl := wCl) C0.1 C0.2.1 C0.2.2.2.2.2.2.1 (hP.sg he) 0 0 rfl rfl hin hdg kk
theorem wl_aldq {n t0 : Nat} {C : String} {f : Nat → Option Nat} {i : Int32} (C0 : wC p s m args meth c own cc nL Ts E A) (hP : wP E.1 A w H) (ht : (wTy E.2.1)[t0]? = some (E.2.1 t0, .object C)) (he : w a = some (.inl (E.2.1 t0, n, .inr (.inr (.inr (.inr f)))))) (hin : vp_in i n) (hdg : decode cc pc = .ok (.aaload, 1))
    (kk : W p l e R s m args below meth c H locs cells slots Q (F0 m (pc + 1) ls (va_rf (f i.toNatClampNeg) :: rest))) : W p l e R s m args below meth c H locs cells slots Q (F0 m pc ls (.int i :: .ref a :: rest)) :=
  va_aldq (D := E.1) (cl := wCl) C0.1 C0.2.1 C0.2.2.2.2.2.2.1 (hP.sg he) 0 t0 rfl ht hin hdg kk
theorem wl_iast {n : Nat} {f : Nat → Int32} {i x : Int32} (C0 : wC p s m args meth c own cc nL Ts E A) (hP : wP E.1 A w H) (hS : va_S A s.heap H locs) (he : w a = some (.inl (E.2.1 0, n, .inl f))) (hin : vp_in i n) (hdg : decode cc pc = .ok (.iastore, 1))
    (kk : ∀ (H1 : Heap) (locs1 : List Loc), wP E.1 A (wU w a (.inl (E.2.1 0, n, .inl (upd f i.toNatClampNeg x)))) H1 → va_S A s.heap H1 locs1 → W p l e R s m args below meth c H1 locs1 cells slots Q (F0 m (pc + 1) ls rest)) : W p l e R s m args below meth c H locs cells slots Q (F0 m pc ls (.int x :: .int i :: .ref a :: rest)) := by
  obtain ⟨ws, hP0, hD0, hw⟩ := hP
  obtain ⟨q0, hq0⟩ := (hw a _).mp he
  exact va_iast (D := E.1) (cl := wCl) C0.1 C0.2.1 C0.2.2.2.2.2.2.1 hP0 hD0 hS q0 0 hq0 rfl hin hdg (fun H1 locs1 g1 g2 g3 => kk H1 locs1 (wP_set hD0 hw hq0 g1 g2) g3)
theorem wl_astq {n t0 ci v : Nat} {r : vw_C} {vs : List Value} {f : Nat → Option Nat} {i : Int32} (C0 : wC p s m args meth c own cc nL Ts E A) (hP : wP E.1 A w H) (hS : va_S A s.heap H locs) (ht : (wTy E.2.1)[t0]? = some (E.2.1 t0, .object r.1)) (hci : wCl[ci]? = some r) (he : w a = some (.inl (E.2.1 t0, n, .inr (.inr (.inr (.inr f)))))) (hv : w v = some (.inr (ci, vs))) (hin : vp_in i n) (hdg : decode cc pc = .ok (.aastore, 1))
    (kk : ∀ (H1 : Heap) (locs1 : List Loc), wP E.1 A (wU w a (.inl (E.2.1 t0, n, .inr (.inr (.inr (.inr (va_up f i.toNatClampNeg (some v)))))))) H1 → va_S A s.heap H1 locs1 → W p l e R s m args below meth c H1 locs1 cells slots Q (F0 m (pc + 1) ls rest)) : W p l e R s m args below meth c H locs cells slots Q (F0 m pc ls (.ref v :: .int i :: .ref a :: rest)) := by
  obtain ⟨ws, hP0, hD0, hw⟩ := hP
  obtain ⟨q0, hq0⟩ := (hw a _).mp he
  obtain ⟨qk, hqk⟩ := (hw v _).mp hv
  exact va_astq (D := E.1) (cl := wCl) C0.1 C0.2.1 C0.2.2.2.2.2.2.1 hP0 hD0 hS q0 t0 qk ci hq0 ht hqk hci hin hdg (fun H1 locs1 g1 g2 g3 => kk H1 locs1 (wP_set hD0 hw hq0 g1 g2) g3)
theorem wl_new {C : String} {T : u_T} {N ci index : Nat} {fs : List Value} {ty0 : Nat → FieldType} (C0 : wC p s m args meth c own cc nL Ts E A) (hP : wP E.1 A w H) (hS : va_S A s.heap H locs) (hin : ∀ w ∈ u_ws C T N, w ∈ Ts) (hty : ∀ k, k < N → parseFieldDescriptor (T k).2.2.1 = some (ty0 k)) (hc : wCl[ci]? = some (C, T, N)) (hcl : (Cond.classLink own index C).before args s = true) (hinst : (Cond.instantiable C N).before args s = true) (hini : (Cond.initialized C).before args s = true) (hfs : ∀ j, j < N → defaultValue (ty0 j) = vp_V fs j) (hcells : cells + 1 ≤ R.cells) (hslots : slots + N ≤ R.slots) (hdg : decode cc pc = .ok (.new index, 3))
    (kk : ∀ (q : Nat) (H1 : Heap), w q = none → wP E.1 A (wU w q (.inr (ci, fs))) H1 → va_S A s.heap H1 locs → W p l e R s m args below meth c H1 locs (cells + 1) (slots + N) Q (F0 m (pc + 3) ls (.ref q :: rest))) : W p l e R s m args below meth c H locs cells slots Q (F0 m pc ls rest) := by
  obtain ⟨ws, hP0, hD0, hw⟩ := hP
  refine va_new (D := E.1) (cl := wCl) C0.1 C0.2.1 C0.2.2.2.2.1 hin ty0 hty C0.2.2.2.1 hcl hinst hini C0.2.2.2.2.2.2.1 hP0 hD0 hS C0.2.2.2.2.2.2.2.2 hc hfs hcells hslots hdg (fun q H1 g1 g2 g3 => ?_)
  obtain ⟨h1, h2⟩ := wP_push hw g1 g2
  exact kk q H1 h2 h1 g3
theorem w_cy {c1 c2 : ClassId} {ty : FieldType} (h1 : va_RA s c1 ty) (h2 : va_RA s c2 ty) : c1 = c2 := by
  cases ty with
  | object C =>
    obtain ⟨_, _, _, _, _, h3⟩ := h1
    obtain ⟨_, _, _, _, _, h4⟩ := h2
    exact Option.some.inj (h3.symm.trans h4)
  | _ => exact Option.some.inj (Eq.trans (Eq.symm h1) h2)
theorem w_cyK {tys : List (ClassId × FieldType)} {D : va_G} {c1 c2 : ClassId} {ty : FieldType} {t0 : Nat} (hK : va_K D wCl tys s) (ht : tys[t0]? = some (c1, ty)) (h2 : va_K D wCl (tys ++ [(c2, ty)]) s) : c2 = c1 :=
  w_cy (h2.2 tys.length (c2, ty) (by simp)).2 (hK.2 t0 _ ht).2
theorem wl_newq {C : String} {index t0 N1 : Nat} {n : Int32} (C0 : wC p s m args meth c own cc nL Ts E A) (hP : wP E.1 A w H) (hS : va_S A s.heap H locs) (ht : (wTy E.2.1)[t0]? = some (E.2.1 t0, .object C)) (hcl : (Cond.classLink own index C).before args s = true) (hC : C ∈ wArs) (hn : ¬ n < 0) (hN : n.toNatClampNeg = N1) (hbytes : N1 * 4 ≤ 536870912) (hcells : cells + 1 ≤ R.cells) (hslots : slots + N1 ≤ R.slots) (hdg : decode cc pc = .ok (.anewarray index, 3))
    (kk : ∀ (q : Nat) (H1 : Heap), w q = none → wP E.1 A (wU w q (.inl (E.2.1 t0, N1, .inr (.inr (.inr (.inr (fun _ => none))))))) H1 → va_S A s.heap H1 locs → W p l e R s m args below meth c H1 locs (cells + 1) (slots + N1) Q (F0 m (pc + 3) ls (.ref q :: rest))) : W p l e R s m args below meth c H locs cells slots Q (F0 m pc ls (.int n :: rest)) := by
  obtain ⟨ws, hP0, hD0, hw⟩ := hP
  refine va_newq (D := E.1) (cl := wCl) C0.1 C0.2.1 C0.2.2.2.1 hcl (C0.2.2.2.2.2.2.2.1.2.2.2.2 C hC) C0.2.2.2.2.2.2.1 hP0 hD0 hS C0.2.2.2.2.2.2.2.2 hn hN hbytes hcells hslots hdg (fun q cA H1 g0 g1 g2 g3 => ?_)
  cases w_cyK C0.2.2.2.2.2.2.1 ht g0
  obtain ⟨h1, h2⟩ := wP_push hw g1 g2
  exact kk q H1 h2 h1 g3
theorem wl_newa {atype : ArrayType} {ty : FieldType} {t0 N1 : Nat} {n : Int32} {a0 : vp_A} (C0 : wC p s m args meth c own cc nL Ts E A) (hP : wP E.1 A w H) (hS : va_S A s.heap H locs) (harr : (Cond.arrayClass (newarray.typeOf atype)).before args s = true) (hty : newarray.typeOf atype = ty) (ht : (wTy E.2.1)[t0]? = some (E.2.1 t0, ty)) (ha : ∀ cA : ClassId, vp_cell cA a0 = arrV cA N1 (fun _ => defaultValue ty)) (hn : ¬ n < 0) (hN : n.toNatClampNeg = N1) (hbytes : N1 * componentBytes ty ≤ 536870912) (hcells : cells + 1 ≤ R.cells) (hslots : slots + N1 ≤ R.slots) (hdg : decode cc pc = .ok (.newarray atype, 2))
    (kk : ∀ (q : Nat) (H1 : Heap), w q = none → wP E.1 A (wU w q (.inl (E.2.1 t0, a0))) H1 → va_S A s.heap H1 locs → W p l e R s m args below meth c H1 locs (cells + 1) (slots + N1) Q (F0 m (pc + 2) ls (.ref q :: rest))) : W p l e R s m args below meth c H locs cells slots Q (F0 m pc ls (.int n :: rest)) := by
  obtain ⟨ws, hP0, hD0, hw⟩ := hP
  refine va_newa (D := E.1) (cl := wCl) C0.1 C0.2.1 harr hty C0.2.2.2.2.2.2.1 hP0 hD0 hS C0.2.2.2.2.2.2.2.2 ha hn hN hbytes hcells hslots hdg (fun q cA H1 g0 g1 g2 g3 => ?_)
  cases w_cyK C0.2.2.2.2.2.2.1 ht g0
  obtain ⟨h1, h2⟩ := wP_push hw g1 g2
  exact kk q H1 h2 h1 g3
end WR
def wtg : va_E → Nat
  | .inr o => o.1
  | .inl (_, (_, .inl _)) => 100
  | .inl (_, (_, .inr (.inl _))) => 101
  | .inl (_, (_, .inr (.inr (.inl _)))) => 102
  | .inl (_, (_, .inr (.inr (.inr (.inl _))))) => 103
  | .inl (_, (_, .inr (.inr (.inr (.inr _))))) => 104
theorem wne {w : wW} {a b : Nat} {e1 e2 : va_E} (h1 : w a = some e1) (h2 : w b = some e2) (h : wtg e1 ≠ wtg e2) : a ≠ b := by
  intro e
  subst e
  rw [h1] at h2
  exact h (by rw [Option.some.inj h2])
theorem wne_f {w : wW} {a q : Nat} {e : va_E} (hq : w q = none) (ha : w a = some e) : a ≠ q := by
  intro h
  subst h
  rw [hq] at ha
  cases ha
theorem xc_IAE : Cond.castable "java/lang/IllegalArgumentException" "java/lang/IllegalArgumentException" ∈ wNW := by decide +kernel
theorem xn_IAE : ∀ w ∈ (vx_atS RX6 50 "java/lang/IllegalArgumentException" wXn).filter (fun w => !goodWord w), w ∈ wNW := by decide +kernel
theorem xg_IAE : ∀ w ∈ Cond.classLink RX6 46 "java/lang/IllegalArgumentException" :: Cond.initialized "java/lang/IllegalArgumentException" :: vx_atS RX6 50 "java/lang/IllegalArgumentException" wXn, vx_ot w = true := by decide +kernel
theorem xc_ISE : Cond.castable "java/lang/IllegalStateException" "java/lang/IllegalStateException" ∈ wNW := by decide +kernel
theorem xn_ISE : ∀ w ∈ (vx_atS RX6 67 "java/lang/IllegalStateException" wXn).filter (fun w => !goodWord w), w ∈ wNW := by decide +kernel
theorem xg_ISE : ∀ w ∈ Cond.classLink RX6 63 "java/lang/IllegalStateException" :: Cond.initialized "java/lang/IllegalStateException" :: vx_atS RX6 67 "java/lang/IllegalStateException" wXn, vx_ot w = true := by decide +kernel
theorem xc_NSE : Cond.castable "java/util/NoSuchElementException" "java/util/NoSuchElementException" ∈ wNW := by decide +kernel
theorem xn_NSE : ∀ w ∈ (vxx_at RX6 148 "java/util/NoSuchElementException" 13 prog_27_method_4_code wXn).filter (fun w => !goodWord w), w ∈ wNW := by decide +kernel
theorem xg_NSE : ∀ w ∈ Cond.classLink RX6 144 "java/util/NoSuchElementException" :: Cond.initialized "java/util/NoSuchElementException" :: vxx_at RX6 148 "java/util/NoSuchElementException" 13 prog_27_method_4_code wXn, vx_ot w = true := by decide +kernel
theorem xc_IOB : Cond.castable "java/lang/IndexOutOfBoundsException" "java/lang/IndexOutOfBoundsException" ∈ wNW := by decide +kernel
theorem xn_IOB : ∀ w ∈ (vx_atS RX6 249 "java/lang/IndexOutOfBoundsException" wXn).filter (fun w => !goodWord w), w ∈ wNW := by decide +kernel
theorem xg_IOB : ∀ w ∈ Cond.classLink RX6 245 "java/lang/IndexOutOfBoundsException" :: Cond.initialized "java/lang/IndexOutOfBoundsException" :: vx_atS RX6 249 "java/lang/IndexOutOfBoundsException" wXn, vx_ot w = true := by decide +kernel
