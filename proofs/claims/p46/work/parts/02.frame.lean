/-! The frame of this proof: a judgement GJ over an abstract heap (a function from addresses to cells), its rows out of the kit's rows, contracts gMet, calls. -/
section GFRAME
abbrev gH : Type := Nat → Option va_E
def gT : List Cond := lw_tbl.filter goodWord
theorem gT_in {w : Cond} (h : w ∈ lw_tbl) (g : goodWord w = true) : w ∈ gT := List.mem_filter.mpr ⟨h, g⟩
theorem gT_good {w : Cond} (h : w ∈ gT) : goodWord w = true := (List.mem_filter.mp h).2
theorem gT_at {w : Cond} (i : Nat) (h : lw_tbl[i]? = some w) (g : goodWord w = true) : w ∈ gT := gT_in (List.mem_of_getElem? h) g
def gWS (y : MethodName) (cc : ByteArray) (n : Nat) (ret : Option FieldType) : List Cond := Cond.code y cc n ret :: gT
theorem gWS_in {w : Cond} (h : w ∈ gT) : w ∈ gT ∧ ((w.onTables && w.keeps) = true ∨ ∃ ty, w = .arrayClass ty) := ⟨h, good_of_word (gT_good h)⟩
theorem gWS_good {y : MethodName} {cc : ByteArray} {n : Nat} {ret : Option FieldType} (h : Cond.code y cc n ret ∈ gT) : GoodIn gT (gWS y cc n ret) := by
  intro w hw
  rcases List.mem_cons.mp hw with rfl | hw
  · exact gWS_in h
  · exact gWS_in hw
/-- words that a warm machine keeps, though they aren't 'good' -/
def gSoft : Cond → Bool
  | .castable _ _ => true
  | .declares _ => true
  | .methodLinkNest _ _ _ _ => true
  | _ => false
def gB : List Cond := tables_1.filter gSoft
theorem gSoft_warm {w : Cond} {s U : State} (hg : gSoft w = true) (hW : s.WarmedH U.vm) (h : va_Nw w s) : va_Nw w U := by
  cases w <;> first | exact va_Nw.warmC hW h | exact va_Nw.warmD hW h | exact va_Nw.warmM hW h | (exact absurd hg (by simp [gSoft]))
/-- the texts of the exceptions: class, place, text -/
def gStrs : List (String × Nat × String) := tables_1.filterMap (fun w => match w with | .stringRef a k t => some (a, k, t) | _ => none)
/-- exceptions that a handler's class does not take -/
def gNcs : List (String × String) := [("java/lang/IllegalArgumentException", "java/lang/IndexOutOfBoundsException"), ("java/lang/UnsupportedOperationException", "java/lang/IndexOutOfBoundsException"), ("java/util/NoSuchElementException", "java/lang/IndexOutOfBoundsException"), ("java/lang/IllegalStateException", "java/lang/IndexOutOfBoundsException"), ("java/lang/UnsupportedOperationException", "java/lang/IllegalArgumentException"), ("java/util/NoSuchElementException", "java/lang/IllegalArgumentException"), ("java/lang/IllegalStateException", "java/lang/IllegalArgumentException"), ("java/util/NoSuchElementException", "java/lang/UnsupportedOperationException"), ("java/lang/IllegalStateException", "java/lang/UnsupportedOperationException"), ("java/lang/IllegalStateException", "java/util/NoSuchElementException")]
/-- classes of whose objects arrays are made -/
def gArs : List String := ["Coasterland$Ride", "Coasterland$Guest", "Coasterland$Block", "Coasterland$Train"]
/-- the law's texts: class, place, text, bytes -/
def gLits : List (String × Nat × String × List Int32) := [("CoasterlandLaw", 216, "lsr", [108, 115, 114]), ("CoasterlandLaw", 223, "tttan", [116, 116, 116, 97, 110])]
def gLit (sz0 : Nat) (q : String × Nat × String × List Int32) (U : State) (H : Heap) : Prop := ∃ a v, vk_R q.1 q.2.1 q.2.2.1 a U ∧ va_O "java/lang/String" a (fun x => sz0 ≤ x) U H ∧ va_OF "java/lang/String" "coder" "B" (.int 0) a (fun x => sz0 ≤ x) U H ∧ va_OF "java/lang/String" "value" "[B" (.ref v) a (fun x => sz0 ≤ x) U H ∧ va_T .byte v q.2.2.2.length (fun j => .int (q.2.2.2.getD j 0)) (fun x => sz0 ≤ x) U H
theorem gLit_warm {sz0 : Nat} {q : String × Nat × String × List Int32} {s U : State} {H : Heap} {locs : List Loc} (hW : s.WarmedH U.vm) (hS : va_S (fun q => sz0 ≤ q) s.heap H locs) (h : gLit sz0 q s s.heap) : gLit sz0 q U H := by
  obtain ⟨a, v, h1, h2, h3, h4, h5⟩ := h
  exact ⟨a, v, h1.warm hW, (h2.kept hS.2.1).moved hW.alike, (h3.kept hS.2.1).moved hW.alike, (h4.kept hS.2.1).moved hW.alike, (h5.kept hS.2.1).moved hW.alike⟩
/-- what holds of the machine beside the objects: statics of Throwable, texts, casts -/
def gSt (sz0 : Nat) (U : State) (H : Heap) : Prop :=
  vx_Zq Bundle.tN "UNASSIGNED_STACK" Bundle.steD (fun q => sz0 ≤ q) U H ∧ vx_Zq Bundle.tN "SUPPRESSED_SENTINEL" Bundle.listD (fun q => sz0 ≤ q) U H ∧
  (∀ q ∈ gStrs, ∃ a, vk_R q.1 q.2.1 q.2.2 a U) ∧ (∀ w ∈ gB, va_Nw w U) ∧ (∀ q ∈ gNcs, va_Nc q.1 q.2 U) ∧ (∀ C ∈ gArs, va_AO C U) ∧ ∀ q ∈ gLits, gLit sz0 q U H
theorem gSt_warm {sz0 : Nat} {s U : State} {H : Heap} {locs : List Loc} (hW : s.WarmedH U.vm) (hS : va_S (fun q => sz0 ≤ q) s.heap H locs) (h : gSt sz0 s s.heap) : gSt sz0 U H := by
  obtain ⟨h1, h2, h3, h4, h5, h6, h7⟩ := h
  refine ⟨vx_Zq.moved hW.alike (vx_Zq.kept h1 hS.2.1), vx_Zq.moved hW.alike (vx_Zq.kept h2 hS.2.1), fun q hq => ?_, fun w hw => gSoft_warm (List.mem_filter.mp hw).2 hW (h4 w hw), fun q hq => (h5 q hq).moved hW.alike, fun C hC => (h6 C hC).moved hW.alike, fun q hq => gLit_warm hW hS (h7 q hq)⟩
  obtain ⟨a, ha⟩ := h3 q hq
  exact ⟨a, ha.warm hW⟩
/-- the objects' classes, the arrays' classes, where our cells begin, the arrays' class numbers, the launch -/
abbrev gEnv : Type := va_G × List (ClassId × FieldType) × Nat × (Nat → ClassId) × Launch
abbrev gCtx : Type := Program × Env × Room × State × MethodId × Array Value × List Frame × Method × Code × Nat × (State → Prop)
def gWd (Z : gEnv) (h : gH) (H : Heap) : Prop := ∀ (a : Nat) (x : va_E), h a = some x → va_at Z.1 vwCl (a, x) H ∧ Z.2.2.1 ≤ a
def gA (Z : gEnv) : Nat → Prop := fun q => Z.2.2.1 ≤ q
def gW (Z : gEnv) (Γ : gCtx) (H : Heap) (locs : List Loc) (k n : Nat) (g : JFrame) : Prop := W Γ.1 Z.2.2.2.2 Γ.2.1 Γ.2.2.1 Γ.2.2.2.1 Γ.2.2.2.2.1 Γ.2.2.2.2.2.1 Γ.2.2.2.2.2.2.1 Γ.2.2.2.2.2.2.2.1 Γ.2.2.2.2.2.2.2.2.1 H locs k n Γ.2.2.2.2.2.2.2.2.2.2 g
def GJ (Z : gEnv) (Γ : gCtx) (h : gH) (k n pc : Nat) (lv : List (Nat × Value)) (st : List Value) : Prop :=
  ∀ (H : Heap) (locs : List Loc) (ls : Array Slot), gWd Z h H → va_S (gA Z) Γ.2.2.2.1.heap H locs → lv_has ls Γ.2.2.2.2.2.2.2.2.2.1 lv → gW Z Γ H locs k n (F0 Γ.2.2.2.2.1 pc ls st)
/-- an exception of the class E in flight at pc -/
def GX (Z : gEnv) (Γ : gCtx) (h : gH) (k n pc : Nat) (lv : List (Nat × Value)) (rest : List Value) (E : String) : Prop :=
  ∀ (H : Heap) (locs : List Loc) (ls : Array Slot) (q : Nat) (ce : Cell), gWd Z h H → va_S (gA Z) Γ.2.2.2.1.heap H locs → lv_has ls Γ.2.2.2.2.2.2.2.2.2.1 lv → H[q]? = some ce → ce.vm = .none → Γ.2.2.2.1.vm.findClass E = some ce.cls →
    vx_W Γ.1 Z.2.2.2.2 Γ.2.1 Γ.2.2.1 Γ.2.2.2.1 Γ.2.2.2.2.1 Γ.2.2.2.2.2.1 Γ.2.2.2.2.2.2.1 Γ.2.2.2.2.2.2.2.1 Γ.2.2.2.2.2.2.2.2.1 H locs k n Γ.2.2.2.2.2.2.2.2.2.2 (F0 Γ.2.2.2.2.1 pc ls rest) q
/-- the facts of a method's frame -/
def gOK (Z : gEnv) (Γ : gCtx) (cc : ByteArray) (own : String) (nL : Nat) (ret : Option FieldType) : Prop :=
  Γ.1.tables.exec = Jvm.exec ∧ Γ.2.2.2.2.2.2.2.2.1.code = cc ∧ Γ.2.2.2.2.2.2.2.2.1.maxLocals = nL ∧ Γ.2.2.2.2.2.2.2.2.2.1 = nL ∧ Γ.2.2.2.1.vm.findClass own = some Γ.2.2.2.2.1.cls ∧
  (∀ w ∈ gT, w.before Γ.2.2.2.2.2.1 Γ.2.2.2.1 = true) ∧ Γ.2.2.2.2.2.2.2.1.locks = false ∧ Γ.2.2.2.2.2.2.2.1.sig.returnType = ret ∧ Z.2.2.2.2.stackTraces = false ∧ va_K Z.1 vwCl Z.2.1 Γ.2.2.2.1 ∧ gSt Z.2.2.1 Γ.2.2.2.1 Γ.2.2.2.1.heap ∧ Z.2.2.1 ≤ Γ.2.2.2.1.heap.size
variable {Z : gEnv} {Γ : gCtx} {cc : ByteArray} {own : String} {nL : Nat} {ret : Option FieldType} {h : gH} {k n pc : Nat} {lv : List (Nat × Value)} {st : List Value}
theorem gOK.exec (X : gOK Z Γ cc own nL ret) : Γ.1.tables.exec = Jvm.exec := X.1
theorem gOK.bytes (X : gOK Z Γ cc own nL ret) : Γ.2.2.2.2.2.2.2.2.1.code = cc := X.2.1
theorem gOK.maxl (X : gOK Z Γ cc own nL ret) : Γ.2.2.2.2.2.2.2.2.1.maxLocals = nL := X.2.2.1
theorem gOK.nl (X : gOK Z Γ cc own nL ret) : Γ.2.2.2.2.2.2.2.2.2.1 = nL := X.2.2.2.1
theorem gOK.ow (X : gOK Z Γ cc own nL ret) : Γ.2.2.2.1.vm.findClass own = some Γ.2.2.2.2.1.cls := X.2.2.2.2.1
theorem gOK.wd (X : gOK Z Γ cc own nL ret) {w : Cond} (hw : w ∈ gT) : w.before Γ.2.2.2.2.2.1 Γ.2.2.2.1 = true := X.2.2.2.2.2.1 w hw
theorem gOK.wds (X : gOK Z Γ cc own nL ret) : ∀ w ∈ gT, w.before Γ.2.2.2.2.2.1 Γ.2.2.2.1 = true := X.2.2.2.2.2.1
theorem gOK.locks (X : gOK Z Γ cc own nL ret) : Γ.2.2.2.2.2.2.2.1.locks = false := X.2.2.2.2.2.2.1
theorem gOK.rt (X : gOK Z Γ cc own nL ret) : Γ.2.2.2.2.2.2.2.1.sig.returnType = ret := X.2.2.2.2.2.2.2.1
theorem gOK.nst (X : gOK Z Γ cc own nL ret) : Z.2.2.2.2.stackTraces = false := X.2.2.2.2.2.2.2.2.1
theorem gOK.K (X : gOK Z Γ cc own nL ret) : va_K Z.1 vwCl Z.2.1 Γ.2.2.2.1 := X.2.2.2.2.2.2.2.2.2.1
theorem gOK.stt (X : gOK Z Γ cc own nL ret) : gSt Z.2.2.1 Γ.2.2.2.1 Γ.2.2.2.1.heap := X.2.2.2.2.2.2.2.2.2.2.1
theorem gOK.base (X : gOK Z Γ cc own nL ret) : Z.2.2.1 ≤ Γ.2.2.2.1.heap.size := X.2.2.2.2.2.2.2.2.2.2.2
theorem gWd.one {h : gH} {H : Heap} {a : Nat} {x : va_E} (hw : gWd Z h H) (ha : h a = some x) : va_P Z.1 vwCl [(a, x)] H := by
  intro i q hq
  rcases i with _ | i
  · cases hq
    exact (hw a x ha).1
  · cases hq
theorem gWd.oneD {h : gH} {H : Heap} {a : Nat} {x : va_E} (hw : gWd Z h H) (ha : h a = some x) : va_D (gA Z) [(a, x)] := by
  refine ⟨fun i j p q hi hj _ => ?_, fun i q hq => ?_⟩
  · rcases i with _ | i
    · rcases j with _ | j
      · rfl
      · cases hj
    · cases hi
  · rcases i with _ | i
    · cases hq
      exact (hw a x ha).2
    · cases hq
theorem gWd.lt {h : gH} {H : Heap} {a : Nat} {x : va_E} (hw : gWd Z h H) (ha : h a = some x) : a < H.size := (hw a x ha).1.lt
/-- a cell changed -/
theorem gWd.put {h : gH} {H H1 : Heap} {a : Nat} {x0 x : va_E} (hw : gWd Z h H) (ha : h a = some x0) (hx : va_at Z.1 vwCl (a, x) H1) (oq : ∀ q : Nat, q ≠ a → H1[q]? = H[q]?) : gWd Z (va_up h a (some x)) H1 := by
  intro b y hy
  by_cases hb : b = a
  · subst hb
    simp only [va_up, if_pos rfl] at hy
    cases hy
    exact ⟨hx, (hw b x0 ha).2⟩
  · simp only [va_up, if_neg hb] at hy
    exact ⟨(hw b y hy).1.kept (oq b hb), (hw b y hy).2⟩
/-- a cell more, at the heap's end -/
theorem gWd.push {h : gH} {H H1 : Heap} {x : va_E} (hw : gWd Z h H) (hz : Z.2.2.1 ≤ H.size) (hx : va_at Z.1 vwCl (H.size, x) H1) (oq : ∀ q : Nat, q < H.size → H1[q]? = H[q]?) : gWd Z (va_up h H.size (some x)) H1 := by
  intro b y hy
  by_cases hb : b = H.size
  · subst hb
    simp only [va_up, if_pos rfl] at hy
    cases hy
    exact ⟨hx, hz⟩
  · simp only [va_up, if_neg hb] at hy
    exact ⟨(hw b y hy).1.kept (oq b (hw.lt hy)), (hw b y hy).2⟩
theorem gWd.kept {h : gH} {H H1 : Heap} (hw : gWd Z h H) (oq : ∀ q : Nat, q < H.size → H1[q]? = H[q]?) : gWd Z h H1 := fun b y hy => ⟨(hw b y hy).1.kept (oq b (hw.lt hy)), (hw b y hy).2⟩
theorem gWd.sub {h h' : gH} {H : Heap} (hw : gWd Z h H) (hs : ∀ a x, h' a = some x → h a = some x) : gWd Z h' H := fun a x ha => hw a x (hs a x ha)
end GFRAME
