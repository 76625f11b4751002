/-! THE CLAIM OUT OF ONE WALK OF THE LAW'S BODY. Your part is whole_start (and what it stands on); all else here is the same for every law, but numbers. -/
def R_law : String := "CoasterlandLaw"
def lw_P (b : Addr) (xs : List Int32) (args : Array Value) (s : State) : Prop := args = #[.ref b] ∧ s.IntsAt b xs ∧ xs.length ≤ 260 ∧ (Jvm.Cond.and given_1 narrow_1).before args s = true
def lw_Q (_ : Array Value) (s : State) (o : Outcome) (t : State) : Prop := o = .returned (some (.int 1)) ∧ Framed s o t [] room_1.cells room_1.slots
def lw_Z (below : List Frame) (a : Array Value) (s : State) : State → Prop := fun t => ∃ o, t.status = .running ∧ Ended t below o ∧ lw_Q a s o t
/-- the law's own end, with 1 on the stack, nothing written that was there before, its room as the claim has it -/
theorem lw_ret {p : Program} {l : Launch} {e : Env} {s : State} {m : MethodId} {below : List Frame} {meth : Method} {c : Code} {b : Nat} (hx : p.tables.exec = Jvm.exec) (hb : c.code = code) (hr : meth.sig.returnType = ret) (hlocks : meth.locks = false) {pc : Nat} {H : Heap} {ls : Array Slot} (hdg : decode code pc = .ok (.ireturn, 1)) : W p l e room_1 s m #[Value.ref b] below meth c H [] room_1.cells room_1.slots (lw_Z below #[Value.ref b] s) (F0 m pc ls [.int 1]) := by
  intro T hT X
  obtain ⟨fs, hret, hrun, hended, hW, hframe⟩ := X.leave (v := some (.int 1)) (hlocks := hlocks) (fun h => by rw [hr] at h; cases h)
  have hmeth' : T.vm.method? m = some meth := X.method'
  refine ⟨T.setFrames fs, ?_, .returned (some (.int 1)), hrun, hended, rfl, ⟨_, rfl⟩, hW, hframe⟩
  jvm_step X.here [X.here.top, hx, hb, hdg, hmeth', hr, ret, narrow_b1]
  (try refine ⟨rfl, ?_⟩); (try refine ⟨rfl, ?_⟩)
  first | (intro acts; rw [hret _ acts rfl rfl rfl]) | rw [hret _ _ rfl rfl rfl]
  exact Steps.refl _
/-- what holds at the law's entry: the machine, the code, the tables' words (any of lw_tbl by 'hts w (by decide +kernel)'), the script of L ints xs at the cell b, what the Statement gives of the start (any of its parts by flat_of_before) -/
def lw_At (p : Program) (s : State) (m : MethodId) (meth : Method) (c : Code) (b L : Nat) (xs : Nat → Int32) : Prop :=
  p.tables.exec = Jvm.exec ∧ c.code = code ∧ meth.sig.returnType = ret ∧ c.maxLocals = 23 ∧ s.vm.findClass R_law = some m.cls ∧ (∀ w ∈ lw_tbl, w.before #[Value.ref b] s = true) ∧ va_X b L xs s s.heap ∧ b < s.heap.size ∧ meth.locks = false ∧ (Jvm.Cond.and given_1 narrow_1).before #[Value.ref b] s = true
section GSTART
variable {s : State} {b : Nat}
theorem st_all {args : Array Value} (hgv : (Jvm.Cond.and given_1 narrow_1).before args s = true) : ∀ c ∈ flatC (Jvm.Cond.and given_1 narrow_1), c.before args s = true := flat_of_before _ hgv
set_option maxRecDepth 100000 in
theorem st_strs : ∀ q ∈ gStrs, Cond.exactly (.string q.1 q.2.1) "java/lang/String" ∈ flatC (Jvm.Cond.and given_1 narrow_1) ∧ Cond.stringRef q.1 q.2.1 q.2.2 ∈ tables_1 := by decide +kernel
set_option maxRecDepth 100000 in
theorem st_ncs : ∀ q ∈ gNcs, Cond.not (.castable q.1 q.2) ∈ flatC (Jvm.Cond.and given_1 narrow_1) := by decide +kernel
set_option maxRecDepth 100000 in
theorem st_ars : ∀ C ∈ gArs, Cond.arrayOver (.object C) ∈ tables_1 := by decide +kernel
/-- the words on a text of the law's -/
def litW (k : Nat) (bs : List Int32) : List Cond := [Cond.exactly (.string "CoasterlandLaw" k) "java/lang/String", Cond.eq (.field (.string "CoasterlandLaw" k) "java/lang/String" "coder" "B") (.int 0), Cond.arrayOf (.field (.string "CoasterlandLaw" k) "java/lang/String" "value" "[B") .byte, Cond.eq (.length (.field (.string "CoasterlandLaw" k) "java/lang/String" "value" "[B")) (.int (Int32.ofNat bs.length))] ++ (List.range bs.length).map (fun j => Cond.eq (.elem (.field (.string "CoasterlandLaw" k) "java/lang/String" "value" "[B") (.int (Int32.ofNat j))) (.int (bs.getD j 0)))
set_option maxRecDepth 100000 in
theorem st_lit1 : (∀ w ∈ litW 216 [108, 115, 114], w ∈ flatC (Jvm.Cond.and given_1 narrow_1)) ∧ Cond.stringRef "CoasterlandLaw" 216 "lsr" ∈ tables_1 := by decide +kernel
set_option maxRecDepth 100000 in
theorem st_lit2 : (∀ w ∈ litW 223 [116, 116, 116, 97, 110], w ∈ flatC (Jvm.Cond.and given_1 narrow_1)) ∧ Cond.stringRef "CoasterlandLaw" 223 "tttan" ∈ tables_1 := by decide +kernel
set_option maxRecDepth 100000 in
theorem st_tab : (Cond.laysStatic Bundle.tN "UNASSIGNED_STACK" Bundle.steD ∈ tables_1 ∧ Cond.laysStatic Bundle.tN "SUPPRESSED_SENTINEL" Bundle.listD ∈ tables_1 ∧ Cond.laysStatic "java/lang/String" "COMPACT_STRINGS" "Z" ∈ tables_1 ∧ Cond.laysStatic "jdk/internal/util/Preconditions" "SIOOBE_FORMATTER" "Ljava/util/function/BiFunction;" ∈ tables_1) ∧ Cond.initialized Bundle.tN ∈ tables_1 ∧ Cond.initialized "java/lang/String" ∈ tables_1 ∧ Cond.initialized "jdk/internal/util/Preconditions" ∈ tables_1 := by decide +kernel
set_option maxRecDepth 100000 in
theorem st_nar : Cond.isRef (.static Bundle.tN "UNASSIGNED_STACK" Bundle.steD) ∈ flatC (Jvm.Cond.and given_1 narrow_1) ∧ Cond.isRef (.static Bundle.tN "SUPPRESSED_SENTINEL" Bundle.listD) ∈ flatC (Jvm.Cond.and given_1 narrow_1) ∧ Cond.eq (.static "java/lang/String" "COMPACT_STRINGS" "Z") (.int 1) ∈ flatC (Jvm.Cond.and given_1 narrow_1) ∧ Cond.isRef (.static "jdk/internal/util/Preconditions" "SIOOBE_FORMATTER" "Ljava/util/function/BiFunction;") ∈ flatC (Jvm.Cond.and given_1 narrow_1) := by decide +kernel
set_option maxRecDepth 100000 in
theorem st_cls : (∀ q ∈ vwCl, ∀ w ∈ u_ws q.1 q.2.1 q.2.2, w ∈ tables_1) ∧ ∀ q ∈ vwCl, ∃ n ∈ List.range 16, Cond.instantiable q.1 n ∈ tables_1 := by decide +kernel
theorem tb_in {w : Cond} (h : w ∈ tables_1) : w ∈ lw_tbl := List.mem_append_right _ h
theorem st_known {args : Array Value} (hts : ∀ w ∈ lw_tbl, w.before args s = true) : ∃ (dC : Nat → ClassId) (dI : Nat → Nat → Nat), ∀ (k : Nat) (q : vw_C), vwCl[k]? = some q → u_Kn s q.1 q.2.1 q.2.2 (dC k) (dI k) := by
  have h1 : ∀ k : Nat, ∃ x : ClassId × (Nat → Nat), ∀ q, vwCl[k]? = some q → u_Kn s q.1 q.2.1 q.2.2 x.1 x.2 := by
    intro k
    cases hk : vwCl[k]? with
    | none => exact ⟨(0, fun _ => 0), fun q hq => by cases hq⟩
    | some q =>
      have hq := List.mem_of_getElem? hk
      obtain ⟨n, -, hn⟩ := st_cls.2 q hq
      obtain ⟨cC, iS, hK⟩ := u_known (C := q.1) (T := q.2.1) (N := q.2.2) (n := n) hts (fun w hw => tb_in (st_cls.1 q hq w hw)) (hts _ (tb_in hn))
      exact ⟨(cC, iS), fun q2 hq2 => by cases hq2; exact hK⟩
  obtain ⟨f, hf⟩ := Classical.axiomOfChoice h1
  exact ⟨fun k => (f k).1, fun k => (f k).2, hf⟩
theorem st_arrO {args : Array Value} (hts : ∀ w ∈ lw_tbl, w.before args s = true) {C : String} (hC : C ∈ gArs) : ∃ cA : ClassId, ArrOfT s cA (.object C) ∧ va_RA s cA (.object C) := by
  obtain ⟨comp, cA, kA, h1, -, h3, h4, h5⟩ := Cond.arrayOver_spec (hts _ (tb_in (st_ars C hC)))
  exact ⟨cA, fun n z => ⟨fun k h => (by cases h), kA, h3, comp, h4⟩, kA, comp, h3, h4, h1, h5⟩
theorem st_arrI {args : Array Value} (hts : ∀ w ∈ lw_tbl, w.before args s = true) : ∃ cA : ClassId, ArrOfT s cA .int ∧ va_RA s cA .int := by
  have hin : Cond.arrayClass .int ∈ lw_tbl := (List.mem_filter.mp la_int).1
  obtain ⟨cA, kA, comp, h1, h3, h4⟩ := Cond.arrayClass_spec (hts _ hin)
  exact ⟨cA, fun n z => ⟨fun k h => (by cases h), kA, h3, comp, h4⟩, h1⟩
theorem st_lit {args : Array Value} {A : Nat → Prop} (hall : ∀ c ∈ flatC (Jvm.Cond.and given_1 narrow_1), c.before args s = true) (hts : ∀ w ∈ lw_tbl, w.before args s = true) (hA : ∀ a : Nat, a < s.heap.size → ¬ A a) {k : Nat} {tx : String} {bs : List Int32} (hb : bs.length < 2 ^ 31) (h : (∀ w ∈ litW k bs, w ∈ flatC (Jvm.Cond.and given_1 narrow_1)) ∧ Cond.stringRef "CoasterlandLaw" k tx ∈ tables_1) :
    ∃ a v, vk_R "CoasterlandLaw" k tx a s ∧ va_O "java/lang/String" a A s s.heap ∧ va_OF "java/lang/String" "coder" "B" (.int 0) a A s s.heap ∧ va_OF "java/lang/String" "value" "[B" (.ref v) a A s s.heap ∧ va_T .byte v bs.length (fun j => .int (bs.getD j 0)) A s s.heap := by
  have hl : ∀ w ∈ litW k bs, w.before args s = true := fun w hw => hall w (h.1 w hw)
  have hex : (Cond.exactly (.string "CoasterlandLaw" k) "java/lang/String").before args s = true := hl _ (List.mem_append_left _ (by simp))
  have hco : (Cond.eq (.field (.string "CoasterlandLaw" k) "java/lang/String" "coder" "B") (.int 0)).before args s = true := hl _ (List.mem_append_left _ (by simp))
  have har : (Cond.arrayOf (.field (.string "CoasterlandLaw" k) "java/lang/String" "value" "[B") .byte).before args s = true := hl _ (List.mem_append_left _ (by simp))
  have hle : (Cond.eq (.length (.field (.string "CoasterlandLaw" k) "java/lang/String" "value" "[B")) (.int (Int32.ofNat bs.length))).before args s = true := hl _ (List.mem_append_left _ (by simp))
  have hel : ∀ j, j < bs.length → (Cond.eq (.elem (.field (.string "CoasterlandLaw" k) "java/lang/String" "value" "[B") (.int (Int32.ofNat j))) (.int (bs.getD j 0))).before args s = true := fun j hj => hl _ (List.mem_append_right _ (List.mem_map.mpr ⟨j, List.mem_range.mpr hj, rfl⟩))
  obtain ⟨a, c, cA, kA, q1, q2, q3, q4, q5, q6, -⟩ := Cond.exactly_spec (args := args) (first := s) (o := none) (s := s) (idx := []) (t := .string "CoasterlandLaw" k) (cls := "java/lang/String") hex
  obtain ⟨t, ht, hT⟩ := va_Tof (f := fun j => .int (bs.getD j 0)) (A := A) hb har (va_eqt hle) (fun j hj => va_eqt (hel j hj)) hA
  exact ⟨a, t, vk_R.of (hts _ (tb_in h.2)) q1, ⟨cA, q3, q5, by rw [q6]; exact q2, hA a (Array.getElem?_eq_some_iff.mp q3).1⟩, vk_OFof q1 (va_eqt hco) hA, vk_OFof q1 ht hA, hT⟩
end GSTART
set_option maxHeartbeats 4000000 in
/-- from the entry, for every script of at most 260 ints, the law comes to its end with true -/
theorem whole_start {p : Program} {e : Env} {s : State} {m : MethodId} {below : List Frame} {meth : Method} {c : Code} (l : Launch) (hflags : l.flags = flags0) {b L : Nat} {xs : Nat → Int32} (hL : L ≤ 260) (C0 : lw_At p s m meth c b L xs) : W p l e room_1 s m #[Value.ref b] below meth c s.heap [] 0 0 (lw_Z below #[Value.ref b] s) (entryFrame m ([Value.ref b] : List Value).toArray 23) := by
  obtain ⟨hx, hb, hr, hml, hown, hts, hX, hbl, hlocks, hgv⟩ := id C0
  have hall := st_all hgv
  obtain ⟨dC, dI, hKc⟩ := st_known hts
  obtain ⟨c0, ha0⟩ := st_arrO hts (C := "Coasterland$Ride") (by simp [gArs])
  obtain ⟨c1, ha1⟩ := st_arrI hts
  obtain ⟨c2, ha2⟩ := st_arrO hts (C := "Coasterland$Guest") (by simp [gArs])
  obtain ⟨c3, ha3⟩ := st_arrO hts (C := "Coasterland$Block") (by simp [gArs])
  obtain ⟨c4, ha4⟩ := st_arrO hts (C := "Coasterland$Train") (by simp [gArs])
  have hA : ∀ a : Nat, a < s.heap.size → ¬ (fun q : Nat => s.heap.size ≤ q) a := fun a ha => Nat.not_le.mpr ha
  have hnt : l.stackTraces = false := by
    unfold Launch.stackTraces
    rw [hflags]
    decide
  obtain ⟨a1, v1, r1, o1, p1, w1, t1⟩ := st_lit hall hts hA (by decide) st_lit1
  obtain ⟨a2, v2, r2, o2, p2, w2, t2⟩ := st_lit hall hts hA (by decide) st_lit2
  have hcs : va_Z "java/lang/String" "COMPACT_STRINGS" "Z" (.int 1) (fun q : Nat => s.heap.size ≤ q) s s.heap := va_Zof (hts _ (tb_in st_tab.1.2.2.1)) (hts _ (tb_in st_tab.2.2.1)) (va_eqt (hall _ st_nar.2.2.1)) hA
  have hsi : va_Zq "jdk/internal/util/Preconditions" "SIOOBE_FORMATTER" "Ljava/util/function/BiFunction;" (fun q : Nat => s.heap.size ≤ q) s s.heap := va_Zqof (hts _ (tb_in st_tab.1.2.2.2)) (hts _ (tb_in st_tab.2.2.2)) (hall _ st_nar.2.2.2) hA
  have hst : gSt s.heap.size s s.heap := by
    refine ⟨vx_Zqof (hts _ (tb_in st_tab.1.1)) (hts _ (tb_in st_tab.2.1)) (hall _ st_nar.1) hA, vx_Zqof (hts _ (tb_in st_tab.1.2.1)) (hts _ (tb_in st_tab.2.1)) (hall _ st_nar.2.1) hA, fun q hq => ?_, fun w hw => va_Nw.of (gB_onT hw) (hts _ (tb_in (List.mem_filter.mp hw).1)), fun q hq => va_Nc.of (hall _ (st_ncs q hq)), fun C hC => va_AO.of (hts _ (tb_in (st_ars C hC))), fun q hq => ?_⟩
    · obtain ⟨g1, g2⟩ := st_strs q hq
      obtain ⟨a, cc, cA, kA, q1, -⟩ := Cond.exactly_spec (args := #[Value.ref b]) (first := s) (o := none) (s := s) (idx := []) (t := .string q.1 q.2.1) (cls := "java/lang/String") (hall _ g1)
      exact ⟨a, vk_R.of (hts _ (tb_in g2)) q1⟩
    · simp only [gLits, List.mem_cons, List.not_mem_nil, or_false] at hq
      rcases hq with rfl | rfl
      · exact ⟨a1, v1, r1, o1, p1, w1, t1⟩
      · exact ⟨a2, v2, r2, o2, p2, w2, t2⟩
  have hl := lv_entry ([.ref b]) (n := 23) (Nat.le_of_ble_eq_true rfl)
  rw [lg_entry_eq]
  let cA : Nat → ClassId := fun k => if k = 0 then c0 else if k = 1 then c1 else if k = 2 then c2 else if k = 3 then c3 else c4
  let Z : gEnv := ((dC, dI), [(c0, .object "Coasterland$Ride"), (c1, .int), (c2, .object "Coasterland$Guest"), (c3, .object "Coasterland$Block"), (c4, .object "Coasterland$Train")], s.heap.size, cA, l)
  let Γ : gCtx := (p, e, room_1, s, m, #[Value.ref b], below, meth, c, 23, lw_Z below #[Value.ref b] s)
  have G : gG Z := ⟨rfl, hnt⟩
  have hK : va_K (dC, dI) vwCl [(c0, .object "Coasterland$Ride"), (c1, .int), (c2, .object "Coasterland$Guest"), (c3, .object "Coasterland$Block"), (c4, .object "Coasterland$Train")] s := by
    refine ⟨hKc, fun k q hq => ?_⟩
    match k, hq with
    | 0, hq => cases hq; exact ha0
    | 1, hq => cases hq; exact ha1
    | 2, hq => cases hq; exact ha2
    | 3, hq => cases hq; exact ha3
    | 4, hq => cases hq; exact ha4
    | k + 5, hq => simp at hq
  have X : gOK Z Γ cL_law RL 23 (some .boolean) := ⟨hx, hb, hml, rfl, hown, fun w hw => hts w (List.mem_filter.mp hw).1, hlocks, hr, hnt, hK, hst, Nat.le_refl _⟩
  have hArg : gArg Z b L xs s s.heap := by
    obtain ⟨scr, g1, g2, g3, g4, g5⟩ := hX
    exact ⟨scr, g1, g2, g3, Nat.le_of_eq g4.symm, by rw [g4], g5, hA b hbl⟩
  have J : GJ Z Γ (fun _ => none) 0 0 0 [(0, .ref b)] [] := law_start G X rfl hArg (by omega) r1 ⟨o1, p1, w1, t1, hcs, hsi⟩ r2 ⟨o2, p2, w2, t2, hcs, hsi⟩ (fun kk nn h lv h1 h2 H locs ls hw hS hl => va_forget (fun q hq => hS.2.2 q hq) (W.widen h1 h2 (lw_ret hx hb hr hlocks dL_law_950)))
  exact J s.heap [] _ (fun a x hax => by cases hax) va_S.rf hl
